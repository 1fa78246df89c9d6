theorem zPL_up {G : zG} {sh sh1 : zH} {N N1 a cap : Nat} (h : zPL G sh N a cap) (hN : N ≤ N1) (k : ∀ b, a ≤ b → b < a + 2 → sh1 b = sh b) : zPL G sh1 N1 a cap := ⟨h.1, Nat.lt_of_lt_of_le h.2.1 hN, h.2.2.1, by rw [k _ (by omega) (by omega)]; exact h.2.2.2.1, by rw [k _ (by omega) (by omega)]; exact h.2.2.2.2⟩
theorem zSP_up {G : zG} {sh sh1 : zH} {N N1 a : Nat} (h : zSP G sh N a) (hN : N ≤ N1) (k : ∀ b, a ≤ b → b < a + 2 → sh1 b = sh b) : zSP G sh1 N1 a := ⟨h.1, Nat.lt_of_lt_of_le h.2.1 hN, by rw [k _ (by omega) (by omega)]; exact h.2.2.1, by rw [k _ (by omega) (by omega)]; exact h.2.2.2⟩
theorem zFI_up {G : zG} {sh sh1 : zH} {N N1 a : Nat} (h : zFI G sh N a) (hN : N ≤ N1) (k : ∀ b, a ≤ b → b < a + 3 → sh1 b = sh b) : zFI G sh1 N1 a := ⟨h.1, Nat.lt_of_lt_of_le h.2.1 hN, by rw [k _ (by omega) (by omega)]; exact h.2.2.1, by rw [k _ (by omega) (by omega)]; exact h.2.2.2.1, by rw [k _ (by omega) (by omega)]; exact h.2.2.2.2⟩
theorem zSE_up {G : zG} {sh sh1 : zH} {N N1 a : Nat} (h : zSE G sh N a) (hN : N ≤ N1) (k : ∀ b, a ≤ b → b < a + 4 → sh1 b = sh b) : zSE G sh1 N1 a := ⟨h.1, Nat.lt_of_lt_of_le h.2.1 hN, by rw [k _ (by omega) (by omega)]; exact h.2.2.1, by rw [k _ (by omega) (by omega)]; exact h.2.2.2.1, by rw [k _ (by omega) (by omega)]; exact h.2.2.2.2.1, by rw [k _ (by omega) (by omega)]; exact h.2.2.2.2.2⟩
theorem zRC_up {G : zG} {sh sh1 : zH} {N N1 q : Nat} (h : zRC G sh N q) (hN : N ≤ N1) (k : ∀ b, q ≤ b → b < q + 13 → sh1 b = sh b) : zRC G sh1 N1 q := ⟨h.1, Nat.lt_of_lt_of_le h.2.1 hN, by rw [k _ (by omega) (by omega)]; exact h.2.2.1, zPL_up h.2.2.2.1 hN (fun b h1 h2 => k b (by omega) (by omega)), zSP_up h.2.2.2.2.1 hN (fun b h1 h2 => k b (by omega) (by omega)), zFI_up h.2.2.2.2.2.1 hN (fun b h1 h2 => k b (by omega) (by omega)), zPL_up h.2.2.2.2.2.2.1 hN (fun b h1 h2 => k b (by omega) (by omega)), zFI_up h.2.2.2.2.2.2.2 hN (fun b h1 h2 => k b (by omega) (by omega))⟩
theorem zTR_up {G : zG} {sh sh1 : zH} {N N1 t : Nat} (h : zTR G sh N t) (hN : N ≤ N1) (k : ∀ b, t ≤ b → b < t + 28 → sh1 b = sh b) : zTR G sh1 N1 t := by
  obtain ⟨h1, h2, h3, h4, h5, h6, h7, h8, h9⟩ := h
  exact ⟨h1, by omega, by rw [k _ (by omega) (by omega)]; exact h3, zSE_up h4 hN (fun b g1 g2 => k b (by omega) (by omega)), by rw [k _ (by omega) (by omega)]; exact h5, zRC_up h6 hN (fun b g1 g2 => k b (by omega) (by omega)), by rw [k _ (by omega) (by omega)]; exact h7, zSP_up h8 hN (fun b g1 g2 => k b (by omega) (by omega)), fun r hr => zPL_up (h9 r hr) hN (fun b g1 g2 => k b (by omega) (by omega))⟩
/-- the first state -/
def cz : Nat → Nat := fun i => if i = 3 then 2 else if i = 6 then 1 else if 11 ≤ i ∧ i < 17 then fwl.getD (i - 10) 0 else 0
def Mz : zMS := (cz, (fun _ => []), (fun _ => some 0), (fun _ => some 0))
def M0 : zMS := layM Mz 4 1
def h0 : zHs := (0, (fun _ => M0), (fun _ => M0), (fun _ => false))
theorem max0 {n : Nat} (h : n < 2 ^ 31) : (if nI n < nI 0 then nI 0 else nI n) = nI n := if_neg (fun z => nI_pos h (by rw [nI_0] at z; exact z))
theorem pt0_X0 : ∀ j, j < 3 → defaultValue (tyX0 j) = zl (pts [1, 1, 0] j) 0 := fun j hj => by
  rcases (show j = 0 ∨ j = 1 ∨ j = 2 by omega) with rfl | rfl | rfl <;> rfl
theorem pt0_X1 : ∀ j, j < 2 → defaultValue (tyX1 j) = zl (pts [1, 0] j) 0 := fun j hj => by
  rcases (show j = 0 ∨ j = 1 by omega) with rfl | rfl <;> rfl
theorem pt0_X2 : ∀ j, j < 8 → defaultValue (tyX2 j) = zl (pts [1, 1, 1, 1, 1, 0, 0, 0] j) 0 := fun j hj => by
  rcases (show j = 0 ∨ j = 1 ∨ j = 2 ∨ j = 3 ∨ j = 4 ∨ j = 5 ∨ j = 6 ∨ j = 7 by omega) with rfl | rfl | rfl | rfl | rfl | rfl | rfl | rfl <;> rfl
theorem pt0_X3 : ∀ j, j < 9 → defaultValue (tyX3 j) = zl (pts [1, 1, 1, 0, 0, 0, 0, 0, 0] j) 0 := fun j hj => by
  rcases (show j = 0 ∨ j = 1 ∨ j = 2 ∨ j = 3 ∨ j = 4 ∨ j = 5 ∨ j = 6 ∨ j = 7 ∨ j = 8 by omega) with rfl | rfl | rfl | rfl | rfl | rfl | rfl | rfl | rfl <;> rfl
theorem pt0_X4 : ∀ j, j < 2 → defaultValue (tyX4 j) = zl (pts [1, 0] j) 0 := fun j hj => by
  rcases (show j = 0 ∨ j = 1 by omega) with rfl | rfl <;> rfl
theorem pt0_X5 : ∀ j, j < 8 → defaultValue (tyX5 j) = zl (pts [1, 1, 1, 0, 0, 0, 1, 1] j) 0 := fun j hj => by
  rcases (show j = 0 ∨ j = 1 ∨ j = 2 ∨ j = 3 ∨ j = 4 ∨ j = 5 ∨ j = 6 ∨ j = 7 by omega) with rfl | rfl | rfl | rfl | rfl | rfl | rfl | rfl <;> rfl
theorem pt0_X6 : ∀ j, j < 6 → defaultValue (tyX6 j) = zl (pts [1, 1, 1, 1, 1, 0] j) 0 := fun j hj => by
  rcases (show j = 0 ∨ j = 1 ∨ j = 2 ∨ j = 3 ∨ j = 4 ∨ j = 5 by omega) with rfl | rfl | rfl | rfl | rfl | rfl <;> rfl
theorem c0_l : ∀ i, i < 4 → M0.1 (7 + i) = 0 := by decide
theorem c0_w : ∀ d, d < 6 → M0.1 (11 + d) = fwl.getD (d + 1) 0 := by decide
set_option maxRecDepth 100000 in
set_option maxHeartbeats 4000000 in
theorem m_X6_copyRowF (l : Launch) (G : zG) (sh : zH) (v : zV) (N : Nat) {a : Nat} (hd1 : G.2.2.1 ≤ a ∧ a < N) (hs1 : sh a = (8, 7, fun _ => 0)) : zMZ l G yX6_copyRow cX6_copyRow 2 none 1 0 0 [.ref G.2.2.2, .ref a] sh v N (fun r sh1 v1 N1 => r = none ∧ sh = sh1 ∧ N = N1 ∧ v1 = zcF v a) := by
  refine zMZ.of (by decide) rfl (Nat.le_of_ble_eq_true rfl) ?_
  intro p e s m args below meth c C hZ
  refine r_aload_n C (pc := 0) rfl rfl dX6_copyRow_0 ?_
  refine r_iconst C (pc := 1) (x := (nI 0)) (by decide) dX6_copyRow_1 ?_
  refine r_aload_n C (pc := 2) rfl rfl dX6_copyRow_2 ?_
  refine r_iconst C (pc := 3) (x := (nI 0)) (by decide) dX6_copyRow_3 ?_
  refine r_aload_n C (pc := 4) rfl rfl dX6_copyRow_4 ?_
  refine r_alenT C hZ (pc := 5) dX6_copyRow_5 ?_
  refine r_aload_n C (pc := 6) rfl rfl dX6_copyRow_6 ?_
  refine r_alen C (pc := 7) (x := nI 7) (Or.inl hd1) hs1 (by decide) rfl rfl dX6_copyRow_7 ?_
  refine r_min C (pc := 8) (z := (nI 7)) q_49 (by rw [nI_min (by omega) (by omega), Nat.min_self]) (Nat.le_of_ble_eq_true rfl) ⟨Nat.le_of_ble_eq_true rfl, Nat.le_of_ble_eq_true rfl⟩ ⟨Nat.le_of_ble_eq_true rfl, Nat.le_of_ble_eq_true rfl⟩ dX6_copyRow_8 ?_
  refine r_copyT C hZ (pc := 11) q_52 hd1 hs1 ⟨Nat.le_of_ble_eq_true rfl, Nat.le_of_ble_eq_true rfl⟩ dX6_copyRow_11 ?_
  exact r_vret C (pc := 14) rfl dX6_copyRow_14 ⟨rfl, rfl, rfl, rfl⟩
set_option maxRecDepth 100000 in
set_option maxHeartbeats 4000000 in
theorem m_X1_init (l : Launch) (G : zG) (sh : zH) (v : zV) {a room : Nat} (ha : G.2.2.1 ≤ a) (hs : sh a = (1, 2, pts [1, 0])) (hr : room ≤ 20) : zM l G yX1_init cX1_init 2 none 1 1 room [.ref a, .int (nI room)] sh v (a + 1) (fun r sh1 v1 N1 => r = none ∧ N1 = a + 2 ∧ (∀ i, i < a → sh1 i = sh i) ∧ (∀ i, i < a → v1 i = v i) ∧ zPL G sh1 N1 a room ∧ zpl v1 a room []) := by
  refine zM.of (by decide) rfl (Nat.le_of_ble_eq_true rfl) ?_
  intro p e s m args below meth c C
  have lowS_0 : ∀ b, b < a → sh b = sh b := fun _ _ => rfl
  have lowV_0 : ∀ b, b < a → v b = v b := fun _ _ => rfl
  have hs0_0 := hs
  refine r_aload_n C (pc := 0) rfl rfl dX1_init_0 ?_
  refine r_objInit C (pc := 1) q_115 q_obji q_objc (Nat.le_of_ble_eq_true rfl) ⟨Nat.le_of_ble_eq_true rfl, Nat.le_of_ble_eq_true rfl⟩ dX1_init_1 ?_
  refine r_aload_n C (pc := 4) rfl rfl dX1_init_4 ?_
  refine r_iconst C (pc := 5) (x := (nI 0)) (by decide) dX1_init_5 ?_
  refine r_put C (pc := 6) (ci := 1) (k := 1) rfl (by decide) inX1 tyX1_ok nmX1 (by decide) rfl pfI rfl q_120 ⟨by omega, by omega⟩ hs0_0 dX1_init_6 ?_
  refine VV.gn (fun w1 ew1 => ?_)
  have kv1 : ∀ b, b ≠ a → w1 b = v b := fun b hb => by rw [ew1, z2_addr hb]
  have lowS_1 : ∀ b, b < a → sh b = sh b := lowS_0
  have lowV_1 : ∀ b, b < a → w1 b = v b := fun b hb => (kv1 b (by omega)).trans (lowV_0 b hb)
  have fld1_1 : w1 a 1 = (nI 0) := by rw [ew1, z2_self]
  refine r_aload_n C (pc := 9) rfl rfl dX1_init_9 ?_
  refine r_iload_n C (pc := 10) rfl rfl dX1_init_10 ?_
  refine r_iconst C (pc := 11) (x := (nI 0)) (by decide) dX1_init_11 ?_
  refine r_max C (pc := 12) (z := (nI room)) q_116 (max0 (by omega)) (Nat.le_of_ble_eq_true rfl) ⟨Nat.le_of_ble_eq_true rfl, Nat.le_of_ble_eq_true rfl⟩ ⟨Nat.le_of_ble_eq_true rfl, Nat.le_of_ble_eq_true rfl⟩ dX1_init_12 ?_
  refine r_newi C (pc := 15) (n := room) q_101 (by omega) (Nat.le_of_ble_eq_true rfl) (by show 0 + room ≤ room; omega) dX1_init_15 ?_
  refine VV.gc (k := 1) (n := room) rfl (Nat.zero_add _) ?_
  refine VV.gN (N1 := a + 2) rfl ?_
  refine VV.gs (fun s2 es2 => ?_)
  refine VV.gn (fun w2 ew2 => ?_)
  have ks2 : ∀ b, b ≠ a + 1 → s2 b = sh b := fun b hb => by rw [es2, s2_ne hb]
  have kv2 : ∀ b, b ≠ a + 1 → w2 b = w1 b := fun b hb => by rw [ew2, z0_ne hb]
  have hs0_2 : s2 a = (1, 2, pts [1, 0]) := (ks2 _ (by omega)).trans hs0_0
  have lowS_2 : ∀ b, b < a → s2 b = sh b := fun b hb => (ks2 b (by omega)).trans (lowS_1 b hb)
  have lowV_2 : ∀ b, b < a → w2 b = v b := fun b hb => (kv2 b (by omega)).trans (lowV_1 b hb)
  have fld1_2 : w2 a 1 = (nI 0) := (congrFun (kv2 _ (by omega)) _).trans fld1_1
  have hs1_2 : s2 (a + 1) = (8, room, fun _ => 0) := by rw [es2, s2_self]
  have row1_2 : w2 (a + 1) = fun _ => 0 := by rw [ew2, z0_self]
  refine r_putF C (pc := 17) (ci := 1) (k := 0) (L2 := [a + 1 + 2, 0]) rfl (by decide) inX1 tyX1_ok nmX1 (by decide) rfl rfl rfl rfl rfl q_119 ⟨by omega, by omega⟩ hs0_2 (Nat.le_of_ble_eq_true rfl) rfl dX1_init_17 ?_
  refine VV.gs (fun s3 es3 => ?_)
  have ks3 : ∀ b, b ≠ a → s3 b = s2 b := fun b hb => by rw [es3, s2_ne hb]
  have hs1_3 : s3 (a + 1) = (8, room, fun _ => 0) := (ks3 _ (by omega)).trans hs1_2
  have lowS_3 : ∀ b, b < a → s3 b = sh b := fun b hb => (ks3 b (by omega)).trans (lowS_2 b hb)
  have lowV_3 : ∀ b, b < a → w2 b = v b := lowV_2
  have fld1_3 : w2 a 1 = (nI 0) := fld1_2
  have row1_3 : w2 (a + 1) = fun _ => 0 := row1_2
  have hs0_3 : s3 a = (1, 2, pts [a + 1 + 2, 0]) := by rw [es3, s2_self]
  exact r_vret C (pc := 20) rfl dX1_init_20 ⟨rfl, rfl, lowS_3, lowV_3, ⟨ha, by omega, hr, hs0_3, hs1_3⟩, ⟨fld1_3, Nat.zero_le _, fun k hk => absurd hk (Nat.not_lt_zero k)⟩⟩
set_option maxRecDepth 100000 in
set_option maxHeartbeats 4000000 in
theorem m_X4_init (l : Launch) (G : zG) (sh : zH) (v : zV) {a : Nat} (ha : G.2.2.1 ≤ a) (hs : sh a = (4, 2, pts [1, 0])) : zM l G yX4_init cX4_init 1 none 1 1 12 [.ref a] sh v (a + 1) (fun r sh1 v1 N1 => r = none ∧ N1 = a + 2 ∧ (∀ i, i < a → sh1 i = sh i) ∧ (∀ i, i < a → v1 i = v i) ∧ zSP G sh1 N1 a ∧ zsp v1 a (fun _ => 0) 0) := by
  refine zM.of (by decide) rfl (Nat.le_of_ble_eq_true rfl) ?_
  intro p e s m args below meth c C
  have lowS_0 : ∀ b, b < a → sh b = sh b := fun _ _ => rfl
  have lowV_0 : ∀ b, b < a → v b = v b := fun _ _ => rfl
  have hs0_0 := hs
  refine r_aload_n C (pc := 0) rfl rfl dX4_init_0 ?_
  refine r_objInit C (pc := 1) q_134 q_obji q_objc (Nat.le_of_ble_eq_true rfl) ⟨Nat.le_of_ble_eq_true rfl, Nat.le_of_ble_eq_true rfl⟩ dX4_init_1 ?_
  refine r_aload_n C (pc := 4) rfl rfl dX4_init_4 ?_
  refine r_bipush C (pc := 5) (x := (nI 12)) (by decide) dX4_init_5 ?_
  refine r_newi C (pc := 7) (n := 12) q_101 (by decide) (Nat.le_of_ble_eq_true rfl) (Nat.le_of_ble_eq_true rfl) dX4_init_7 ?_
  refine VV.gc (k := 1) (n := 12) rfl rfl ?_
  refine VV.gN (N1 := a + 2) rfl ?_
  refine VV.gs (fun s1 es1 => ?_)
  refine VV.gn (fun w1 ew1 => ?_)
  have ks1 : ∀ b, b ≠ a + 1 → s1 b = sh b := fun b hb => by rw [es1, s2_ne hb]
  have kv1 : ∀ b, b ≠ a + 1 → w1 b = v b := fun b hb => by rw [ew1, z0_ne hb]
  have hs0_1 : s1 a = (4, 2, pts [1, 0]) := (ks1 _ (by omega)).trans hs0_0
  have lowS_1 : ∀ b, b < a → s1 b = sh b := fun b hb => (ks1 b (by omega)).trans (lowS_0 b hb)
  have lowV_1 : ∀ b, b < a → w1 b = v b := fun b hb => (kv1 b (by omega)).trans (lowV_0 b hb)
  have hs1_1 : s1 (a + 1) = (8, 12, fun _ => 0) := by rw [es1, s2_self]
  have row1_1 : w1 (a + 1) = fun _ => 0 := by rw [ew1, z0_self]
  refine r_putF C (pc := 9) (ci := 4) (k := 0) (L2 := [a + 1 + 2, 0]) rfl (by decide) inX4 tyX4_ok nmX4 (by decide) rfl rfl rfl rfl rfl q_135 ⟨by omega, by omega⟩ hs0_1 (Nat.le_of_ble_eq_true rfl) rfl dX4_init_9 ?_
  refine VV.gs (fun s2 es2 => ?_)
  have ks2 : ∀ b, b ≠ a → s2 b = s1 b := fun b hb => by rw [es2, s2_ne hb]
  have hs1_2 : s2 (a + 1) = (8, 12, fun _ => 0) := (ks2 _ (by omega)).trans hs1_1
  have lowS_2 : ∀ b, b < a → s2 b = sh b := fun b hb => (ks2 b (by omega)).trans (lowS_1 b hb)
  have lowV_2 : ∀ b, b < a → w1 b = v b := lowV_1
  have row1_2 : w1 (a + 1) = fun _ => 0 := row1_1
  have hs0_2 : s2 a = (4, 2, pts [a + 1 + 2, 0]) := by rw [es2, s2_self]
  refine r_aload_n C (pc := 12) rfl rfl dX4_init_12 ?_
  refine r_iconst C (pc := 13) (x := (nI 0)) (by decide) dX4_init_13 ?_
  refine r_put C (pc := 14) (ci := 4) (k := 1) rfl (by decide) inX4 tyX4_ok nmX4 (by decide) rfl pfI rfl q_136 ⟨by omega, by omega⟩ hs0_2 dX4_init_14 ?_
  refine VV.gn (fun w3 ew3 => ?_)
  have kv3 : ∀ b, b ≠ a → w3 b = w1 b := fun b hb => by rw [ew3, z2_addr hb]
  have lowS_3 : ∀ b, b < a → s2 b = sh b := lowS_2
  have lowV_3 : ∀ b, b < a → w3 b = v b := fun b hb => (kv3 b (by omega)).trans (lowV_2 b hb)
  have row1_3 : w3 (a + 1) = fun _ => 0 := (kv3 _ (by omega)).trans row1_2
  have fld1_3 : w3 a 1 = (nI 0) := by rw [ew3, z2_self]
  exact r_vret C (pc := 17) rfl dX4_init_17 ⟨rfl, rfl, lowS_3, lowV_3, ⟨ha, by omega, hs0_2, hs1_2⟩, ⟨fld1_3, fun j hj => by rw [row1_3]; rfl⟩⟩
set_option maxRecDepth 100000 in
set_option maxHeartbeats 4000000 in
theorem m_X0_init (l : Launch) (G : zG) (sh : zH) (v : zV) {a : Nat} (ha : G.2.2.1 ≤ a) (hs : sh a = (0, 3, pts [1, 1, 0])) : zM l G yX0_init cX0_init 2 none 1 2 24 [.ref a] sh v (a + 1) (fun r sh1 v1 N1 => r = none ∧ N1 = a + 3 ∧ (∀ i, i < a → sh1 i = sh i) ∧ (∀ i, i < a → v1 i = v i) ∧ zFI G sh1 N1 a ∧ ∀ V, zfi v1 a V (fun _ => none)) := by
  refine zM.of (by decide) rfl (Nat.le_of_ble_eq_true rfl) ?_
  intro p e s m args below meth c C
  have lowS_0 : ∀ b, b < a → sh b = sh b := fun _ _ => rfl
  have lowV_0 : ∀ b, b < a → v b = v b := fun _ _ => rfl
  have hs0_0 := hs
  refine r_aload_n C (pc := 0) rfl rfl dX0_init_0 ?_
  refine r_objInit C (pc := 1) q_148 q_obji q_objc (Nat.le_of_ble_eq_true rfl) ⟨Nat.le_of_ble_eq_true rfl, Nat.le_of_ble_eq_true rfl⟩ dX0_init_1 ?_
  refine r_aload_n C (pc := 4) rfl rfl dX0_init_4 ?_
  refine r_bipush C (pc := 5) (x := (nI 12)) (by decide) dX0_init_5 ?_
  refine r_newi C (pc := 7) (n := 12) q_101 (by decide) (Nat.le_of_ble_eq_true rfl) (Nat.le_of_ble_eq_true rfl) dX0_init_7 ?_
  refine VV.gc (k := 1) (n := 12) rfl rfl ?_
  refine VV.gN (N1 := a + 2) rfl ?_
  refine VV.gs (fun s1 es1 => ?_)
  refine VV.gn (fun w1 ew1 => ?_)
  have ks1 : ∀ b, b ≠ a + 1 → s1 b = sh b := fun b hb => by rw [es1, s2_ne hb]
  have kv1 : ∀ b, b ≠ a + 1 → w1 b = v b := fun b hb => by rw [ew1, z0_ne hb]
  have hs0_1 : s1 a = (0, 3, pts [1, 1, 0]) := (ks1 _ (by omega)).trans hs0_0
  have lowS_1 : ∀ b, b < a → s1 b = sh b := fun b hb => (ks1 b (by omega)).trans (lowS_0 b hb)
  have lowV_1 : ∀ b, b < a → w1 b = v b := fun b hb => (kv1 b (by omega)).trans (lowV_0 b hb)
  have hs1_1 : s1 (a + 1) = (8, 12, fun _ => 0) := by rw [es1, s2_self]
  have row1_1 : w1 (a + 1) = fun _ => 0 := by rw [ew1, z0_self]
  refine r_putF C (pc := 9) (ci := 0) (k := 0) (L2 := [a + 1 + 2, 1, 0]) rfl (by decide) inX0 tyX0_ok nmX0 (by decide) rfl rfl rfl rfl rfl q_149 ⟨by omega, by omega⟩ hs0_1 (Nat.le_of_ble_eq_true rfl) rfl dX0_init_9 ?_
  refine VV.gs (fun s2 es2 => ?_)
  have ks2 : ∀ b, b ≠ a → s2 b = s1 b := fun b hb => by rw [es2, s2_ne hb]
  have hs1_2 : s2 (a + 1) = (8, 12, fun _ => 0) := (ks2 _ (by omega)).trans hs1_1
  have lowS_2 : ∀ b, b < a → s2 b = sh b := fun b hb => (ks2 b (by omega)).trans (lowS_1 b hb)
  have lowV_2 : ∀ b, b < a → w1 b = v b := lowV_1
  have row1_2 : w1 (a + 1) = fun _ => 0 := row1_1
  have hs0_2 : s2 a = (0, 3, pts [a + 1 + 2, 1, 0]) := by rw [es2, s2_self]
  refine r_aload_n C (pc := 12) rfl rfl dX0_init_12 ?_
  refine r_bipush C (pc := 13) (x := (nI 12)) (by decide) dX0_init_13 ?_
  refine r_newi C (pc := 15) (n := 12) q_101 (by decide) (Nat.le_of_ble_eq_true rfl) (Nat.le_of_ble_eq_true rfl) dX0_init_15 ?_
  refine VV.gc (k := 2) (n := 24) rfl rfl ?_
  refine VV.gN (N1 := a + 3) rfl ?_
  refine VV.gs (fun s3 es3 => ?_)
  refine VV.gn (fun w3 ew3 => ?_)
  have ks3 : ∀ b, b ≠ a + 2 → s3 b = s2 b := fun b hb => by rw [es3, s2_ne hb]
  have kv3 : ∀ b, b ≠ a + 2 → w3 b = w1 b := fun b hb => by rw [ew3, z0_ne hb]
  have hs0_3 : s3 a = (0, 3, pts [a + 1 + 2, 1, 0]) := (ks3 _ (by omega)).trans hs0_2
  have hs1_3 : s3 (a + 1) = (8, 12, fun _ => 0) := (ks3 _ (by omega)).trans hs1_2
  have lowS_3 : ∀ b, b < a → s3 b = sh b := fun b hb => (ks3 b (by omega)).trans (lowS_2 b hb)
  have lowV_3 : ∀ b, b < a → w3 b = v b := fun b hb => (kv3 b (by omega)).trans (lowV_2 b hb)
  have row1_3 : w3 (a + 1) = fun _ => 0 := (kv3 _ (by omega)).trans row1_2
  have hs2_3 : s3 (a + 2) = (8, 12, fun _ => 0) := by rw [es3, s2_self]
  have row2_3 : w3 (a + 2) = fun _ => 0 := by rw [ew3, z0_self]
  refine r_putF C (pc := 17) (ci := 0) (k := 1) (L2 := [a + 1 + 2, a + 2 + 2, 0]) rfl (by decide) inX0 tyX0_ok nmX0 (by decide) rfl rfl rfl rfl rfl q_150 ⟨by omega, by omega⟩ hs0_3 (Nat.le_of_ble_eq_true rfl) rfl dX0_init_17 ?_
  refine VV.gs (fun s4 es4 => ?_)
  have ks4 : ∀ b, b ≠ a → s4 b = s3 b := fun b hb => by rw [es4, s2_ne hb]
  have hs1_4 : s4 (a + 1) = (8, 12, fun _ => 0) := (ks4 _ (by omega)).trans hs1_3
  have hs2_4 : s4 (a + 2) = (8, 12, fun _ => 0) := (ks4 _ (by omega)).trans hs2_3
  have lowS_4 : ∀ b, b < a → s4 b = sh b := fun b hb => (ks4 b (by omega)).trans (lowS_3 b hb)
  have lowV_4 : ∀ b, b < a → w3 b = v b := lowV_3
  have row1_4 : w3 (a + 1) = fun _ => 0 := row1_3
  have row2_4 : w3 (a + 2) = fun _ => 0 := row2_3
  have hs0_4 : s4 a = (0, 3, pts [a + 1 + 2, a + 2 + 2, 0]) := by rw [es4, s2_self]
  refine r_aload_n C (pc := 20) rfl rfl dX0_init_20 ?_
  refine r_iconst C (pc := 21) (x := (nI 0)) (by decide) dX0_init_21 ?_
  refine r_put C (pc := 22) (ci := 0) (k := 2) rfl (by decide) inX0 tyX0_ok nmX0 (by decide) rfl pfI rfl q_152 ⟨by omega, by omega⟩ hs0_4 dX0_init_22 ?_
  refine VV.gn (fun w5 ew5 => ?_)
  have kv5 : ∀ b, b ≠ a → w5 b = w3 b := fun b hb => by rw [ew5, z2_addr hb]
  have lowS_5 : ∀ b, b < a → s4 b = sh b := lowS_4
  have lowV_5 : ∀ b, b < a → w5 b = v b := fun b hb => (kv5 b (by omega)).trans (lowV_4 b hb)
  have row1_5 : w5 (a + 1) = fun _ => 0 := (kv5 _ (by omega)).trans row1_4
  have row2_5 : w5 (a + 2) = fun _ => 0 := (kv5 _ (by omega)).trans row2_4
  have fld2_5 : w5 a 2 = (nI 0) := by rw [ew5, z2_self]
  refine r_iconst C (pc := 25) (x := (nI 0)) (by decide) dX0_init_25 ?_
  refine r_istore_n C (pc := 26) (lv2 := [some (.ref a), some (.int (nI 0))]) rfl (Nat.le_of_ble_eq_true rfl) rfl rfl dX0_init_26 ?_
  have loop : ∀ (n i : Nat) (v' : zV), 12 - i < n → i ≤ 12 → (∀ b, b < i → v' (a + 2) b = -9) → (∀ b, b ≠ a + 2 → v' b = w5 b) → VV p l e ({ frames := 1, cells := 2, slots := 24, locals := 32 * 1 }) s m args below meth c 2 24 (zQ below (fun r sh1 v1 N1 => r = none ∧ N1 = a + 3 ∧ (∀ i, i < a → sh1 i = sh i) ∧ (∀ i, i < a → v1 i = v i) ∧ zFI G sh1 N1 a ∧ ∀ V, zfi v1 a V (fun _ => none)) G args s 2 24) G 2 s4 v' (a + 3) 27 [some (.ref a), some (.int (nI i))] [] := by
    intro n
    induction n with
    | zero => intro i v' hm; omega
    | succ n ih =>
      intro i v' hm hi e1 e2
      refine r_iload_n C (pc := 27) rfl rfl dX0_init_27 ?_
      refine r_aload_n C (pc := 28) rfl rfl dX0_init_28 ?_
      refine r_get C (pc := 29) (ci := 0) (k := 1) (w := .ref (a + 2)) rfl (by decide) inX0 (by decide) q_150 (Or.inl ⟨by omega, by omega⟩) hs0_4 (zl_ref _ _) dX0_init_29 ?_
      refine r_alen C (pc := 32) (x := nI 12) (Or.inl ⟨by omega, by omega⟩) hs2_4 (by decide) rfl rfl dX0_init_32 ?_
      refine n_icmp_ge C (pc := 33) (tgt := 50) (by omega) (by decide) dX0_init_33 (by decide) (fun c_33 => ?_) (fun c_33 => ?_)
      · exact r_vret C (pc := 50) rfl dX0_init_50 ⟨rfl, rfl, lowS_5, fun b hb => (e2 b (by omega)).trans (lowV_5 b hb), ⟨ha, by omega, hs0_4, hs1_4, hs2_4⟩, fun V => ⟨(congrFun (e2 a (by omega)) 2).trans fld2_5, fun b hb => by rw [e2 _ (by omega), row1_5]; rfl, fun b hb => e1 b (by omega)⟩⟩
      · refine r_aload_n C (pc := 36) rfl rfl dX0_init_36 ?_
        refine r_get C (pc := 37) (ci := 0) (k := 1) (w := .ref (a + 2)) rfl (by decide) inX0 (by decide) q_150 (Or.inl ⟨by omega, by omega⟩) hs0_4 (zl_ref _ _) dX0_init_37 ?_
        refine r_iload_n C (pc := 40) rfl rfl dX0_init_40 ?_
        refine r_bipush C (pc := 41) (x := (-9)) (by decide) dX0_init_41 ?_
        refine r_iast C (pc := 43) ⟨by omega, by omega⟩ hs2_4 (by omega) (by omega) dX0_init_43 ?_
        refine VV.gn (fun w43 ew43 => ?_)
        refine r_iinc C (pc := 44) (lv2 := [some (.ref a), some (.int (nI (i + 1)))]) (y := (nI (i + 1))) rfl (nI_inc _ _) (Nat.le_of_ble_eq_true rfl) rfl rfl dX0_init_44 ?_
        refine r_goto C (pc := 47) (tgt := 27) dX0_init_47 (by decide) ?_
        exact ih (i + 1) w43 (by omega) (by omega) (fun b hb => by
          rw [ew43]
          by_cases hbi : b = i
          · subst hbi; rw [z2_self]
          · rw [z2_ne (by omega)]; exact e1 b (by omega)) (fun b hb => by rw [ew43, z2_addr hb]; exact e2 b hb)
  exact loop 13 0 w5 (by omega) (by omega) (fun b hb => absurd hb (Nat.not_lt_zero b)) (fun _ _ => rfl)
set_option maxRecDepth 100000 in
set_option maxHeartbeats 4000000 in
theorem m_X3_init (l : Launch) (G : zG) (sh : zH) (v : zV) {a : Nat} (ha : G.2.2.1 ≤ a) (hs : sh a = (3, 9, pts [1, 1, 1, 0, 0, 0, 0, 0, 0])) : zMZ l G yX3_init cX3_init 1 none 2 3 23 [.ref a] sh v (a + 1) (fun r sh1 v1 N1 => r = none ∧ N1 = a + 4 ∧ (∀ i, i < a → sh1 i = sh i) ∧ (∀ i, i < a → v1 i = v i) ∧ zSE G sh1 N1 a ∧ zse v1 a M0.1) := by
  refine zMZ.of (by decide) rfl (Nat.le_of_ble_eq_true rfl) ?_
  intro p e s m args below meth c C hZ
  have lowS_0 : ∀ b, b < a → sh b = sh b := fun _ _ => rfl
  have lowV_0 : ∀ b, b < a → v b = v b := fun _ _ => rfl
  have hs0_0 := hs
  refine r_aload_n C (pc := 0) rfl rfl dX3_init_0 ?_
  refine r_objInit C (pc := 1) q_43 q_obji q_objc (Nat.le_of_ble_eq_true rfl) ⟨Nat.le_of_ble_eq_true rfl, Nat.le_of_ble_eq_true rfl⟩ dX3_init_1 ?_
  refine r_aload_n C (pc := 4) rfl rfl dX3_init_4 ?_
  refine r_bipush C (pc := 5) (x := (nI 12)) (by decide) dX3_init_5 ?_
  refine r_newi C (pc := 7) (n := 12) q_101 (by decide) (Nat.le_of_ble_eq_true rfl) (Nat.le_of_ble_eq_true rfl) dX3_init_7 ?_
  refine VV.gc (k := 1) (n := 12) rfl rfl ?_
  refine VV.gN (N1 := a + 2) rfl ?_
  refine VV.gs (fun s1 es1 => ?_)
  refine VV.gn (fun w1 ew1 => ?_)
  have ks1 : ∀ b, b ≠ a + 1 → s1 b = sh b := fun b hb => by rw [es1, s2_ne hb]
  have kv1 : ∀ b, b ≠ a + 1 → w1 b = v b := fun b hb => by rw [ew1, z0_ne hb]
  have hs0_1 : s1 a = (3, 9, pts [1, 1, 1, 0, 0, 0, 0, 0, 0]) := (ks1 _ (by omega)).trans hs0_0
  have lowS_1 : ∀ b, b < a → s1 b = sh b := fun b hb => (ks1 b (by omega)).trans (lowS_0 b hb)
  have lowV_1 : ∀ b, b < a → w1 b = v b := fun b hb => (kv1 b (by omega)).trans (lowV_0 b hb)
  have hs1_1 : s1 (a + 1) = (8, 12, fun _ => 0) := by rw [es1, s2_self]
  have row1_1 : w1 (a + 1) = fun _ => 0 := by rw [ew1, z0_self]
  refine r_putF C (pc := 9) (ci := 3) (k := 0) (L2 := [a + 1 + 2, 1, 1, 0, 0, 0, 0, 0, 0]) rfl (by decide) inX3 tyX3_ok nmX3 (by decide) rfl rfl rfl rfl rfl q_59 ⟨by omega, by omega⟩ hs0_1 (Nat.le_of_ble_eq_true rfl) rfl dX3_init_9 ?_
  refine VV.gs (fun s2 es2 => ?_)
  have ks2 : ∀ b, b ≠ a → s2 b = s1 b := fun b hb => by rw [es2, s2_ne hb]
  have hs1_2 : s2 (a + 1) = (8, 12, fun _ => 0) := (ks2 _ (by omega)).trans hs1_1
  have lowS_2 : ∀ b, b < a → s2 b = sh b := fun b hb => (ks2 b (by omega)).trans (lowS_1 b hb)
  have lowV_2 : ∀ b, b < a → w1 b = v b := lowV_1
  have row1_2 : w1 (a + 1) = fun _ => 0 := row1_1
  have hs0_2 : s2 a = (3, 9, pts [a + 1 + 2, 1, 1, 0, 0, 0, 0, 0, 0]) := by rw [es2, s2_self]
  refine r_aload_n C (pc := 12) rfl rfl dX3_init_12 ?_
  refine r_iconst C (pc := 13) (x := (nI 4)) (by decide) dX3_init_13 ?_
  refine r_newi C (pc := 14) (n := 4) q_101 (by decide) (Nat.le_of_ble_eq_true rfl) (Nat.le_of_ble_eq_true rfl) dX3_init_14 ?_
  refine VV.gc (k := 2) (n := 16) rfl rfl ?_
  refine VV.gN (N1 := a + 3) rfl ?_
  refine VV.gs (fun s3 es3 => ?_)
  refine VV.gn (fun w3 ew3 => ?_)
  have ks3 : ∀ b, b ≠ a + 2 → s3 b = s2 b := fun b hb => by rw [es3, s2_ne hb]
  have kv3 : ∀ b, b ≠ a + 2 → w3 b = w1 b := fun b hb => by rw [ew3, z0_ne hb]
  have hs0_3 : s3 a = (3, 9, pts [a + 1 + 2, 1, 1, 0, 0, 0, 0, 0, 0]) := (ks3 _ (by omega)).trans hs0_2
  have hs1_3 : s3 (a + 1) = (8, 12, fun _ => 0) := (ks3 _ (by omega)).trans hs1_2
  have lowS_3 : ∀ b, b < a → s3 b = sh b := fun b hb => (ks3 b (by omega)).trans (lowS_2 b hb)
  have lowV_3 : ∀ b, b < a → w3 b = v b := fun b hb => (kv3 b (by omega)).trans (lowV_2 b hb)
  have row1_3 : w3 (a + 1) = fun _ => 0 := (kv3 _ (by omega)).trans row1_2
  have hs2_3 : s3 (a + 2) = (8, 4, fun _ => 0) := by rw [es3, s2_self]
  have row2_3 : w3 (a + 2) = fun _ => 0 := by rw [ew3, z0_self]
  refine r_putF C (pc := 16) (ci := 3) (k := 1) (L2 := [a + 1 + 2, a + 2 + 2, 1, 0, 0, 0, 0, 0, 0]) rfl (by decide) inX3 tyX3_ok nmX3 (by decide) rfl rfl rfl rfl rfl q_61 ⟨by omega, by omega⟩ hs0_3 (Nat.le_of_ble_eq_true rfl) rfl dX3_init_16 ?_
  refine VV.gs (fun s4 es4 => ?_)
  have ks4 : ∀ b, b ≠ a → s4 b = s3 b := fun b hb => by rw [es4, s2_ne hb]
  have hs1_4 : s4 (a + 1) = (8, 12, fun _ => 0) := (ks4 _ (by omega)).trans hs1_3
  have hs2_4 : s4 (a + 2) = (8, 4, fun _ => 0) := (ks4 _ (by omega)).trans hs2_3
  have lowS_4 : ∀ b, b < a → s4 b = sh b := fun b hb => (ks4 b (by omega)).trans (lowS_3 b hb)
  have lowV_4 : ∀ b, b < a → w3 b = v b := lowV_3
  have row1_4 : w3 (a + 1) = fun _ => 0 := row1_3
  have row2_4 : w3 (a + 2) = fun _ => 0 := row2_3
  have hs0_4 : s4 a = (3, 9, pts [a + 1 + 2, a + 2 + 2, 1, 0, 0, 0, 0, 0, 0]) := by rw [es4, s2_self]
  refine r_aload_n C (pc := 19) rfl rfl dX3_init_19 ?_
  refine r_bipush C (pc := 20) (x := (nI 7)) (by decide) dX3_init_20 ?_
  refine r_newi C (pc := 22) (n := 7) q_101 (by decide) (Nat.le_of_ble_eq_true rfl) (Nat.le_of_ble_eq_true rfl) dX3_init_22 ?_
  refine VV.gc (k := 3) (n := 23) rfl rfl ?_
  refine VV.gN (N1 := a + 4) rfl ?_
  refine VV.gs (fun s5 es5 => ?_)
  refine VV.gn (fun w5 ew5 => ?_)
  have ks5 : ∀ b, b ≠ a + 3 → s5 b = s4 b := fun b hb => by rw [es5, s2_ne hb]
  have kv5 : ∀ b, b ≠ a + 3 → w5 b = w3 b := fun b hb => by rw [ew5, z0_ne hb]
  have hs0_5 : s5 a = (3, 9, pts [a + 1 + 2, a + 2 + 2, 1, 0, 0, 0, 0, 0, 0]) := (ks5 _ (by omega)).trans hs0_4
  have hs1_5 : s5 (a + 1) = (8, 12, fun _ => 0) := (ks5 _ (by omega)).trans hs1_4
  have hs2_5 : s5 (a + 2) = (8, 4, fun _ => 0) := (ks5 _ (by omega)).trans hs2_4
  have lowS_5 : ∀ b, b < a → s5 b = sh b := fun b hb => (ks5 b (by omega)).trans (lowS_4 b hb)
  have lowV_5 : ∀ b, b < a → w5 b = v b := fun b hb => (kv5 b (by omega)).trans (lowV_4 b hb)
  have row1_5 : w5 (a + 1) = fun _ => 0 := (kv5 _ (by omega)).trans row1_4
  have row2_5 : w5 (a + 2) = fun _ => 0 := (kv5 _ (by omega)).trans row2_4
  have hs3_5 : s5 (a + 3) = (8, 7, fun _ => 0) := by rw [es5, s2_self]
  have row3_5 : w5 (a + 3) = fun _ => 0 := by rw [ew5, z0_self]
  refine r_putF C (pc := 24) (ci := 3) (k := 2) (L2 := [a + 1 + 2, a + 2 + 2, a + 3 + 2, 0, 0, 0, 0, 0, 0]) rfl (by decide) inX3 tyX3_ok nmX3 (by decide) rfl rfl rfl rfl rfl q_63 ⟨by omega, by omega⟩ hs0_5 (Nat.le_of_ble_eq_true rfl) rfl dX3_init_24 ?_
  refine VV.gs (fun s6 es6 => ?_)
  have ks6 : ∀ b, b ≠ a → s6 b = s5 b := fun b hb => by rw [es6, s2_ne hb]
  have hs1_6 : s6 (a + 1) = (8, 12, fun _ => 0) := (ks6 _ (by omega)).trans hs1_5
  have hs2_6 : s6 (a + 2) = (8, 4, fun _ => 0) := (ks6 _ (by omega)).trans hs2_5
  have hs3_6 : s6 (a + 3) = (8, 7, fun _ => 0) := (ks6 _ (by omega)).trans hs3_5
  have lowS_6 : ∀ b, b < a → s6 b = sh b := fun b hb => (ks6 b (by omega)).trans (lowS_5 b hb)
  have lowV_6 : ∀ b, b < a → w5 b = v b := lowV_5
  have row1_6 : w5 (a + 1) = fun _ => 0 := row1_5
  have row2_6 : w5 (a + 2) = fun _ => 0 := row2_5
  have row3_6 : w5 (a + 3) = fun _ => 0 := row3_5
  have hs0_6 : s6 a = (3, 9, pts [a + 1 + 2, a + 2 + 2, a + 3 + 2, 0, 0, 0, 0, 0, 0]) := by rw [es6, s2_self]
  refine r_aload_n C (pc := 27) rfl rfl dX3_init_27 ?_
  refine r_iconst C (pc := 28) (x := (nI 4)) (by decide) dX3_init_28 ?_
  refine r_put C (pc := 29) (ci := 3) (k := 3) rfl (by decide) inX3 tyX3_ok nmX3 (by decide) rfl pfI rfl q_65 ⟨by omega, by omega⟩ hs0_6 dX3_init_29 ?_
  refine VV.gn (fun w7 ew7 => ?_)
  have kv7 : ∀ b, b ≠ a → w7 b = w5 b := fun b hb => by rw [ew7, z2_addr hb]
  have lowS_7 : ∀ b, b < a → s6 b = sh b := lowS_6
  have lowV_7 : ∀ b, b < a → w7 b = v b := fun b hb => (kv7 b (by omega)).trans (lowV_6 b hb)
  have row1_7 : w7 (a + 1) = fun _ => 0 := (kv7 _ (by omega)).trans row1_6
  have row2_7 : w7 (a + 2) = fun _ => 0 := (kv7 _ (by omega)).trans row2_6
  have row3_7 : w7 (a + 3) = fun _ => 0 := (kv7 _ (by omega)).trans row3_6
  have fld3_7 : w7 a 3 = (nI 4) := by rw [ew7, z2_self]
  refine r_aload_n C (pc := 32) rfl rfl dX3_init_32 ?_
  refine r_iconst C (pc := 33) (x := (nI 1)) (by decide) dX3_init_33 ?_
  refine r_put C (pc := 34) (ci := 3) (k := 4) rfl (by decide) inX3 tyX3_ok nmX3 (by decide) rfl pfI rfl q_68 ⟨by omega, by omega⟩ hs0_6 dX3_init_34 ?_
  refine VV.gn (fun w8 ew8 => ?_)
  have kv8 : ∀ b, b ≠ a → w8 b = w7 b := fun b hb => by rw [ew8, z2_addr hb]
  have lowS_8 : ∀ b, b < a → s6 b = sh b := lowS_7
  have lowV_8 : ∀ b, b < a → w8 b = v b := fun b hb => (kv8 b (by omega)).trans (lowV_7 b hb)
  have row1_8 : w8 (a + 1) = fun _ => 0 := (kv8 _ (by omega)).trans row1_7
  have row2_8 : w8 (a + 2) = fun _ => 0 := (kv8 _ (by omega)).trans row2_7
  have row3_8 : w8 (a + 3) = fun _ => 0 := (kv8 _ (by omega)).trans row3_7
  have fld3_8 : w8 a 3 = (nI 4) := by rw [ew8, z2_ne (by omega)]; exact fld3_7
  have fld4_8 : w8 a 4 = (nI 1) := by rw [ew8, z2_self]
  refine r_aload_n C (pc := 37) rfl rfl dX3_init_37 ?_
  refine r_iconst C (pc := 38) (x := (nI 2)) (by decide) dX3_init_38 ?_
  refine r_put C (pc := 39) (ci := 3) (k := 5) rfl (by decide) inX3 tyX3_ok nmX3 (by decide) rfl pfI rfl q_71 ⟨by omega, by omega⟩ hs0_6 dX3_init_39 ?_
  refine VV.gn (fun w9 ew9 => ?_)
  have kv9 : ∀ b, b ≠ a → w9 b = w8 b := fun b hb => by rw [ew9, z2_addr hb]
  have lowS_9 : ∀ b, b < a → s6 b = sh b := lowS_8
  have lowV_9 : ∀ b, b < a → w9 b = v b := fun b hb => (kv9 b (by omega)).trans (lowV_8 b hb)
  have row1_9 : w9 (a + 1) = fun _ => 0 := (kv9 _ (by omega)).trans row1_8
  have row2_9 : w9 (a + 2) = fun _ => 0 := (kv9 _ (by omega)).trans row2_8
  have row3_9 : w9 (a + 3) = fun _ => 0 := (kv9 _ (by omega)).trans row3_8
  have fld3_9 : w9 a 3 = (nI 4) := by rw [ew9, z2_ne (by omega)]; exact fld3_8
  have fld4_9 : w9 a 4 = (nI 1) := by rw [ew9, z2_ne (by omega)]; exact fld4_8
  have fld5_9 : w9 a 5 = (nI 2) := by rw [ew9, z2_self]
  refine r_aload_n C (pc := 42) rfl rfl dX3_init_42 ?_
  refine r_iconst C (pc := 43) (x := (nI 0)) (by decide) dX3_init_43 ?_
  refine r_put C (pc := 44) (ci := 3) (k := 6) rfl (by decide) inX3 tyX3_ok nmX3 (by decide) rfl pfI rfl q_74 ⟨by omega, by omega⟩ hs0_6 dX3_init_44 ?_
  refine VV.gn (fun w10 ew10 => ?_)
  have kv10 : ∀ b, b ≠ a → w10 b = w9 b := fun b hb => by rw [ew10, z2_addr hb]
  have lowS_10 : ∀ b, b < a → s6 b = sh b := lowS_9
  have lowV_10 : ∀ b, b < a → w10 b = v b := fun b hb => (kv10 b (by omega)).trans (lowV_9 b hb)
  have row1_10 : w10 (a + 1) = fun _ => 0 := (kv10 _ (by omega)).trans row1_9
  have row2_10 : w10 (a + 2) = fun _ => 0 := (kv10 _ (by omega)).trans row2_9
  have row3_10 : w10 (a + 3) = fun _ => 0 := (kv10 _ (by omega)).trans row3_9
  have fld3_10 : w10 a 3 = (nI 4) := by rw [ew10, z2_ne (by omega)]; exact fld3_9
  have fld4_10 : w10 a 4 = (nI 1) := by rw [ew10, z2_ne (by omega)]; exact fld4_9
  have fld5_10 : w10 a 5 = (nI 2) := by rw [ew10, z2_ne (by omega)]; exact fld5_9
  have fld6_10 : w10 a 6 = (nI 0) := by rw [ew10, z2_self]
  refine r_aload_n C (pc := 47) rfl rfl dX3_init_47 ?_
  refine r_iconst C (pc := 48) (x := (nI 0)) (by decide) dX3_init_48 ?_
  refine r_put C (pc := 49) (ci := 3) (k := 7) rfl (by decide) inX3 tyX3_ok nmX3 (by decide) rfl pfI rfl q_77 ⟨by omega, by omega⟩ hs0_6 dX3_init_49 ?_
  refine VV.gn (fun w11 ew11 => ?_)
  have kv11 : ∀ b, b ≠ a → w11 b = w10 b := fun b hb => by rw [ew11, z2_addr hb]
  have lowS_11 : ∀ b, b < a → s6 b = sh b := lowS_10
  have lowV_11 : ∀ b, b < a → w11 b = v b := fun b hb => (kv11 b (by omega)).trans (lowV_10 b hb)
  have row1_11 : w11 (a + 1) = fun _ => 0 := (kv11 _ (by omega)).trans row1_10
  have row2_11 : w11 (a + 2) = fun _ => 0 := (kv11 _ (by omega)).trans row2_10
  have row3_11 : w11 (a + 3) = fun _ => 0 := (kv11 _ (by omega)).trans row3_10
  have fld3_11 : w11 a 3 = (nI 4) := by rw [ew11, z2_ne (by omega)]; exact fld3_10
  have fld4_11 : w11 a 4 = (nI 1) := by rw [ew11, z2_ne (by omega)]; exact fld4_10
  have fld5_11 : w11 a 5 = (nI 2) := by rw [ew11, z2_ne (by omega)]; exact fld5_10
  have fld6_11 : w11 a 6 = (nI 0) := by rw [ew11, z2_ne (by omega)]; exact fld6_10
  have fld7_11 : w11 a 7 = (nI 0) := by rw [ew11, z2_self]
  refine r_aload_n C (pc := 52) rfl rfl dX3_init_52 ?_
  refine r_iconst C (pc := 53) (x := (nI 1)) (by decide) dX3_init_53 ?_
  refine r_put C (pc := 54) (ci := 3) (k := 8) rfl (by decide) inX3 tyX3_ok nmX3 (by decide) rfl pfI rfl q_80 ⟨by omega, by omega⟩ hs0_6 dX3_init_54 ?_
  refine VV.gn (fun w12 ew12 => ?_)
  have kv12 : ∀ b, b ≠ a → w12 b = w11 b := fun b hb => by rw [ew12, z2_addr hb]
  have lowS_12 : ∀ b, b < a → s6 b = sh b := lowS_11
  have lowV_12 : ∀ b, b < a → w12 b = v b := fun b hb => (kv12 b (by omega)).trans (lowV_11 b hb)
  have row1_12 : w12 (a + 1) = fun _ => 0 := (kv12 _ (by omega)).trans row1_11
  have row2_12 : w12 (a + 2) = fun _ => 0 := (kv12 _ (by omega)).trans row2_11
  have row3_12 : w12 (a + 3) = fun _ => 0 := (kv12 _ (by omega)).trans row3_11
  have fld3_12 : w12 a 3 = (nI 4) := by rw [ew12, z2_ne (by omega)]; exact fld3_11
  have fld4_12 : w12 a 4 = (nI 1) := by rw [ew12, z2_ne (by omega)]; exact fld4_11
  have fld5_12 : w12 a 5 = (nI 2) := by rw [ew12, z2_ne (by omega)]; exact fld5_11
  have fld6_12 : w12 a 6 = (nI 0) := by rw [ew12, z2_ne (by omega)]; exact fld6_11
  have fld7_12 : w12 a 7 = (nI 0) := by rw [ew12, z2_ne (by omega)]; exact fld7_11
  have fld8_12 : w12 a 8 = (nI 1) := by rw [ew12, z2_self]
  refine r_getsF C hZ (pc := 57) q_44 dX3_init_57 ?_
  refine r_aload_n C (pc := 60) rfl rfl dX3_init_60 ?_
  refine r_get C (pc := 61) (ci := 3) (k := 2) (w := .ref (a + 3)) rfl (by decide) inX3 (by decide) q_63 (Or.inl ⟨by omega, by omega⟩) hs0_6 (zl_ref _ _) dX3_init_61 ?_
  refine r_callSNZ C hZ (pc := 64) (st := []) (m_X6_copyRowF l G s6 w12 (a + 4) (a := a + 3) ⟨by omega, by omega⟩ hs3_6) kyX6_copyRow q_46 rfl rfl (Nat.le_of_ble_eq_true rfl) ⟨Nat.le_of_ble_eq_true rfl, Nat.le_of_ble_eq_true rfl⟩ ⟨Nat.le_of_ble_eq_true rfl, Nat.le_of_ble_eq_true rfl⟩ dX3_init_64 (fun r13 s13 w13 N13 hp13 => ?_)
  obtain ⟨rfl, es13, eN13, ew13⟩ := hp13
  subst es13
  subst eN13
  refine VV.gc (k := 3) (n := 23) rfl rfl ?_
  have kv13 : ∀ b, b ≠ a + 3 → w13 b = w12 b := fun b hb => by rw [ew13, zcF_ne hb]
  refine VV.eq (st2 := []) rfl ?_
  have lowS_13 : ∀ b, b < a → s6 b = sh b := lowS_12
  have lowV_13 : ∀ b, b < a → w13 b = v b := fun b hb => (kv13 b (by omega)).trans (lowV_12 b hb)
  have row1_13 : w13 (a + 1) = fun _ => 0 := (kv13 _ (by omega)).trans row1_12
  have row2_13 : w13 (a + 2) = fun _ => 0 := (kv13 _ (by omega)).trans row2_12
  have fld3_13 : w13 a 3 = (nI 4) := (congrFun (kv13 _ (by omega)) _).trans fld3_12
  have fld4_13 : w13 a 4 = (nI 1) := (congrFun (kv13 _ (by omega)) _).trans fld4_12
  have fld5_13 : w13 a 5 = (nI 2) := (congrFun (kv13 _ (by omega)) _).trans fld5_12
  have fld6_13 : w13 a 6 = (nI 0) := (congrFun (kv13 _ (by omega)) _).trans fld6_12
  have fld7_13 : w13 a 7 = (nI 0) := (congrFun (kv13 _ (by omega)) _).trans fld7_12
  have fld8_13 : w13 a 8 = (nI 1) := (congrFun (kv13 _ (by omega)) _).trans fld8_12
  have wt_13 : ∀ d, d < 7 → w13 (a + 3) d = nI (fwl.getD d 0) := fun d hd => by rw [ew13, zcF_at hd]
  refine r_aload_n C (pc := 67) rfl rfl dX3_init_67 ?_
  refine r_callV C (pc := 68) (st := []) (m_X3_giveFirstValues l G s6 w13 (a + 4) (u := a) ⟨ha, by omega, hs0_6, hs1_6, hs2_6, hs3_6⟩) kyX3_giveFirstValues q_55 rfl (Or.inl ⟨by omega, by omega⟩) hs0_6 (by decide) rfl rfl rfl (Nat.le_of_ble_eq_true rfl) ⟨Nat.le_of_ble_eq_true rfl, Nat.le_of_ble_eq_true rfl⟩ ⟨Nat.le_of_ble_eq_true rfl, Nat.le_of_ble_eq_true rfl⟩ dX3_init_68 (fun r14 w14 hp14 => ?_)
  obtain ⟨rfl, hg14, kv14⟩ := hp14
  refine VV.eq (st2 := []) rfl ?_
  have lowS_14 : ∀ b, b < a → s6 b = sh b := lowS_13
  have lowV_14 : ∀ b, b < a → w14 b = v b := fun b hb => (kv14 b (by omega)).trans (lowV_13 b hb)
  have row2_14 : w14 (a + 2) = fun _ => 0 := (kv14 _ (by omega)).trans row2_13
  have fld3_14 : w14 a 3 = (nI 4) := (congrFun (kv14 _ (by omega)) _).trans fld3_13
  have fld4_14 : w14 a 4 = (nI 1) := (congrFun (kv14 _ (by omega)) _).trans fld4_13
  have fld5_14 : w14 a 5 = (nI 2) := (congrFun (kv14 _ (by omega)) _).trans fld5_13
  have fld6_14 : w14 a 6 = (nI 0) := (congrFun (kv14 _ (by omega)) _).trans fld6_13
  have fld7_14 : w14 a 7 = (nI 0) := (congrFun (kv14 _ (by omega)) _).trans fld7_13
  have fld8_14 : w14 a 8 = (nI 1) := (congrFun (kv14 _ (by omega)) _).trans fld8_13
  have wt_14 : ∀ d, d < 7 → w14 (a + 3) d = nI (fwl.getD d 0) := fun d hd => (congrFun (kv14 _ (by omega)) d).trans (wt_13 d hd)
  have vs_14 : ∀ b, b < 12 → w14 (a + 1) b = nI (10 * b + 7) := hg14
  exact r_vret C (pc := 71) rfl dX3_init_71 ⟨rfl, rfl, lowS_14, lowV_14, ⟨ha, by omega, hs0_6, hs1_6, hs2_6, hs3_6⟩, ⟨fld3_14, fld4_14, fld5_14, fld6_14, fld7_14, fld8_14, fun b hb => (vs_14 b hb).trans (congrArg nI (layc_v hb).symm), fun i _ hi => by rw [row2_14]; exact congrArg nI (c0_l i hi).symm, fun d hd => (wt_14 (d + 1) (by omega)).trans (congrArg nI (c0_w d hd).symm)⟩⟩
set_option maxRecDepth 100000 in
set_option maxHeartbeats 4000000 in
theorem m_X2_init (l : Launch) (G : zG) (sh : zH) (v : zV) {a : Nat} (ha : G.2.2.1 ≤ a) (hs : sh a = (2, 8, pts [1, 1, 1, 1, 1, 0, 0, 0])) : zM l G yX2_init cX2_init 1 none 2 12 104 [.ref a] sh v (a + 1) (fun r sh1 v1 N1 => r = none ∧ N1 = a + 13 ∧ (∀ i, i < a → sh1 i = sh i) ∧ (∀ i, i < a → v1 i = v i) ∧ zRC G sh1 N1 a ∧ ∀ V, zrc v1 a V [] (fun _ => 0) 0 [] (fun _ => none) (fun _ => none) 0 0 0) := by
  refine zM.of (by decide) rfl (Nat.le_of_ble_eq_true rfl) ?_
  intro p e s m args below meth c C
  have lowS_0 : ∀ b, b < a → sh b = sh b := fun _ _ => rfl
  have lowV_0 : ∀ b, b < a → v b = v b := fun _ _ => rfl
  have hs0_0 := hs
  refine r_aload_n C (pc := 0) rfl rfl dX2_init_0 ?_
  refine r_objInit C (pc := 1) q_109 q_obji q_objc (Nat.le_of_ble_eq_true rfl) ⟨Nat.le_of_ble_eq_true rfl, Nat.le_of_ble_eq_true rfl⟩ dX2_init_1 ?_
  refine r_aload_n C (pc := 4) rfl rfl dX2_init_4 ?_
  refine r_new C (pc := 5) (ci := 1) (L := [1, 0]) rfl (by decide) inX1 tyX1_ok q_110 q_111 q_20 pt0_X1 (Nat.le_of_ble_eq_true rfl) (Nat.le_of_ble_eq_true rfl) dX2_init_5 ?_
  refine VV.gc (k := 1) (n := 2) rfl rfl ?_
  refine VV.gN (N1 := a + 2) rfl ?_
  refine VV.gs (fun s1 es1 => ?_)
  refine VV.gn (fun w1 ew1 => ?_)
  have ks1 : ∀ b, b ≠ a + 1 → s1 b = sh b := fun b hb => by rw [es1, s2_ne hb]
  have kv1 : ∀ b, b ≠ a + 1 → w1 b = v b := fun b hb => by rw [ew1, z0_ne hb]
  have hs0_1 : s1 a = (2, 8, pts [1, 1, 1, 1, 1, 0, 0, 0]) := (ks1 _ (by omega)).trans hs0_0
  have lowS_1 : ∀ b, b < a → s1 b = sh b := fun b hb => (ks1 b (by omega)).trans (lowS_0 b hb)
  have lowV_1 : ∀ b, b < a → w1 b = v b := fun b hb => (kv1 b (by omega)).trans (lowV_0 b hb)
  have hs1_1 : s1 (a + 1) = (1, 2, pts [1, 0]) := by rw [es1, s2_self]
  refine r_dup C (pc := 8) rfl dX2_init_8 ?_
  refine r_bipush C (pc := 9) (x := (nI 12)) (by decide) dX2_init_9 ?_
  refine r_callIM C (pc := 11) (st := [.ref (a + 1), .ref a]) (m_X1_init l G s1 w1 (a := a + 1) (room := 12) (by omega) hs1_1 (by decide)) kyX1_init q_112 rfl rfl (Nat.le_of_ble_eq_true rfl) ⟨Nat.le_of_ble_eq_true rfl, Nat.le_of_ble_eq_true rfl⟩ ⟨Nat.le_of_ble_eq_true rfl, Nat.le_of_ble_eq_true rfl⟩ dX2_init_11 (fun r2 s2 w2 N2 hp2 => ?_)
  obtain ⟨rfl, hN2, ks2, kv2, hq2⟩ := hp2
  obtain rfl : N2 = a + 3 := hN2
  refine VV.gc (k := 2) (n := 14) rfl rfl ?_
  refine VV.eq (st2 := [.ref (a + 1), .ref a]) rfl ?_
  have hs0_2 : s2 a = (2, 8, pts [1, 1, 1, 1, 1, 0, 0, 0]) := (ks2 _ (by omega)).trans hs0_1
  have lowS_2 : ∀ b, b < a → s2 b = sh b := fun b hb => (ks2 b (by omega)).trans (lowS_1 b hb)
  have lowV_2 : ∀ b, b < a → w2 b = v b := fun b hb => (kv2 b (by omega)).trans (lowV_1 b hb)
  have PL1_2 : zPL G s2 (a + 3) (a + 1) 12 := hq2.1
  have pl1_2 : zpl w2 (a + 1) 12 [] := hq2.2
  refine r_putF C (pc := 14) (ci := 2) (k := 0) (L2 := [a + 1 + 2, 1, 1, 1, 1, 0, 0, 0]) rfl (by decide) inX2 tyX2_ok nmX2 (by decide) rfl rfl rfl rfl rfl q_162 ⟨by omega, by omega⟩ hs0_2 (Nat.le_of_ble_eq_true rfl) rfl dX2_init_14 ?_
  refine VV.gs (fun s3 es3 => ?_)
  have ks3 : ∀ b, b ≠ a → s3 b = s2 b := fun b hb => by rw [es3, s2_ne hb]
  have lowS_3 : ∀ b, b < a → s3 b = sh b := fun b hb => (ks3 b (by omega)).trans (lowS_2 b hb)
  have lowV_3 : ∀ b, b < a → w2 b = v b := lowV_2
  have PL1_3 : zPL G s3 (a + 3) (a + 1) 12 := zPL_up PL1_2 (by omega) (fun b h1 h2 => ks3 b (by omega))
  have pl1_3 : zpl w2 (a + 1) 12 [] := pl1_2
  have hs0_3 : s3 a = (2, 8, pts [a + 1 + 2, 1, 1, 1, 1, 0, 0, 0]) := by rw [es3, s2_self]
  refine r_aload_n C (pc := 17) rfl rfl dX2_init_17 ?_
  refine r_new C (pc := 18) (ci := 4) (L := [1, 0]) rfl (by decide) inX4 tyX4_ok q_129 q_130 q_21 pt0_X4 (Nat.le_of_ble_eq_true rfl) (Nat.le_of_ble_eq_true rfl) dX2_init_18 ?_
  refine VV.gc (k := 3) (n := 16) rfl rfl ?_
  refine VV.gN (N1 := a + 4) rfl ?_
  refine VV.gs (fun s4 es4 => ?_)
  refine VV.gn (fun w4 ew4 => ?_)
  have ks4 : ∀ b, b ≠ a + 3 → s4 b = s3 b := fun b hb => by rw [es4, s2_ne hb]
  have kv4 : ∀ b, b ≠ a + 3 → w4 b = w2 b := fun b hb => by rw [ew4, z0_ne hb]
  have hs0_4 : s4 a = (2, 8, pts [a + 1 + 2, 1, 1, 1, 1, 0, 0, 0]) := (ks4 _ (by omega)).trans hs0_3
  have lowS_4 : ∀ b, b < a → s4 b = sh b := fun b hb => (ks4 b (by omega)).trans (lowS_3 b hb)
  have lowV_4 : ∀ b, b < a → w4 b = v b := fun b hb => (kv4 b (by omega)).trans (lowV_3 b hb)
  have PL1_4 : zPL G s4 (a + 4) (a + 1) 12 := zPL_up PL1_3 (by omega) (fun b h1 h2 => ks4 b (by omega))
  have pl1_4 : zpl w4 (a + 1) 12 [] := pl1_3.kept (kv4 _ (by omega)) (kv4 _ (by omega))
  have hs3_4 : s4 (a + 3) = (4, 2, pts [1, 0]) := by rw [es4, s2_self]
  refine r_dup C (pc := 21) rfl dX2_init_21 ?_
  refine r_callINM C (pc := 22) (st := [.ref (a + 3), .ref a]) (m_X4_init l G s4 w4 (a := a + 3) (by omega) hs3_4) kyX4_init q_131 rfl rfl (Nat.le_of_ble_eq_true rfl) ⟨Nat.le_of_ble_eq_true rfl, Nat.le_of_ble_eq_true rfl⟩ ⟨Nat.le_of_ble_eq_true rfl, Nat.le_of_ble_eq_true rfl⟩ dX2_init_22 (fun r5 s5 w5 N5 hp5 => ?_)
  obtain ⟨rfl, hN5, ks5, kv5, hq5⟩ := hp5
  obtain rfl : N5 = a + 5 := hN5
  refine VV.gc (k := 4) (n := 28) rfl rfl ?_
  refine VV.eq (st2 := [.ref (a + 3), .ref a]) rfl ?_
  have hs0_5 : s5 a = (2, 8, pts [a + 1 + 2, 1, 1, 1, 1, 0, 0, 0]) := (ks5 _ (by omega)).trans hs0_4
  have lowS_5 : ∀ b, b < a → s5 b = sh b := fun b hb => (ks5 b (by omega)).trans (lowS_4 b hb)
  have lowV_5 : ∀ b, b < a → w5 b = v b := fun b hb => (kv5 b (by omega)).trans (lowV_4 b hb)
  have PL1_5 : zPL G s5 (a + 5) (a + 1) 12 := zPL_up PL1_4 (by omega) (fun b h1 h2 => ks5 b (by omega))
  have pl1_5 : zpl w5 (a + 1) 12 [] := pl1_4.kept (kv5 _ (by omega)) (kv5 _ (by omega))
  have SP3_5 : zSP G s5 (a + 5) (a + 3) := hq5.1
  have sp3_5 : zsp w5 (a + 3) (fun _ => 0) 0 := hq5.2
  refine r_putF C (pc := 25) (ci := 2) (k := 1) (L2 := [a + 1 + 2, a + 3 + 2, 1, 1, 1, 0, 0, 0]) rfl (by decide) inX2 tyX2_ok nmX2 (by decide) rfl rfl rfl rfl rfl q_165 ⟨by omega, by omega⟩ hs0_5 (Nat.le_of_ble_eq_true rfl) rfl dX2_init_25 ?_
  refine VV.gs (fun s6 es6 => ?_)
  have ks6 : ∀ b, b ≠ a → s6 b = s5 b := fun b hb => by rw [es6, s2_ne hb]
  have lowS_6 : ∀ b, b < a → s6 b = sh b := fun b hb => (ks6 b (by omega)).trans (lowS_5 b hb)
  have lowV_6 : ∀ b, b < a → w5 b = v b := lowV_5
  have PL1_6 : zPL G s6 (a + 5) (a + 1) 12 := zPL_up PL1_5 (by omega) (fun b h1 h2 => ks6 b (by omega))
  have pl1_6 : zpl w5 (a + 1) 12 [] := pl1_5
  have SP3_6 : zSP G s6 (a + 5) (a + 3) := zSP_up SP3_5 (by omega) (fun b h1 h2 => ks6 b (by omega))
  have sp3_6 : zsp w5 (a + 3) (fun _ => 0) 0 := sp3_5
  have hs0_6 : s6 a = (2, 8, pts [a + 1 + 2, a + 3 + 2, 1, 1, 1, 0, 0, 0]) := by rw [es6, s2_self]
  refine r_aload_n C (pc := 28) rfl rfl dX2_init_28 ?_
  refine r_new C (pc := 29) (ci := 0) (L := [1, 1, 0]) rfl (by decide) inX0 tyX0_ok q_143 q_144 q_22 pt0_X0 (Nat.le_of_ble_eq_true rfl) (Nat.le_of_ble_eq_true rfl) dX2_init_29 ?_
  refine VV.gc (k := 5) (n := 31) rfl rfl ?_
  refine VV.gN (N1 := a + 6) rfl ?_
  refine VV.gs (fun s7 es7 => ?_)
  refine VV.gn (fun w7 ew7 => ?_)
  have ks7 : ∀ b, b ≠ a + 5 → s7 b = s6 b := fun b hb => by rw [es7, s2_ne hb]
  have kv7 : ∀ b, b ≠ a + 5 → w7 b = w5 b := fun b hb => by rw [ew7, z0_ne hb]
  have hs0_7 : s7 a = (2, 8, pts [a + 1 + 2, a + 3 + 2, 1, 1, 1, 0, 0, 0]) := (ks7 _ (by omega)).trans hs0_6
  have lowS_7 : ∀ b, b < a → s7 b = sh b := fun b hb => (ks7 b (by omega)).trans (lowS_6 b hb)
  have lowV_7 : ∀ b, b < a → w7 b = v b := fun b hb => (kv7 b (by omega)).trans (lowV_6 b hb)
  have PL1_7 : zPL G s7 (a + 6) (a + 1) 12 := zPL_up PL1_6 (by omega) (fun b h1 h2 => ks7 b (by omega))
  have pl1_7 : zpl w7 (a + 1) 12 [] := pl1_6.kept (kv7 _ (by omega)) (kv7 _ (by omega))
  have SP3_7 : zSP G s7 (a + 6) (a + 3) := zSP_up SP3_6 (by omega) (fun b h1 h2 => ks7 b (by omega))
  have sp3_7 : zsp w7 (a + 3) (fun _ => 0) 0 := sp3_6.kept (kv7 _ (by omega)) (kv7 _ (by omega))
  have hs5_7 : s7 (a + 5) = (0, 3, pts [1, 1, 0]) := by rw [es7, s2_self]
  refine r_dup C (pc := 32) rfl dX2_init_32 ?_
  refine r_callIM C (pc := 33) (st := [.ref (a + 5), .ref a]) (m_X0_init l G s7 w7 (a := a + 5) (by omega) hs5_7) kyX0_init q_145 rfl rfl (Nat.le_of_ble_eq_true rfl) ⟨Nat.le_of_ble_eq_true rfl, Nat.le_of_ble_eq_true rfl⟩ ⟨Nat.le_of_ble_eq_true rfl, Nat.le_of_ble_eq_true rfl⟩ dX2_init_33 (fun r8 s8 w8 N8 hp8 => ?_)
  obtain ⟨rfl, hN8, ks8, kv8, hq8⟩ := hp8
  obtain rfl : N8 = a + 8 := hN8
  refine VV.gc (k := 7) (n := 55) rfl rfl ?_
  refine VV.eq (st2 := [.ref (a + 5), .ref a]) rfl ?_
  have hs0_8 : s8 a = (2, 8, pts [a + 1 + 2, a + 3 + 2, 1, 1, 1, 0, 0, 0]) := (ks8 _ (by omega)).trans hs0_7
  have lowS_8 : ∀ b, b < a → s8 b = sh b := fun b hb => (ks8 b (by omega)).trans (lowS_7 b hb)
  have lowV_8 : ∀ b, b < a → w8 b = v b := fun b hb => (kv8 b (by omega)).trans (lowV_7 b hb)
  have PL1_8 : zPL G s8 (a + 8) (a + 1) 12 := zPL_up PL1_7 (by omega) (fun b h1 h2 => ks8 b (by omega))
  have pl1_8 : zpl w8 (a + 1) 12 [] := pl1_7.kept (kv8 _ (by omega)) (kv8 _ (by omega))
  have SP3_8 : zSP G s8 (a + 8) (a + 3) := zSP_up SP3_7 (by omega) (fun b h1 h2 => ks8 b (by omega))
  have sp3_8 : zsp w8 (a + 3) (fun _ => 0) 0 := sp3_7.kept (kv8 _ (by omega)) (kv8 _ (by omega))
  have FI5_8 : zFI G s8 (a + 8) (a + 5) := hq8.1
  have fi5_8 : ∀ V, zfi w8 (a + 5) V (fun _ => none) := hq8.2
  refine r_putF C (pc := 36) (ci := 2) (k := 2) (L2 := [a + 1 + 2, a + 3 + 2, a + 5 + 2, 1, 1, 0, 0, 0]) rfl (by decide) inX2 tyX2_ok nmX2 (by decide) rfl rfl rfl rfl rfl q_166 ⟨by omega, by omega⟩ hs0_8 (Nat.le_of_ble_eq_true rfl) rfl dX2_init_36 ?_
  refine VV.gs (fun s9 es9 => ?_)
  have ks9 : ∀ b, b ≠ a → s9 b = s8 b := fun b hb => by rw [es9, s2_ne hb]
  have lowS_9 : ∀ b, b < a → s9 b = sh b := fun b hb => (ks9 b (by omega)).trans (lowS_8 b hb)
  have lowV_9 : ∀ b, b < a → w8 b = v b := lowV_8
  have PL1_9 : zPL G s9 (a + 8) (a + 1) 12 := zPL_up PL1_8 (by omega) (fun b h1 h2 => ks9 b (by omega))
  have pl1_9 : zpl w8 (a + 1) 12 [] := pl1_8
  have SP3_9 : zSP G s9 (a + 8) (a + 3) := zSP_up SP3_8 (by omega) (fun b h1 h2 => ks9 b (by omega))
  have sp3_9 : zsp w8 (a + 3) (fun _ => 0) 0 := sp3_8
  have FI5_9 : zFI G s9 (a + 8) (a + 5) := zFI_up FI5_8 (by omega) (fun b h1 h2 => ks9 b (by omega))
  have fi5_9 : ∀ V, zfi w8 (a + 5) V (fun _ => none) := fi5_8
  have hs0_9 : s9 a = (2, 8, pts [a + 1 + 2, a + 3 + 2, a + 5 + 2, 1, 1, 0, 0, 0]) := by rw [es9, s2_self]
  refine r_aload_n C (pc := 39) rfl rfl dX2_init_39 ?_
  refine r_new C (pc := 40) (ci := 1) (L := [1, 0]) rfl (by decide) inX1 tyX1_ok q_110 q_111 q_20 pt0_X1 (Nat.le_of_ble_eq_true rfl) (Nat.le_of_ble_eq_true rfl) dX2_init_40 ?_
  refine VV.gc (k := 8) (n := 57) rfl rfl ?_
  refine VV.gN (N1 := a + 9) rfl ?_
  refine VV.gs (fun s10 es10 => ?_)
  refine VV.gn (fun w10 ew10 => ?_)
  have ks10 : ∀ b, b ≠ a + 8 → s10 b = s9 b := fun b hb => by rw [es10, s2_ne hb]
  have kv10 : ∀ b, b ≠ a + 8 → w10 b = w8 b := fun b hb => by rw [ew10, z0_ne hb]
  have hs0_10 : s10 a = (2, 8, pts [a + 1 + 2, a + 3 + 2, a + 5 + 2, 1, 1, 0, 0, 0]) := (ks10 _ (by omega)).trans hs0_9
  have lowS_10 : ∀ b, b < a → s10 b = sh b := fun b hb => (ks10 b (by omega)).trans (lowS_9 b hb)
  have lowV_10 : ∀ b, b < a → w10 b = v b := fun b hb => (kv10 b (by omega)).trans (lowV_9 b hb)
  have PL1_10 : zPL G s10 (a + 9) (a + 1) 12 := zPL_up PL1_9 (by omega) (fun b h1 h2 => ks10 b (by omega))
  have pl1_10 : zpl w10 (a + 1) 12 [] := pl1_9.kept (kv10 _ (by omega)) (kv10 _ (by omega))
  have SP3_10 : zSP G s10 (a + 9) (a + 3) := zSP_up SP3_9 (by omega) (fun b h1 h2 => ks10 b (by omega))
  have sp3_10 : zsp w10 (a + 3) (fun _ => 0) 0 := sp3_9.kept (kv10 _ (by omega)) (kv10 _ (by omega))
  have FI5_10 : zFI G s10 (a + 9) (a + 5) := zFI_up FI5_9 (by omega) (fun b h1 h2 => ks10 b (by omega))
  have fi5_10 : ∀ V, zfi w10 (a + 5) V (fun _ => none) := fun V => (fi5_9 V).kept (kv10 _ (by omega)) (kv10 _ (by omega)) (kv10 _ (by omega))
  have hs8_10 : s10 (a + 8) = (1, 2, pts [1, 0]) := by rw [es10, s2_self]
  refine r_dup C (pc := 43) rfl dX2_init_43 ?_
  refine r_bipush C (pc := 44) (x := (nI 20)) (by decide) dX2_init_44 ?_
  refine r_callIM C (pc := 46) (st := [.ref (a + 8), .ref a]) (m_X1_init l G s10 w10 (a := a + 8) (room := 20) (by omega) hs8_10 (by decide)) kyX1_init q_112 rfl rfl (Nat.le_of_ble_eq_true rfl) ⟨Nat.le_of_ble_eq_true rfl, Nat.le_of_ble_eq_true rfl⟩ ⟨Nat.le_of_ble_eq_true rfl, Nat.le_of_ble_eq_true rfl⟩ dX2_init_46 (fun r11 s11 w11 N11 hp11 => ?_)
  obtain ⟨rfl, hN11, ks11, kv11, hq11⟩ := hp11
  obtain rfl : N11 = a + 10 := hN11
  refine VV.gc (k := 9) (n := 77) rfl rfl ?_
  refine VV.eq (st2 := [.ref (a + 8), .ref a]) rfl ?_
  have hs0_11 : s11 a = (2, 8, pts [a + 1 + 2, a + 3 + 2, a + 5 + 2, 1, 1, 0, 0, 0]) := (ks11 _ (by omega)).trans hs0_10
  have lowS_11 : ∀ b, b < a → s11 b = sh b := fun b hb => (ks11 b (by omega)).trans (lowS_10 b hb)
  have lowV_11 : ∀ b, b < a → w11 b = v b := fun b hb => (kv11 b (by omega)).trans (lowV_10 b hb)
  have PL1_11 : zPL G s11 (a + 10) (a + 1) 12 := zPL_up PL1_10 (by omega) (fun b h1 h2 => ks11 b (by omega))
  have pl1_11 : zpl w11 (a + 1) 12 [] := pl1_10.kept (kv11 _ (by omega)) (kv11 _ (by omega))
  have SP3_11 : zSP G s11 (a + 10) (a + 3) := zSP_up SP3_10 (by omega) (fun b h1 h2 => ks11 b (by omega))
  have sp3_11 : zsp w11 (a + 3) (fun _ => 0) 0 := sp3_10.kept (kv11 _ (by omega)) (kv11 _ (by omega))
  have FI5_11 : zFI G s11 (a + 10) (a + 5) := zFI_up FI5_10 (by omega) (fun b h1 h2 => ks11 b (by omega))
  have fi5_11 : ∀ V, zfi w11 (a + 5) V (fun _ => none) := fun V => (fi5_10 V).kept (kv11 _ (by omega)) (kv11 _ (by omega)) (kv11 _ (by omega))
  have PL8_11 : zPL G s11 (a + 10) (a + 8) 20 := hq11.1
  have pl8_11 : zpl w11 (a + 8) 20 [] := hq11.2
  refine r_putF C (pc := 49) (ci := 2) (k := 3) (L2 := [a + 1 + 2, a + 3 + 2, a + 5 + 2, a + 8 + 2, 1, 0, 0, 0]) rfl (by decide) inX2 tyX2_ok nmX2 (by decide) rfl rfl rfl rfl rfl q_169 ⟨by omega, by omega⟩ hs0_11 (Nat.le_of_ble_eq_true rfl) rfl dX2_init_49 ?_
  refine VV.gs (fun s12 es12 => ?_)
  have ks12 : ∀ b, b ≠ a → s12 b = s11 b := fun b hb => by rw [es12, s2_ne hb]
  have lowS_12 : ∀ b, b < a → s12 b = sh b := fun b hb => (ks12 b (by omega)).trans (lowS_11 b hb)
  have lowV_12 : ∀ b, b < a → w11 b = v b := lowV_11
  have PL1_12 : zPL G s12 (a + 10) (a + 1) 12 := zPL_up PL1_11 (by omega) (fun b h1 h2 => ks12 b (by omega))
  have pl1_12 : zpl w11 (a + 1) 12 [] := pl1_11
  have SP3_12 : zSP G s12 (a + 10) (a + 3) := zSP_up SP3_11 (by omega) (fun b h1 h2 => ks12 b (by omega))
  have sp3_12 : zsp w11 (a + 3) (fun _ => 0) 0 := sp3_11
  have FI5_12 : zFI G s12 (a + 10) (a + 5) := zFI_up FI5_11 (by omega) (fun b h1 h2 => ks12 b (by omega))
  have fi5_12 : ∀ V, zfi w11 (a + 5) V (fun _ => none) := fi5_11
  have PL8_12 : zPL G s12 (a + 10) (a + 8) 20 := zPL_up PL8_11 (by omega) (fun b h1 h2 => ks12 b (by omega))
  have pl8_12 : zpl w11 (a + 8) 20 [] := pl8_11
  have hs0_12 : s12 a = (2, 8, pts [a + 1 + 2, a + 3 + 2, a + 5 + 2, a + 8 + 2, 1, 0, 0, 0]) := by rw [es12, s2_self]
  refine r_aload_n C (pc := 52) rfl rfl dX2_init_52 ?_
  refine r_new C (pc := 53) (ci := 0) (L := [1, 1, 0]) rfl (by decide) inX0 tyX0_ok q_143 q_144 q_22 pt0_X0 (Nat.le_of_ble_eq_true rfl) (Nat.le_of_ble_eq_true rfl) dX2_init_53 ?_
  refine VV.gc (k := 10) (n := 80) rfl rfl ?_
  refine VV.gN (N1 := a + 11) rfl ?_
  refine VV.gs (fun s13 es13 => ?_)
  refine VV.gn (fun w13 ew13 => ?_)
  have ks13 : ∀ b, b ≠ a + 10 → s13 b = s12 b := fun b hb => by rw [es13, s2_ne hb]
  have kv13 : ∀ b, b ≠ a + 10 → w13 b = w11 b := fun b hb => by rw [ew13, z0_ne hb]
  have hs0_13 : s13 a = (2, 8, pts [a + 1 + 2, a + 3 + 2, a + 5 + 2, a + 8 + 2, 1, 0, 0, 0]) := (ks13 _ (by omega)).trans hs0_12
  have lowS_13 : ∀ b, b < a → s13 b = sh b := fun b hb => (ks13 b (by omega)).trans (lowS_12 b hb)
  have lowV_13 : ∀ b, b < a → w13 b = v b := fun b hb => (kv13 b (by omega)).trans (lowV_12 b hb)
  have PL1_13 : zPL G s13 (a + 11) (a + 1) 12 := zPL_up PL1_12 (by omega) (fun b h1 h2 => ks13 b (by omega))
  have pl1_13 : zpl w13 (a + 1) 12 [] := pl1_12.kept (kv13 _ (by omega)) (kv13 _ (by omega))
  have SP3_13 : zSP G s13 (a + 11) (a + 3) := zSP_up SP3_12 (by omega) (fun b h1 h2 => ks13 b (by omega))
  have sp3_13 : zsp w13 (a + 3) (fun _ => 0) 0 := sp3_12.kept (kv13 _ (by omega)) (kv13 _ (by omega))
  have FI5_13 : zFI G s13 (a + 11) (a + 5) := zFI_up FI5_12 (by omega) (fun b h1 h2 => ks13 b (by omega))
  have fi5_13 : ∀ V, zfi w13 (a + 5) V (fun _ => none) := fun V => (fi5_12 V).kept (kv13 _ (by omega)) (kv13 _ (by omega)) (kv13 _ (by omega))
  have PL8_13 : zPL G s13 (a + 11) (a + 8) 20 := zPL_up PL8_12 (by omega) (fun b h1 h2 => ks13 b (by omega))
  have pl8_13 : zpl w13 (a + 8) 20 [] := pl8_12.kept (kv13 _ (by omega)) (kv13 _ (by omega))
  have hs10_13 : s13 (a + 10) = (0, 3, pts [1, 1, 0]) := by rw [es13, s2_self]
  refine r_dup C (pc := 56) rfl dX2_init_56 ?_
  refine r_callIM C (pc := 57) (st := [.ref (a + 10), .ref a]) (m_X0_init l G s13 w13 (a := a + 10) (by omega) hs10_13) kyX0_init q_145 rfl rfl (Nat.le_of_ble_eq_true rfl) ⟨Nat.le_of_ble_eq_true rfl, Nat.le_of_ble_eq_true rfl⟩ ⟨Nat.le_of_ble_eq_true rfl, Nat.le_of_ble_eq_true rfl⟩ dX2_init_57 (fun r14 s14 w14 N14 hp14 => ?_)
  obtain ⟨rfl, hN14, ks14, kv14, hq14⟩ := hp14
  obtain rfl : N14 = a + 13 := hN14
  refine VV.gc (k := 12) (n := 104) rfl rfl ?_
  refine VV.eq (st2 := [.ref (a + 10), .ref a]) rfl ?_
  have hs0_14 : s14 a = (2, 8, pts [a + 1 + 2, a + 3 + 2, a + 5 + 2, a + 8 + 2, 1, 0, 0, 0]) := (ks14 _ (by omega)).trans hs0_13
  have lowS_14 : ∀ b, b < a → s14 b = sh b := fun b hb => (ks14 b (by omega)).trans (lowS_13 b hb)
  have lowV_14 : ∀ b, b < a → w14 b = v b := fun b hb => (kv14 b (by omega)).trans (lowV_13 b hb)
  have PL1_14 : zPL G s14 (a + 13) (a + 1) 12 := zPL_up PL1_13 (by omega) (fun b h1 h2 => ks14 b (by omega))
  have pl1_14 : zpl w14 (a + 1) 12 [] := pl1_13.kept (kv14 _ (by omega)) (kv14 _ (by omega))
  have SP3_14 : zSP G s14 (a + 13) (a + 3) := zSP_up SP3_13 (by omega) (fun b h1 h2 => ks14 b (by omega))
  have sp3_14 : zsp w14 (a + 3) (fun _ => 0) 0 := sp3_13.kept (kv14 _ (by omega)) (kv14 _ (by omega))
  have FI5_14 : zFI G s14 (a + 13) (a + 5) := zFI_up FI5_13 (by omega) (fun b h1 h2 => ks14 b (by omega))
  have fi5_14 : ∀ V, zfi w14 (a + 5) V (fun _ => none) := fun V => (fi5_13 V).kept (kv14 _ (by omega)) (kv14 _ (by omega)) (kv14 _ (by omega))
  have PL8_14 : zPL G s14 (a + 13) (a + 8) 20 := zPL_up PL8_13 (by omega) (fun b h1 h2 => ks14 b (by omega))
  have pl8_14 : zpl w14 (a + 8) 20 [] := pl8_13.kept (kv14 _ (by omega)) (kv14 _ (by omega))
  have FI10_14 : zFI G s14 (a + 13) (a + 10) := hq14.1
  have fi10_14 : ∀ V, zfi w14 (a + 10) V (fun _ => none) := hq14.2
  refine r_putF C (pc := 60) (ci := 2) (k := 4) (L2 := [a + 1 + 2, a + 3 + 2, a + 5 + 2, a + 8 + 2, a + 10 + 2, 0, 0, 0]) rfl (by decide) inX2 tyX2_ok nmX2 (by decide) rfl rfl rfl rfl rfl q_171 ⟨by omega, by omega⟩ hs0_14 (Nat.le_of_ble_eq_true rfl) rfl dX2_init_60 ?_
  refine VV.gs (fun s15 es15 => ?_)
  have ks15 : ∀ b, b ≠ a → s15 b = s14 b := fun b hb => by rw [es15, s2_ne hb]
  have lowS_15 : ∀ b, b < a → s15 b = sh b := fun b hb => (ks15 b (by omega)).trans (lowS_14 b hb)
  have lowV_15 : ∀ b, b < a → w14 b = v b := lowV_14
  have PL1_15 : zPL G s15 (a + 13) (a + 1) 12 := zPL_up PL1_14 (by omega) (fun b h1 h2 => ks15 b (by omega))
  have pl1_15 : zpl w14 (a + 1) 12 [] := pl1_14
  have SP3_15 : zSP G s15 (a + 13) (a + 3) := zSP_up SP3_14 (by omega) (fun b h1 h2 => ks15 b (by omega))
  have sp3_15 : zsp w14 (a + 3) (fun _ => 0) 0 := sp3_14
  have FI5_15 : zFI G s15 (a + 13) (a + 5) := zFI_up FI5_14 (by omega) (fun b h1 h2 => ks15 b (by omega))
  have fi5_15 : ∀ V, zfi w14 (a + 5) V (fun _ => none) := fi5_14
  have PL8_15 : zPL G s15 (a + 13) (a + 8) 20 := zPL_up PL8_14 (by omega) (fun b h1 h2 => ks15 b (by omega))
  have pl8_15 : zpl w14 (a + 8) 20 [] := pl8_14
  have FI10_15 : zFI G s15 (a + 13) (a + 10) := zFI_up FI10_14 (by omega) (fun b h1 h2 => ks15 b (by omega))
  have fi10_15 : ∀ V, zfi w14 (a + 10) V (fun _ => none) := fi10_14
  have hs0_15 : s15 a = (2, 8, pts [a + 1 + 2, a + 3 + 2, a + 5 + 2, a + 8 + 2, a + 10 + 2, 0, 0, 0]) := by rw [es15, s2_self]
  refine r_aload_n C (pc := 63) rfl rfl dX2_init_63 ?_
  refine r_iconst C (pc := 64) (x := (nI 0)) (by decide) dX2_init_64 ?_
  refine r_put C (pc := 65) (ci := 2) (k := 5) rfl (by decide) inX2 tyX2_ok nmX2 (by decide) rfl pfI rfl q_174 ⟨by omega, by omega⟩ hs0_15 dX2_init_65 ?_
  refine VV.gn (fun w16 ew16 => ?_)
  have kv16 : ∀ b, b ≠ a → w16 b = w14 b := fun b hb => by rw [ew16, z2_addr hb]
  have lowS_16 : ∀ b, b < a → s15 b = sh b := lowS_15
  have lowV_16 : ∀ b, b < a → w16 b = v b := fun b hb => (kv16 b (by omega)).trans (lowV_15 b hb)
  have PL1_16 : zPL G s15 (a + 13) (a + 1) 12 := zPL_up PL1_15 (by omega) (fun b h1 h2 => rfl)
  have pl1_16 : zpl w16 (a + 1) 12 [] := pl1_15.kept (kv16 _ (by omega)) (kv16 _ (by omega))
  have SP3_16 : zSP G s15 (a + 13) (a + 3) := zSP_up SP3_15 (by omega) (fun b h1 h2 => rfl)
  have sp3_16 : zsp w16 (a + 3) (fun _ => 0) 0 := sp3_15.kept (kv16 _ (by omega)) (kv16 _ (by omega))
  have FI5_16 : zFI G s15 (a + 13) (a + 5) := zFI_up FI5_15 (by omega) (fun b h1 h2 => rfl)
  have fi5_16 : ∀ V, zfi w16 (a + 5) V (fun _ => none) := fun V => (fi5_15 V).kept (kv16 _ (by omega)) (kv16 _ (by omega)) (kv16 _ (by omega))
  have PL8_16 : zPL G s15 (a + 13) (a + 8) 20 := zPL_up PL8_15 (by omega) (fun b h1 h2 => rfl)
  have pl8_16 : zpl w16 (a + 8) 20 [] := pl8_15.kept (kv16 _ (by omega)) (kv16 _ (by omega))
  have FI10_16 : zFI G s15 (a + 13) (a + 10) := zFI_up FI10_15 (by omega) (fun b h1 h2 => rfl)
  have fi10_16 : ∀ V, zfi w16 (a + 10) V (fun _ => none) := fun V => (fi10_15 V).kept (kv16 _ (by omega)) (kv16 _ (by omega)) (kv16 _ (by omega))
  have fld5_16 : w16 a 5 = (nI 0) := by rw [ew16, z2_self]
  refine r_aload_n C (pc := 68) rfl rfl dX2_init_68 ?_
  refine r_iconst C (pc := 69) (x := (nI 0)) (by decide) dX2_init_69 ?_
  refine r_put C (pc := 70) (ci := 2) (k := 6) rfl (by decide) inX2 tyX2_ok nmX2 (by decide) rfl pfI rfl q_176 ⟨by omega, by omega⟩ hs0_15 dX2_init_70 ?_
  refine VV.gn (fun w17 ew17 => ?_)
  have kv17 : ∀ b, b ≠ a → w17 b = w16 b := fun b hb => by rw [ew17, z2_addr hb]
  have lowS_17 : ∀ b, b < a → s15 b = sh b := lowS_16
  have lowV_17 : ∀ b, b < a → w17 b = v b := fun b hb => (kv17 b (by omega)).trans (lowV_16 b hb)
  have PL1_17 : zPL G s15 (a + 13) (a + 1) 12 := zPL_up PL1_16 (by omega) (fun b h1 h2 => rfl)
  have pl1_17 : zpl w17 (a + 1) 12 [] := pl1_16.kept (kv17 _ (by omega)) (kv17 _ (by omega))
  have SP3_17 : zSP G s15 (a + 13) (a + 3) := zSP_up SP3_16 (by omega) (fun b h1 h2 => rfl)
  have sp3_17 : zsp w17 (a + 3) (fun _ => 0) 0 := sp3_16.kept (kv17 _ (by omega)) (kv17 _ (by omega))
  have FI5_17 : zFI G s15 (a + 13) (a + 5) := zFI_up FI5_16 (by omega) (fun b h1 h2 => rfl)
  have fi5_17 : ∀ V, zfi w17 (a + 5) V (fun _ => none) := fun V => (fi5_16 V).kept (kv17 _ (by omega)) (kv17 _ (by omega)) (kv17 _ (by omega))
  have PL8_17 : zPL G s15 (a + 13) (a + 8) 20 := zPL_up PL8_16 (by omega) (fun b h1 h2 => rfl)
  have pl8_17 : zpl w17 (a + 8) 20 [] := pl8_16.kept (kv17 _ (by omega)) (kv17 _ (by omega))
  have FI10_17 : zFI G s15 (a + 13) (a + 10) := zFI_up FI10_16 (by omega) (fun b h1 h2 => rfl)
  have fi10_17 : ∀ V, zfi w17 (a + 10) V (fun _ => none) := fun V => (fi10_16 V).kept (kv17 _ (by omega)) (kv17 _ (by omega)) (kv17 _ (by omega))
  have fld5_17 : w17 a 5 = (nI 0) := by rw [ew17, z2_ne (by omega)]; exact fld5_16
  have fld6_17 : w17 a 6 = (nI 0) := by rw [ew17, z2_self]
  refine r_aload_n C (pc := 73) rfl rfl dX2_init_73 ?_
  refine r_iconst C (pc := 74) (x := (nI 0)) (by decide) dX2_init_74 ?_
  refine r_put C (pc := 75) (ci := 2) (k := 7) rfl (by decide) inX2 tyX2_ok nmX2 (by decide) rfl pfI rfl q_178 ⟨by omega, by omega⟩ hs0_15 dX2_init_75 ?_
  refine VV.gn (fun w18 ew18 => ?_)
  have kv18 : ∀ b, b ≠ a → w18 b = w17 b := fun b hb => by rw [ew18, z2_addr hb]
  have lowS_18 : ∀ b, b < a → s15 b = sh b := lowS_17
  have lowV_18 : ∀ b, b < a → w18 b = v b := fun b hb => (kv18 b (by omega)).trans (lowV_17 b hb)
  have PL1_18 : zPL G s15 (a + 13) (a + 1) 12 := zPL_up PL1_17 (by omega) (fun b h1 h2 => rfl)
  have pl1_18 : zpl w18 (a + 1) 12 [] := pl1_17.kept (kv18 _ (by omega)) (kv18 _ (by omega))
  have SP3_18 : zSP G s15 (a + 13) (a + 3) := zSP_up SP3_17 (by omega) (fun b h1 h2 => rfl)
  have sp3_18 : zsp w18 (a + 3) (fun _ => 0) 0 := sp3_17.kept (kv18 _ (by omega)) (kv18 _ (by omega))
  have FI5_18 : zFI G s15 (a + 13) (a + 5) := zFI_up FI5_17 (by omega) (fun b h1 h2 => rfl)
  have fi5_18 : ∀ V, zfi w18 (a + 5) V (fun _ => none) := fun V => (fi5_17 V).kept (kv18 _ (by omega)) (kv18 _ (by omega)) (kv18 _ (by omega))
  have PL8_18 : zPL G s15 (a + 13) (a + 8) 20 := zPL_up PL8_17 (by omega) (fun b h1 h2 => rfl)
  have pl8_18 : zpl w18 (a + 8) 20 [] := pl8_17.kept (kv18 _ (by omega)) (kv18 _ (by omega))
  have FI10_18 : zFI G s15 (a + 13) (a + 10) := zFI_up FI10_17 (by omega) (fun b h1 h2 => rfl)
  have fi10_18 : ∀ V, zfi w18 (a + 10) V (fun _ => none) := fun V => (fi10_17 V).kept (kv18 _ (by omega)) (kv18 _ (by omega)) (kv18 _ (by omega))
  have fld5_18 : w18 a 5 = (nI 0) := by rw [ew18, z2_ne (by omega)]; exact fld5_17
  have fld6_18 : w18 a 6 = (nI 0) := by rw [ew18, z2_ne (by omega)]; exact fld6_17
  have fld7_18 : w18 a 7 = (nI 0) := by rw [ew18, z2_self]
  exact r_vret C (pc := 78) rfl dX2_init_78 ⟨rfl, rfl, lowS_18, lowV_18, ⟨ha, by omega, hs0_15, PL1_18, SP3_18, FI5_18, PL8_18, FI10_18⟩, fun V => ⟨fld5_18, fld6_18, fld7_18, pl1_18, sp3_18, fi5_18 V, pl8_18, fi10_18 V⟩⟩
