def fH (x i : Nat) : Nat → Nat := fun j => if i ≤ j ∧ j < 8 then 1 else x + 60 + 28 * j + 2
theorem fH_0 (x : Nat) : ∀ j, j < 8 → fH x 0 j = 1 := fun j hj => if_pos ⟨Nat.zero_le _, hj⟩
theorem fH_s {x i : Nat} (h : i < 8) : upn (fH x i) i (x + 60 + 28 * i + 2) = fH x (i + 1) := by
  funext j
  unfold upn fH
  by_cases hj : j = i
  · rw [if_pos hj, if_neg (by omega), hj]
  · rw [if_neg hj]
    by_cases h2 : i ≤ j ∧ j < 8
    · rw [if_pos h2, if_pos (by omega)]
    · rw [if_neg h2, if_neg (by omega)]
theorem fH_8 (x : Nat) : fH x 8 = hpt x (fun i => i) := by
  funext j
  exact if_neg (by omega)
theorem zwf_z : zwf (upd (upd (upd (upd (upd (upd (fun _ => 0) 3 (nI 2)) 6 (nI 1)) 11 (nI 1)) 12 (nI 5)) 13 (nI 2)) 14 (nI 1)) Mz := by
  have h1 : ∀ r, r < 5 → (upd (upd (upd (upd (upd (upd (fun _ => 0) 3 (nI 2)) 6 (nI 1)) 11 (nI 1)) 12 (nI 5)) 13 (nI 2)) 14 (nI 1)) (lb r) = nI 0 := by decide
  exact ⟨by decide, fun r hr => ⟨h1 r hr, Nat.zero_le _, fun k hk => absurd hk (Nat.not_lt_zero k)⟩, by decide, by decide, by decide⟩
set_option maxRecDepth 100000 in
set_option maxHeartbeats 4000000 in
theorem m_X6_overhead (l : Launch) (G : zG) (sh : zH) (v : zV) (N : Nat) {x : Nat} {q : Nat → Nat} {M : zMS} {h : zHs} {T : Nat} (hX : zXR G sh N x q) (hv : zt v (x + 1) M) (hh : zxh v x q h) (hI : zI T (M, h)) (hT : T + 1000 < 2 ^ 30) : zm l G yX6_overhead cX6_overhead 2 (some .float) 1 [.ref x] sh v N (fun r v1 => r = some (.float (ovF M)) ∧ zt v1 (x + 1) M ∧ zxh v1 x q h ∧ zfr v v1 x 340) := by
  refine zM.of (by decide) rfl (Nat.le_of_ble_eq_true rfl) ?_
  intro p e s m args below meth c C
  obtain ⟨xB, xN, hs0, hs57, hs58, hs59, hnow, htri, hhis, himg, hpq⟩ := id hX
  have hd0 : G.2.2.1 ≤ x ∧ x < N := ⟨xB, by omega⟩
  have hd57 : G.2.2.1 ≤ x + 57 ∧ x + 57 < N := ⟨by omega, by omega⟩
  have hd58 : G.2.2.1 ≤ x + 58 ∧ x + 58 < N := ⟨by omega, by omega⟩
  have hd59 : G.2.2.1 ≤ x + 59 ∧ x + 59 < N := ⟨by omega, by omega⟩
  obtain ⟨ntB, ntN, hn0, ntse, hn5, ntrc, hn19, ntsp, ntst⟩ := id hnow
  have hnd0 : G.2.2.1 ≤ x + 1 ∧ x + 1 < N := ⟨by omega, by omega⟩
  have hnd1 : G.2.2.1 ≤ x + 1 + 1 ∧ x + 1 + 1 < N := ⟨by omega, by omega⟩
  have hnd5 : G.2.2.1 ≤ x + 1 + 5 ∧ x + 1 + 5 < N := ⟨by omega, by omega⟩
  have hnd6 : G.2.2.1 ≤ x + 1 + 6 ∧ x + 1 + 6 < N := ⟨by omega, by omega⟩
  have hnd19 : G.2.2.1 ≤ x + 1 + 19 ∧ x + 1 + 19 < N := ⟨by omega, by omega⟩
  have hnd20 : G.2.2.1 ≤ x + 1 + 20 ∧ x + 1 + 20 < N := ⟨by omega, by omega⟩
  have hnd61 : G.2.2.1 ≤ x + 1 + 6 + 1 ∧ x + 1 + 6 + 1 < N := ⟨by omega, by omega⟩
  have hnd65 : G.2.2.1 ≤ x + 1 + 6 + 5 ∧ x + 1 + 6 + 5 < N := ⟨by omega, by omega⟩
  have hnd610 : G.2.2.1 ≤ x + 1 + 6 + 10 ∧ x + 1 + 6 + 10 < N := ⟨by omega, by omega⟩
  have hnd68 : G.2.2.1 ≤ x + 1 + 6 + 8 ∧ x + 1 + 6 + 8 < N := ⟨by omega, by omega⟩
  have hn1 := ntse.2.2.1
  have hn6 := ntrc.2.2.1
  have hn20 := ntsp.2.2.1
  have hn61 := ntrc.2.2.2.1.2.2.2.1
  have hn65 := ntrc.2.2.2.2.2.1.2.2.1
  have hn68 := ntrc.2.2.2.2.2.2.1.2.2.2.1
  have hn610 := ntrc.2.2.2.2.2.2.2.2.2.1
  have hnd11 : G.2.2.1 ≤ x + 1 + 1 + 1 ∧ x + 1 + 1 + 1 < N := ⟨by omega, by omega⟩
  have hnd12 : G.2.2.1 ≤ x + 1 + 1 + 2 ∧ x + 1 + 1 + 2 < N := ⟨by omega, by omega⟩
  have hnd13 : G.2.2.1 ≤ x + 1 + 1 + 3 ∧ x + 1 + 1 + 3 < N := ⟨by omega, by omega⟩
  have hnd652 : G.2.2.1 ≤ x + 1 + 6 + 5 + 2 ∧ x + 1 + 6 + 5 + 2 < N := ⟨by omega, by omega⟩
  have hnd6102 : G.2.2.1 ≤ x + 1 + 6 + 10 + 2 ∧ x + 1 + 6 + 10 + 2 < N := ⟨by omega, by omega⟩
  have hn11 := ntse.2.2.2.1
  have hn12 := ntse.2.2.2.2.1
  have hn13 := ntse.2.2.2.2.2
  have hn652 := ntrc.2.2.2.2.2.1.2.2.2.2
  have hn6102 := ntrc.2.2.2.2.2.2.2.2.2.2.2
  obtain ⟨ltB, ltN, hl0, ltse, hl5, ltrc, hl19, ltsp, ltst⟩ := id htri
  have hld0 : G.2.2.1 ≤ x + 29 ∧ x + 29 < N := ⟨by omega, by omega⟩
  have hld1 : G.2.2.1 ≤ x + 29 + 1 ∧ x + 29 + 1 < N := ⟨by omega, by omega⟩
  have hld5 : G.2.2.1 ≤ x + 29 + 5 ∧ x + 29 + 5 < N := ⟨by omega, by omega⟩
  have hld6 : G.2.2.1 ≤ x + 29 + 6 ∧ x + 29 + 6 < N := ⟨by omega, by omega⟩
  have hld19 : G.2.2.1 ≤ x + 29 + 19 ∧ x + 29 + 19 < N := ⟨by omega, by omega⟩
  have hld20 : G.2.2.1 ≤ x + 29 + 20 ∧ x + 29 + 20 < N := ⟨by omega, by omega⟩
  have hld61 : G.2.2.1 ≤ x + 29 + 6 + 1 ∧ x + 29 + 6 + 1 < N := ⟨by omega, by omega⟩
  have hld65 : G.2.2.1 ≤ x + 29 + 6 + 5 ∧ x + 29 + 6 + 5 < N := ⟨by omega, by omega⟩
  have hld610 : G.2.2.1 ≤ x + 29 + 6 + 10 ∧ x + 29 + 6 + 10 < N := ⟨by omega, by omega⟩
  have hld68 : G.2.2.1 ≤ x + 29 + 6 + 8 ∧ x + 29 + 6 + 8 < N := ⟨by omega, by omega⟩
  have hl1 := ltse.2.2.1
  have hl6 := ltrc.2.2.1
  have hl20 := ltsp.2.2.1
  have hl61 := ltrc.2.2.2.1.2.2.2.1
  have hl65 := ltrc.2.2.2.2.2.1.2.2.1
  have hl68 := ltrc.2.2.2.2.2.2.1.2.2.2.1
  have hl610 := ltrc.2.2.2.2.2.2.2.2.2.1
  have hld11 : G.2.2.1 ≤ x + 29 + 1 + 1 ∧ x + 29 + 1 + 1 < N := ⟨by omega, by omega⟩
  have hld12 : G.2.2.1 ≤ x + 29 + 1 + 2 ∧ x + 29 + 1 + 2 < N := ⟨by omega, by omega⟩
  have hld13 : G.2.2.1 ≤ x + 29 + 1 + 3 ∧ x + 29 + 1 + 3 < N := ⟨by omega, by omega⟩
  have hld652 : G.2.2.1 ≤ x + 29 + 6 + 5 + 2 ∧ x + 29 + 6 + 5 + 2 < N := ⟨by omega, by omega⟩
  have hld6102 : G.2.2.1 ≤ x + 29 + 6 + 10 + 2 ∧ x + 29 + 6 + 10 + 2 < N := ⟨by omega, by omega⟩
  have hl11 := ltse.2.2.2.1
  have hl12 := ltse.2.2.2.2.1
  have hl13 := ltse.2.2.2.2.2
  have hl652 := ltrc.2.2.2.2.2.1.2.2.2.2
  have hl6102 := ltrc.2.2.2.2.2.2.2.2.2.2.2
  have hl12 : (M.2.1 3).length ≤ 12 := hv.2.2.2.2.2.2.2.2.1.2.1
  have hT31 : M.1 31 ≤ T := hI.1.2.1.2.1
  refine r_aload_n C (pc := 0) rfl rfl dX6_overhead_0 ?_
  refine r_get C (pc := 1) (ci := 6) (k := 0) (w := .ref (x + 1)) rfl (by decide) inX6 (by decide) q_231 (Or.inl hd0) hs0 (zl_ref _ _) dX6_overhead_1 ?_
  refine r_getN C (pc := 4) (ci := 5) (k := 2) (w := .ref (x + 1 + 6)) rfl (by decide) inX5 (by decide) q_204 (Or.inl hnd0) hn0 (zl_ref _ _) dX6_overhead_4 ?_
  refine r_getN C (pc := 7) (ci := 2) (k := 0) (w := .ref (x + 1 + 6 + 1)) rfl (by decide) inX2 (by decide) q_164 (Or.inl hnd6) hn6 (zl_ref _ _) dX6_overhead_7 ?_
  refine r_getN C (pc := 10) (ci := 1) (k := 1) (w := .int (nI ((M.2.1 3).length))) rfl (by decide) inX1 (by decide) q_123 (Or.inl hnd61) hn61 (zl_i (hv.2.2.2.2.2.2.2.2.1.1)) dX6_overhead_10 ?_
  refine r_istore_n C (pc := 13) (lv2 := [some (.ref x), some (.int (nI ((M.2.1 3).length)))]) rfl (Nat.le_of_ble_eq_true rfl) rfl rfl dX6_overhead_13 ?_
  refine r_iload_n C (pc := 14) rfl rfl dX6_overhead_14 ?_
  refine n_if_ne C (pc := 15) (tgt := 22) (by omega) dX6_overhead_15 (by decide) (fun c_15 => ?_) (fun c_15 => ?_)
  · refine r_aload_n C (pc := 22) rfl rfl dX6_overhead_22 ?_
    refine r_get C (pc := 23) (ci := 6) (k := 0) (w := .ref (x + 1)) rfl (by decide) inX6 (by decide) q_231 (Or.inl hd0) hs0 (zl_ref _ _) dX6_overhead_23 ?_
    refine r_getN C (pc := 26) (ci := 5) (k := 2) (w := .ref (x + 1 + 6)) rfl (by decide) inX5 (by decide) q_204 (Or.inl hnd0) hn0 (zl_ref _ _) dX6_overhead_26 ?_
    refine r_getN C (pc := 29) (ci := 2) (k := 5) (w := .int (nI (M.1 31))) rfl (by decide) inX2 (by decide) q_175 (Or.inl hnd6) hn6 (zl_i (hv.2.2.2.2.2.1)) dX6_overhead_29 ?_
    refine r_i2f C (pc := 32) dX6_overhead_32 ?_
    refine r_iload_n C (pc := 33) rfl rfl dX6_overhead_33 ?_
    refine r_i2f C (pc := 34) dX6_overhead_34 ?_
    refine r_fdiv C (pc := 35) (ovN (by omega) c_15 hl12) dX6_overhead_35 ?_
    exact r_fret C (pc := 36) rfl dX6_overhead_36 ⟨rfl, rfl, (by rw [ovF, if_neg (by omega)]), hv, hh, zfr.rf⟩
  · refine r_fconst0 C (pc := 18) dX6_overhead_18 ?_
    refine r_goto C (pc := 19) (tgt := 36) dX6_overhead_19 (by decide) ?_
    exact r_fret C (pc := 36) rfl dX6_overhead_36 ⟨rfl, rfl, (by rw [ovF, if_pos c_15]), hv, hh, zfr.rf⟩
set_option maxRecDepth 100000 in
set_option maxHeartbeats 4000000 in
theorem m_X5_init (l : Launch) (G : zG) (sh : zH) (v : zV) {a : Nat} (ha : G.2.2.1 ≤ a) (hs : sh a = (5, 8, pts [1, 1, 1, 0, 0, 0, 1, 1])) : zMZ l G yX5_init cX5_init 2 none 3 27 183 [.ref a] sh v (a + 1) (fun r sh1 v1 N1 => r = none ∧ N1 = a + 28 ∧ (∀ i, i < a → sh1 i = sh i) ∧ (∀ i, i < a → v1 i = v i) ∧ zTR G sh1 N1 a ∧ zt v1 a M0) := by
  refine zMZ.of (by decide) rfl (Nat.le_of_ble_eq_true rfl) ?_
  intro p e s m args below meth c C hZ
  have lowS_0 : ∀ b, b < a → sh b = sh b := fun _ _ => rfl
  have lowV_0 : ∀ b, b < a → v b = v b := fun _ _ => rfl
  have hs0_0 := hs
  refine r_aload_n C (pc := 0) rfl rfl dX5_init_0 ?_
  refine r_objInit C (pc := 1) q_37 q_obji q_objc (Nat.le_of_ble_eq_true rfl) ⟨Nat.le_of_ble_eq_true rfl, Nat.le_of_ble_eq_true rfl⟩ dX5_init_1 ?_
  refine r_aload_n C (pc := 4) rfl rfl dX5_init_4 ?_
  refine r_new C (pc := 5) (ci := 3) (L := [1, 1, 1, 0, 0, 0, 0, 0, 0]) rfl (by decide) inX3 tyX3_ok q_38 q_39 q_16 pt0_X3 (Nat.le_of_ble_eq_true rfl) (Nat.le_of_ble_eq_true rfl) dX5_init_5 ?_
  refine VV.gc (k := 1) (n := 9) rfl rfl ?_
  refine VV.gN (N1 := a + 2) rfl ?_
  refine VV.gs (fun s1 es1 => ?_)
  refine VV.gn (fun w1 ew1 => ?_)
  have ks1 : ∀ b, b ≠ a + 1 → s1 b = sh b := fun b hb => by rw [es1, s2_ne hb]
  have kv1 : ∀ b, b ≠ a + 1 → w1 b = v b := fun b hb => by rw [ew1, z0_ne hb]
  have hs0_1 : s1 a = (5, 8, pts [1, 1, 1, 0, 0, 0, 1, 1]) := (ks1 _ (by omega)).trans hs0_0
  have lowS_1 : ∀ b, b < a → s1 b = sh b := fun b hb => (ks1 b (by omega)).trans (lowS_0 b hb)
  have lowV_1 : ∀ b, b < a → w1 b = v b := fun b hb => (kv1 b (by omega)).trans (lowV_0 b hb)
  have hs1_1 : s1 (a + 1) = (3, 9, pts [1, 1, 1, 0, 0, 0, 0, 0, 0]) := by rw [es1, s2_self]
  refine r_dup C (pc := 8) rfl dX5_init_8 ?_
  refine r_callIZ C hZ (pc := 9) (st := [.ref (a + 1), .ref a]) (m_X3_init l G s1 w1 (a := a + 1) (by omega) hs1_1) kyX3_init q_40 rfl rfl (Nat.le_of_ble_eq_true rfl) ⟨Nat.le_of_ble_eq_true rfl, Nat.le_of_ble_eq_true rfl⟩ ⟨Nat.le_of_ble_eq_true rfl, Nat.le_of_ble_eq_true rfl⟩ dX5_init_9 (fun r2 s2 w2 N2 hp2 => ?_)
  obtain ⟨rfl, hN2, ks2, kv2, hq2⟩ := hp2
  obtain rfl : N2 = a + 5 := hN2
  refine VV.gc (k := 4) (n := 32) rfl rfl ?_
  refine VV.eq (st2 := [.ref (a + 1), .ref a]) rfl ?_
  have hs0_2 : s2 a = (5, 8, pts [1, 1, 1, 0, 0, 0, 1, 1]) := (ks2 _ (by omega)).trans hs0_1
  have lowS_2 : ∀ b, b < a → s2 b = sh b := fun b hb => (ks2 b (by omega)).trans (lowS_1 b hb)
  have lowV_2 : ∀ b, b < a → w2 b = v b := fun b hb => (kv2 b (by omega)).trans (lowV_1 b hb)
  have SE1_2 : zSE G s2 (a + 5) (a + 1) := hq2.1
  have se1_2 : zse w2 (a + 1) M0.1 := hq2.2
  refine r_putF C (pc := 12) (ci := 5) (k := 0) (L2 := [a + 1 + 2, 1, 1, 0, 0, 0, 1, 1]) rfl (by decide) inX5 tyX5_ok nmX5 (by decide) rfl rfl rfl rfl rfl q_200 ⟨by omega, by omega⟩ hs0_2 (Nat.le_of_ble_eq_true rfl) rfl dX5_init_12 ?_
  refine VV.gs (fun s3 es3 => ?_)
  have ks3 : ∀ b, b ≠ a → s3 b = s2 b := fun b hb => by rw [es3, s2_ne hb]
  have lowS_3 : ∀ b, b < a → s3 b = sh b := fun b hb => (ks3 b (by omega)).trans (lowS_2 b hb)
  have lowV_3 : ∀ b, b < a → w2 b = v b := lowV_2
  have SE1_3 : zSE G s3 (a + 5) (a + 1) := zSE_up SE1_2 (by omega) (fun b h1 h2 => ks3 b (by omega))
  have se1_3 : zse w2 (a + 1) M0.1 := se1_2
  have hs0_3 : s3 a = (5, 8, pts [a + 1 + 2, 1, 1, 0, 0, 0, 1, 1]) := by rw [es3, s2_self]
  refine r_aload_n C (pc := 15) rfl rfl dX5_init_15 ?_
  refine r_iconst C (pc := 16) (x := (nI 3)) (by decide) dX5_init_16 ?_
  refine r_newr C (pc := 17) (ci := 10) (n := 3) (pt := pts [1, 1, 1]) (by decide) rfl q_102 (C.2.2.2.2.2.2.2.2.2.2.1) (fun j hj => by rcases (show j = 0 ∨ j = 1 ∨ j = 2 by omega) with rfl | rfl | rfl <;> rfl) (by decide) (Nat.le_of_ble_eq_true rfl) (Nat.le_of_ble_eq_true rfl) dX5_init_17 ?_
  refine VV.gc (k := 5) (n := 35) rfl rfl ?_
  refine VV.gN (N1 := a + 6) rfl ?_
  refine VV.gs (fun s4 es4 => ?_)
  refine VV.gn (fun w4 ew4 => ?_)
  have ks4 : ∀ b, b ≠ a + 5 → s4 b = s3 b := fun b hb => by rw [es4, s2_ne hb]
  have kv4 : ∀ b, b ≠ a + 5 → w4 b = w2 b := fun b hb => by rw [ew4, z0_ne hb]
  have hs0_4 : s4 a = (5, 8, pts [a + 1 + 2, 1, 1, 0, 0, 0, 1, 1]) := (ks4 _ (by omega)).trans hs0_3
  have lowS_4 : ∀ b, b < a → s4 b = sh b := fun b hb => (ks4 b (by omega)).trans (lowS_3 b hb)
  have lowV_4 : ∀ b, b < a → w4 b = v b := fun b hb => (kv4 b (by omega)).trans (lowV_3 b hb)
  have SE1_4 : zSE G s4 (a + 6) (a + 1) := zSE_up SE1_3 (by omega) (fun b h1 h2 => ks4 b (by omega))
  have se1_4 : zse w4 (a + 1) M0.1 := se1_3.kept (fun b h1 h2 => kv4 b (by omega))
  have hs5_4 : s4 (a + 5) = (10, 3, pts [1, 1, 1]) := by rw [es4, s2_self]
  refine r_putF C (pc := 20) (ci := 5) (k := 1) (L2 := [a + 1 + 2, a + 5 + 2, 1, 0, 0, 0, 1, 1]) rfl (by decide) inX5 tyX5_ok nmX5 (by decide) rfl rfl rfl rfl rfl q_202 ⟨by omega, by omega⟩ hs0_4 (Nat.le_of_ble_eq_true rfl) rfl dX5_init_20 ?_
  refine VV.gs (fun s5 es5 => ?_)
  have ks5 : ∀ b, b ≠ a → s5 b = s4 b := fun b hb => by rw [es5, s2_ne hb]
  have hs5_5 : s5 (a + 5) = (10, 3, pts [1, 1, 1]) := (ks5 _ (by omega)).trans hs5_4
  have lowS_5 : ∀ b, b < a → s5 b = sh b := fun b hb => (ks5 b (by omega)).trans (lowS_4 b hb)
  have lowV_5 : ∀ b, b < a → w4 b = v b := lowV_4
  have SE1_5 : zSE G s5 (a + 6) (a + 1) := zSE_up SE1_4 (by omega) (fun b h1 h2 => ks5 b (by omega))
  have se1_5 : zse w4 (a + 1) M0.1 := se1_4
  have hs0_5 : s5 a = (5, 8, pts [a + 1 + 2, a + 5 + 2, 1, 0, 0, 0, 1, 1]) := by rw [es5, s2_self]
  refine r_aload_n C (pc := 23) rfl rfl dX5_init_23 ?_
  refine r_new C (pc := 24) (ci := 2) (L := [1, 1, 1, 1, 1, 0, 0, 0]) rfl (by decide) inX2 tyX2_ok q_104 q_105 q_19 pt0_X2 (Nat.le_of_ble_eq_true rfl) (Nat.le_of_ble_eq_true rfl) dX5_init_24 ?_
  refine VV.gc (k := 6) (n := 43) rfl rfl ?_
  refine VV.gN (N1 := a + 7) rfl ?_
  refine VV.gs (fun s6 es6 => ?_)
  refine VV.gn (fun w6 ew6 => ?_)
  have ks6 : ∀ b, b ≠ a + 6 → s6 b = s5 b := fun b hb => by rw [es6, s2_ne hb]
  have kv6 : ∀ b, b ≠ a + 6 → w6 b = w4 b := fun b hb => by rw [ew6, z0_ne hb]
  have hs0_6 : s6 a = (5, 8, pts [a + 1 + 2, a + 5 + 2, 1, 0, 0, 0, 1, 1]) := (ks6 _ (by omega)).trans hs0_5
  have hs5_6 : s6 (a + 5) = (10, 3, pts [1, 1, 1]) := (ks6 _ (by omega)).trans hs5_5
  have lowS_6 : ∀ b, b < a → s6 b = sh b := fun b hb => (ks6 b (by omega)).trans (lowS_5 b hb)
  have lowV_6 : ∀ b, b < a → w6 b = v b := fun b hb => (kv6 b (by omega)).trans (lowV_5 b hb)
  have SE1_6 : zSE G s6 (a + 7) (a + 1) := zSE_up SE1_5 (by omega) (fun b h1 h2 => ks6 b (by omega))
  have se1_6 : zse w6 (a + 1) M0.1 := se1_5.kept (fun b h1 h2 => kv6 b (by omega))
  have hs6_6 : s6 (a + 6) = (2, 8, pts [1, 1, 1, 1, 1, 0, 0, 0]) := by rw [es6, s2_self]
  refine r_dup C (pc := 27) rfl dX5_init_27 ?_
  refine r_callINM C (pc := 28) (st := [.ref (a + 6), .ref a]) (m_X2_init l G s6 w6 (a := a + 6) (by omega) hs6_6) kyX2_init q_106 rfl rfl (Nat.le_of_ble_eq_true rfl) ⟨Nat.le_of_ble_eq_true rfl, Nat.le_of_ble_eq_true rfl⟩ ⟨Nat.le_of_ble_eq_true rfl, Nat.le_of_ble_eq_true rfl⟩ dX5_init_28 (fun r7 s7 w7 N7 hp7 => ?_)
  obtain ⟨rfl, hN7, ks7, kv7, hq7⟩ := hp7
  obtain rfl : N7 = a + 19 := hN7
  refine VV.gc (k := 18) (n := 147) rfl rfl ?_
  refine VV.eq (st2 := [.ref (a + 6), .ref a]) rfl ?_
  have hs0_7 : s7 a = (5, 8, pts [a + 1 + 2, a + 5 + 2, 1, 0, 0, 0, 1, 1]) := (ks7 _ (by omega)).trans hs0_6
  have hs5_7 : s7 (a + 5) = (10, 3, pts [1, 1, 1]) := (ks7 _ (by omega)).trans hs5_6
  have lowS_7 : ∀ b, b < a → s7 b = sh b := fun b hb => (ks7 b (by omega)).trans (lowS_6 b hb)
  have lowV_7 : ∀ b, b < a → w7 b = v b := fun b hb => (kv7 b (by omega)).trans (lowV_6 b hb)
  have SE1_7 : zSE G s7 (a + 19) (a + 1) := zSE_up SE1_6 (by omega) (fun b h1 h2 => ks7 b (by omega))
  have se1_7 : zse w7 (a + 1) M0.1 := se1_6.kept (fun b h1 h2 => kv7 b (by omega))
  have RC6_7 : zRC G s7 (a + 19) (a + 6) := hq7.1
  have rc6_7 : ∀ V, zrc w7 (a + 6) V [] (fun _ => 0) 0 [] (fun _ => none) (fun _ => none) 0 0 0 := hq7.2
  refine r_putF C (pc := 31) (ci := 5) (k := 2) (L2 := [a + 1 + 2, a + 5 + 2, a + 6 + 2, 0, 0, 0, 1, 1]) rfl (by decide) inX5 tyX5_ok nmX5 (by decide) rfl rfl rfl rfl rfl q_203 ⟨by omega, by omega⟩ hs0_7 (Nat.le_of_ble_eq_true rfl) rfl dX5_init_31 ?_
  refine VV.gs (fun s8 es8 => ?_)
  have ks8 : ∀ b, b ≠ a → s8 b = s7 b := fun b hb => by rw [es8, s2_ne hb]
  have hs5_8 : s8 (a + 5) = (10, 3, pts [1, 1, 1]) := (ks8 _ (by omega)).trans hs5_7
  have lowS_8 : ∀ b, b < a → s8 b = sh b := fun b hb => (ks8 b (by omega)).trans (lowS_7 b hb)
  have lowV_8 : ∀ b, b < a → w7 b = v b := lowV_7
  have SE1_8 : zSE G s8 (a + 19) (a + 1) := zSE_up SE1_7 (by omega) (fun b h1 h2 => ks8 b (by omega))
  have se1_8 : zse w7 (a + 1) M0.1 := se1_7
  have RC6_8 : zRC G s8 (a + 19) (a + 6) := zRC_up RC6_7 (by omega) (fun b h1 h2 => ks8 b (by omega))
  have rc6_8 : ∀ V, zrc w7 (a + 6) V [] (fun _ => 0) 0 [] (fun _ => none) (fun _ => none) 0 0 0 := rc6_7
  have hs0_8 : s8 a = (5, 8, pts [a + 1 + 2, a + 5 + 2, a + 6 + 2, 0, 0, 0, 1, 1]) := by rw [es8, s2_self]
  refine r_aload_n C (pc := 34) rfl rfl dX5_init_34 ?_
  refine r_iconst C (pc := 35) (x := (nI 0)) (by decide) dX5_init_35 ?_
  refine r_put C (pc := 36) (ci := 5) (k := 3) rfl (by decide) inX5 tyX5_ok nmX5 (by decide) rfl pfI rfl q_205 ⟨by omega, by omega⟩ hs0_8 dX5_init_36 ?_
  refine VV.gn (fun w9 ew9 => ?_)
  have kv9 : ∀ b, b ≠ a → w9 b = w7 b := fun b hb => by rw [ew9, z2_addr hb]
  have lowS_9 : ∀ b, b < a → s8 b = sh b := lowS_8
  have lowV_9 : ∀ b, b < a → w9 b = v b := fun b hb => (kv9 b (by omega)).trans (lowV_8 b hb)
  have SE1_9 : zSE G s8 (a + 19) (a + 1) := zSE_up SE1_8 (by omega) (fun b h1 h2 => rfl)
  have se1_9 : zse w9 (a + 1) M0.1 := se1_8.kept (fun b h1 h2 => kv9 b (by omega))
  have RC6_9 : zRC G s8 (a + 19) (a + 6) := zRC_up RC6_8 (by omega) (fun b h1 h2 => rfl)
  have rc6_9 : ∀ V, zrc w9 (a + 6) V [] (fun _ => 0) 0 [] (fun _ => none) (fun _ => none) 0 0 0 := fun V => (rc6_8 V).kept (fun b h1 h2 => kv9 b (by omega))
  have fld3_9 : w9 a 3 = (nI 0) := by rw [ew9, z2_self]
  refine r_aload_n C (pc := 39) rfl rfl dX5_init_39 ?_
  refine r_iconst C (pc := 40) (x := (nI 0)) (by decide) dX5_init_40 ?_
  refine r_put C (pc := 41) (ci := 5) (k := 4) rfl (by decide) inX5 tyX5_ok nmX5 (by decide) rfl pfI rfl q_207 ⟨by omega, by omega⟩ hs0_8 dX5_init_41 ?_
  refine VV.gn (fun w10 ew10 => ?_)
  have kv10 : ∀ b, b ≠ a → w10 b = w9 b := fun b hb => by rw [ew10, z2_addr hb]
  have lowS_10 : ∀ b, b < a → s8 b = sh b := lowS_9
  have lowV_10 : ∀ b, b < a → w10 b = v b := fun b hb => (kv10 b (by omega)).trans (lowV_9 b hb)
  have SE1_10 : zSE G s8 (a + 19) (a + 1) := zSE_up SE1_9 (by omega) (fun b h1 h2 => rfl)
  have se1_10 : zse w10 (a + 1) M0.1 := se1_9.kept (fun b h1 h2 => kv10 b (by omega))
  have RC6_10 : zRC G s8 (a + 19) (a + 6) := zRC_up RC6_9 (by omega) (fun b h1 h2 => rfl)
  have rc6_10 : ∀ V, zrc w10 (a + 6) V [] (fun _ => 0) 0 [] (fun _ => none) (fun _ => none) 0 0 0 := fun V => (rc6_9 V).kept (fun b h1 h2 => kv10 b (by omega))
  have fld3_10 : w10 a 3 = (nI 0) := by rw [ew10, z2_ne (by omega)]; exact fld3_9
  have fld4_10 : w10 a 4 = (nI 0) := by rw [ew10, z2_self]
  refine r_aload_n C (pc := 44) rfl rfl dX5_init_44 ?_
  refine r_iconst C (pc := 45) (x := (nI 0)) (by decide) dX5_init_45 ?_
  refine r_put C (pc := 46) (ci := 5) (k := 5) rfl (by decide) inX5 tyX5_ok nmX5 (by decide) rfl pfI rfl q_209 ⟨by omega, by omega⟩ hs0_8 dX5_init_46 ?_
  refine VV.gn (fun w11 ew11 => ?_)
  have kv11 : ∀ b, b ≠ a → w11 b = w10 b := fun b hb => by rw [ew11, z2_addr hb]
  have lowS_11 : ∀ b, b < a → s8 b = sh b := lowS_10
  have lowV_11 : ∀ b, b < a → w11 b = v b := fun b hb => (kv11 b (by omega)).trans (lowV_10 b hb)
  have SE1_11 : zSE G s8 (a + 19) (a + 1) := zSE_up SE1_10 (by omega) (fun b h1 h2 => rfl)
  have se1_11 : zse w11 (a + 1) M0.1 := se1_10.kept (fun b h1 h2 => kv11 b (by omega))
  have RC6_11 : zRC G s8 (a + 19) (a + 6) := zRC_up RC6_10 (by omega) (fun b h1 h2 => rfl)
  have rc6_11 : ∀ V, zrc w11 (a + 6) V [] (fun _ => 0) 0 [] (fun _ => none) (fun _ => none) 0 0 0 := fun V => (rc6_10 V).kept (fun b h1 h2 => kv11 b (by omega))
  have fld3_11 : w11 a 3 = (nI 0) := by rw [ew11, z2_ne (by omega)]; exact fld3_10
  have fld4_11 : w11 a 4 = (nI 0) := by rw [ew11, z2_ne (by omega)]; exact fld4_10
  have fld5_11 : w11 a 5 = (nI 0) := by rw [ew11, z2_self]
  refine r_aload_n C (pc := 49) rfl rfl dX5_init_49 ?_
  refine r_iconst C (pc := 50) (x := (nI 4)) (by decide) dX5_init_50 ?_
  refine r_newi C (pc := 51) (n := 4) q_101 (by decide) (Nat.le_of_ble_eq_true rfl) (Nat.le_of_ble_eq_true rfl) dX5_init_51 ?_
  refine VV.gc (k := 19) (n := 151) rfl rfl ?_
  refine VV.gN (N1 := a + 20) rfl ?_
  refine VV.gs (fun s12 es12 => ?_)
  refine VV.gn (fun w12 ew12 => ?_)
  have ks12 : ∀ b, b ≠ a + 19 → s12 b = s8 b := fun b hb => by rw [es12, s2_ne hb]
  have kv12 : ∀ b, b ≠ a + 19 → w12 b = w11 b := fun b hb => by rw [ew12, z0_ne hb]
  have hs0_12 : s12 a = (5, 8, pts [a + 1 + 2, a + 5 + 2, a + 6 + 2, 0, 0, 0, 1, 1]) := (ks12 _ (by omega)).trans hs0_8
  have hs5_12 : s12 (a + 5) = (10, 3, pts [1, 1, 1]) := (ks12 _ (by omega)).trans hs5_8
  have lowS_12 : ∀ b, b < a → s12 b = sh b := fun b hb => (ks12 b (by omega)).trans (lowS_11 b hb)
  have lowV_12 : ∀ b, b < a → w12 b = v b := fun b hb => (kv12 b (by omega)).trans (lowV_11 b hb)
  have SE1_12 : zSE G s12 (a + 20) (a + 1) := zSE_up SE1_11 (by omega) (fun b h1 h2 => ks12 b (by omega))
  have se1_12 : zse w12 (a + 1) M0.1 := se1_11.kept (fun b h1 h2 => kv12 b (by omega))
  have RC6_12 : zRC G s12 (a + 20) (a + 6) := zRC_up RC6_11 (by omega) (fun b h1 h2 => ks12 b (by omega))
  have rc6_12 : ∀ V, zrc w12 (a + 6) V [] (fun _ => 0) 0 [] (fun _ => none) (fun _ => none) 0 0 0 := fun V => (rc6_11 V).kept (fun b h1 h2 => kv12 b (by omega))
  have fld3_12 : w12 a 3 = (nI 0) := (congrFun (kv12 _ (by omega)) _).trans fld3_11
  have fld4_12 : w12 a 4 = (nI 0) := (congrFun (kv12 _ (by omega)) _).trans fld4_11
  have fld5_12 : w12 a 5 = (nI 0) := (congrFun (kv12 _ (by omega)) _).trans fld5_11
  have hs19_12 : s12 (a + 19) = (8, 4, fun _ => 0) := by rw [es12, s2_self]
  have row19_12 : w12 (a + 19) = fun _ => 0 := by rw [ew12, z0_self]
  refine r_putF C (pc := 53) (ci := 5) (k := 6) (L2 := [a + 1 + 2, a + 5 + 2, a + 6 + 2, 0, 0, 0, a + 19 + 2, 1]) rfl (by decide) inX5 tyX5_ok nmX5 (by decide) rfl rfl rfl rfl rfl q_211 ⟨by omega, by omega⟩ hs0_12 (Nat.le_of_ble_eq_true rfl) rfl dX5_init_53 ?_
  refine VV.gs (fun s13 es13 => ?_)
  have ks13 : ∀ b, b ≠ a → s13 b = s12 b := fun b hb => by rw [es13, s2_ne hb]
  have hs5_13 : s13 (a + 5) = (10, 3, pts [1, 1, 1]) := (ks13 _ (by omega)).trans hs5_12
  have hs19_13 : s13 (a + 19) = (8, 4, fun _ => 0) := (ks13 _ (by omega)).trans hs19_12
  have lowS_13 : ∀ b, b < a → s13 b = sh b := fun b hb => (ks13 b (by omega)).trans (lowS_12 b hb)
  have lowV_13 : ∀ b, b < a → w12 b = v b := lowV_12
  have SE1_13 : zSE G s13 (a + 20) (a + 1) := zSE_up SE1_12 (by omega) (fun b h1 h2 => ks13 b (by omega))
  have se1_13 : zse w12 (a + 1) M0.1 := se1_12
  have RC6_13 : zRC G s13 (a + 20) (a + 6) := zRC_up RC6_12 (by omega) (fun b h1 h2 => ks13 b (by omega))
  have rc6_13 : ∀ V, zrc w12 (a + 6) V [] (fun _ => 0) 0 [] (fun _ => none) (fun _ => none) 0 0 0 := rc6_12
  have fld3_13 : w12 a 3 = (nI 0) := fld3_12
  have fld4_13 : w12 a 4 = (nI 0) := fld4_12
  have fld5_13 : w12 a 5 = (nI 0) := fld5_12
  have row19_13 : w12 (a + 19) = fun _ => 0 := row19_12
  have hs0_13 : s13 a = (5, 8, pts [a + 1 + 2, a + 5 + 2, a + 6 + 2, 0, 0, 0, a + 19 + 2, 1]) := by rw [es13, s2_self]
  refine r_aload_n C (pc := 56) rfl rfl dX5_init_56 ?_
  refine r_new C (pc := 57) (ci := 4) (L := [1, 0]) rfl (by decide) inX4 tyX4_ok q_197 q_130 q_21 pt0_X4 (Nat.le_of_ble_eq_true rfl) (Nat.le_of_ble_eq_true rfl) dX5_init_57 ?_
  refine VV.gc (k := 20) (n := 153) rfl rfl ?_
  refine VV.gN (N1 := a + 21) rfl ?_
  refine VV.gs (fun s14 es14 => ?_)
  refine VV.gn (fun w14 ew14 => ?_)
  have ks14 : ∀ b, b ≠ a + 20 → s14 b = s13 b := fun b hb => by rw [es14, s2_ne hb]
  have kv14 : ∀ b, b ≠ a + 20 → w14 b = w12 b := fun b hb => by rw [ew14, z0_ne hb]
  have hs0_14 : s14 a = (5, 8, pts [a + 1 + 2, a + 5 + 2, a + 6 + 2, 0, 0, 0, a + 19 + 2, 1]) := (ks14 _ (by omega)).trans hs0_13
  have hs5_14 : s14 (a + 5) = (10, 3, pts [1, 1, 1]) := (ks14 _ (by omega)).trans hs5_13
  have hs19_14 : s14 (a + 19) = (8, 4, fun _ => 0) := (ks14 _ (by omega)).trans hs19_13
  have lowS_14 : ∀ b, b < a → s14 b = sh b := fun b hb => (ks14 b (by omega)).trans (lowS_13 b hb)
  have lowV_14 : ∀ b, b < a → w14 b = v b := fun b hb => (kv14 b (by omega)).trans (lowV_13 b hb)
  have SE1_14 : zSE G s14 (a + 21) (a + 1) := zSE_up SE1_13 (by omega) (fun b h1 h2 => ks14 b (by omega))
  have se1_14 : zse w14 (a + 1) M0.1 := se1_13.kept (fun b h1 h2 => kv14 b (by omega))
  have RC6_14 : zRC G s14 (a + 21) (a + 6) := zRC_up RC6_13 (by omega) (fun b h1 h2 => ks14 b (by omega))
  have rc6_14 : ∀ V, zrc w14 (a + 6) V [] (fun _ => 0) 0 [] (fun _ => none) (fun _ => none) 0 0 0 := fun V => (rc6_13 V).kept (fun b h1 h2 => kv14 b (by omega))
  have fld3_14 : w14 a 3 = (nI 0) := (congrFun (kv14 _ (by omega)) _).trans fld3_13
  have fld4_14 : w14 a 4 = (nI 0) := (congrFun (kv14 _ (by omega)) _).trans fld4_13
  have fld5_14 : w14 a 5 = (nI 0) := (congrFun (kv14 _ (by omega)) _).trans fld5_13
  have row19_14 : w14 (a + 19) = fun _ => 0 := (kv14 _ (by omega)).trans row19_13
  have hs20_14 : s14 (a + 20) = (4, 2, pts [1, 0]) := by rw [es14, s2_self]
  refine r_dup C (pc := 60) rfl dX5_init_60 ?_
  refine r_callINM C (pc := 61) (st := [.ref (a + 20), .ref a]) (m_X4_init l G s14 w14 (a := a + 20) (by omega) hs20_14) kyX4_init q_198 rfl rfl (Nat.le_of_ble_eq_true rfl) ⟨Nat.le_of_ble_eq_true rfl, Nat.le_of_ble_eq_true rfl⟩ ⟨Nat.le_of_ble_eq_true rfl, Nat.le_of_ble_eq_true rfl⟩ dX5_init_61 (fun r15 s15 w15 N15 hp15 => ?_)
  obtain ⟨rfl, hN15, ks15, kv15, hq15⟩ := hp15
  obtain rfl : N15 = a + 22 := hN15
  refine VV.gc (k := 21) (n := 165) rfl rfl ?_
  refine VV.eq (st2 := [.ref (a + 20), .ref a]) rfl ?_
  have hs0_15 : s15 a = (5, 8, pts [a + 1 + 2, a + 5 + 2, a + 6 + 2, 0, 0, 0, a + 19 + 2, 1]) := (ks15 _ (by omega)).trans hs0_14
  have hs5_15 : s15 (a + 5) = (10, 3, pts [1, 1, 1]) := (ks15 _ (by omega)).trans hs5_14
  have hs19_15 : s15 (a + 19) = (8, 4, fun _ => 0) := (ks15 _ (by omega)).trans hs19_14
  have lowS_15 : ∀ b, b < a → s15 b = sh b := fun b hb => (ks15 b (by omega)).trans (lowS_14 b hb)
  have lowV_15 : ∀ b, b < a → w15 b = v b := fun b hb => (kv15 b (by omega)).trans (lowV_14 b hb)
  have SE1_15 : zSE G s15 (a + 22) (a + 1) := zSE_up SE1_14 (by omega) (fun b h1 h2 => ks15 b (by omega))
  have se1_15 : zse w15 (a + 1) M0.1 := se1_14.kept (fun b h1 h2 => kv15 b (by omega))
  have RC6_15 : zRC G s15 (a + 22) (a + 6) := zRC_up RC6_14 (by omega) (fun b h1 h2 => ks15 b (by omega))
  have rc6_15 : ∀ V, zrc w15 (a + 6) V [] (fun _ => 0) 0 [] (fun _ => none) (fun _ => none) 0 0 0 := fun V => (rc6_14 V).kept (fun b h1 h2 => kv15 b (by omega))
  have fld3_15 : w15 a 3 = (nI 0) := (congrFun (kv15 _ (by omega)) _).trans fld3_14
  have fld4_15 : w15 a 4 = (nI 0) := (congrFun (kv15 _ (by omega)) _).trans fld4_14
  have fld5_15 : w15 a 5 = (nI 0) := (congrFun (kv15 _ (by omega)) _).trans fld5_14
  have row19_15 : w15 (a + 19) = fun _ => 0 := (kv15 _ (by omega)).trans row19_14
  have SP20_15 : zSP G s15 (a + 22) (a + 20) := hq15.1
  have sp20_15 : zsp w15 (a + 20) (fun _ => 0) 0 := hq15.2
  refine r_putF C (pc := 64) (ci := 5) (k := 7) (L2 := [a + 1 + 2, a + 5 + 2, a + 6 + 2, 0, 0, 0, a + 19 + 2, a + 20 + 2]) rfl (by decide) inX5 tyX5_ok nmX5 (by decide) rfl rfl rfl rfl rfl q_212 ⟨by omega, by omega⟩ hs0_15 (Nat.le_of_ble_eq_true rfl) rfl dX5_init_64 ?_
  refine VV.gs (fun s16 es16 => ?_)
  have ks16 : ∀ b, b ≠ a → s16 b = s15 b := fun b hb => by rw [es16, s2_ne hb]
  have hs5_16 : s16 (a + 5) = (10, 3, pts [1, 1, 1]) := (ks16 _ (by omega)).trans hs5_15
  have hs19_16 : s16 (a + 19) = (8, 4, fun _ => 0) := (ks16 _ (by omega)).trans hs19_15
  have lowS_16 : ∀ b, b < a → s16 b = sh b := fun b hb => (ks16 b (by omega)).trans (lowS_15 b hb)
  have lowV_16 : ∀ b, b < a → w15 b = v b := lowV_15
  have SE1_16 : zSE G s16 (a + 22) (a + 1) := zSE_up SE1_15 (by omega) (fun b h1 h2 => ks16 b (by omega))
  have se1_16 : zse w15 (a + 1) M0.1 := se1_15
  have RC6_16 : zRC G s16 (a + 22) (a + 6) := zRC_up RC6_15 (by omega) (fun b h1 h2 => ks16 b (by omega))
  have rc6_16 : ∀ V, zrc w15 (a + 6) V [] (fun _ => 0) 0 [] (fun _ => none) (fun _ => none) 0 0 0 := rc6_15
  have fld3_16 : w15 a 3 = (nI 0) := fld3_15
  have fld4_16 : w15 a 4 = (nI 0) := fld4_15
  have fld5_16 : w15 a 5 = (nI 0) := fld5_15
  have row19_16 : w15 (a + 19) = fun _ => 0 := row19_15
  have SP20_16 : zSP G s16 (a + 22) (a + 20) := zSP_up SP20_15 (by omega) (fun b h1 h2 => ks16 b (by omega))
  have sp20_16 : zsp w15 (a + 20) (fun _ => 0) 0 := sp20_15
  have hs0_16 : s16 a = (5, 8, pts [a + 1 + 2, a + 5 + 2, a + 6 + 2, 0, 0, 0, a + 19 + 2, a + 20 + 2]) := by rw [es16, s2_self]
  refine r_iconst C (pc := 67) (x := (nI 0)) (by decide) dX5_init_67 ?_
  refine r_istore_n C (pc := 68) (lv2 := [some (.ref a), some (.int (nI 0))]) rfl (Nat.le_of_ble_eq_true rfl) rfl rfl dX5_init_68 ?_
  refine r_iload_n C (pc := 69) rfl rfl dX5_init_69 ?_
  refine r_aload_n C (pc := 70) rfl rfl dX5_init_70 ?_
  refine r_get C (pc := 71) (ci := 5) (k := 1) (w := .ref (a + 5)) rfl (by decide) inX5 (by decide) q_202 (Or.inl ⟨by omega, by omega⟩) hs0_16 (zl_ref _ _) dX5_init_71 ?_
  refine r_alen C (pc := 74) (x := nI 3) (Or.inl ⟨by omega, by omega⟩) hs5_16 (by decide) rfl rfl dX5_init_74 ?_
  refine n_icmp_ge C (pc := 75) (tgt := 98) (by decide) (by decide) dX5_init_75 (by decide) (fun z => absurd z (by decide)) (fun _ => ?_)
  refine r_aload_n C (pc := 78) rfl rfl dX5_init_78 ?_
  refine r_get C (pc := 79) (ci := 5) (k := 1) (w := .ref (a + 5)) rfl (by decide) inX5 (by decide) q_202 (Or.inl ⟨by omega, by omega⟩) hs0_16 (zl_ref _ _) dX5_init_79 ?_
  refine r_iload_n C (pc := 82) rfl rfl dX5_init_82 ?_
  refine r_new C (pc := 83) (ci := 1) (L := [1, 0]) rfl (by decide) inX1 tyX1_ok q_102 q_111 q_20 pt0_X1 (Nat.le_of_ble_eq_true rfl) (Nat.le_of_ble_eq_true rfl) dX5_init_83 ?_
  refine VV.gc (k := 22) (n := 167) rfl rfl ?_
  refine VV.gN (N1 := a + 23) rfl ?_
  refine VV.gs (fun s17 es17 => ?_)
  refine VV.gn (fun w17 ew17 => ?_)
  have ks17 : ∀ b, b ≠ a + 22 → s17 b = s16 b := fun b hb => by rw [es17, s2_ne hb]
  have kv17 : ∀ b, b ≠ a + 22 → w17 b = w15 b := fun b hb => by rw [ew17, z0_ne hb]
  have hs0_17 : s17 a = (5, 8, pts [a + 1 + 2, a + 5 + 2, a + 6 + 2, 0, 0, 0, a + 19 + 2, a + 20 + 2]) := (ks17 _ (by omega)).trans hs0_16
  have hs5_17 : s17 (a + 5) = (10, 3, pts [1, 1, 1]) := (ks17 _ (by omega)).trans hs5_16
  have hs19_17 : s17 (a + 19) = (8, 4, fun _ => 0) := (ks17 _ (by omega)).trans hs19_16
  have lowS_17 : ∀ b, b < a → s17 b = sh b := fun b hb => (ks17 b (by omega)).trans (lowS_16 b hb)
  have lowV_17 : ∀ b, b < a → w17 b = v b := fun b hb => (kv17 b (by omega)).trans (lowV_16 b hb)
  have SE1_17 : zSE G s17 (a + 23) (a + 1) := zSE_up SE1_16 (by omega) (fun b h1 h2 => ks17 b (by omega))
  have se1_17 : zse w17 (a + 1) M0.1 := se1_16.kept (fun b h1 h2 => kv17 b (by omega))
  have RC6_17 : zRC G s17 (a + 23) (a + 6) := zRC_up RC6_16 (by omega) (fun b h1 h2 => ks17 b (by omega))
  have rc6_17 : ∀ V, zrc w17 (a + 6) V [] (fun _ => 0) 0 [] (fun _ => none) (fun _ => none) 0 0 0 := fun V => (rc6_16 V).kept (fun b h1 h2 => kv17 b (by omega))
  have fld3_17 : w17 a 3 = (nI 0) := (congrFun (kv17 _ (by omega)) _).trans fld3_16
  have fld4_17 : w17 a 4 = (nI 0) := (congrFun (kv17 _ (by omega)) _).trans fld4_16
  have fld5_17 : w17 a 5 = (nI 0) := (congrFun (kv17 _ (by omega)) _).trans fld5_16
  have row19_17 : w17 (a + 19) = fun _ => 0 := (kv17 _ (by omega)).trans row19_16
  have SP20_17 : zSP G s17 (a + 23) (a + 20) := zSP_up SP20_16 (by omega) (fun b h1 h2 => ks17 b (by omega))
  have sp20_17 : zsp w17 (a + 20) (fun _ => 0) 0 := sp20_16.kept (kv17 _ (by omega)) (kv17 _ (by omega))
  have hs22_17 : s17 (a + 22) = (1, 2, pts [1, 0]) := by rw [es17, s2_self]
  refine r_dup C (pc := 86) rfl dX5_init_86 ?_
  refine r_iconst C (pc := 87) (x := (nI 4)) (by decide) dX5_init_87 ?_
  refine r_callIM C (pc := 88) (st := [.ref (a + 22), .int (nI 0), .ref (a + 5)]) (m_X1_init l G s17 w17 (a := a + 22) (room := 4) (by omega) hs22_17 (by decide)) kyX1_init q_199 rfl rfl (Nat.le_of_ble_eq_true rfl) ⟨Nat.le_of_ble_eq_true rfl, Nat.le_of_ble_eq_true rfl⟩ ⟨Nat.le_of_ble_eq_true rfl, Nat.le_of_ble_eq_true rfl⟩ dX5_init_88 (fun r18 s18 w18 N18 hp18 => ?_)
  obtain ⟨rfl, hN18, ks18, kv18, hq18⟩ := hp18
  obtain rfl : N18 = a + 24 := hN18
  refine VV.gc (k := 23) (n := 171) rfl rfl ?_
  refine VV.eq (st2 := [.ref (a + 22), .int (nI 0), .ref (a + 5)]) rfl ?_
  have hs0_18 : s18 a = (5, 8, pts [a + 1 + 2, a + 5 + 2, a + 6 + 2, 0, 0, 0, a + 19 + 2, a + 20 + 2]) := (ks18 _ (by omega)).trans hs0_17
  have hs5_18 : s18 (a + 5) = (10, 3, pts [1, 1, 1]) := (ks18 _ (by omega)).trans hs5_17
  have hs19_18 : s18 (a + 19) = (8, 4, fun _ => 0) := (ks18 _ (by omega)).trans hs19_17
  have lowS_18 : ∀ b, b < a → s18 b = sh b := fun b hb => (ks18 b (by omega)).trans (lowS_17 b hb)
  have lowV_18 : ∀ b, b < a → w18 b = v b := fun b hb => (kv18 b (by omega)).trans (lowV_17 b hb)
  have SE1_18 : zSE G s18 (a + 24) (a + 1) := zSE_up SE1_17 (by omega) (fun b h1 h2 => ks18 b (by omega))
  have se1_18 : zse w18 (a + 1) M0.1 := se1_17.kept (fun b h1 h2 => kv18 b (by omega))
  have RC6_18 : zRC G s18 (a + 24) (a + 6) := zRC_up RC6_17 (by omega) (fun b h1 h2 => ks18 b (by omega))
  have rc6_18 : ∀ V, zrc w18 (a + 6) V [] (fun _ => 0) 0 [] (fun _ => none) (fun _ => none) 0 0 0 := fun V => (rc6_17 V).kept (fun b h1 h2 => kv18 b (by omega))
  have fld3_18 : w18 a 3 = (nI 0) := (congrFun (kv18 _ (by omega)) _).trans fld3_17
  have fld4_18 : w18 a 4 = (nI 0) := (congrFun (kv18 _ (by omega)) _).trans fld4_17
  have fld5_18 : w18 a 5 = (nI 0) := (congrFun (kv18 _ (by omega)) _).trans fld5_17
  have row19_18 : w18 (a + 19) = fun _ => 0 := (kv18 _ (by omega)).trans row19_17
  have SP20_18 : zSP G s18 (a + 24) (a + 20) := zSP_up SP20_17 (by omega) (fun b h1 h2 => ks18 b (by omega))
  have sp20_18 : zsp w18 (a + 20) (fun _ => 0) 0 := sp20_17.kept (kv18 _ (by omega)) (kv18 _ (by omega))
  have PL22_18 : zPL G s18 (a + 24) (a + 22) 4 := hq18.1
  have pl22_18 : zpl w18 (a + 22) 4 [] := hq18.2
  refine r_aast C (pc := 91) (ci := 10) (cj := 1) ⟨by omega, by omega⟩ hs5_18 (by decide) (Or.inl ⟨by omega, by omega⟩) PL22_18.2.2.2.1 (by decide) rfl rfl (by decide) (by decide) dX5_init_91 ?_
  refine VV.gs (fun s19 es19 => ?_)
  have ks19 : ∀ b, b ≠ a + 5 → s19 b = s18 b := fun b hb => by rw [es19, s2_ne hb]
  have hs0_19 : s19 a = (5, 8, pts [a + 1 + 2, a + 5 + 2, a + 6 + 2, 0, 0, 0, a + 19 + 2, a + 20 + 2]) := (ks19 _ (by omega)).trans hs0_18
  have hs19_19 : s19 (a + 19) = (8, 4, fun _ => 0) := (ks19 _ (by omega)).trans hs19_18
  have lowS_19 : ∀ b, b < a → s19 b = sh b := fun b hb => (ks19 b (by omega)).trans (lowS_18 b hb)
  have lowV_19 : ∀ b, b < a → w18 b = v b := lowV_18
  have SE1_19 : zSE G s19 (a + 24) (a + 1) := zSE_up SE1_18 (by omega) (fun b h1 h2 => ks19 b (by omega))
  have se1_19 : zse w18 (a + 1) M0.1 := se1_18
  have RC6_19 : zRC G s19 (a + 24) (a + 6) := zRC_up RC6_18 (by omega) (fun b h1 h2 => ks19 b (by omega))
  have rc6_19 : ∀ V, zrc w18 (a + 6) V [] (fun _ => 0) 0 [] (fun _ => none) (fun _ => none) 0 0 0 := rc6_18
  have fld3_19 : w18 a 3 = (nI 0) := fld3_18
  have fld4_19 : w18 a 4 = (nI 0) := fld4_18
  have fld5_19 : w18 a 5 = (nI 0) := fld5_18
  have row19_19 : w18 (a + 19) = fun _ => 0 := row19_18
  have SP20_19 : zSP G s19 (a + 24) (a + 20) := zSP_up SP20_18 (by omega) (fun b h1 h2 => ks19 b (by omega))
  have sp20_19 : zsp w18 (a + 20) (fun _ => 0) 0 := sp20_18
  have PL22_19 : zPL G s19 (a + 24) (a + 22) 4 := zPL_up PL22_18 (by omega) (fun b h1 h2 => ks19 b (by omega))
  have pl22_19 : zpl w18 (a + 22) 4 [] := pl22_18
  have hs5_19 : s19 (a + 5) = (10, 3, pts [a + 22 + 2, 1, 1]) := by rw [es19, s2_self, upn_pts (l := [1, 1, 1]) (j := 0) (q := a + 22 + 2) (l2 := [a + 22 + 2, 1, 1]) (Nat.le_of_ble_eq_true rfl) rfl]
  refine r_iinc C (pc := 92) (lv2 := [some (.ref a), some (.int (nI 1))]) (y := (nI 1)) rfl (nI_inc _ _) (Nat.le_of_ble_eq_true rfl) rfl rfl dX5_init_92 ?_
  refine r_goto C (pc := 95) (tgt := 69) dX5_init_95 (by decide) ?_
  refine r_iload_n C (pc := 69) rfl rfl dX5_init_69 ?_
  refine r_aload_n C (pc := 70) rfl rfl dX5_init_70 ?_
  refine r_get C (pc := 71) (ci := 5) (k := 1) (w := .ref (a + 5)) rfl (by decide) inX5 (by decide) q_202 (Or.inl ⟨by omega, by omega⟩) hs0_19 (zl_ref _ _) dX5_init_71 ?_
  refine r_alen C (pc := 74) (x := nI 3) (Or.inl ⟨by omega, by omega⟩) hs5_19 (by decide) rfl rfl dX5_init_74 ?_
  refine n_icmp_ge C (pc := 75) (tgt := 98) (by decide) (by decide) dX5_init_75 (by decide) (fun z => absurd z (by decide)) (fun _ => ?_)
  refine r_aload_n C (pc := 78) rfl rfl dX5_init_78 ?_
  refine r_get C (pc := 79) (ci := 5) (k := 1) (w := .ref (a + 5)) rfl (by decide) inX5 (by decide) q_202 (Or.inl ⟨by omega, by omega⟩) hs0_19 (zl_ref _ _) dX5_init_79 ?_
  refine r_iload_n C (pc := 82) rfl rfl dX5_init_82 ?_
  refine r_new C (pc := 83) (ci := 1) (L := [1, 0]) rfl (by decide) inX1 tyX1_ok q_102 q_111 q_20 pt0_X1 (Nat.le_of_ble_eq_true rfl) (Nat.le_of_ble_eq_true rfl) dX5_init_83 ?_
  refine VV.gc (k := 24) (n := 173) rfl rfl ?_
  refine VV.gN (N1 := a + 25) rfl ?_
  refine VV.gs (fun s20 es20 => ?_)
  refine VV.gn (fun w20 ew20 => ?_)
  have ks20 : ∀ b, b ≠ a + 24 → s20 b = s19 b := fun b hb => by rw [es20, s2_ne hb]
  have kv20 : ∀ b, b ≠ a + 24 → w20 b = w18 b := fun b hb => by rw [ew20, z0_ne hb]
  have hs0_20 : s20 a = (5, 8, pts [a + 1 + 2, a + 5 + 2, a + 6 + 2, 0, 0, 0, a + 19 + 2, a + 20 + 2]) := (ks20 _ (by omega)).trans hs0_19
  have hs5_20 : s20 (a + 5) = (10, 3, pts [a + 22 + 2, 1, 1]) := (ks20 _ (by omega)).trans hs5_19
  have hs19_20 : s20 (a + 19) = (8, 4, fun _ => 0) := (ks20 _ (by omega)).trans hs19_19
  have lowS_20 : ∀ b, b < a → s20 b = sh b := fun b hb => (ks20 b (by omega)).trans (lowS_19 b hb)
  have lowV_20 : ∀ b, b < a → w20 b = v b := fun b hb => (kv20 b (by omega)).trans (lowV_19 b hb)
  have SE1_20 : zSE G s20 (a + 25) (a + 1) := zSE_up SE1_19 (by omega) (fun b h1 h2 => ks20 b (by omega))
  have se1_20 : zse w20 (a + 1) M0.1 := se1_19.kept (fun b h1 h2 => kv20 b (by omega))
  have RC6_20 : zRC G s20 (a + 25) (a + 6) := zRC_up RC6_19 (by omega) (fun b h1 h2 => ks20 b (by omega))
  have rc6_20 : ∀ V, zrc w20 (a + 6) V [] (fun _ => 0) 0 [] (fun _ => none) (fun _ => none) 0 0 0 := fun V => (rc6_19 V).kept (fun b h1 h2 => kv20 b (by omega))
  have fld3_20 : w20 a 3 = (nI 0) := (congrFun (kv20 _ (by omega)) _).trans fld3_19
  have fld4_20 : w20 a 4 = (nI 0) := (congrFun (kv20 _ (by omega)) _).trans fld4_19
  have fld5_20 : w20 a 5 = (nI 0) := (congrFun (kv20 _ (by omega)) _).trans fld5_19
  have row19_20 : w20 (a + 19) = fun _ => 0 := (kv20 _ (by omega)).trans row19_19
  have SP20_20 : zSP G s20 (a + 25) (a + 20) := zSP_up SP20_19 (by omega) (fun b h1 h2 => ks20 b (by omega))
  have sp20_20 : zsp w20 (a + 20) (fun _ => 0) 0 := sp20_19.kept (kv20 _ (by omega)) (kv20 _ (by omega))
  have PL22_20 : zPL G s20 (a + 25) (a + 22) 4 := zPL_up PL22_19 (by omega) (fun b h1 h2 => ks20 b (by omega))
  have pl22_20 : zpl w20 (a + 22) 4 [] := pl22_19.kept (kv20 _ (by omega)) (kv20 _ (by omega))
  have hs24_20 : s20 (a + 24) = (1, 2, pts [1, 0]) := by rw [es20, s2_self]
  refine r_dup C (pc := 86) rfl dX5_init_86 ?_
  refine r_iconst C (pc := 87) (x := (nI 4)) (by decide) dX5_init_87 ?_
  refine r_callIM C (pc := 88) (st := [.ref (a + 24), .int (nI 1), .ref (a + 5)]) (m_X1_init l G s20 w20 (a := a + 24) (room := 4) (by omega) hs24_20 (by decide)) kyX1_init q_199 rfl rfl (Nat.le_of_ble_eq_true rfl) ⟨Nat.le_of_ble_eq_true rfl, Nat.le_of_ble_eq_true rfl⟩ ⟨Nat.le_of_ble_eq_true rfl, Nat.le_of_ble_eq_true rfl⟩ dX5_init_88 (fun r21 s21 w21 N21 hp21 => ?_)
  obtain ⟨rfl, hN21, ks21, kv21, hq21⟩ := hp21
  obtain rfl : N21 = a + 26 := hN21
  refine VV.gc (k := 25) (n := 177) rfl rfl ?_
  refine VV.eq (st2 := [.ref (a + 24), .int (nI 1), .ref (a + 5)]) rfl ?_
  have hs0_21 : s21 a = (5, 8, pts [a + 1 + 2, a + 5 + 2, a + 6 + 2, 0, 0, 0, a + 19 + 2, a + 20 + 2]) := (ks21 _ (by omega)).trans hs0_20
  have hs5_21 : s21 (a + 5) = (10, 3, pts [a + 22 + 2, 1, 1]) := (ks21 _ (by omega)).trans hs5_20
  have hs19_21 : s21 (a + 19) = (8, 4, fun _ => 0) := (ks21 _ (by omega)).trans hs19_20
  have lowS_21 : ∀ b, b < a → s21 b = sh b := fun b hb => (ks21 b (by omega)).trans (lowS_20 b hb)
  have lowV_21 : ∀ b, b < a → w21 b = v b := fun b hb => (kv21 b (by omega)).trans (lowV_20 b hb)
  have SE1_21 : zSE G s21 (a + 26) (a + 1) := zSE_up SE1_20 (by omega) (fun b h1 h2 => ks21 b (by omega))
  have se1_21 : zse w21 (a + 1) M0.1 := se1_20.kept (fun b h1 h2 => kv21 b (by omega))
  have RC6_21 : zRC G s21 (a + 26) (a + 6) := zRC_up RC6_20 (by omega) (fun b h1 h2 => ks21 b (by omega))
  have rc6_21 : ∀ V, zrc w21 (a + 6) V [] (fun _ => 0) 0 [] (fun _ => none) (fun _ => none) 0 0 0 := fun V => (rc6_20 V).kept (fun b h1 h2 => kv21 b (by omega))
  have fld3_21 : w21 a 3 = (nI 0) := (congrFun (kv21 _ (by omega)) _).trans fld3_20
  have fld4_21 : w21 a 4 = (nI 0) := (congrFun (kv21 _ (by omega)) _).trans fld4_20
  have fld5_21 : w21 a 5 = (nI 0) := (congrFun (kv21 _ (by omega)) _).trans fld5_20
  have row19_21 : w21 (a + 19) = fun _ => 0 := (kv21 _ (by omega)).trans row19_20
  have SP20_21 : zSP G s21 (a + 26) (a + 20) := zSP_up SP20_20 (by omega) (fun b h1 h2 => ks21 b (by omega))
  have sp20_21 : zsp w21 (a + 20) (fun _ => 0) 0 := sp20_20.kept (kv21 _ (by omega)) (kv21 _ (by omega))
  have PL22_21 : zPL G s21 (a + 26) (a + 22) 4 := zPL_up PL22_20 (by omega) (fun b h1 h2 => ks21 b (by omega))
  have pl22_21 : zpl w21 (a + 22) 4 [] := pl22_20.kept (kv21 _ (by omega)) (kv21 _ (by omega))
  have PL24_21 : zPL G s21 (a + 26) (a + 24) 4 := hq21.1
  have pl24_21 : zpl w21 (a + 24) 4 [] := hq21.2
  refine r_aast C (pc := 91) (ci := 10) (cj := 1) ⟨by omega, by omega⟩ hs5_21 (by decide) (Or.inl ⟨by omega, by omega⟩) PL24_21.2.2.2.1 (by decide) rfl rfl (by decide) (by decide) dX5_init_91 ?_
  refine VV.gs (fun s22 es22 => ?_)
  have ks22 : ∀ b, b ≠ a + 5 → s22 b = s21 b := fun b hb => by rw [es22, s2_ne hb]
  have hs0_22 : s22 a = (5, 8, pts [a + 1 + 2, a + 5 + 2, a + 6 + 2, 0, 0, 0, a + 19 + 2, a + 20 + 2]) := (ks22 _ (by omega)).trans hs0_21
  have hs19_22 : s22 (a + 19) = (8, 4, fun _ => 0) := (ks22 _ (by omega)).trans hs19_21
  have lowS_22 : ∀ b, b < a → s22 b = sh b := fun b hb => (ks22 b (by omega)).trans (lowS_21 b hb)
  have lowV_22 : ∀ b, b < a → w21 b = v b := lowV_21
  have SE1_22 : zSE G s22 (a + 26) (a + 1) := zSE_up SE1_21 (by omega) (fun b h1 h2 => ks22 b (by omega))
  have se1_22 : zse w21 (a + 1) M0.1 := se1_21
  have RC6_22 : zRC G s22 (a + 26) (a + 6) := zRC_up RC6_21 (by omega) (fun b h1 h2 => ks22 b (by omega))
  have rc6_22 : ∀ V, zrc w21 (a + 6) V [] (fun _ => 0) 0 [] (fun _ => none) (fun _ => none) 0 0 0 := rc6_21
  have fld3_22 : w21 a 3 = (nI 0) := fld3_21
  have fld4_22 : w21 a 4 = (nI 0) := fld4_21
  have fld5_22 : w21 a 5 = (nI 0) := fld5_21
  have row19_22 : w21 (a + 19) = fun _ => 0 := row19_21
  have SP20_22 : zSP G s22 (a + 26) (a + 20) := zSP_up SP20_21 (by omega) (fun b h1 h2 => ks22 b (by omega))
  have sp20_22 : zsp w21 (a + 20) (fun _ => 0) 0 := sp20_21
  have PL22_22 : zPL G s22 (a + 26) (a + 22) 4 := zPL_up PL22_21 (by omega) (fun b h1 h2 => ks22 b (by omega))
  have pl22_22 : zpl w21 (a + 22) 4 [] := pl22_21
  have PL24_22 : zPL G s22 (a + 26) (a + 24) 4 := zPL_up PL24_21 (by omega) (fun b h1 h2 => ks22 b (by omega))
  have pl24_22 : zpl w21 (a + 24) 4 [] := pl24_21
  have hs5_22 : s22 (a + 5) = (10, 3, pts [a + 22 + 2, a + 24 + 2, 1]) := by rw [es22, s2_self, upn_pts (l := [a + 22 + 2, 1, 1]) (j := 1) (q := a + 24 + 2) (l2 := [a + 22 + 2, a + 24 + 2, 1]) (Nat.le_of_ble_eq_true rfl) rfl]
  refine r_iinc C (pc := 92) (lv2 := [some (.ref a), some (.int (nI 2))]) (y := (nI 2)) rfl (nI_inc _ _) (Nat.le_of_ble_eq_true rfl) rfl rfl dX5_init_92 ?_
  refine r_goto C (pc := 95) (tgt := 69) dX5_init_95 (by decide) ?_
  refine r_iload_n C (pc := 69) rfl rfl dX5_init_69 ?_
  refine r_aload_n C (pc := 70) rfl rfl dX5_init_70 ?_
  refine r_get C (pc := 71) (ci := 5) (k := 1) (w := .ref (a + 5)) rfl (by decide) inX5 (by decide) q_202 (Or.inl ⟨by omega, by omega⟩) hs0_22 (zl_ref _ _) dX5_init_71 ?_
  refine r_alen C (pc := 74) (x := nI 3) (Or.inl ⟨by omega, by omega⟩) hs5_22 (by decide) rfl rfl dX5_init_74 ?_
  refine n_icmp_ge C (pc := 75) (tgt := 98) (by decide) (by decide) dX5_init_75 (by decide) (fun z => absurd z (by decide)) (fun _ => ?_)
  refine r_aload_n C (pc := 78) rfl rfl dX5_init_78 ?_
  refine r_get C (pc := 79) (ci := 5) (k := 1) (w := .ref (a + 5)) rfl (by decide) inX5 (by decide) q_202 (Or.inl ⟨by omega, by omega⟩) hs0_22 (zl_ref _ _) dX5_init_79 ?_
  refine r_iload_n C (pc := 82) rfl rfl dX5_init_82 ?_
  refine r_new C (pc := 83) (ci := 1) (L := [1, 0]) rfl (by decide) inX1 tyX1_ok q_102 q_111 q_20 pt0_X1 (Nat.le_of_ble_eq_true rfl) (Nat.le_of_ble_eq_true rfl) dX5_init_83 ?_
  refine VV.gc (k := 26) (n := 179) rfl rfl ?_
  refine VV.gN (N1 := a + 27) rfl ?_
  refine VV.gs (fun s23 es23 => ?_)
  refine VV.gn (fun w23 ew23 => ?_)
  have ks23 : ∀ b, b ≠ a + 26 → s23 b = s22 b := fun b hb => by rw [es23, s2_ne hb]
  have kv23 : ∀ b, b ≠ a + 26 → w23 b = w21 b := fun b hb => by rw [ew23, z0_ne hb]
  have hs0_23 : s23 a = (5, 8, pts [a + 1 + 2, a + 5 + 2, a + 6 + 2, 0, 0, 0, a + 19 + 2, a + 20 + 2]) := (ks23 _ (by omega)).trans hs0_22
  have hs5_23 : s23 (a + 5) = (10, 3, pts [a + 22 + 2, a + 24 + 2, 1]) := (ks23 _ (by omega)).trans hs5_22
  have hs19_23 : s23 (a + 19) = (8, 4, fun _ => 0) := (ks23 _ (by omega)).trans hs19_22
  have lowS_23 : ∀ b, b < a → s23 b = sh b := fun b hb => (ks23 b (by omega)).trans (lowS_22 b hb)
  have lowV_23 : ∀ b, b < a → w23 b = v b := fun b hb => (kv23 b (by omega)).trans (lowV_22 b hb)
  have SE1_23 : zSE G s23 (a + 27) (a + 1) := zSE_up SE1_22 (by omega) (fun b h1 h2 => ks23 b (by omega))
  have se1_23 : zse w23 (a + 1) M0.1 := se1_22.kept (fun b h1 h2 => kv23 b (by omega))
  have RC6_23 : zRC G s23 (a + 27) (a + 6) := zRC_up RC6_22 (by omega) (fun b h1 h2 => ks23 b (by omega))
  have rc6_23 : ∀ V, zrc w23 (a + 6) V [] (fun _ => 0) 0 [] (fun _ => none) (fun _ => none) 0 0 0 := fun V => (rc6_22 V).kept (fun b h1 h2 => kv23 b (by omega))
  have fld3_23 : w23 a 3 = (nI 0) := (congrFun (kv23 _ (by omega)) _).trans fld3_22
  have fld4_23 : w23 a 4 = (nI 0) := (congrFun (kv23 _ (by omega)) _).trans fld4_22
  have fld5_23 : w23 a 5 = (nI 0) := (congrFun (kv23 _ (by omega)) _).trans fld5_22
  have row19_23 : w23 (a + 19) = fun _ => 0 := (kv23 _ (by omega)).trans row19_22
  have SP20_23 : zSP G s23 (a + 27) (a + 20) := zSP_up SP20_22 (by omega) (fun b h1 h2 => ks23 b (by omega))
  have sp20_23 : zsp w23 (a + 20) (fun _ => 0) 0 := sp20_22.kept (kv23 _ (by omega)) (kv23 _ (by omega))
  have PL22_23 : zPL G s23 (a + 27) (a + 22) 4 := zPL_up PL22_22 (by omega) (fun b h1 h2 => ks23 b (by omega))
  have pl22_23 : zpl w23 (a + 22) 4 [] := pl22_22.kept (kv23 _ (by omega)) (kv23 _ (by omega))
  have PL24_23 : zPL G s23 (a + 27) (a + 24) 4 := zPL_up PL24_22 (by omega) (fun b h1 h2 => ks23 b (by omega))
  have pl24_23 : zpl w23 (a + 24) 4 [] := pl24_22.kept (kv23 _ (by omega)) (kv23 _ (by omega))
  have hs26_23 : s23 (a + 26) = (1, 2, pts [1, 0]) := by rw [es23, s2_self]
  refine r_dup C (pc := 86) rfl dX5_init_86 ?_
  refine r_iconst C (pc := 87) (x := (nI 4)) (by decide) dX5_init_87 ?_
  refine r_callIM C (pc := 88) (st := [.ref (a + 26), .int (nI 2), .ref (a + 5)]) (m_X1_init l G s23 w23 (a := a + 26) (room := 4) (by omega) hs26_23 (by decide)) kyX1_init q_199 rfl rfl (Nat.le_of_ble_eq_true rfl) ⟨Nat.le_of_ble_eq_true rfl, Nat.le_of_ble_eq_true rfl⟩ ⟨Nat.le_of_ble_eq_true rfl, Nat.le_of_ble_eq_true rfl⟩ dX5_init_88 (fun r24 s24 w24 N24 hp24 => ?_)
  obtain ⟨rfl, hN24, ks24, kv24, hq24⟩ := hp24
  obtain rfl : N24 = a + 28 := hN24
  refine VV.gc (k := 27) (n := 183) rfl rfl ?_
  refine VV.eq (st2 := [.ref (a + 26), .int (nI 2), .ref (a + 5)]) rfl ?_
  have hs0_24 : s24 a = (5, 8, pts [a + 1 + 2, a + 5 + 2, a + 6 + 2, 0, 0, 0, a + 19 + 2, a + 20 + 2]) := (ks24 _ (by omega)).trans hs0_23
  have hs5_24 : s24 (a + 5) = (10, 3, pts [a + 22 + 2, a + 24 + 2, 1]) := (ks24 _ (by omega)).trans hs5_23
  have hs19_24 : s24 (a + 19) = (8, 4, fun _ => 0) := (ks24 _ (by omega)).trans hs19_23
  have lowS_24 : ∀ b, b < a → s24 b = sh b := fun b hb => (ks24 b (by omega)).trans (lowS_23 b hb)
  have lowV_24 : ∀ b, b < a → w24 b = v b := fun b hb => (kv24 b (by omega)).trans (lowV_23 b hb)
  have SE1_24 : zSE G s24 (a + 28) (a + 1) := zSE_up SE1_23 (by omega) (fun b h1 h2 => ks24 b (by omega))
  have se1_24 : zse w24 (a + 1) M0.1 := se1_23.kept (fun b h1 h2 => kv24 b (by omega))
  have RC6_24 : zRC G s24 (a + 28) (a + 6) := zRC_up RC6_23 (by omega) (fun b h1 h2 => ks24 b (by omega))
  have rc6_24 : ∀ V, zrc w24 (a + 6) V [] (fun _ => 0) 0 [] (fun _ => none) (fun _ => none) 0 0 0 := fun V => (rc6_23 V).kept (fun b h1 h2 => kv24 b (by omega))
  have fld3_24 : w24 a 3 = (nI 0) := (congrFun (kv24 _ (by omega)) _).trans fld3_23
  have fld4_24 : w24 a 4 = (nI 0) := (congrFun (kv24 _ (by omega)) _).trans fld4_23
  have fld5_24 : w24 a 5 = (nI 0) := (congrFun (kv24 _ (by omega)) _).trans fld5_23
  have row19_24 : w24 (a + 19) = fun _ => 0 := (kv24 _ (by omega)).trans row19_23
  have SP20_24 : zSP G s24 (a + 28) (a + 20) := zSP_up SP20_23 (by omega) (fun b h1 h2 => ks24 b (by omega))
  have sp20_24 : zsp w24 (a + 20) (fun _ => 0) 0 := sp20_23.kept (kv24 _ (by omega)) (kv24 _ (by omega))
  have PL22_24 : zPL G s24 (a + 28) (a + 22) 4 := zPL_up PL22_23 (by omega) (fun b h1 h2 => ks24 b (by omega))
  have pl22_24 : zpl w24 (a + 22) 4 [] := pl22_23.kept (kv24 _ (by omega)) (kv24 _ (by omega))
  have PL24_24 : zPL G s24 (a + 28) (a + 24) 4 := zPL_up PL24_23 (by omega) (fun b h1 h2 => ks24 b (by omega))
  have pl24_24 : zpl w24 (a + 24) 4 [] := pl24_23.kept (kv24 _ (by omega)) (kv24 _ (by omega))
  have PL26_24 : zPL G s24 (a + 28) (a + 26) 4 := hq24.1
  have pl26_24 : zpl w24 (a + 26) 4 [] := hq24.2
  refine r_aast C (pc := 91) (ci := 10) (cj := 1) ⟨by omega, by omega⟩ hs5_24 (by decide) (Or.inl ⟨by omega, by omega⟩) PL26_24.2.2.2.1 (by decide) rfl rfl (by decide) (by decide) dX5_init_91 ?_
  refine VV.gs (fun s25 es25 => ?_)
  have ks25 : ∀ b, b ≠ a + 5 → s25 b = s24 b := fun b hb => by rw [es25, s2_ne hb]
  have hs0_25 : s25 a = (5, 8, pts [a + 1 + 2, a + 5 + 2, a + 6 + 2, 0, 0, 0, a + 19 + 2, a + 20 + 2]) := (ks25 _ (by omega)).trans hs0_24
  have hs19_25 : s25 (a + 19) = (8, 4, fun _ => 0) := (ks25 _ (by omega)).trans hs19_24
  have lowS_25 : ∀ b, b < a → s25 b = sh b := fun b hb => (ks25 b (by omega)).trans (lowS_24 b hb)
  have lowV_25 : ∀ b, b < a → w24 b = v b := lowV_24
  have SE1_25 : zSE G s25 (a + 28) (a + 1) := zSE_up SE1_24 (by omega) (fun b h1 h2 => ks25 b (by omega))
  have se1_25 : zse w24 (a + 1) M0.1 := se1_24
  have RC6_25 : zRC G s25 (a + 28) (a + 6) := zRC_up RC6_24 (by omega) (fun b h1 h2 => ks25 b (by omega))
  have rc6_25 : ∀ V, zrc w24 (a + 6) V [] (fun _ => 0) 0 [] (fun _ => none) (fun _ => none) 0 0 0 := rc6_24
  have fld3_25 : w24 a 3 = (nI 0) := fld3_24
  have fld4_25 : w24 a 4 = (nI 0) := fld4_24
  have fld5_25 : w24 a 5 = (nI 0) := fld5_24
  have row19_25 : w24 (a + 19) = fun _ => 0 := row19_24
  have SP20_25 : zSP G s25 (a + 28) (a + 20) := zSP_up SP20_24 (by omega) (fun b h1 h2 => ks25 b (by omega))
  have sp20_25 : zsp w24 (a + 20) (fun _ => 0) 0 := sp20_24
  have PL22_25 : zPL G s25 (a + 28) (a + 22) 4 := zPL_up PL22_24 (by omega) (fun b h1 h2 => ks25 b (by omega))
  have pl22_25 : zpl w24 (a + 22) 4 [] := pl22_24
  have PL24_25 : zPL G s25 (a + 28) (a + 24) 4 := zPL_up PL24_24 (by omega) (fun b h1 h2 => ks25 b (by omega))
  have pl24_25 : zpl w24 (a + 24) 4 [] := pl24_24
  have PL26_25 : zPL G s25 (a + 28) (a + 26) 4 := zPL_up PL26_24 (by omega) (fun b h1 h2 => ks25 b (by omega))
  have pl26_25 : zpl w24 (a + 26) 4 [] := pl26_24
  have hs5_25 : s25 (a + 5) = (10, 3, pts [a + 22 + 2, a + 24 + 2, a + 26 + 2]) := by rw [es25, s2_self, upn_pts (l := [a + 22 + 2, a + 24 + 2, 1]) (j := 2) (q := a + 26 + 2) (l2 := [a + 22 + 2, a + 24 + 2, a + 26 + 2]) (Nat.le_of_ble_eq_true rfl) rfl]
  refine r_iinc C (pc := 92) (lv2 := [some (.ref a), some (.int (nI 3))]) (y := (nI 3)) rfl (nI_inc _ _) (Nat.le_of_ble_eq_true rfl) rfl rfl dX5_init_92 ?_
  refine r_goto C (pc := 95) (tgt := 69) dX5_init_95 (by decide) ?_
  refine r_iload_n C (pc := 69) rfl rfl dX5_init_69 ?_
  refine r_aload_n C (pc := 70) rfl rfl dX5_init_70 ?_
  refine r_get C (pc := 71) (ci := 5) (k := 1) (w := .ref (a + 5)) rfl (by decide) inX5 (by decide) q_202 (Or.inl ⟨by omega, by omega⟩) hs0_25 (zl_ref _ _) dX5_init_71 ?_
  refine r_alen C (pc := 74) (x := nI 3) (Or.inl ⟨by omega, by omega⟩) hs5_25 (by decide) rfl rfl dX5_init_74 ?_
  refine n_icmp_ge C (pc := 75) (tgt := 98) (by decide) (by decide) dX5_init_75 (by decide) (fun _ => ?_) (fun z => absurd z (by decide))
  exact r_vret C (pc := 98) rfl dX5_init_98 ⟨rfl, rfl, lowS_25, lowV_25, ⟨ha, by omega, hs0_25, SE1_25, hs5_25, RC6_25, hs19_25, SP20_25, fun r hr => by
      rcases (show r = 0 ∨ r = 1 ∨ r = 2 by omega) with rfl | rfl | rfl
      · exact PL22_25
      · exact PL24_25
      · exact PL26_25⟩, ⟨fld3_25, fld4_25, fld5_25, se1_25, fun r hr => by
      rcases (show r = 0 ∨ r = 1 ∨ r = 2 by omega) with rfl | rfl | rfl
      · exact pl22_25
      · exact pl24_25
      · exact pl26_25, rc6_25 (zVl M0)⟩⟩
set_option maxRecDepth 100000 in
set_option maxHeartbeats 4000000 in
theorem m_X6_init (l : Launch) (G : zG) (sh : zH) (v : zV) {a : Nat} (ha : G.2.2.1 ≤ a) (hs : sh a = (6, 6, pts [1, 1, 1, 1, 1, 0])) : zMZ l G yX6_init cX6_init 2 none 4 339 2304 [.ref a] sh v (a + 1) (fun r sh1 v1 N1 => r = none ∧ N1 = a + 340 ∧ (∀ i, i < a → sh1 i = sh i) ∧ (∀ i, i < a → v1 i = v i) ∧ zXR G sh1 N1 a (fun i => i) ∧ zt v1 (a + 1) M0 ∧ zxh v1 a (fun i => i) h0) := by
  refine zMZ.of (by decide) rfl (Nat.le_of_ble_eq_true rfl) ?_
  intro p e s m args below meth c C hZ
  have lowS_0 : ∀ b, b < a → sh b = sh b := fun _ _ => rfl
  have lowV_0 : ∀ b, b < a → v b = v b := fun _ _ => rfl
  have hs0_0 := hs
  refine r_aload_n C (pc := 0) rfl rfl dX6_init_0 ?_
  refine r_objInit C (pc := 1) q_29 q_obji q_objc (Nat.le_of_ble_eq_true rfl) ⟨Nat.le_of_ble_eq_true rfl, Nat.le_of_ble_eq_true rfl⟩ dX6_init_1 ?_
  refine r_aload_n C (pc := 4) rfl rfl dX6_init_4 ?_
  refine r_new C (pc := 5) (ci := 5) (L := [1, 1, 1, 0, 0, 0, 1, 1]) rfl (by decide) inX5 tyX5_ok q_32 q_33 q_15 pt0_X5 (Nat.le_of_ble_eq_true rfl) (Nat.le_of_ble_eq_true rfl) dX6_init_5 ?_
  refine VV.gc (k := 1) (n := 8) rfl rfl ?_
  refine VV.gN (N1 := a + 2) rfl ?_
  refine VV.gs (fun s1 es1 => ?_)
  refine VV.gn (fun w1 ew1 => ?_)
  have ks1 : ∀ b, b ≠ a + 1 → s1 b = sh b := fun b hb => by rw [es1, s2_ne hb]
  have kv1 : ∀ b, b ≠ a + 1 → w1 b = v b := fun b hb => by rw [ew1, z0_ne hb]
  have hs0_1 : s1 a = (6, 6, pts [1, 1, 1, 1, 1, 0]) := (ks1 _ (by omega)).trans hs0_0
  have lowS_1 : ∀ b, b < a → s1 b = sh b := fun b hb => (ks1 b (by omega)).trans (lowS_0 b hb)
  have lowV_1 : ∀ b, b < a → w1 b = v b := fun b hb => (kv1 b (by omega)).trans (lowV_0 b hb)
  have hs1_1 : s1 (a + 1) = (5, 8, pts [1, 1, 1, 0, 0, 0, 1, 1]) := by rw [es1, s2_self]
  refine r_dup C (pc := 8) rfl dX6_init_8 ?_
  refine r_callIZ C hZ (pc := 9) (st := [.ref (a + 1), .ref a]) (m_X5_init l G s1 w1 (a := a + 1) (by omega) hs1_1) kyX5_init q_34 rfl rfl (Nat.le_of_ble_eq_true rfl) ⟨Nat.le_of_ble_eq_true rfl, Nat.le_of_ble_eq_true rfl⟩ ⟨Nat.le_of_ble_eq_true rfl, Nat.le_of_ble_eq_true rfl⟩ dX6_init_9 (fun r2 s2 w2 N2 hp2 => ?_)
  obtain ⟨rfl, hN2, ks2, kv2, hq2⟩ := hp2
  obtain rfl : N2 = a + 29 := hN2
  refine VV.gc (k := 28) (n := 191) rfl rfl ?_
  refine VV.eq (st2 := [.ref (a + 1), .ref a]) rfl ?_
  have hs0_2 : s2 a = (6, 6, pts [1, 1, 1, 1, 1, 0]) := (ks2 _ (by omega)).trans hs0_1
  have lowS_2 : ∀ b, b < a → s2 b = sh b := fun b hb => (ks2 b (by omega)).trans (lowS_1 b hb)
  have lowV_2 : ∀ b, b < a → w2 b = v b := fun b hb => (kv2 b (by omega)).trans (lowV_1 b hb)
  have TR1_2 : zTR G s2 (a + 29) (a + 1) := hq2.1
  have tt1_2 : zt w2 (a + 1) M0 := hq2.2
  refine r_putF C (pc := 12) (ci := 6) (k := 0) (L2 := [a + 1 + 2, 1, 1, 1, 1, 0]) rfl (by decide) inX6 tyX6_ok nmX6 (by decide) rfl rfl rfl rfl rfl q_231 ⟨by omega, by omega⟩ hs0_2 (Nat.le_of_ble_eq_true rfl) rfl dX6_init_12 ?_
  refine VV.gs (fun s3 es3 => ?_)
  have ks3 : ∀ b, b ≠ a → s3 b = s2 b := fun b hb => by rw [es3, s2_ne hb]
  have lowS_3 : ∀ b, b < a → s3 b = sh b := fun b hb => (ks3 b (by omega)).trans (lowS_2 b hb)
  have lowV_3 : ∀ b, b < a → w2 b = v b := lowV_2
  have TR1_3 : zTR G s3 (a + 29) (a + 1) := zTR_up TR1_2 (by omega) (fun b h1 h2 => ks3 b (by omega))
  have tt1_3 : zt w2 (a + 1) M0 := tt1_2
  have hs0_3 : s3 a = (6, 6, pts [a + 1 + 2, 1, 1, 1, 1, 0]) := by rw [es3, s2_self]
  refine r_aload_n C (pc := 15) rfl rfl dX6_init_15 ?_
  refine r_new C (pc := 16) (ci := 5) (L := [1, 1, 1, 0, 0, 0, 1, 1]) rfl (by decide) inX5 tyX5_ok q_32 q_33 q_15 pt0_X5 (Nat.le_of_ble_eq_true rfl) (Nat.le_of_ble_eq_true rfl) dX6_init_16 ?_
  refine VV.gc (k := 29) (n := 199) rfl rfl ?_
  refine VV.gN (N1 := a + 30) rfl ?_
  refine VV.gs (fun s4 es4 => ?_)
  refine VV.gn (fun w4 ew4 => ?_)
  have ks4 : ∀ b, b ≠ a + 29 → s4 b = s3 b := fun b hb => by rw [es4, s2_ne hb]
  have kv4 : ∀ b, b ≠ a + 29 → w4 b = w2 b := fun b hb => by rw [ew4, z0_ne hb]
  have hs0_4 : s4 a = (6, 6, pts [a + 1 + 2, 1, 1, 1, 1, 0]) := (ks4 _ (by omega)).trans hs0_3
  have lowS_4 : ∀ b, b < a → s4 b = sh b := fun b hb => (ks4 b (by omega)).trans (lowS_3 b hb)
  have lowV_4 : ∀ b, b < a → w4 b = v b := fun b hb => (kv4 b (by omega)).trans (lowV_3 b hb)
  have TR1_4 : zTR G s4 (a + 30) (a + 1) := zTR_up TR1_3 (by omega) (fun b h1 h2 => ks4 b (by omega))
  have tt1_4 : zt w4 (a + 1) M0 := zt_all tt1_3 (fun b h1 h2 => kv4 b (by omega))
  have hs29_4 : s4 (a + 29) = (5, 8, pts [1, 1, 1, 0, 0, 0, 1, 1]) := by rw [es4, s2_self]
  refine r_dup C (pc := 19) rfl dX6_init_19 ?_
  refine r_callIZ C hZ (pc := 20) (st := [.ref (a + 29), .ref a]) (m_X5_init l G s4 w4 (a := a + 29) (by omega) hs29_4) kyX5_init q_34 rfl rfl (Nat.le_of_ble_eq_true rfl) ⟨Nat.le_of_ble_eq_true rfl, Nat.le_of_ble_eq_true rfl⟩ ⟨Nat.le_of_ble_eq_true rfl, Nat.le_of_ble_eq_true rfl⟩ dX6_init_20 (fun r5 s5 w5 N5 hp5 => ?_)
  obtain ⟨rfl, hN5, ks5, kv5, hq5⟩ := hp5
  obtain rfl : N5 = a + 57 := hN5
  refine VV.gc (k := 56) (n := 382) rfl rfl ?_
  refine VV.eq (st2 := [.ref (a + 29), .ref a]) rfl ?_
  have hs0_5 : s5 a = (6, 6, pts [a + 1 + 2, 1, 1, 1, 1, 0]) := (ks5 _ (by omega)).trans hs0_4
  have lowS_5 : ∀ b, b < a → s5 b = sh b := fun b hb => (ks5 b (by omega)).trans (lowS_4 b hb)
  have lowV_5 : ∀ b, b < a → w5 b = v b := fun b hb => (kv5 b (by omega)).trans (lowV_4 b hb)
  have TR1_5 : zTR G s5 (a + 57) (a + 1) := zTR_up TR1_4 (by omega) (fun b h1 h2 => ks5 b (by omega))
  have tt1_5 : zt w5 (a + 1) M0 := zt_all tt1_4 (fun b h1 h2 => kv5 b (by omega))
  have TR29_5 : zTR G s5 (a + 57) (a + 29) := hq5.1
  refine r_putF C (pc := 23) (ci := 6) (k := 1) (L2 := [a + 1 + 2, a + 29 + 2, 1, 1, 1, 0]) rfl (by decide) inX6 tyX6_ok nmX6 (by decide) rfl rfl rfl rfl rfl q_232 ⟨by omega, by omega⟩ hs0_5 (Nat.le_of_ble_eq_true rfl) rfl dX6_init_23 ?_
  refine VV.gs (fun s6 es6 => ?_)
  have ks6 : ∀ b, b ≠ a → s6 b = s5 b := fun b hb => by rw [es6, s2_ne hb]
  have lowS_6 : ∀ b, b < a → s6 b = sh b := fun b hb => (ks6 b (by omega)).trans (lowS_5 b hb)
  have lowV_6 : ∀ b, b < a → w5 b = v b := lowV_5
  have TR1_6 : zTR G s6 (a + 57) (a + 1) := zTR_up TR1_5 (by omega) (fun b h1 h2 => ks6 b (by omega))
  have tt1_6 : zt w5 (a + 1) M0 := tt1_5
  have TR29_6 : zTR G s6 (a + 57) (a + 29) := zTR_up TR29_5 (by omega) (fun b h1 h2 => ks6 b (by omega))
  have hs0_6 : s6 a = (6, 6, pts [a + 1 + 2, a + 29 + 2, 1, 1, 1, 0]) := by rw [es6, s2_self]
  refine r_aload_n C (pc := 26) rfl rfl dX6_init_26 ?_
  refine r_bipush C (pc := 27) (x := (nI 8)) (by decide) dX6_init_27 ?_
  refine r_newr C (pc := 29) (ci := 11) (n := 8) (pt := fH a 0) (by decide) rfl q_32 (C.2.2.2.2.2.2.2.2.2.2.2) (fH_0 a) (by decide) (Nat.le_of_ble_eq_true rfl) (Nat.le_of_ble_eq_true rfl) dX6_init_29 ?_
  refine VV.gc (k := 57) (n := 390) rfl rfl ?_
  refine VV.gN (N1 := a + 58) rfl ?_
  refine VV.gs (fun s7 es7 => ?_)
  refine VV.gn (fun w7 ew7 => ?_)
  have ks7 : ∀ b, b ≠ a + 57 → s7 b = s6 b := fun b hb => by rw [es7, s2_ne hb]
  have kv7 : ∀ b, b ≠ a + 57 → w7 b = w5 b := fun b hb => by rw [ew7, z0_ne hb]
  have hs0_7 : s7 a = (6, 6, pts [a + 1 + 2, a + 29 + 2, 1, 1, 1, 0]) := (ks7 _ (by omega)).trans hs0_6
  have lowS_7 : ∀ b, b < a → s7 b = sh b := fun b hb => (ks7 b (by omega)).trans (lowS_6 b hb)
  have lowV_7 : ∀ b, b < a → w7 b = v b := fun b hb => (kv7 b (by omega)).trans (lowV_6 b hb)
  have TR1_7 : zTR G s7 (a + 58) (a + 1) := zTR_up TR1_6 (by omega) (fun b h1 h2 => ks7 b (by omega))
  have tt1_7 : zt w7 (a + 1) M0 := zt_all tt1_6 (fun b h1 h2 => kv7 b (by omega))
  have TR29_7 : zTR G s7 (a + 58) (a + 29) := zTR_up TR29_6 (by omega) (fun b h1 h2 => ks7 b (by omega))
  have hs57_7 : s7 (a + 57) = (11, 8, fH a 0) := by rw [es7, s2_self]
  refine r_putF C (pc := 32) (ci := 6) (k := 2) (L2 := [a + 1 + 2, a + 29 + 2, a + 57 + 2, 1, 1, 0]) rfl (by decide) inX6 tyX6_ok nmX6 (by decide) rfl rfl rfl rfl rfl q_233 ⟨by omega, by omega⟩ hs0_7 (Nat.le_of_ble_eq_true rfl) rfl dX6_init_32 ?_
  refine VV.gs (fun s8 es8 => ?_)
  have ks8 : ∀ b, b ≠ a → s8 b = s7 b := fun b hb => by rw [es8, s2_ne hb]
  have hs57_8 : s8 (a + 57) = (11, 8, fH a 0) := (ks8 _ (by omega)).trans hs57_7
  have lowS_8 : ∀ b, b < a → s8 b = sh b := fun b hb => (ks8 b (by omega)).trans (lowS_7 b hb)
  have lowV_8 : ∀ b, b < a → w7 b = v b := lowV_7
  have TR1_8 : zTR G s8 (a + 58) (a + 1) := zTR_up TR1_7 (by omega) (fun b h1 h2 => ks8 b (by omega))
  have tt1_8 : zt w7 (a + 1) M0 := tt1_7
  have TR29_8 : zTR G s8 (a + 58) (a + 29) := zTR_up TR29_7 (by omega) (fun b h1 h2 => ks8 b (by omega))
  have hs0_8 : s8 a = (6, 6, pts [a + 1 + 2, a + 29 + 2, a + 57 + 2, 1, 1, 0]) := by rw [es8, s2_self]
  refine r_aload_n C (pc := 35) rfl rfl dX6_init_35 ?_
  refine r_iconst C (pc := 36) (x := (nI 2)) (by decide) dX6_init_36 ?_
  refine r_newr C (pc := 37) (ci := 11) (n := 2) (pt := pts [1, 1]) (by decide) rfl q_32 (C.2.2.2.2.2.2.2.2.2.2.2) (fun j hj => by rcases (show j = 0 ∨ j = 1 by omega) with rfl | rfl <;> rfl) (by decide) (Nat.le_of_ble_eq_true rfl) (Nat.le_of_ble_eq_true rfl) dX6_init_37 ?_
  refine VV.gc (k := 58) (n := 392) rfl rfl ?_
  refine VV.gN (N1 := a + 59) rfl ?_
  refine VV.gs (fun s9 es9 => ?_)
  refine VV.gn (fun w9 ew9 => ?_)
  have ks9 : ∀ b, b ≠ a + 58 → s9 b = s8 b := fun b hb => by rw [es9, s2_ne hb]
  have kv9 : ∀ b, b ≠ a + 58 → w9 b = w7 b := fun b hb => by rw [ew9, z0_ne hb]
  have hs0_9 : s9 a = (6, 6, pts [a + 1 + 2, a + 29 + 2, a + 57 + 2, 1, 1, 0]) := (ks9 _ (by omega)).trans hs0_8
  have hs57_9 : s9 (a + 57) = (11, 8, fH a 0) := (ks9 _ (by omega)).trans hs57_8
  have lowS_9 : ∀ b, b < a → s9 b = sh b := fun b hb => (ks9 b (by omega)).trans (lowS_8 b hb)
  have lowV_9 : ∀ b, b < a → w9 b = v b := fun b hb => (kv9 b (by omega)).trans (lowV_8 b hb)
  have TR1_9 : zTR G s9 (a + 59) (a + 1) := zTR_up TR1_8 (by omega) (fun b h1 h2 => ks9 b (by omega))
  have tt1_9 : zt w9 (a + 1) M0 := zt_all tt1_8 (fun b h1 h2 => kv9 b (by omega))
  have TR29_9 : zTR G s9 (a + 59) (a + 29) := zTR_up TR29_8 (by omega) (fun b h1 h2 => ks9 b (by omega))
  have hs58_9 : s9 (a + 58) = (11, 2, pts [1, 1]) := by rw [es9, s2_self]
  refine r_putF C (pc := 40) (ci := 6) (k := 3) (L2 := [a + 1 + 2, a + 29 + 2, a + 57 + 2, a + 58 + 2, 1, 0]) rfl (by decide) inX6 tyX6_ok nmX6 (by decide) rfl rfl rfl rfl rfl q_234 ⟨by omega, by omega⟩ hs0_9 (Nat.le_of_ble_eq_true rfl) rfl dX6_init_40 ?_
  refine VV.gs (fun s10 es10 => ?_)
  have ks10 : ∀ b, b ≠ a → s10 b = s9 b := fun b hb => by rw [es10, s2_ne hb]
  have hs57_10 : s10 (a + 57) = (11, 8, fH a 0) := (ks10 _ (by omega)).trans hs57_9
  have hs58_10 : s10 (a + 58) = (11, 2, pts [1, 1]) := (ks10 _ (by omega)).trans hs58_9
  have lowS_10 : ∀ b, b < a → s10 b = sh b := fun b hb => (ks10 b (by omega)).trans (lowS_9 b hb)
  have lowV_10 : ∀ b, b < a → w9 b = v b := lowV_9
  have TR1_10 : zTR G s10 (a + 59) (a + 1) := zTR_up TR1_9 (by omega) (fun b h1 h2 => ks10 b (by omega))
  have tt1_10 : zt w9 (a + 1) M0 := tt1_9
  have TR29_10 : zTR G s10 (a + 59) (a + 29) := zTR_up TR29_9 (by omega) (fun b h1 h2 => ks10 b (by omega))
  have hs0_10 : s10 a = (6, 6, pts [a + 1 + 2, a + 29 + 2, a + 57 + 2, a + 58 + 2, 1, 0]) := by rw [es10, s2_self]
  refine r_aload_n C (pc := 43) rfl rfl dX6_init_43 ?_
  refine r_iconst C (pc := 44) (x := (nI 2)) (by decide) dX6_init_44 ?_
  refine r_newz C (pc := 45) (n := 2) q_250 (by decide) (Nat.le_of_ble_eq_true rfl) (Nat.le_of_ble_eq_true rfl) dX6_init_45 ?_
  refine VV.gc (k := 59) (n := 394) rfl rfl ?_
  refine VV.gN (N1 := a + 60) rfl ?_
  refine VV.gs (fun s11 es11 => ?_)
  refine VV.gn (fun w11 ew11 => ?_)
  have ks11 : ∀ b, b ≠ a + 59 → s11 b = s10 b := fun b hb => by rw [es11, s2_ne hb]
  have kv11 : ∀ b, b ≠ a + 59 → w11 b = w9 b := fun b hb => by rw [ew11, z0_ne hb]
  have hs0_11 : s11 a = (6, 6, pts [a + 1 + 2, a + 29 + 2, a + 57 + 2, a + 58 + 2, 1, 0]) := (ks11 _ (by omega)).trans hs0_10
  have hs57_11 : s11 (a + 57) = (11, 8, fH a 0) := (ks11 _ (by omega)).trans hs57_10
  have hs58_11 : s11 (a + 58) = (11, 2, pts [1, 1]) := (ks11 _ (by omega)).trans hs58_10
  have lowS_11 : ∀ b, b < a → s11 b = sh b := fun b hb => (ks11 b (by omega)).trans (lowS_10 b hb)
  have lowV_11 : ∀ b, b < a → w11 b = v b := fun b hb => (kv11 b (by omega)).trans (lowV_10 b hb)
  have TR1_11 : zTR G s11 (a + 60) (a + 1) := zTR_up TR1_10 (by omega) (fun b h1 h2 => ks11 b (by omega))
  have tt1_11 : zt w11 (a + 1) M0 := zt_all tt1_10 (fun b h1 h2 => kv11 b (by omega))
  have TR29_11 : zTR G s11 (a + 60) (a + 29) := zTR_up TR29_10 (by omega) (fun b h1 h2 => ks11 b (by omega))
  have hs59_11 : s11 (a + 59) = (9, 2, fun _ => 0) := by rw [es11, s2_self]
  have row59_11 : w11 (a + 59) = fun _ => 0 := by rw [ew11, z0_self]
  refine r_putF C (pc := 47) (ci := 6) (k := 4) (L2 := [a + 1 + 2, a + 29 + 2, a + 57 + 2, a + 58 + 2, a + 59 + 2, 0]) rfl (by decide) inX6 tyX6_ok nmX6 (by decide) rfl rfl rfl rfl rfl q_235 ⟨by omega, by omega⟩ hs0_11 (Nat.le_of_ble_eq_true rfl) rfl dX6_init_47 ?_
  refine VV.gs (fun s12 es12 => ?_)
  have ks12 : ∀ b, b ≠ a → s12 b = s11 b := fun b hb => by rw [es12, s2_ne hb]
  have hs57_12 : s12 (a + 57) = (11, 8, fH a 0) := (ks12 _ (by omega)).trans hs57_11
  have hs58_12 : s12 (a + 58) = (11, 2, pts [1, 1]) := (ks12 _ (by omega)).trans hs58_11
  have hs59_12 : s12 (a + 59) = (9, 2, fun _ => 0) := (ks12 _ (by omega)).trans hs59_11
  have lowS_12 : ∀ b, b < a → s12 b = sh b := fun b hb => (ks12 b (by omega)).trans (lowS_11 b hb)
  have lowV_12 : ∀ b, b < a → w11 b = v b := lowV_11
  have TR1_12 : zTR G s12 (a + 60) (a + 1) := zTR_up TR1_11 (by omega) (fun b h1 h2 => ks12 b (by omega))
  have tt1_12 : zt w11 (a + 1) M0 := tt1_11
  have TR29_12 : zTR G s12 (a + 60) (a + 29) := zTR_up TR29_11 (by omega) (fun b h1 h2 => ks12 b (by omega))
  have row59_12 : w11 (a + 59) = fun _ => 0 := row59_11
  have hs0_12 : s12 a = (6, 6, pts [a + 1 + 2, a + 29 + 2, a + 57 + 2, a + 58 + 2, a + 59 + 2, 0]) := by rw [es12, s2_self]
  refine r_aload_n C (pc := 50) rfl rfl dX6_init_50 ?_
  refine r_iconst C (pc := 51) (x := (nI 0)) (by decide) dX6_init_51 ?_
  refine r_put C (pc := 52) (ci := 6) (k := 5) rfl (by decide) inX6 tyX6_ok nmX6 (by decide) rfl pfI rfl q_236 ⟨by omega, by omega⟩ hs0_12 dX6_init_52 ?_
  refine VV.gn (fun w13 ew13 => ?_)
  have kv13 : ∀ b, b ≠ a → w13 b = w11 b := fun b hb => by rw [ew13, z2_addr hb]
  have lowS_13 : ∀ b, b < a → s12 b = sh b := lowS_12
  have lowV_13 : ∀ b, b < a → w13 b = v b := fun b hb => (kv13 b (by omega)).trans (lowV_12 b hb)
  have TR1_13 : zTR G s12 (a + 60) (a + 1) := zTR_up TR1_12 (by omega) (fun b h1 h2 => rfl)
  have tt1_13 : zt w13 (a + 1) M0 := zt_all tt1_12 (fun b h1 h2 => kv13 b (by omega))
  have TR29_13 : zTR G s12 (a + 60) (a + 29) := zTR_up TR29_12 (by omega) (fun b h1 h2 => rfl)
  have row59_13 : w13 (a + 59) = fun _ => 0 := (kv13 _ (by omega)).trans row59_12
  have fld5_13 : w13 a 5 = (nI 0) := by rw [ew13, z2_self]
  refine r_iconst C (pc := 55) (x := (nI 0)) (by decide) dX6_init_55 ?_
  refine r_istore_n C (pc := 56) (lv2 := [some (.ref a), some (.int (nI 0))]) rfl (Nat.le_of_ble_eq_true rfl) rfl rfl dX6_init_56 ?_
  refine r_iload_n C (pc := 57) rfl rfl dX6_init_57 ?_
  refine r_aload_n C (pc := 58) rfl rfl dX6_init_58 ?_
  refine r_get C (pc := 59) (ci := 6) (k := 2) (w := .ref (a + 57)) rfl (by decide) inX6 (by decide) q_233 (Or.inl ⟨by omega, by omega⟩) hs0_12 (zl_ref _ _) dX6_init_59 ?_
  refine r_alen C (pc := 62) (x := nI 8) (Or.inl ⟨by omega, by omega⟩) hs57_12 (by decide) rfl rfl dX6_init_62 ?_
  refine n_icmp_ge C (pc := 63) (tgt := 85) (by decide) (by decide) dX6_init_63 (by decide) (fun z => absurd z (by decide)) (fun _ => ?_)
  refine r_aload_n C (pc := 66) rfl rfl dX6_init_66 ?_
  refine r_get C (pc := 67) (ci := 6) (k := 2) (w := .ref (a + 57)) rfl (by decide) inX6 (by decide) q_233 (Or.inl ⟨by omega, by omega⟩) hs0_12 (zl_ref _ _) dX6_init_67 ?_
  refine r_iload_n C (pc := 70) rfl rfl dX6_init_70 ?_
  refine r_new C (pc := 71) (ci := 5) (L := [1, 1, 1, 0, 0, 0, 1, 1]) rfl (by decide) inX5 tyX5_ok q_32 q_33 q_15 pt0_X5 (Nat.le_of_ble_eq_true rfl) (Nat.le_of_ble_eq_true rfl) dX6_init_71 ?_
  refine VV.gc (k := 60) (n := 402) rfl rfl ?_
  refine VV.gN (N1 := a + 61) rfl ?_
  refine VV.gs (fun s14 es14 => ?_)
  refine VV.gn (fun w14 ew14 => ?_)
  have ks14 : ∀ b, b ≠ a + 60 → s14 b = s12 b := fun b hb => by rw [es14, s2_ne hb]
  have kv14 : ∀ b, b ≠ a + 60 → w14 b = w13 b := fun b hb => by rw [ew14, z0_ne hb]
  have hs0_14 : s14 a = (6, 6, pts [a + 1 + 2, a + 29 + 2, a + 57 + 2, a + 58 + 2, a + 59 + 2, 0]) := (ks14 _ (by omega)).trans hs0_12
  have hs57_14 : s14 (a + 57) = (11, 8, fH a 0) := (ks14 _ (by omega)).trans hs57_12
  have hs58_14 : s14 (a + 58) = (11, 2, pts [1, 1]) := (ks14 _ (by omega)).trans hs58_12
  have hs59_14 : s14 (a + 59) = (9, 2, fun _ => 0) := (ks14 _ (by omega)).trans hs59_12
  have lowS_14 : ∀ b, b < a → s14 b = sh b := fun b hb => (ks14 b (by omega)).trans (lowS_13 b hb)
  have lowV_14 : ∀ b, b < a → w14 b = v b := fun b hb => (kv14 b (by omega)).trans (lowV_13 b hb)
  have TR1_14 : zTR G s14 (a + 61) (a + 1) := zTR_up TR1_13 (by omega) (fun b h1 h2 => ks14 b (by omega))
  have tt1_14 : zt w14 (a + 1) M0 := zt_all tt1_13 (fun b h1 h2 => kv14 b (by omega))
  have TR29_14 : zTR G s14 (a + 61) (a + 29) := zTR_up TR29_13 (by omega) (fun b h1 h2 => ks14 b (by omega))
  have row59_14 : w14 (a + 59) = fun _ => 0 := (kv14 _ (by omega)).trans row59_13
  have fld5_14 : w14 a 5 = (nI 0) := (congrFun (kv14 _ (by omega)) _).trans fld5_13
  have hs60_14 : s14 (a + 60) = (5, 8, pts [1, 1, 1, 0, 0, 0, 1, 1]) := by rw [es14, s2_self]
  refine r_dup C (pc := 74) rfl dX6_init_74 ?_
  refine r_callIZ C hZ (pc := 75) (st := [.ref (a + 60), .int (nI 0), .ref (a + 57)]) (m_X5_init l G s14 w14 (a := a + 60) (by omega) hs60_14) kyX5_init q_34 rfl rfl (Nat.le_of_ble_eq_true rfl) ⟨Nat.le_of_ble_eq_true rfl, Nat.le_of_ble_eq_true rfl⟩ ⟨Nat.le_of_ble_eq_true rfl, Nat.le_of_ble_eq_true rfl⟩ dX6_init_75 (fun r15 s15 w15 N15 hp15 => ?_)
  obtain ⟨rfl, hN15, ks15, kv15, hq15⟩ := hp15
  obtain rfl : N15 = a + 88 := hN15
  refine VV.gc (k := 87) (n := 585) rfl rfl ?_
  refine VV.eq (st2 := [.ref (a + 60), .int (nI 0), .ref (a + 57)]) rfl ?_
  have hs0_15 : s15 a = (6, 6, pts [a + 1 + 2, a + 29 + 2, a + 57 + 2, a + 58 + 2, a + 59 + 2, 0]) := (ks15 _ (by omega)).trans hs0_14
  have hs57_15 : s15 (a + 57) = (11, 8, fH a 0) := (ks15 _ (by omega)).trans hs57_14
  have hs58_15 : s15 (a + 58) = (11, 2, pts [1, 1]) := (ks15 _ (by omega)).trans hs58_14
  have hs59_15 : s15 (a + 59) = (9, 2, fun _ => 0) := (ks15 _ (by omega)).trans hs59_14
  have lowS_15 : ∀ b, b < a → s15 b = sh b := fun b hb => (ks15 b (by omega)).trans (lowS_14 b hb)
  have lowV_15 : ∀ b, b < a → w15 b = v b := fun b hb => (kv15 b (by omega)).trans (lowV_14 b hb)
  have TR1_15 : zTR G s15 (a + 88) (a + 1) := zTR_up TR1_14 (by omega) (fun b h1 h2 => ks15 b (by omega))
  have tt1_15 : zt w15 (a + 1) M0 := zt_all tt1_14 (fun b h1 h2 => kv15 b (by omega))
  have TR29_15 : zTR G s15 (a + 88) (a + 29) := zTR_up TR29_14 (by omega) (fun b h1 h2 => ks15 b (by omega))
  have row59_15 : w15 (a + 59) = fun _ => 0 := (kv15 _ (by omega)).trans row59_14
  have fld5_15 : w15 a 5 = (nI 0) := (congrFun (kv15 _ (by omega)) _).trans fld5_14
  have TR60_15 : zTR G s15 (a + 88) (a + 60) := hq15.1
  refine r_aast C (pc := 78) (ci := 11) (cj := 5) ⟨by omega, by omega⟩ hs57_15 (by decide) (Or.inl ⟨by omega, by omega⟩) TR60_15.2.2.1 (by decide) rfl rfl (by decide) (by decide) dX6_init_78 ?_
  refine VV.gs (fun s16 es16 => ?_)
  have ks16 : ∀ b, b ≠ a + 57 → s16 b = s15 b := fun b hb => by rw [es16, s2_ne hb]
  have hs0_16 : s16 a = (6, 6, pts [a + 1 + 2, a + 29 + 2, a + 57 + 2, a + 58 + 2, a + 59 + 2, 0]) := (ks16 _ (by omega)).trans hs0_15
  have hs58_16 : s16 (a + 58) = (11, 2, pts [1, 1]) := (ks16 _ (by omega)).trans hs58_15
  have hs59_16 : s16 (a + 59) = (9, 2, fun _ => 0) := (ks16 _ (by omega)).trans hs59_15
  have lowS_16 : ∀ b, b < a → s16 b = sh b := fun b hb => (ks16 b (by omega)).trans (lowS_15 b hb)
  have lowV_16 : ∀ b, b < a → w15 b = v b := lowV_15
  have TR1_16 : zTR G s16 (a + 88) (a + 1) := zTR_up TR1_15 (by omega) (fun b h1 h2 => ks16 b (by omega))
  have tt1_16 : zt w15 (a + 1) M0 := tt1_15
  have TR29_16 : zTR G s16 (a + 88) (a + 29) := zTR_up TR29_15 (by omega) (fun b h1 h2 => ks16 b (by omega))
  have row59_16 : w15 (a + 59) = fun _ => 0 := row59_15
  have fld5_16 : w15 a 5 = (nI 0) := fld5_15
  have TR60_16 : zTR G s16 (a + 88) (a + 60) := zTR_up TR60_15 (by omega) (fun b h1 h2 => ks16 b (by omega))
  have hs57_16 : s16 (a + 57) = (11, 8, fH a 1) := by rw [es16, s2_self, (show upn (fH a 0) 0 (a + 60 + 2) = fH a 1 from fH_s (by decide))]
  refine r_iinc C (pc := 79) (lv2 := [some (.ref a), some (.int (nI 1))]) (y := (nI 1)) rfl (nI_inc _ _) (Nat.le_of_ble_eq_true rfl) rfl rfl dX6_init_79 ?_
  refine r_goto C (pc := 82) (tgt := 57) dX6_init_82 (by decide) ?_
  refine r_iload_n C (pc := 57) rfl rfl dX6_init_57 ?_
  refine r_aload_n C (pc := 58) rfl rfl dX6_init_58 ?_
  refine r_get C (pc := 59) (ci := 6) (k := 2) (w := .ref (a + 57)) rfl (by decide) inX6 (by decide) q_233 (Or.inl ⟨by omega, by omega⟩) hs0_16 (zl_ref _ _) dX6_init_59 ?_
  refine r_alen C (pc := 62) (x := nI 8) (Or.inl ⟨by omega, by omega⟩) hs57_16 (by decide) rfl rfl dX6_init_62 ?_
  refine n_icmp_ge C (pc := 63) (tgt := 85) (by decide) (by decide) dX6_init_63 (by decide) (fun z => absurd z (by decide)) (fun _ => ?_)
  refine r_aload_n C (pc := 66) rfl rfl dX6_init_66 ?_
  refine r_get C (pc := 67) (ci := 6) (k := 2) (w := .ref (a + 57)) rfl (by decide) inX6 (by decide) q_233 (Or.inl ⟨by omega, by omega⟩) hs0_16 (zl_ref _ _) dX6_init_67 ?_
  refine r_iload_n C (pc := 70) rfl rfl dX6_init_70 ?_
  refine r_new C (pc := 71) (ci := 5) (L := [1, 1, 1, 0, 0, 0, 1, 1]) rfl (by decide) inX5 tyX5_ok q_32 q_33 q_15 pt0_X5 (Nat.le_of_ble_eq_true rfl) (Nat.le_of_ble_eq_true rfl) dX6_init_71 ?_
  refine VV.gc (k := 88) (n := 593) rfl rfl ?_
  refine VV.gN (N1 := a + 89) rfl ?_
  refine VV.gs (fun s17 es17 => ?_)
  refine VV.gn (fun w17 ew17 => ?_)
  have ks17 : ∀ b, b ≠ a + 88 → s17 b = s16 b := fun b hb => by rw [es17, s2_ne hb]
  have kv17 : ∀ b, b ≠ a + 88 → w17 b = w15 b := fun b hb => by rw [ew17, z0_ne hb]
  have hs0_17 : s17 a = (6, 6, pts [a + 1 + 2, a + 29 + 2, a + 57 + 2, a + 58 + 2, a + 59 + 2, 0]) := (ks17 _ (by omega)).trans hs0_16
  have hs57_17 : s17 (a + 57) = (11, 8, fH a 1) := (ks17 _ (by omega)).trans hs57_16
  have hs58_17 : s17 (a + 58) = (11, 2, pts [1, 1]) := (ks17 _ (by omega)).trans hs58_16
  have hs59_17 : s17 (a + 59) = (9, 2, fun _ => 0) := (ks17 _ (by omega)).trans hs59_16
  have lowS_17 : ∀ b, b < a → s17 b = sh b := fun b hb => (ks17 b (by omega)).trans (lowS_16 b hb)
  have lowV_17 : ∀ b, b < a → w17 b = v b := fun b hb => (kv17 b (by omega)).trans (lowV_16 b hb)
  have TR1_17 : zTR G s17 (a + 89) (a + 1) := zTR_up TR1_16 (by omega) (fun b h1 h2 => ks17 b (by omega))
  have tt1_17 : zt w17 (a + 1) M0 := zt_all tt1_16 (fun b h1 h2 => kv17 b (by omega))
  have TR29_17 : zTR G s17 (a + 89) (a + 29) := zTR_up TR29_16 (by omega) (fun b h1 h2 => ks17 b (by omega))
  have row59_17 : w17 (a + 59) = fun _ => 0 := (kv17 _ (by omega)).trans row59_16
  have fld5_17 : w17 a 5 = (nI 0) := (congrFun (kv17 _ (by omega)) _).trans fld5_16
  have TR60_17 : zTR G s17 (a + 89) (a + 60) := zTR_up TR60_16 (by omega) (fun b h1 h2 => ks17 b (by omega))
  have hs88_17 : s17 (a + 88) = (5, 8, pts [1, 1, 1, 0, 0, 0, 1, 1]) := by rw [es17, s2_self]
  refine r_dup C (pc := 74) rfl dX6_init_74 ?_
  refine r_callIZ C hZ (pc := 75) (st := [.ref (a + 88), .int (nI 1), .ref (a + 57)]) (m_X5_init l G s17 w17 (a := a + 88) (by omega) hs88_17) kyX5_init q_34 rfl rfl (Nat.le_of_ble_eq_true rfl) ⟨Nat.le_of_ble_eq_true rfl, Nat.le_of_ble_eq_true rfl⟩ ⟨Nat.le_of_ble_eq_true rfl, Nat.le_of_ble_eq_true rfl⟩ dX6_init_75 (fun r18 s18 w18 N18 hp18 => ?_)
  obtain ⟨rfl, hN18, ks18, kv18, hq18⟩ := hp18
  obtain rfl : N18 = a + 116 := hN18
  refine VV.gc (k := 115) (n := 776) rfl rfl ?_
  refine VV.eq (st2 := [.ref (a + 88), .int (nI 1), .ref (a + 57)]) rfl ?_
  have hs0_18 : s18 a = (6, 6, pts [a + 1 + 2, a + 29 + 2, a + 57 + 2, a + 58 + 2, a + 59 + 2, 0]) := (ks18 _ (by omega)).trans hs0_17
  have hs57_18 : s18 (a + 57) = (11, 8, fH a 1) := (ks18 _ (by omega)).trans hs57_17
  have hs58_18 : s18 (a + 58) = (11, 2, pts [1, 1]) := (ks18 _ (by omega)).trans hs58_17
  have hs59_18 : s18 (a + 59) = (9, 2, fun _ => 0) := (ks18 _ (by omega)).trans hs59_17
  have lowS_18 : ∀ b, b < a → s18 b = sh b := fun b hb => (ks18 b (by omega)).trans (lowS_17 b hb)
  have lowV_18 : ∀ b, b < a → w18 b = v b := fun b hb => (kv18 b (by omega)).trans (lowV_17 b hb)
  have TR1_18 : zTR G s18 (a + 116) (a + 1) := zTR_up TR1_17 (by omega) (fun b h1 h2 => ks18 b (by omega))
  have tt1_18 : zt w18 (a + 1) M0 := zt_all tt1_17 (fun b h1 h2 => kv18 b (by omega))
  have TR29_18 : zTR G s18 (a + 116) (a + 29) := zTR_up TR29_17 (by omega) (fun b h1 h2 => ks18 b (by omega))
  have row59_18 : w18 (a + 59) = fun _ => 0 := (kv18 _ (by omega)).trans row59_17
  have fld5_18 : w18 a 5 = (nI 0) := (congrFun (kv18 _ (by omega)) _).trans fld5_17
  have TR60_18 : zTR G s18 (a + 116) (a + 60) := zTR_up TR60_17 (by omega) (fun b h1 h2 => ks18 b (by omega))
  have TR88_18 : zTR G s18 (a + 116) (a + 88) := hq18.1
  refine r_aast C (pc := 78) (ci := 11) (cj := 5) ⟨by omega, by omega⟩ hs57_18 (by decide) (Or.inl ⟨by omega, by omega⟩) TR88_18.2.2.1 (by decide) rfl rfl (by decide) (by decide) dX6_init_78 ?_
  refine VV.gs (fun s19 es19 => ?_)
  have ks19 : ∀ b, b ≠ a + 57 → s19 b = s18 b := fun b hb => by rw [es19, s2_ne hb]
  have hs0_19 : s19 a = (6, 6, pts [a + 1 + 2, a + 29 + 2, a + 57 + 2, a + 58 + 2, a + 59 + 2, 0]) := (ks19 _ (by omega)).trans hs0_18
  have hs58_19 : s19 (a + 58) = (11, 2, pts [1, 1]) := (ks19 _ (by omega)).trans hs58_18
  have hs59_19 : s19 (a + 59) = (9, 2, fun _ => 0) := (ks19 _ (by omega)).trans hs59_18
  have lowS_19 : ∀ b, b < a → s19 b = sh b := fun b hb => (ks19 b (by omega)).trans (lowS_18 b hb)
  have lowV_19 : ∀ b, b < a → w18 b = v b := lowV_18
  have TR1_19 : zTR G s19 (a + 116) (a + 1) := zTR_up TR1_18 (by omega) (fun b h1 h2 => ks19 b (by omega))
  have tt1_19 : zt w18 (a + 1) M0 := tt1_18
  have TR29_19 : zTR G s19 (a + 116) (a + 29) := zTR_up TR29_18 (by omega) (fun b h1 h2 => ks19 b (by omega))
  have row59_19 : w18 (a + 59) = fun _ => 0 := row59_18
  have fld5_19 : w18 a 5 = (nI 0) := fld5_18
  have TR60_19 : zTR G s19 (a + 116) (a + 60) := zTR_up TR60_18 (by omega) (fun b h1 h2 => ks19 b (by omega))
  have TR88_19 : zTR G s19 (a + 116) (a + 88) := zTR_up TR88_18 (by omega) (fun b h1 h2 => ks19 b (by omega))
  have hs57_19 : s19 (a + 57) = (11, 8, fH a 2) := by rw [es19, s2_self, (show upn (fH a 1) 1 (a + 88 + 2) = fH a 2 from fH_s (by decide))]
  refine r_iinc C (pc := 79) (lv2 := [some (.ref a), some (.int (nI 2))]) (y := (nI 2)) rfl (nI_inc _ _) (Nat.le_of_ble_eq_true rfl) rfl rfl dX6_init_79 ?_
  refine r_goto C (pc := 82) (tgt := 57) dX6_init_82 (by decide) ?_
  refine r_iload_n C (pc := 57) rfl rfl dX6_init_57 ?_
  refine r_aload_n C (pc := 58) rfl rfl dX6_init_58 ?_
  refine r_get C (pc := 59) (ci := 6) (k := 2) (w := .ref (a + 57)) rfl (by decide) inX6 (by decide) q_233 (Or.inl ⟨by omega, by omega⟩) hs0_19 (zl_ref _ _) dX6_init_59 ?_
  refine r_alen C (pc := 62) (x := nI 8) (Or.inl ⟨by omega, by omega⟩) hs57_19 (by decide) rfl rfl dX6_init_62 ?_
  refine n_icmp_ge C (pc := 63) (tgt := 85) (by decide) (by decide) dX6_init_63 (by decide) (fun z => absurd z (by decide)) (fun _ => ?_)
  refine r_aload_n C (pc := 66) rfl rfl dX6_init_66 ?_
  refine r_get C (pc := 67) (ci := 6) (k := 2) (w := .ref (a + 57)) rfl (by decide) inX6 (by decide) q_233 (Or.inl ⟨by omega, by omega⟩) hs0_19 (zl_ref _ _) dX6_init_67 ?_
  refine r_iload_n C (pc := 70) rfl rfl dX6_init_70 ?_
  refine r_new C (pc := 71) (ci := 5) (L := [1, 1, 1, 0, 0, 0, 1, 1]) rfl (by decide) inX5 tyX5_ok q_32 q_33 q_15 pt0_X5 (Nat.le_of_ble_eq_true rfl) (Nat.le_of_ble_eq_true rfl) dX6_init_71 ?_
  refine VV.gc (k := 116) (n := 784) rfl rfl ?_
  refine VV.gN (N1 := a + 117) rfl ?_
  refine VV.gs (fun s20 es20 => ?_)
  refine VV.gn (fun w20 ew20 => ?_)
  have ks20 : ∀ b, b ≠ a + 116 → s20 b = s19 b := fun b hb => by rw [es20, s2_ne hb]
  have kv20 : ∀ b, b ≠ a + 116 → w20 b = w18 b := fun b hb => by rw [ew20, z0_ne hb]
  have hs0_20 : s20 a = (6, 6, pts [a + 1 + 2, a + 29 + 2, a + 57 + 2, a + 58 + 2, a + 59 + 2, 0]) := (ks20 _ (by omega)).trans hs0_19
  have hs57_20 : s20 (a + 57) = (11, 8, fH a 2) := (ks20 _ (by omega)).trans hs57_19
  have hs58_20 : s20 (a + 58) = (11, 2, pts [1, 1]) := (ks20 _ (by omega)).trans hs58_19
  have hs59_20 : s20 (a + 59) = (9, 2, fun _ => 0) := (ks20 _ (by omega)).trans hs59_19
  have lowS_20 : ∀ b, b < a → s20 b = sh b := fun b hb => (ks20 b (by omega)).trans (lowS_19 b hb)
  have lowV_20 : ∀ b, b < a → w20 b = v b := fun b hb => (kv20 b (by omega)).trans (lowV_19 b hb)
  have TR1_20 : zTR G s20 (a + 117) (a + 1) := zTR_up TR1_19 (by omega) (fun b h1 h2 => ks20 b (by omega))
  have tt1_20 : zt w20 (a + 1) M0 := zt_all tt1_19 (fun b h1 h2 => kv20 b (by omega))
  have TR29_20 : zTR G s20 (a + 117) (a + 29) := zTR_up TR29_19 (by omega) (fun b h1 h2 => ks20 b (by omega))
  have row59_20 : w20 (a + 59) = fun _ => 0 := (kv20 _ (by omega)).trans row59_19
  have fld5_20 : w20 a 5 = (nI 0) := (congrFun (kv20 _ (by omega)) _).trans fld5_19
  have TR60_20 : zTR G s20 (a + 117) (a + 60) := zTR_up TR60_19 (by omega) (fun b h1 h2 => ks20 b (by omega))
  have TR88_20 : zTR G s20 (a + 117) (a + 88) := zTR_up TR88_19 (by omega) (fun b h1 h2 => ks20 b (by omega))
  have hs116_20 : s20 (a + 116) = (5, 8, pts [1, 1, 1, 0, 0, 0, 1, 1]) := by rw [es20, s2_self]
  refine r_dup C (pc := 74) rfl dX6_init_74 ?_
  refine r_callIZ C hZ (pc := 75) (st := [.ref (a + 116), .int (nI 2), .ref (a + 57)]) (m_X5_init l G s20 w20 (a := a + 116) (by omega) hs116_20) kyX5_init q_34 rfl rfl (Nat.le_of_ble_eq_true rfl) ⟨Nat.le_of_ble_eq_true rfl, Nat.le_of_ble_eq_true rfl⟩ ⟨Nat.le_of_ble_eq_true rfl, Nat.le_of_ble_eq_true rfl⟩ dX6_init_75 (fun r21 s21 w21 N21 hp21 => ?_)
  obtain ⟨rfl, hN21, ks21, kv21, hq21⟩ := hp21
  obtain rfl : N21 = a + 144 := hN21
  refine VV.gc (k := 143) (n := 967) rfl rfl ?_
  refine VV.eq (st2 := [.ref (a + 116), .int (nI 2), .ref (a + 57)]) rfl ?_
  have hs0_21 : s21 a = (6, 6, pts [a + 1 + 2, a + 29 + 2, a + 57 + 2, a + 58 + 2, a + 59 + 2, 0]) := (ks21 _ (by omega)).trans hs0_20
  have hs57_21 : s21 (a + 57) = (11, 8, fH a 2) := (ks21 _ (by omega)).trans hs57_20
  have hs58_21 : s21 (a + 58) = (11, 2, pts [1, 1]) := (ks21 _ (by omega)).trans hs58_20
  have hs59_21 : s21 (a + 59) = (9, 2, fun _ => 0) := (ks21 _ (by omega)).trans hs59_20
  have lowS_21 : ∀ b, b < a → s21 b = sh b := fun b hb => (ks21 b (by omega)).trans (lowS_20 b hb)
  have lowV_21 : ∀ b, b < a → w21 b = v b := fun b hb => (kv21 b (by omega)).trans (lowV_20 b hb)
  have TR1_21 : zTR G s21 (a + 144) (a + 1) := zTR_up TR1_20 (by omega) (fun b h1 h2 => ks21 b (by omega))
  have tt1_21 : zt w21 (a + 1) M0 := zt_all tt1_20 (fun b h1 h2 => kv21 b (by omega))
  have TR29_21 : zTR G s21 (a + 144) (a + 29) := zTR_up TR29_20 (by omega) (fun b h1 h2 => ks21 b (by omega))
  have row59_21 : w21 (a + 59) = fun _ => 0 := (kv21 _ (by omega)).trans row59_20
  have fld5_21 : w21 a 5 = (nI 0) := (congrFun (kv21 _ (by omega)) _).trans fld5_20
  have TR60_21 : zTR G s21 (a + 144) (a + 60) := zTR_up TR60_20 (by omega) (fun b h1 h2 => ks21 b (by omega))
  have TR88_21 : zTR G s21 (a + 144) (a + 88) := zTR_up TR88_20 (by omega) (fun b h1 h2 => ks21 b (by omega))
  have TR116_21 : zTR G s21 (a + 144) (a + 116) := hq21.1
  refine r_aast C (pc := 78) (ci := 11) (cj := 5) ⟨by omega, by omega⟩ hs57_21 (by decide) (Or.inl ⟨by omega, by omega⟩) TR116_21.2.2.1 (by decide) rfl rfl (by decide) (by decide) dX6_init_78 ?_
  refine VV.gs (fun s22 es22 => ?_)
  have ks22 : ∀ b, b ≠ a + 57 → s22 b = s21 b := fun b hb => by rw [es22, s2_ne hb]
  have hs0_22 : s22 a = (6, 6, pts [a + 1 + 2, a + 29 + 2, a + 57 + 2, a + 58 + 2, a + 59 + 2, 0]) := (ks22 _ (by omega)).trans hs0_21
  have hs58_22 : s22 (a + 58) = (11, 2, pts [1, 1]) := (ks22 _ (by omega)).trans hs58_21
  have hs59_22 : s22 (a + 59) = (9, 2, fun _ => 0) := (ks22 _ (by omega)).trans hs59_21
  have lowS_22 : ∀ b, b < a → s22 b = sh b := fun b hb => (ks22 b (by omega)).trans (lowS_21 b hb)
  have lowV_22 : ∀ b, b < a → w21 b = v b := lowV_21
  have TR1_22 : zTR G s22 (a + 144) (a + 1) := zTR_up TR1_21 (by omega) (fun b h1 h2 => ks22 b (by omega))
  have tt1_22 : zt w21 (a + 1) M0 := tt1_21
  have TR29_22 : zTR G s22 (a + 144) (a + 29) := zTR_up TR29_21 (by omega) (fun b h1 h2 => ks22 b (by omega))
  have row59_22 : w21 (a + 59) = fun _ => 0 := row59_21
  have fld5_22 : w21 a 5 = (nI 0) := fld5_21
  have TR60_22 : zTR G s22 (a + 144) (a + 60) := zTR_up TR60_21 (by omega) (fun b h1 h2 => ks22 b (by omega))
  have TR88_22 : zTR G s22 (a + 144) (a + 88) := zTR_up TR88_21 (by omega) (fun b h1 h2 => ks22 b (by omega))
  have TR116_22 : zTR G s22 (a + 144) (a + 116) := zTR_up TR116_21 (by omega) (fun b h1 h2 => ks22 b (by omega))
  have hs57_22 : s22 (a + 57) = (11, 8, fH a 3) := by rw [es22, s2_self, (show upn (fH a 2) 2 (a + 116 + 2) = fH a 3 from fH_s (by decide))]
  refine r_iinc C (pc := 79) (lv2 := [some (.ref a), some (.int (nI 3))]) (y := (nI 3)) rfl (nI_inc _ _) (Nat.le_of_ble_eq_true rfl) rfl rfl dX6_init_79 ?_
  refine r_goto C (pc := 82) (tgt := 57) dX6_init_82 (by decide) ?_
  refine r_iload_n C (pc := 57) rfl rfl dX6_init_57 ?_
  refine r_aload_n C (pc := 58) rfl rfl dX6_init_58 ?_
  refine r_get C (pc := 59) (ci := 6) (k := 2) (w := .ref (a + 57)) rfl (by decide) inX6 (by decide) q_233 (Or.inl ⟨by omega, by omega⟩) hs0_22 (zl_ref _ _) dX6_init_59 ?_
  refine r_alen C (pc := 62) (x := nI 8) (Or.inl ⟨by omega, by omega⟩) hs57_22 (by decide) rfl rfl dX6_init_62 ?_
  refine n_icmp_ge C (pc := 63) (tgt := 85) (by decide) (by decide) dX6_init_63 (by decide) (fun z => absurd z (by decide)) (fun _ => ?_)
  refine r_aload_n C (pc := 66) rfl rfl dX6_init_66 ?_
  refine r_get C (pc := 67) (ci := 6) (k := 2) (w := .ref (a + 57)) rfl (by decide) inX6 (by decide) q_233 (Or.inl ⟨by omega, by omega⟩) hs0_22 (zl_ref _ _) dX6_init_67 ?_
  refine r_iload_n C (pc := 70) rfl rfl dX6_init_70 ?_
  refine r_new C (pc := 71) (ci := 5) (L := [1, 1, 1, 0, 0, 0, 1, 1]) rfl (by decide) inX5 tyX5_ok q_32 q_33 q_15 pt0_X5 (Nat.le_of_ble_eq_true rfl) (Nat.le_of_ble_eq_true rfl) dX6_init_71 ?_
  refine VV.gc (k := 144) (n := 975) rfl rfl ?_
  refine VV.gN (N1 := a + 145) rfl ?_
  refine VV.gs (fun s23 es23 => ?_)
  refine VV.gn (fun w23 ew23 => ?_)
  have ks23 : ∀ b, b ≠ a + 144 → s23 b = s22 b := fun b hb => by rw [es23, s2_ne hb]
  have kv23 : ∀ b, b ≠ a + 144 → w23 b = w21 b := fun b hb => by rw [ew23, z0_ne hb]
  have hs0_23 : s23 a = (6, 6, pts [a + 1 + 2, a + 29 + 2, a + 57 + 2, a + 58 + 2, a + 59 + 2, 0]) := (ks23 _ (by omega)).trans hs0_22
  have hs57_23 : s23 (a + 57) = (11, 8, fH a 3) := (ks23 _ (by omega)).trans hs57_22
  have hs58_23 : s23 (a + 58) = (11, 2, pts [1, 1]) := (ks23 _ (by omega)).trans hs58_22
  have hs59_23 : s23 (a + 59) = (9, 2, fun _ => 0) := (ks23 _ (by omega)).trans hs59_22
  have lowS_23 : ∀ b, b < a → s23 b = sh b := fun b hb => (ks23 b (by omega)).trans (lowS_22 b hb)
  have lowV_23 : ∀ b, b < a → w23 b = v b := fun b hb => (kv23 b (by omega)).trans (lowV_22 b hb)
  have TR1_23 : zTR G s23 (a + 145) (a + 1) := zTR_up TR1_22 (by omega) (fun b h1 h2 => ks23 b (by omega))
  have tt1_23 : zt w23 (a + 1) M0 := zt_all tt1_22 (fun b h1 h2 => kv23 b (by omega))
  have TR29_23 : zTR G s23 (a + 145) (a + 29) := zTR_up TR29_22 (by omega) (fun b h1 h2 => ks23 b (by omega))
  have row59_23 : w23 (a + 59) = fun _ => 0 := (kv23 _ (by omega)).trans row59_22
  have fld5_23 : w23 a 5 = (nI 0) := (congrFun (kv23 _ (by omega)) _).trans fld5_22
  have TR60_23 : zTR G s23 (a + 145) (a + 60) := zTR_up TR60_22 (by omega) (fun b h1 h2 => ks23 b (by omega))
  have TR88_23 : zTR G s23 (a + 145) (a + 88) := zTR_up TR88_22 (by omega) (fun b h1 h2 => ks23 b (by omega))
  have TR116_23 : zTR G s23 (a + 145) (a + 116) := zTR_up TR116_22 (by omega) (fun b h1 h2 => ks23 b (by omega))
  have hs144_23 : s23 (a + 144) = (5, 8, pts [1, 1, 1, 0, 0, 0, 1, 1]) := by rw [es23, s2_self]
  refine r_dup C (pc := 74) rfl dX6_init_74 ?_
  refine r_callIZ C hZ (pc := 75) (st := [.ref (a + 144), .int (nI 3), .ref (a + 57)]) (m_X5_init l G s23 w23 (a := a + 144) (by omega) hs144_23) kyX5_init q_34 rfl rfl (Nat.le_of_ble_eq_true rfl) ⟨Nat.le_of_ble_eq_true rfl, Nat.le_of_ble_eq_true rfl⟩ ⟨Nat.le_of_ble_eq_true rfl, Nat.le_of_ble_eq_true rfl⟩ dX6_init_75 (fun r24 s24 w24 N24 hp24 => ?_)
  obtain ⟨rfl, hN24, ks24, kv24, hq24⟩ := hp24
  obtain rfl : N24 = a + 172 := hN24
  refine VV.gc (k := 171) (n := 1158) rfl rfl ?_
  refine VV.eq (st2 := [.ref (a + 144), .int (nI 3), .ref (a + 57)]) rfl ?_
  have hs0_24 : s24 a = (6, 6, pts [a + 1 + 2, a + 29 + 2, a + 57 + 2, a + 58 + 2, a + 59 + 2, 0]) := (ks24 _ (by omega)).trans hs0_23
  have hs57_24 : s24 (a + 57) = (11, 8, fH a 3) := (ks24 _ (by omega)).trans hs57_23
  have hs58_24 : s24 (a + 58) = (11, 2, pts [1, 1]) := (ks24 _ (by omega)).trans hs58_23
  have hs59_24 : s24 (a + 59) = (9, 2, fun _ => 0) := (ks24 _ (by omega)).trans hs59_23
  have lowS_24 : ∀ b, b < a → s24 b = sh b := fun b hb => (ks24 b (by omega)).trans (lowS_23 b hb)
  have lowV_24 : ∀ b, b < a → w24 b = v b := fun b hb => (kv24 b (by omega)).trans (lowV_23 b hb)
  have TR1_24 : zTR G s24 (a + 172) (a + 1) := zTR_up TR1_23 (by omega) (fun b h1 h2 => ks24 b (by omega))
  have tt1_24 : zt w24 (a + 1) M0 := zt_all tt1_23 (fun b h1 h2 => kv24 b (by omega))
  have TR29_24 : zTR G s24 (a + 172) (a + 29) := zTR_up TR29_23 (by omega) (fun b h1 h2 => ks24 b (by omega))
  have row59_24 : w24 (a + 59) = fun _ => 0 := (kv24 _ (by omega)).trans row59_23
  have fld5_24 : w24 a 5 = (nI 0) := (congrFun (kv24 _ (by omega)) _).trans fld5_23
  have TR60_24 : zTR G s24 (a + 172) (a + 60) := zTR_up TR60_23 (by omega) (fun b h1 h2 => ks24 b (by omega))
  have TR88_24 : zTR G s24 (a + 172) (a + 88) := zTR_up TR88_23 (by omega) (fun b h1 h2 => ks24 b (by omega))
  have TR116_24 : zTR G s24 (a + 172) (a + 116) := zTR_up TR116_23 (by omega) (fun b h1 h2 => ks24 b (by omega))
  have TR144_24 : zTR G s24 (a + 172) (a + 144) := hq24.1
  refine r_aast C (pc := 78) (ci := 11) (cj := 5) ⟨by omega, by omega⟩ hs57_24 (by decide) (Or.inl ⟨by omega, by omega⟩) TR144_24.2.2.1 (by decide) rfl rfl (by decide) (by decide) dX6_init_78 ?_
  refine VV.gs (fun s25 es25 => ?_)
  have ks25 : ∀ b, b ≠ a + 57 → s25 b = s24 b := fun b hb => by rw [es25, s2_ne hb]
  have hs0_25 : s25 a = (6, 6, pts [a + 1 + 2, a + 29 + 2, a + 57 + 2, a + 58 + 2, a + 59 + 2, 0]) := (ks25 _ (by omega)).trans hs0_24
  have hs58_25 : s25 (a + 58) = (11, 2, pts [1, 1]) := (ks25 _ (by omega)).trans hs58_24
  have hs59_25 : s25 (a + 59) = (9, 2, fun _ => 0) := (ks25 _ (by omega)).trans hs59_24
  have lowS_25 : ∀ b, b < a → s25 b = sh b := fun b hb => (ks25 b (by omega)).trans (lowS_24 b hb)
  have lowV_25 : ∀ b, b < a → w24 b = v b := lowV_24
  have TR1_25 : zTR G s25 (a + 172) (a + 1) := zTR_up TR1_24 (by omega) (fun b h1 h2 => ks25 b (by omega))
  have tt1_25 : zt w24 (a + 1) M0 := tt1_24
  have TR29_25 : zTR G s25 (a + 172) (a + 29) := zTR_up TR29_24 (by omega) (fun b h1 h2 => ks25 b (by omega))
  have row59_25 : w24 (a + 59) = fun _ => 0 := row59_24
  have fld5_25 : w24 a 5 = (nI 0) := fld5_24
  have TR60_25 : zTR G s25 (a + 172) (a + 60) := zTR_up TR60_24 (by omega) (fun b h1 h2 => ks25 b (by omega))
  have TR88_25 : zTR G s25 (a + 172) (a + 88) := zTR_up TR88_24 (by omega) (fun b h1 h2 => ks25 b (by omega))
  have TR116_25 : zTR G s25 (a + 172) (a + 116) := zTR_up TR116_24 (by omega) (fun b h1 h2 => ks25 b (by omega))
  have TR144_25 : zTR G s25 (a + 172) (a + 144) := zTR_up TR144_24 (by omega) (fun b h1 h2 => ks25 b (by omega))
  have hs57_25 : s25 (a + 57) = (11, 8, fH a 4) := by rw [es25, s2_self, (show upn (fH a 3) 3 (a + 144 + 2) = fH a 4 from fH_s (by decide))]
  refine r_iinc C (pc := 79) (lv2 := [some (.ref a), some (.int (nI 4))]) (y := (nI 4)) rfl (nI_inc _ _) (Nat.le_of_ble_eq_true rfl) rfl rfl dX6_init_79 ?_
  refine r_goto C (pc := 82) (tgt := 57) dX6_init_82 (by decide) ?_
  refine r_iload_n C (pc := 57) rfl rfl dX6_init_57 ?_
  refine r_aload_n C (pc := 58) rfl rfl dX6_init_58 ?_
  refine r_get C (pc := 59) (ci := 6) (k := 2) (w := .ref (a + 57)) rfl (by decide) inX6 (by decide) q_233 (Or.inl ⟨by omega, by omega⟩) hs0_25 (zl_ref _ _) dX6_init_59 ?_
  refine r_alen C (pc := 62) (x := nI 8) (Or.inl ⟨by omega, by omega⟩) hs57_25 (by decide) rfl rfl dX6_init_62 ?_
  refine n_icmp_ge C (pc := 63) (tgt := 85) (by decide) (by decide) dX6_init_63 (by decide) (fun z => absurd z (by decide)) (fun _ => ?_)
  refine r_aload_n C (pc := 66) rfl rfl dX6_init_66 ?_
  refine r_get C (pc := 67) (ci := 6) (k := 2) (w := .ref (a + 57)) rfl (by decide) inX6 (by decide) q_233 (Or.inl ⟨by omega, by omega⟩) hs0_25 (zl_ref _ _) dX6_init_67 ?_
  refine r_iload_n C (pc := 70) rfl rfl dX6_init_70 ?_
  refine r_new C (pc := 71) (ci := 5) (L := [1, 1, 1, 0, 0, 0, 1, 1]) rfl (by decide) inX5 tyX5_ok q_32 q_33 q_15 pt0_X5 (Nat.le_of_ble_eq_true rfl) (Nat.le_of_ble_eq_true rfl) dX6_init_71 ?_
  refine VV.gc (k := 172) (n := 1166) rfl rfl ?_
  refine VV.gN (N1 := a + 173) rfl ?_
  refine VV.gs (fun s26 es26 => ?_)
  refine VV.gn (fun w26 ew26 => ?_)
  have ks26 : ∀ b, b ≠ a + 172 → s26 b = s25 b := fun b hb => by rw [es26, s2_ne hb]
  have kv26 : ∀ b, b ≠ a + 172 → w26 b = w24 b := fun b hb => by rw [ew26, z0_ne hb]
  have hs0_26 : s26 a = (6, 6, pts [a + 1 + 2, a + 29 + 2, a + 57 + 2, a + 58 + 2, a + 59 + 2, 0]) := (ks26 _ (by omega)).trans hs0_25
  have hs57_26 : s26 (a + 57) = (11, 8, fH a 4) := (ks26 _ (by omega)).trans hs57_25
  have hs58_26 : s26 (a + 58) = (11, 2, pts [1, 1]) := (ks26 _ (by omega)).trans hs58_25
  have hs59_26 : s26 (a + 59) = (9, 2, fun _ => 0) := (ks26 _ (by omega)).trans hs59_25
  have lowS_26 : ∀ b, b < a → s26 b = sh b := fun b hb => (ks26 b (by omega)).trans (lowS_25 b hb)
  have lowV_26 : ∀ b, b < a → w26 b = v b := fun b hb => (kv26 b (by omega)).trans (lowV_25 b hb)
  have TR1_26 : zTR G s26 (a + 173) (a + 1) := zTR_up TR1_25 (by omega) (fun b h1 h2 => ks26 b (by omega))
  have tt1_26 : zt w26 (a + 1) M0 := zt_all tt1_25 (fun b h1 h2 => kv26 b (by omega))
  have TR29_26 : zTR G s26 (a + 173) (a + 29) := zTR_up TR29_25 (by omega) (fun b h1 h2 => ks26 b (by omega))
  have row59_26 : w26 (a + 59) = fun _ => 0 := (kv26 _ (by omega)).trans row59_25
  have fld5_26 : w26 a 5 = (nI 0) := (congrFun (kv26 _ (by omega)) _).trans fld5_25
  have TR60_26 : zTR G s26 (a + 173) (a + 60) := zTR_up TR60_25 (by omega) (fun b h1 h2 => ks26 b (by omega))
  have TR88_26 : zTR G s26 (a + 173) (a + 88) := zTR_up TR88_25 (by omega) (fun b h1 h2 => ks26 b (by omega))
  have TR116_26 : zTR G s26 (a + 173) (a + 116) := zTR_up TR116_25 (by omega) (fun b h1 h2 => ks26 b (by omega))
  have TR144_26 : zTR G s26 (a + 173) (a + 144) := zTR_up TR144_25 (by omega) (fun b h1 h2 => ks26 b (by omega))
  have hs172_26 : s26 (a + 172) = (5, 8, pts [1, 1, 1, 0, 0, 0, 1, 1]) := by rw [es26, s2_self]
  refine r_dup C (pc := 74) rfl dX6_init_74 ?_
  refine r_callIZ C hZ (pc := 75) (st := [.ref (a + 172), .int (nI 4), .ref (a + 57)]) (m_X5_init l G s26 w26 (a := a + 172) (by omega) hs172_26) kyX5_init q_34 rfl rfl (Nat.le_of_ble_eq_true rfl) ⟨Nat.le_of_ble_eq_true rfl, Nat.le_of_ble_eq_true rfl⟩ ⟨Nat.le_of_ble_eq_true rfl, Nat.le_of_ble_eq_true rfl⟩ dX6_init_75 (fun r27 s27 w27 N27 hp27 => ?_)
  obtain ⟨rfl, hN27, ks27, kv27, hq27⟩ := hp27
  obtain rfl : N27 = a + 200 := hN27
  refine VV.gc (k := 199) (n := 1349) rfl rfl ?_
  refine VV.eq (st2 := [.ref (a + 172), .int (nI 4), .ref (a + 57)]) rfl ?_
  have hs0_27 : s27 a = (6, 6, pts [a + 1 + 2, a + 29 + 2, a + 57 + 2, a + 58 + 2, a + 59 + 2, 0]) := (ks27 _ (by omega)).trans hs0_26
  have hs57_27 : s27 (a + 57) = (11, 8, fH a 4) := (ks27 _ (by omega)).trans hs57_26
  have hs58_27 : s27 (a + 58) = (11, 2, pts [1, 1]) := (ks27 _ (by omega)).trans hs58_26
  have hs59_27 : s27 (a + 59) = (9, 2, fun _ => 0) := (ks27 _ (by omega)).trans hs59_26
  have lowS_27 : ∀ b, b < a → s27 b = sh b := fun b hb => (ks27 b (by omega)).trans (lowS_26 b hb)
  have lowV_27 : ∀ b, b < a → w27 b = v b := fun b hb => (kv27 b (by omega)).trans (lowV_26 b hb)
  have TR1_27 : zTR G s27 (a + 200) (a + 1) := zTR_up TR1_26 (by omega) (fun b h1 h2 => ks27 b (by omega))
  have tt1_27 : zt w27 (a + 1) M0 := zt_all tt1_26 (fun b h1 h2 => kv27 b (by omega))
  have TR29_27 : zTR G s27 (a + 200) (a + 29) := zTR_up TR29_26 (by omega) (fun b h1 h2 => ks27 b (by omega))
  have row59_27 : w27 (a + 59) = fun _ => 0 := (kv27 _ (by omega)).trans row59_26
  have fld5_27 : w27 a 5 = (nI 0) := (congrFun (kv27 _ (by omega)) _).trans fld5_26
  have TR60_27 : zTR G s27 (a + 200) (a + 60) := zTR_up TR60_26 (by omega) (fun b h1 h2 => ks27 b (by omega))
  have TR88_27 : zTR G s27 (a + 200) (a + 88) := zTR_up TR88_26 (by omega) (fun b h1 h2 => ks27 b (by omega))
  have TR116_27 : zTR G s27 (a + 200) (a + 116) := zTR_up TR116_26 (by omega) (fun b h1 h2 => ks27 b (by omega))
  have TR144_27 : zTR G s27 (a + 200) (a + 144) := zTR_up TR144_26 (by omega) (fun b h1 h2 => ks27 b (by omega))
  have TR172_27 : zTR G s27 (a + 200) (a + 172) := hq27.1
  refine r_aast C (pc := 78) (ci := 11) (cj := 5) ⟨by omega, by omega⟩ hs57_27 (by decide) (Or.inl ⟨by omega, by omega⟩) TR172_27.2.2.1 (by decide) rfl rfl (by decide) (by decide) dX6_init_78 ?_
  refine VV.gs (fun s28 es28 => ?_)
  have ks28 : ∀ b, b ≠ a + 57 → s28 b = s27 b := fun b hb => by rw [es28, s2_ne hb]
  have hs0_28 : s28 a = (6, 6, pts [a + 1 + 2, a + 29 + 2, a + 57 + 2, a + 58 + 2, a + 59 + 2, 0]) := (ks28 _ (by omega)).trans hs0_27
  have hs58_28 : s28 (a + 58) = (11, 2, pts [1, 1]) := (ks28 _ (by omega)).trans hs58_27
  have hs59_28 : s28 (a + 59) = (9, 2, fun _ => 0) := (ks28 _ (by omega)).trans hs59_27
  have lowS_28 : ∀ b, b < a → s28 b = sh b := fun b hb => (ks28 b (by omega)).trans (lowS_27 b hb)
  have lowV_28 : ∀ b, b < a → w27 b = v b := lowV_27
  have TR1_28 : zTR G s28 (a + 200) (a + 1) := zTR_up TR1_27 (by omega) (fun b h1 h2 => ks28 b (by omega))
  have tt1_28 : zt w27 (a + 1) M0 := tt1_27
  have TR29_28 : zTR G s28 (a + 200) (a + 29) := zTR_up TR29_27 (by omega) (fun b h1 h2 => ks28 b (by omega))
  have row59_28 : w27 (a + 59) = fun _ => 0 := row59_27
  have fld5_28 : w27 a 5 = (nI 0) := fld5_27
  have TR60_28 : zTR G s28 (a + 200) (a + 60) := zTR_up TR60_27 (by omega) (fun b h1 h2 => ks28 b (by omega))
  have TR88_28 : zTR G s28 (a + 200) (a + 88) := zTR_up TR88_27 (by omega) (fun b h1 h2 => ks28 b (by omega))
  have TR116_28 : zTR G s28 (a + 200) (a + 116) := zTR_up TR116_27 (by omega) (fun b h1 h2 => ks28 b (by omega))
  have TR144_28 : zTR G s28 (a + 200) (a + 144) := zTR_up TR144_27 (by omega) (fun b h1 h2 => ks28 b (by omega))
  have TR172_28 : zTR G s28 (a + 200) (a + 172) := zTR_up TR172_27 (by omega) (fun b h1 h2 => ks28 b (by omega))
  have hs57_28 : s28 (a + 57) = (11, 8, fH a 5) := by rw [es28, s2_self, (show upn (fH a 4) 4 (a + 172 + 2) = fH a 5 from fH_s (by decide))]
  refine r_iinc C (pc := 79) (lv2 := [some (.ref a), some (.int (nI 5))]) (y := (nI 5)) rfl (nI_inc _ _) (Nat.le_of_ble_eq_true rfl) rfl rfl dX6_init_79 ?_
  refine r_goto C (pc := 82) (tgt := 57) dX6_init_82 (by decide) ?_
  refine r_iload_n C (pc := 57) rfl rfl dX6_init_57 ?_
  refine r_aload_n C (pc := 58) rfl rfl dX6_init_58 ?_
  refine r_get C (pc := 59) (ci := 6) (k := 2) (w := .ref (a + 57)) rfl (by decide) inX6 (by decide) q_233 (Or.inl ⟨by omega, by omega⟩) hs0_28 (zl_ref _ _) dX6_init_59 ?_
  refine r_alen C (pc := 62) (x := nI 8) (Or.inl ⟨by omega, by omega⟩) hs57_28 (by decide) rfl rfl dX6_init_62 ?_
  refine n_icmp_ge C (pc := 63) (tgt := 85) (by decide) (by decide) dX6_init_63 (by decide) (fun z => absurd z (by decide)) (fun _ => ?_)
  refine r_aload_n C (pc := 66) rfl rfl dX6_init_66 ?_
  refine r_get C (pc := 67) (ci := 6) (k := 2) (w := .ref (a + 57)) rfl (by decide) inX6 (by decide) q_233 (Or.inl ⟨by omega, by omega⟩) hs0_28 (zl_ref _ _) dX6_init_67 ?_
  refine r_iload_n C (pc := 70) rfl rfl dX6_init_70 ?_
  refine r_new C (pc := 71) (ci := 5) (L := [1, 1, 1, 0, 0, 0, 1, 1]) rfl (by decide) inX5 tyX5_ok q_32 q_33 q_15 pt0_X5 (Nat.le_of_ble_eq_true rfl) (Nat.le_of_ble_eq_true rfl) dX6_init_71 ?_
  refine VV.gc (k := 200) (n := 1357) rfl rfl ?_
  refine VV.gN (N1 := a + 201) rfl ?_
  refine VV.gs (fun s29 es29 => ?_)
  refine VV.gn (fun w29 ew29 => ?_)
  have ks29 : ∀ b, b ≠ a + 200 → s29 b = s28 b := fun b hb => by rw [es29, s2_ne hb]
  have kv29 : ∀ b, b ≠ a + 200 → w29 b = w27 b := fun b hb => by rw [ew29, z0_ne hb]
  have hs0_29 : s29 a = (6, 6, pts [a + 1 + 2, a + 29 + 2, a + 57 + 2, a + 58 + 2, a + 59 + 2, 0]) := (ks29 _ (by omega)).trans hs0_28
  have hs57_29 : s29 (a + 57) = (11, 8, fH a 5) := (ks29 _ (by omega)).trans hs57_28
  have hs58_29 : s29 (a + 58) = (11, 2, pts [1, 1]) := (ks29 _ (by omega)).trans hs58_28
  have hs59_29 : s29 (a + 59) = (9, 2, fun _ => 0) := (ks29 _ (by omega)).trans hs59_28
  have lowS_29 : ∀ b, b < a → s29 b = sh b := fun b hb => (ks29 b (by omega)).trans (lowS_28 b hb)
  have lowV_29 : ∀ b, b < a → w29 b = v b := fun b hb => (kv29 b (by omega)).trans (lowV_28 b hb)
  have TR1_29 : zTR G s29 (a + 201) (a + 1) := zTR_up TR1_28 (by omega) (fun b h1 h2 => ks29 b (by omega))
  have tt1_29 : zt w29 (a + 1) M0 := zt_all tt1_28 (fun b h1 h2 => kv29 b (by omega))
  have TR29_29 : zTR G s29 (a + 201) (a + 29) := zTR_up TR29_28 (by omega) (fun b h1 h2 => ks29 b (by omega))
  have row59_29 : w29 (a + 59) = fun _ => 0 := (kv29 _ (by omega)).trans row59_28
  have fld5_29 : w29 a 5 = (nI 0) := (congrFun (kv29 _ (by omega)) _).trans fld5_28
  have TR60_29 : zTR G s29 (a + 201) (a + 60) := zTR_up TR60_28 (by omega) (fun b h1 h2 => ks29 b (by omega))
  have TR88_29 : zTR G s29 (a + 201) (a + 88) := zTR_up TR88_28 (by omega) (fun b h1 h2 => ks29 b (by omega))
  have TR116_29 : zTR G s29 (a + 201) (a + 116) := zTR_up TR116_28 (by omega) (fun b h1 h2 => ks29 b (by omega))
  have TR144_29 : zTR G s29 (a + 201) (a + 144) := zTR_up TR144_28 (by omega) (fun b h1 h2 => ks29 b (by omega))
  have TR172_29 : zTR G s29 (a + 201) (a + 172) := zTR_up TR172_28 (by omega) (fun b h1 h2 => ks29 b (by omega))
  have hs200_29 : s29 (a + 200) = (5, 8, pts [1, 1, 1, 0, 0, 0, 1, 1]) := by rw [es29, s2_self]
  refine r_dup C (pc := 74) rfl dX6_init_74 ?_
  refine r_callIZ C hZ (pc := 75) (st := [.ref (a + 200), .int (nI 5), .ref (a + 57)]) (m_X5_init l G s29 w29 (a := a + 200) (by omega) hs200_29) kyX5_init q_34 rfl rfl (Nat.le_of_ble_eq_true rfl) ⟨Nat.le_of_ble_eq_true rfl, Nat.le_of_ble_eq_true rfl⟩ ⟨Nat.le_of_ble_eq_true rfl, Nat.le_of_ble_eq_true rfl⟩ dX6_init_75 (fun r30 s30 w30 N30 hp30 => ?_)
  obtain ⟨rfl, hN30, ks30, kv30, hq30⟩ := hp30
  obtain rfl : N30 = a + 228 := hN30
  refine VV.gc (k := 227) (n := 1540) rfl rfl ?_
  refine VV.eq (st2 := [.ref (a + 200), .int (nI 5), .ref (a + 57)]) rfl ?_
  have hs0_30 : s30 a = (6, 6, pts [a + 1 + 2, a + 29 + 2, a + 57 + 2, a + 58 + 2, a + 59 + 2, 0]) := (ks30 _ (by omega)).trans hs0_29
  have hs57_30 : s30 (a + 57) = (11, 8, fH a 5) := (ks30 _ (by omega)).trans hs57_29
  have hs58_30 : s30 (a + 58) = (11, 2, pts [1, 1]) := (ks30 _ (by omega)).trans hs58_29
  have hs59_30 : s30 (a + 59) = (9, 2, fun _ => 0) := (ks30 _ (by omega)).trans hs59_29
  have lowS_30 : ∀ b, b < a → s30 b = sh b := fun b hb => (ks30 b (by omega)).trans (lowS_29 b hb)
  have lowV_30 : ∀ b, b < a → w30 b = v b := fun b hb => (kv30 b (by omega)).trans (lowV_29 b hb)
  have TR1_30 : zTR G s30 (a + 228) (a + 1) := zTR_up TR1_29 (by omega) (fun b h1 h2 => ks30 b (by omega))
  have tt1_30 : zt w30 (a + 1) M0 := zt_all tt1_29 (fun b h1 h2 => kv30 b (by omega))
  have TR29_30 : zTR G s30 (a + 228) (a + 29) := zTR_up TR29_29 (by omega) (fun b h1 h2 => ks30 b (by omega))
  have row59_30 : w30 (a + 59) = fun _ => 0 := (kv30 _ (by omega)).trans row59_29
  have fld5_30 : w30 a 5 = (nI 0) := (congrFun (kv30 _ (by omega)) _).trans fld5_29
  have TR60_30 : zTR G s30 (a + 228) (a + 60) := zTR_up TR60_29 (by omega) (fun b h1 h2 => ks30 b (by omega))
  have TR88_30 : zTR G s30 (a + 228) (a + 88) := zTR_up TR88_29 (by omega) (fun b h1 h2 => ks30 b (by omega))
  have TR116_30 : zTR G s30 (a + 228) (a + 116) := zTR_up TR116_29 (by omega) (fun b h1 h2 => ks30 b (by omega))
  have TR144_30 : zTR G s30 (a + 228) (a + 144) := zTR_up TR144_29 (by omega) (fun b h1 h2 => ks30 b (by omega))
  have TR172_30 : zTR G s30 (a + 228) (a + 172) := zTR_up TR172_29 (by omega) (fun b h1 h2 => ks30 b (by omega))
  have TR200_30 : zTR G s30 (a + 228) (a + 200) := hq30.1
  refine r_aast C (pc := 78) (ci := 11) (cj := 5) ⟨by omega, by omega⟩ hs57_30 (by decide) (Or.inl ⟨by omega, by omega⟩) TR200_30.2.2.1 (by decide) rfl rfl (by decide) (by decide) dX6_init_78 ?_
  refine VV.gs (fun s31 es31 => ?_)
  have ks31 : ∀ b, b ≠ a + 57 → s31 b = s30 b := fun b hb => by rw [es31, s2_ne hb]
  have hs0_31 : s31 a = (6, 6, pts [a + 1 + 2, a + 29 + 2, a + 57 + 2, a + 58 + 2, a + 59 + 2, 0]) := (ks31 _ (by omega)).trans hs0_30
  have hs58_31 : s31 (a + 58) = (11, 2, pts [1, 1]) := (ks31 _ (by omega)).trans hs58_30
  have hs59_31 : s31 (a + 59) = (9, 2, fun _ => 0) := (ks31 _ (by omega)).trans hs59_30
  have lowS_31 : ∀ b, b < a → s31 b = sh b := fun b hb => (ks31 b (by omega)).trans (lowS_30 b hb)
  have lowV_31 : ∀ b, b < a → w30 b = v b := lowV_30
  have TR1_31 : zTR G s31 (a + 228) (a + 1) := zTR_up TR1_30 (by omega) (fun b h1 h2 => ks31 b (by omega))
  have tt1_31 : zt w30 (a + 1) M0 := tt1_30
  have TR29_31 : zTR G s31 (a + 228) (a + 29) := zTR_up TR29_30 (by omega) (fun b h1 h2 => ks31 b (by omega))
  have row59_31 : w30 (a + 59) = fun _ => 0 := row59_30
  have fld5_31 : w30 a 5 = (nI 0) := fld5_30
  have TR60_31 : zTR G s31 (a + 228) (a + 60) := zTR_up TR60_30 (by omega) (fun b h1 h2 => ks31 b (by omega))
  have TR88_31 : zTR G s31 (a + 228) (a + 88) := zTR_up TR88_30 (by omega) (fun b h1 h2 => ks31 b (by omega))
  have TR116_31 : zTR G s31 (a + 228) (a + 116) := zTR_up TR116_30 (by omega) (fun b h1 h2 => ks31 b (by omega))
  have TR144_31 : zTR G s31 (a + 228) (a + 144) := zTR_up TR144_30 (by omega) (fun b h1 h2 => ks31 b (by omega))
  have TR172_31 : zTR G s31 (a + 228) (a + 172) := zTR_up TR172_30 (by omega) (fun b h1 h2 => ks31 b (by omega))
  have TR200_31 : zTR G s31 (a + 228) (a + 200) := zTR_up TR200_30 (by omega) (fun b h1 h2 => ks31 b (by omega))
  have hs57_31 : s31 (a + 57) = (11, 8, fH a 6) := by rw [es31, s2_self, (show upn (fH a 5) 5 (a + 200 + 2) = fH a 6 from fH_s (by decide))]
  refine r_iinc C (pc := 79) (lv2 := [some (.ref a), some (.int (nI 6))]) (y := (nI 6)) rfl (nI_inc _ _) (Nat.le_of_ble_eq_true rfl) rfl rfl dX6_init_79 ?_
  refine r_goto C (pc := 82) (tgt := 57) dX6_init_82 (by decide) ?_
  refine r_iload_n C (pc := 57) rfl rfl dX6_init_57 ?_
  refine r_aload_n C (pc := 58) rfl rfl dX6_init_58 ?_
  refine r_get C (pc := 59) (ci := 6) (k := 2) (w := .ref (a + 57)) rfl (by decide) inX6 (by decide) q_233 (Or.inl ⟨by omega, by omega⟩) hs0_31 (zl_ref _ _) dX6_init_59 ?_
  refine r_alen C (pc := 62) (x := nI 8) (Or.inl ⟨by omega, by omega⟩) hs57_31 (by decide) rfl rfl dX6_init_62 ?_
  refine n_icmp_ge C (pc := 63) (tgt := 85) (by decide) (by decide) dX6_init_63 (by decide) (fun z => absurd z (by decide)) (fun _ => ?_)
  refine r_aload_n C (pc := 66) rfl rfl dX6_init_66 ?_
  refine r_get C (pc := 67) (ci := 6) (k := 2) (w := .ref (a + 57)) rfl (by decide) inX6 (by decide) q_233 (Or.inl ⟨by omega, by omega⟩) hs0_31 (zl_ref _ _) dX6_init_67 ?_
  refine r_iload_n C (pc := 70) rfl rfl dX6_init_70 ?_
  refine r_new C (pc := 71) (ci := 5) (L := [1, 1, 1, 0, 0, 0, 1, 1]) rfl (by decide) inX5 tyX5_ok q_32 q_33 q_15 pt0_X5 (Nat.le_of_ble_eq_true rfl) (Nat.le_of_ble_eq_true rfl) dX6_init_71 ?_
  refine VV.gc (k := 228) (n := 1548) rfl rfl ?_
  refine VV.gN (N1 := a + 229) rfl ?_
  refine VV.gs (fun s32 es32 => ?_)
  refine VV.gn (fun w32 ew32 => ?_)
  have ks32 : ∀ b, b ≠ a + 228 → s32 b = s31 b := fun b hb => by rw [es32, s2_ne hb]
  have kv32 : ∀ b, b ≠ a + 228 → w32 b = w30 b := fun b hb => by rw [ew32, z0_ne hb]
  have hs0_32 : s32 a = (6, 6, pts [a + 1 + 2, a + 29 + 2, a + 57 + 2, a + 58 + 2, a + 59 + 2, 0]) := (ks32 _ (by omega)).trans hs0_31
  have hs57_32 : s32 (a + 57) = (11, 8, fH a 6) := (ks32 _ (by omega)).trans hs57_31
  have hs58_32 : s32 (a + 58) = (11, 2, pts [1, 1]) := (ks32 _ (by omega)).trans hs58_31
  have hs59_32 : s32 (a + 59) = (9, 2, fun _ => 0) := (ks32 _ (by omega)).trans hs59_31
  have lowS_32 : ∀ b, b < a → s32 b = sh b := fun b hb => (ks32 b (by omega)).trans (lowS_31 b hb)
  have lowV_32 : ∀ b, b < a → w32 b = v b := fun b hb => (kv32 b (by omega)).trans (lowV_31 b hb)
  have TR1_32 : zTR G s32 (a + 229) (a + 1) := zTR_up TR1_31 (by omega) (fun b h1 h2 => ks32 b (by omega))
  have tt1_32 : zt w32 (a + 1) M0 := zt_all tt1_31 (fun b h1 h2 => kv32 b (by omega))
  have TR29_32 : zTR G s32 (a + 229) (a + 29) := zTR_up TR29_31 (by omega) (fun b h1 h2 => ks32 b (by omega))
  have row59_32 : w32 (a + 59) = fun _ => 0 := (kv32 _ (by omega)).trans row59_31
  have fld5_32 : w32 a 5 = (nI 0) := (congrFun (kv32 _ (by omega)) _).trans fld5_31
  have TR60_32 : zTR G s32 (a + 229) (a + 60) := zTR_up TR60_31 (by omega) (fun b h1 h2 => ks32 b (by omega))
  have TR88_32 : zTR G s32 (a + 229) (a + 88) := zTR_up TR88_31 (by omega) (fun b h1 h2 => ks32 b (by omega))
  have TR116_32 : zTR G s32 (a + 229) (a + 116) := zTR_up TR116_31 (by omega) (fun b h1 h2 => ks32 b (by omega))
  have TR144_32 : zTR G s32 (a + 229) (a + 144) := zTR_up TR144_31 (by omega) (fun b h1 h2 => ks32 b (by omega))
  have TR172_32 : zTR G s32 (a + 229) (a + 172) := zTR_up TR172_31 (by omega) (fun b h1 h2 => ks32 b (by omega))
  have TR200_32 : zTR G s32 (a + 229) (a + 200) := zTR_up TR200_31 (by omega) (fun b h1 h2 => ks32 b (by omega))
  have hs228_32 : s32 (a + 228) = (5, 8, pts [1, 1, 1, 0, 0, 0, 1, 1]) := by rw [es32, s2_self]
  refine r_dup C (pc := 74) rfl dX6_init_74 ?_
  refine r_callIZ C hZ (pc := 75) (st := [.ref (a + 228), .int (nI 6), .ref (a + 57)]) (m_X5_init l G s32 w32 (a := a + 228) (by omega) hs228_32) kyX5_init q_34 rfl rfl (Nat.le_of_ble_eq_true rfl) ⟨Nat.le_of_ble_eq_true rfl, Nat.le_of_ble_eq_true rfl⟩ ⟨Nat.le_of_ble_eq_true rfl, Nat.le_of_ble_eq_true rfl⟩ dX6_init_75 (fun r33 s33 w33 N33 hp33 => ?_)
  obtain ⟨rfl, hN33, ks33, kv33, hq33⟩ := hp33
  obtain rfl : N33 = a + 256 := hN33
  refine VV.gc (k := 255) (n := 1731) rfl rfl ?_
  refine VV.eq (st2 := [.ref (a + 228), .int (nI 6), .ref (a + 57)]) rfl ?_
  have hs0_33 : s33 a = (6, 6, pts [a + 1 + 2, a + 29 + 2, a + 57 + 2, a + 58 + 2, a + 59 + 2, 0]) := (ks33 _ (by omega)).trans hs0_32
  have hs57_33 : s33 (a + 57) = (11, 8, fH a 6) := (ks33 _ (by omega)).trans hs57_32
  have hs58_33 : s33 (a + 58) = (11, 2, pts [1, 1]) := (ks33 _ (by omega)).trans hs58_32
  have hs59_33 : s33 (a + 59) = (9, 2, fun _ => 0) := (ks33 _ (by omega)).trans hs59_32
  have lowS_33 : ∀ b, b < a → s33 b = sh b := fun b hb => (ks33 b (by omega)).trans (lowS_32 b hb)
  have lowV_33 : ∀ b, b < a → w33 b = v b := fun b hb => (kv33 b (by omega)).trans (lowV_32 b hb)
  have TR1_33 : zTR G s33 (a + 256) (a + 1) := zTR_up TR1_32 (by omega) (fun b h1 h2 => ks33 b (by omega))
  have tt1_33 : zt w33 (a + 1) M0 := zt_all tt1_32 (fun b h1 h2 => kv33 b (by omega))
  have TR29_33 : zTR G s33 (a + 256) (a + 29) := zTR_up TR29_32 (by omega) (fun b h1 h2 => ks33 b (by omega))
  have row59_33 : w33 (a + 59) = fun _ => 0 := (kv33 _ (by omega)).trans row59_32
  have fld5_33 : w33 a 5 = (nI 0) := (congrFun (kv33 _ (by omega)) _).trans fld5_32
  have TR60_33 : zTR G s33 (a + 256) (a + 60) := zTR_up TR60_32 (by omega) (fun b h1 h2 => ks33 b (by omega))
  have TR88_33 : zTR G s33 (a + 256) (a + 88) := zTR_up TR88_32 (by omega) (fun b h1 h2 => ks33 b (by omega))
  have TR116_33 : zTR G s33 (a + 256) (a + 116) := zTR_up TR116_32 (by omega) (fun b h1 h2 => ks33 b (by omega))
  have TR144_33 : zTR G s33 (a + 256) (a + 144) := zTR_up TR144_32 (by omega) (fun b h1 h2 => ks33 b (by omega))
  have TR172_33 : zTR G s33 (a + 256) (a + 172) := zTR_up TR172_32 (by omega) (fun b h1 h2 => ks33 b (by omega))
  have TR200_33 : zTR G s33 (a + 256) (a + 200) := zTR_up TR200_32 (by omega) (fun b h1 h2 => ks33 b (by omega))
  have TR228_33 : zTR G s33 (a + 256) (a + 228) := hq33.1
  refine r_aast C (pc := 78) (ci := 11) (cj := 5) ⟨by omega, by omega⟩ hs57_33 (by decide) (Or.inl ⟨by omega, by omega⟩) TR228_33.2.2.1 (by decide) rfl rfl (by decide) (by decide) dX6_init_78 ?_
  refine VV.gs (fun s34 es34 => ?_)
  have ks34 : ∀ b, b ≠ a + 57 → s34 b = s33 b := fun b hb => by rw [es34, s2_ne hb]
  have hs0_34 : s34 a = (6, 6, pts [a + 1 + 2, a + 29 + 2, a + 57 + 2, a + 58 + 2, a + 59 + 2, 0]) := (ks34 _ (by omega)).trans hs0_33
  have hs58_34 : s34 (a + 58) = (11, 2, pts [1, 1]) := (ks34 _ (by omega)).trans hs58_33
  have hs59_34 : s34 (a + 59) = (9, 2, fun _ => 0) := (ks34 _ (by omega)).trans hs59_33
  have lowS_34 : ∀ b, b < a → s34 b = sh b := fun b hb => (ks34 b (by omega)).trans (lowS_33 b hb)
  have lowV_34 : ∀ b, b < a → w33 b = v b := lowV_33
  have TR1_34 : zTR G s34 (a + 256) (a + 1) := zTR_up TR1_33 (by omega) (fun b h1 h2 => ks34 b (by omega))
  have tt1_34 : zt w33 (a + 1) M0 := tt1_33
  have TR29_34 : zTR G s34 (a + 256) (a + 29) := zTR_up TR29_33 (by omega) (fun b h1 h2 => ks34 b (by omega))
  have row59_34 : w33 (a + 59) = fun _ => 0 := row59_33
  have fld5_34 : w33 a 5 = (nI 0) := fld5_33
  have TR60_34 : zTR G s34 (a + 256) (a + 60) := zTR_up TR60_33 (by omega) (fun b h1 h2 => ks34 b (by omega))
  have TR88_34 : zTR G s34 (a + 256) (a + 88) := zTR_up TR88_33 (by omega) (fun b h1 h2 => ks34 b (by omega))
  have TR116_34 : zTR G s34 (a + 256) (a + 116) := zTR_up TR116_33 (by omega) (fun b h1 h2 => ks34 b (by omega))
  have TR144_34 : zTR G s34 (a + 256) (a + 144) := zTR_up TR144_33 (by omega) (fun b h1 h2 => ks34 b (by omega))
  have TR172_34 : zTR G s34 (a + 256) (a + 172) := zTR_up TR172_33 (by omega) (fun b h1 h2 => ks34 b (by omega))
  have TR200_34 : zTR G s34 (a + 256) (a + 200) := zTR_up TR200_33 (by omega) (fun b h1 h2 => ks34 b (by omega))
  have TR228_34 : zTR G s34 (a + 256) (a + 228) := zTR_up TR228_33 (by omega) (fun b h1 h2 => ks34 b (by omega))
  have hs57_34 : s34 (a + 57) = (11, 8, fH a 7) := by rw [es34, s2_self, (show upn (fH a 6) 6 (a + 228 + 2) = fH a 7 from fH_s (by decide))]
  refine r_iinc C (pc := 79) (lv2 := [some (.ref a), some (.int (nI 7))]) (y := (nI 7)) rfl (nI_inc _ _) (Nat.le_of_ble_eq_true rfl) rfl rfl dX6_init_79 ?_
  refine r_goto C (pc := 82) (tgt := 57) dX6_init_82 (by decide) ?_
  refine r_iload_n C (pc := 57) rfl rfl dX6_init_57 ?_
  refine r_aload_n C (pc := 58) rfl rfl dX6_init_58 ?_
  refine r_get C (pc := 59) (ci := 6) (k := 2) (w := .ref (a + 57)) rfl (by decide) inX6 (by decide) q_233 (Or.inl ⟨by omega, by omega⟩) hs0_34 (zl_ref _ _) dX6_init_59 ?_
  refine r_alen C (pc := 62) (x := nI 8) (Or.inl ⟨by omega, by omega⟩) hs57_34 (by decide) rfl rfl dX6_init_62 ?_
  refine n_icmp_ge C (pc := 63) (tgt := 85) (by decide) (by decide) dX6_init_63 (by decide) (fun z => absurd z (by decide)) (fun _ => ?_)
  refine r_aload_n C (pc := 66) rfl rfl dX6_init_66 ?_
  refine r_get C (pc := 67) (ci := 6) (k := 2) (w := .ref (a + 57)) rfl (by decide) inX6 (by decide) q_233 (Or.inl ⟨by omega, by omega⟩) hs0_34 (zl_ref _ _) dX6_init_67 ?_
  refine r_iload_n C (pc := 70) rfl rfl dX6_init_70 ?_
  refine r_new C (pc := 71) (ci := 5) (L := [1, 1, 1, 0, 0, 0, 1, 1]) rfl (by decide) inX5 tyX5_ok q_32 q_33 q_15 pt0_X5 (Nat.le_of_ble_eq_true rfl) (Nat.le_of_ble_eq_true rfl) dX6_init_71 ?_
  refine VV.gc (k := 256) (n := 1739) rfl rfl ?_
  refine VV.gN (N1 := a + 257) rfl ?_
  refine VV.gs (fun s35 es35 => ?_)
  refine VV.gn (fun w35 ew35 => ?_)
  have ks35 : ∀ b, b ≠ a + 256 → s35 b = s34 b := fun b hb => by rw [es35, s2_ne hb]
  have kv35 : ∀ b, b ≠ a + 256 → w35 b = w33 b := fun b hb => by rw [ew35, z0_ne hb]
  have hs0_35 : s35 a = (6, 6, pts [a + 1 + 2, a + 29 + 2, a + 57 + 2, a + 58 + 2, a + 59 + 2, 0]) := (ks35 _ (by omega)).trans hs0_34
  have hs57_35 : s35 (a + 57) = (11, 8, fH a 7) := (ks35 _ (by omega)).trans hs57_34
  have hs58_35 : s35 (a + 58) = (11, 2, pts [1, 1]) := (ks35 _ (by omega)).trans hs58_34
  have hs59_35 : s35 (a + 59) = (9, 2, fun _ => 0) := (ks35 _ (by omega)).trans hs59_34
  have lowS_35 : ∀ b, b < a → s35 b = sh b := fun b hb => (ks35 b (by omega)).trans (lowS_34 b hb)
  have lowV_35 : ∀ b, b < a → w35 b = v b := fun b hb => (kv35 b (by omega)).trans (lowV_34 b hb)
  have TR1_35 : zTR G s35 (a + 257) (a + 1) := zTR_up TR1_34 (by omega) (fun b h1 h2 => ks35 b (by omega))
  have tt1_35 : zt w35 (a + 1) M0 := zt_all tt1_34 (fun b h1 h2 => kv35 b (by omega))
  have TR29_35 : zTR G s35 (a + 257) (a + 29) := zTR_up TR29_34 (by omega) (fun b h1 h2 => ks35 b (by omega))
  have row59_35 : w35 (a + 59) = fun _ => 0 := (kv35 _ (by omega)).trans row59_34
  have fld5_35 : w35 a 5 = (nI 0) := (congrFun (kv35 _ (by omega)) _).trans fld5_34
  have TR60_35 : zTR G s35 (a + 257) (a + 60) := zTR_up TR60_34 (by omega) (fun b h1 h2 => ks35 b (by omega))
  have TR88_35 : zTR G s35 (a + 257) (a + 88) := zTR_up TR88_34 (by omega) (fun b h1 h2 => ks35 b (by omega))
  have TR116_35 : zTR G s35 (a + 257) (a + 116) := zTR_up TR116_34 (by omega) (fun b h1 h2 => ks35 b (by omega))
  have TR144_35 : zTR G s35 (a + 257) (a + 144) := zTR_up TR144_34 (by omega) (fun b h1 h2 => ks35 b (by omega))
  have TR172_35 : zTR G s35 (a + 257) (a + 172) := zTR_up TR172_34 (by omega) (fun b h1 h2 => ks35 b (by omega))
  have TR200_35 : zTR G s35 (a + 257) (a + 200) := zTR_up TR200_34 (by omega) (fun b h1 h2 => ks35 b (by omega))
  have TR228_35 : zTR G s35 (a + 257) (a + 228) := zTR_up TR228_34 (by omega) (fun b h1 h2 => ks35 b (by omega))
  have hs256_35 : s35 (a + 256) = (5, 8, pts [1, 1, 1, 0, 0, 0, 1, 1]) := by rw [es35, s2_self]
  refine r_dup C (pc := 74) rfl dX6_init_74 ?_
  refine r_callIZ C hZ (pc := 75) (st := [.ref (a + 256), .int (nI 7), .ref (a + 57)]) (m_X5_init l G s35 w35 (a := a + 256) (by omega) hs256_35) kyX5_init q_34 rfl rfl (Nat.le_of_ble_eq_true rfl) ⟨Nat.le_of_ble_eq_true rfl, Nat.le_of_ble_eq_true rfl⟩ ⟨Nat.le_of_ble_eq_true rfl, Nat.le_of_ble_eq_true rfl⟩ dX6_init_75 (fun r36 s36 w36 N36 hp36 => ?_)
  obtain ⟨rfl, hN36, ks36, kv36, hq36⟩ := hp36
  obtain rfl : N36 = a + 284 := hN36
  refine VV.gc (k := 283) (n := 1922) rfl rfl ?_
  refine VV.eq (st2 := [.ref (a + 256), .int (nI 7), .ref (a + 57)]) rfl ?_
  have hs0_36 : s36 a = (6, 6, pts [a + 1 + 2, a + 29 + 2, a + 57 + 2, a + 58 + 2, a + 59 + 2, 0]) := (ks36 _ (by omega)).trans hs0_35
  have hs57_36 : s36 (a + 57) = (11, 8, fH a 7) := (ks36 _ (by omega)).trans hs57_35
  have hs58_36 : s36 (a + 58) = (11, 2, pts [1, 1]) := (ks36 _ (by omega)).trans hs58_35
  have hs59_36 : s36 (a + 59) = (9, 2, fun _ => 0) := (ks36 _ (by omega)).trans hs59_35
  have lowS_36 : ∀ b, b < a → s36 b = sh b := fun b hb => (ks36 b (by omega)).trans (lowS_35 b hb)
  have lowV_36 : ∀ b, b < a → w36 b = v b := fun b hb => (kv36 b (by omega)).trans (lowV_35 b hb)
  have TR1_36 : zTR G s36 (a + 284) (a + 1) := zTR_up TR1_35 (by omega) (fun b h1 h2 => ks36 b (by omega))
  have tt1_36 : zt w36 (a + 1) M0 := zt_all tt1_35 (fun b h1 h2 => kv36 b (by omega))
  have TR29_36 : zTR G s36 (a + 284) (a + 29) := zTR_up TR29_35 (by omega) (fun b h1 h2 => ks36 b (by omega))
  have row59_36 : w36 (a + 59) = fun _ => 0 := (kv36 _ (by omega)).trans row59_35
  have fld5_36 : w36 a 5 = (nI 0) := (congrFun (kv36 _ (by omega)) _).trans fld5_35
  have TR60_36 : zTR G s36 (a + 284) (a + 60) := zTR_up TR60_35 (by omega) (fun b h1 h2 => ks36 b (by omega))
  have TR88_36 : zTR G s36 (a + 284) (a + 88) := zTR_up TR88_35 (by omega) (fun b h1 h2 => ks36 b (by omega))
  have TR116_36 : zTR G s36 (a + 284) (a + 116) := zTR_up TR116_35 (by omega) (fun b h1 h2 => ks36 b (by omega))
  have TR144_36 : zTR G s36 (a + 284) (a + 144) := zTR_up TR144_35 (by omega) (fun b h1 h2 => ks36 b (by omega))
  have TR172_36 : zTR G s36 (a + 284) (a + 172) := zTR_up TR172_35 (by omega) (fun b h1 h2 => ks36 b (by omega))
  have TR200_36 : zTR G s36 (a + 284) (a + 200) := zTR_up TR200_35 (by omega) (fun b h1 h2 => ks36 b (by omega))
  have TR228_36 : zTR G s36 (a + 284) (a + 228) := zTR_up TR228_35 (by omega) (fun b h1 h2 => ks36 b (by omega))
  have TR256_36 : zTR G s36 (a + 284) (a + 256) := hq36.1
  refine r_aast C (pc := 78) (ci := 11) (cj := 5) ⟨by omega, by omega⟩ hs57_36 (by decide) (Or.inl ⟨by omega, by omega⟩) TR256_36.2.2.1 (by decide) rfl rfl (by decide) (by decide) dX6_init_78 ?_
  refine VV.gs (fun s37 es37 => ?_)
  have ks37 : ∀ b, b ≠ a + 57 → s37 b = s36 b := fun b hb => by rw [es37, s2_ne hb]
  have hs0_37 : s37 a = (6, 6, pts [a + 1 + 2, a + 29 + 2, a + 57 + 2, a + 58 + 2, a + 59 + 2, 0]) := (ks37 _ (by omega)).trans hs0_36
  have hs58_37 : s37 (a + 58) = (11, 2, pts [1, 1]) := (ks37 _ (by omega)).trans hs58_36
  have hs59_37 : s37 (a + 59) = (9, 2, fun _ => 0) := (ks37 _ (by omega)).trans hs59_36
  have lowS_37 : ∀ b, b < a → s37 b = sh b := fun b hb => (ks37 b (by omega)).trans (lowS_36 b hb)
  have lowV_37 : ∀ b, b < a → w36 b = v b := lowV_36
  have TR1_37 : zTR G s37 (a + 284) (a + 1) := zTR_up TR1_36 (by omega) (fun b h1 h2 => ks37 b (by omega))
  have tt1_37 : zt w36 (a + 1) M0 := tt1_36
  have TR29_37 : zTR G s37 (a + 284) (a + 29) := zTR_up TR29_36 (by omega) (fun b h1 h2 => ks37 b (by omega))
  have row59_37 : w36 (a + 59) = fun _ => 0 := row59_36
  have fld5_37 : w36 a 5 = (nI 0) := fld5_36
  have TR60_37 : zTR G s37 (a + 284) (a + 60) := zTR_up TR60_36 (by omega) (fun b h1 h2 => ks37 b (by omega))
  have TR88_37 : zTR G s37 (a + 284) (a + 88) := zTR_up TR88_36 (by omega) (fun b h1 h2 => ks37 b (by omega))
  have TR116_37 : zTR G s37 (a + 284) (a + 116) := zTR_up TR116_36 (by omega) (fun b h1 h2 => ks37 b (by omega))
  have TR144_37 : zTR G s37 (a + 284) (a + 144) := zTR_up TR144_36 (by omega) (fun b h1 h2 => ks37 b (by omega))
  have TR172_37 : zTR G s37 (a + 284) (a + 172) := zTR_up TR172_36 (by omega) (fun b h1 h2 => ks37 b (by omega))
  have TR200_37 : zTR G s37 (a + 284) (a + 200) := zTR_up TR200_36 (by omega) (fun b h1 h2 => ks37 b (by omega))
  have TR228_37 : zTR G s37 (a + 284) (a + 228) := zTR_up TR228_36 (by omega) (fun b h1 h2 => ks37 b (by omega))
  have TR256_37 : zTR G s37 (a + 284) (a + 256) := zTR_up TR256_36 (by omega) (fun b h1 h2 => ks37 b (by omega))
  have hs57_37 : s37 (a + 57) = (11, 8, fH a 8) := by rw [es37, s2_self, (show upn (fH a 7) 7 (a + 256 + 2) = fH a 8 from fH_s (by decide))]
  refine r_iinc C (pc := 79) (lv2 := [some (.ref a), some (.int (nI 8))]) (y := (nI 8)) rfl (nI_inc _ _) (Nat.le_of_ble_eq_true rfl) rfl rfl dX6_init_79 ?_
  refine r_goto C (pc := 82) (tgt := 57) dX6_init_82 (by decide) ?_
  refine r_iload_n C (pc := 57) rfl rfl dX6_init_57 ?_
  refine r_aload_n C (pc := 58) rfl rfl dX6_init_58 ?_
  refine r_get C (pc := 59) (ci := 6) (k := 2) (w := .ref (a + 57)) rfl (by decide) inX6 (by decide) q_233 (Or.inl ⟨by omega, by omega⟩) hs0_37 (zl_ref _ _) dX6_init_59 ?_
  refine r_alen C (pc := 62) (x := nI 8) (Or.inl ⟨by omega, by omega⟩) hs57_37 (by decide) rfl rfl dX6_init_62 ?_
  refine n_icmp_ge C (pc := 63) (tgt := 85) (by decide) (by decide) dX6_init_63 (by decide) (fun _ => ?_) (fun z => absurd z (by decide))
  refine r_iconst C (pc := 85) (x := (nI 0)) (by decide) dX6_init_85 ?_
  refine r_istore_n C (pc := 86) (lv2 := [some (.ref a), some (.int (nI 0))]) rfl (Nat.le_of_ble_eq_true rfl) rfl rfl dX6_init_86 ?_
  refine r_iload_n C (pc := 87) rfl rfl dX6_init_87 ?_
  refine r_aload_n C (pc := 88) rfl rfl dX6_init_88 ?_
  refine r_get C (pc := 89) (ci := 6) (k := 3) (w := .ref (a + 58)) rfl (by decide) inX6 (by decide) q_234 (Or.inl ⟨by omega, by omega⟩) hs0_37 (zl_ref _ _) dX6_init_89 ?_
  refine r_alen C (pc := 92) (x := nI 2) (Or.inl ⟨by omega, by omega⟩) hs58_37 (by decide) rfl rfl dX6_init_92 ?_
  refine n_icmp_ge C (pc := 93) (tgt := 115) (by decide) (by decide) dX6_init_93 (by decide) (fun z => absurd z (by decide)) (fun _ => ?_)
  refine r_aload_n C (pc := 96) rfl rfl dX6_init_96 ?_
  refine r_get C (pc := 97) (ci := 6) (k := 3) (w := .ref (a + 58)) rfl (by decide) inX6 (by decide) q_234 (Or.inl ⟨by omega, by omega⟩) hs0_37 (zl_ref _ _) dX6_init_97 ?_
  refine r_iload_n C (pc := 100) rfl rfl dX6_init_100 ?_
  refine r_new C (pc := 101) (ci := 5) (L := [1, 1, 1, 0, 0, 0, 1, 1]) rfl (by decide) inX5 tyX5_ok q_32 q_33 q_15 pt0_X5 (Nat.le_of_ble_eq_true rfl) (Nat.le_of_ble_eq_true rfl) dX6_init_101 ?_
  refine VV.gc (k := 284) (n := 1930) rfl rfl ?_
  refine VV.gN (N1 := a + 285) rfl ?_
  refine VV.gs (fun s38 es38 => ?_)
  refine VV.gn (fun w38 ew38 => ?_)
  have ks38 : ∀ b, b ≠ a + 284 → s38 b = s37 b := fun b hb => by rw [es38, s2_ne hb]
  have kv38 : ∀ b, b ≠ a + 284 → w38 b = w36 b := fun b hb => by rw [ew38, z0_ne hb]
  have hs0_38 : s38 a = (6, 6, pts [a + 1 + 2, a + 29 + 2, a + 57 + 2, a + 58 + 2, a + 59 + 2, 0]) := (ks38 _ (by omega)).trans hs0_37
  have hs57_38 : s38 (a + 57) = (11, 8, fH a 8) := (ks38 _ (by omega)).trans hs57_37
  have hs58_38 : s38 (a + 58) = (11, 2, pts [1, 1]) := (ks38 _ (by omega)).trans hs58_37
  have hs59_38 : s38 (a + 59) = (9, 2, fun _ => 0) := (ks38 _ (by omega)).trans hs59_37
  have lowS_38 : ∀ b, b < a → s38 b = sh b := fun b hb => (ks38 b (by omega)).trans (lowS_37 b hb)
  have lowV_38 : ∀ b, b < a → w38 b = v b := fun b hb => (kv38 b (by omega)).trans (lowV_37 b hb)
  have TR1_38 : zTR G s38 (a + 285) (a + 1) := zTR_up TR1_37 (by omega) (fun b h1 h2 => ks38 b (by omega))
  have tt1_38 : zt w38 (a + 1) M0 := zt_all tt1_37 (fun b h1 h2 => kv38 b (by omega))
  have TR29_38 : zTR G s38 (a + 285) (a + 29) := zTR_up TR29_37 (by omega) (fun b h1 h2 => ks38 b (by omega))
  have row59_38 : w38 (a + 59) = fun _ => 0 := (kv38 _ (by omega)).trans row59_37
  have fld5_38 : w38 a 5 = (nI 0) := (congrFun (kv38 _ (by omega)) _).trans fld5_37
  have TR60_38 : zTR G s38 (a + 285) (a + 60) := zTR_up TR60_37 (by omega) (fun b h1 h2 => ks38 b (by omega))
  have TR88_38 : zTR G s38 (a + 285) (a + 88) := zTR_up TR88_37 (by omega) (fun b h1 h2 => ks38 b (by omega))
  have TR116_38 : zTR G s38 (a + 285) (a + 116) := zTR_up TR116_37 (by omega) (fun b h1 h2 => ks38 b (by omega))
  have TR144_38 : zTR G s38 (a + 285) (a + 144) := zTR_up TR144_37 (by omega) (fun b h1 h2 => ks38 b (by omega))
  have TR172_38 : zTR G s38 (a + 285) (a + 172) := zTR_up TR172_37 (by omega) (fun b h1 h2 => ks38 b (by omega))
  have TR200_38 : zTR G s38 (a + 285) (a + 200) := zTR_up TR200_37 (by omega) (fun b h1 h2 => ks38 b (by omega))
  have TR228_38 : zTR G s38 (a + 285) (a + 228) := zTR_up TR228_37 (by omega) (fun b h1 h2 => ks38 b (by omega))
  have TR256_38 : zTR G s38 (a + 285) (a + 256) := zTR_up TR256_37 (by omega) (fun b h1 h2 => ks38 b (by omega))
  have hs284_38 : s38 (a + 284) = (5, 8, pts [1, 1, 1, 0, 0, 0, 1, 1]) := by rw [es38, s2_self]
  refine r_dup C (pc := 104) rfl dX6_init_104 ?_
  refine r_callIZ C hZ (pc := 105) (st := [.ref (a + 284), .int (nI 0), .ref (a + 58)]) (m_X5_init l G s38 w38 (a := a + 284) (by omega) hs284_38) kyX5_init q_34 rfl rfl (Nat.le_of_ble_eq_true rfl) ⟨Nat.le_of_ble_eq_true rfl, Nat.le_of_ble_eq_true rfl⟩ ⟨Nat.le_of_ble_eq_true rfl, Nat.le_of_ble_eq_true rfl⟩ dX6_init_105 (fun r39 s39 w39 N39 hp39 => ?_)
  obtain ⟨rfl, hN39, ks39, kv39, hq39⟩ := hp39
  obtain rfl : N39 = a + 312 := hN39
  refine VV.gc (k := 311) (n := 2113) rfl rfl ?_
  refine VV.eq (st2 := [.ref (a + 284), .int (nI 0), .ref (a + 58)]) rfl ?_
  have hs0_39 : s39 a = (6, 6, pts [a + 1 + 2, a + 29 + 2, a + 57 + 2, a + 58 + 2, a + 59 + 2, 0]) := (ks39 _ (by omega)).trans hs0_38
  have hs57_39 : s39 (a + 57) = (11, 8, fH a 8) := (ks39 _ (by omega)).trans hs57_38
  have hs58_39 : s39 (a + 58) = (11, 2, pts [1, 1]) := (ks39 _ (by omega)).trans hs58_38
  have hs59_39 : s39 (a + 59) = (9, 2, fun _ => 0) := (ks39 _ (by omega)).trans hs59_38
  have lowS_39 : ∀ b, b < a → s39 b = sh b := fun b hb => (ks39 b (by omega)).trans (lowS_38 b hb)
  have lowV_39 : ∀ b, b < a → w39 b = v b := fun b hb => (kv39 b (by omega)).trans (lowV_38 b hb)
  have TR1_39 : zTR G s39 (a + 312) (a + 1) := zTR_up TR1_38 (by omega) (fun b h1 h2 => ks39 b (by omega))
  have tt1_39 : zt w39 (a + 1) M0 := zt_all tt1_38 (fun b h1 h2 => kv39 b (by omega))
  have TR29_39 : zTR G s39 (a + 312) (a + 29) := zTR_up TR29_38 (by omega) (fun b h1 h2 => ks39 b (by omega))
  have row59_39 : w39 (a + 59) = fun _ => 0 := (kv39 _ (by omega)).trans row59_38
  have fld5_39 : w39 a 5 = (nI 0) := (congrFun (kv39 _ (by omega)) _).trans fld5_38
  have TR60_39 : zTR G s39 (a + 312) (a + 60) := zTR_up TR60_38 (by omega) (fun b h1 h2 => ks39 b (by omega))
  have TR88_39 : zTR G s39 (a + 312) (a + 88) := zTR_up TR88_38 (by omega) (fun b h1 h2 => ks39 b (by omega))
  have TR116_39 : zTR G s39 (a + 312) (a + 116) := zTR_up TR116_38 (by omega) (fun b h1 h2 => ks39 b (by omega))
  have TR144_39 : zTR G s39 (a + 312) (a + 144) := zTR_up TR144_38 (by omega) (fun b h1 h2 => ks39 b (by omega))
  have TR172_39 : zTR G s39 (a + 312) (a + 172) := zTR_up TR172_38 (by omega) (fun b h1 h2 => ks39 b (by omega))
  have TR200_39 : zTR G s39 (a + 312) (a + 200) := zTR_up TR200_38 (by omega) (fun b h1 h2 => ks39 b (by omega))
  have TR228_39 : zTR G s39 (a + 312) (a + 228) := zTR_up TR228_38 (by omega) (fun b h1 h2 => ks39 b (by omega))
  have TR256_39 : zTR G s39 (a + 312) (a + 256) := zTR_up TR256_38 (by omega) (fun b h1 h2 => ks39 b (by omega))
  have TR284_39 : zTR G s39 (a + 312) (a + 284) := hq39.1
  refine r_aast C (pc := 108) (ci := 11) (cj := 5) ⟨by omega, by omega⟩ hs58_39 (by decide) (Or.inl ⟨by omega, by omega⟩) TR284_39.2.2.1 (by decide) rfl rfl (by decide) (by decide) dX6_init_108 ?_
  refine VV.gs (fun s40 es40 => ?_)
  have ks40 : ∀ b, b ≠ a + 58 → s40 b = s39 b := fun b hb => by rw [es40, s2_ne hb]
  have hs0_40 : s40 a = (6, 6, pts [a + 1 + 2, a + 29 + 2, a + 57 + 2, a + 58 + 2, a + 59 + 2, 0]) := (ks40 _ (by omega)).trans hs0_39
  have hs57_40 : s40 (a + 57) = (11, 8, fH a 8) := (ks40 _ (by omega)).trans hs57_39
  have hs59_40 : s40 (a + 59) = (9, 2, fun _ => 0) := (ks40 _ (by omega)).trans hs59_39
  have lowS_40 : ∀ b, b < a → s40 b = sh b := fun b hb => (ks40 b (by omega)).trans (lowS_39 b hb)
  have lowV_40 : ∀ b, b < a → w39 b = v b := lowV_39
  have TR1_40 : zTR G s40 (a + 312) (a + 1) := zTR_up TR1_39 (by omega) (fun b h1 h2 => ks40 b (by omega))
  have tt1_40 : zt w39 (a + 1) M0 := tt1_39
  have TR29_40 : zTR G s40 (a + 312) (a + 29) := zTR_up TR29_39 (by omega) (fun b h1 h2 => ks40 b (by omega))
  have row59_40 : w39 (a + 59) = fun _ => 0 := row59_39
  have fld5_40 : w39 a 5 = (nI 0) := fld5_39
  have TR60_40 : zTR G s40 (a + 312) (a + 60) := zTR_up TR60_39 (by omega) (fun b h1 h2 => ks40 b (by omega))
  have TR88_40 : zTR G s40 (a + 312) (a + 88) := zTR_up TR88_39 (by omega) (fun b h1 h2 => ks40 b (by omega))
  have TR116_40 : zTR G s40 (a + 312) (a + 116) := zTR_up TR116_39 (by omega) (fun b h1 h2 => ks40 b (by omega))
  have TR144_40 : zTR G s40 (a + 312) (a + 144) := zTR_up TR144_39 (by omega) (fun b h1 h2 => ks40 b (by omega))
  have TR172_40 : zTR G s40 (a + 312) (a + 172) := zTR_up TR172_39 (by omega) (fun b h1 h2 => ks40 b (by omega))
  have TR200_40 : zTR G s40 (a + 312) (a + 200) := zTR_up TR200_39 (by omega) (fun b h1 h2 => ks40 b (by omega))
  have TR228_40 : zTR G s40 (a + 312) (a + 228) := zTR_up TR228_39 (by omega) (fun b h1 h2 => ks40 b (by omega))
  have TR256_40 : zTR G s40 (a + 312) (a + 256) := zTR_up TR256_39 (by omega) (fun b h1 h2 => ks40 b (by omega))
  have TR284_40 : zTR G s40 (a + 312) (a + 284) := zTR_up TR284_39 (by omega) (fun b h1 h2 => ks40 b (by omega))
  have hs58_40 : s40 (a + 58) = (11, 2, pts [a + 284 + 2, 1]) := by rw [es40, s2_self, upn_pts (l := [1, 1]) (j := 0) (q := a + 284 + 2) (l2 := [a + 284 + 2, 1]) (Nat.le_of_ble_eq_true rfl) rfl]
  refine r_iinc C (pc := 109) (lv2 := [some (.ref a), some (.int (nI 1))]) (y := (nI 1)) rfl (nI_inc _ _) (Nat.le_of_ble_eq_true rfl) rfl rfl dX6_init_109 ?_
  refine r_goto C (pc := 112) (tgt := 87) dX6_init_112 (by decide) ?_
  refine r_iload_n C (pc := 87) rfl rfl dX6_init_87 ?_
  refine r_aload_n C (pc := 88) rfl rfl dX6_init_88 ?_
  refine r_get C (pc := 89) (ci := 6) (k := 3) (w := .ref (a + 58)) rfl (by decide) inX6 (by decide) q_234 (Or.inl ⟨by omega, by omega⟩) hs0_40 (zl_ref _ _) dX6_init_89 ?_
  refine r_alen C (pc := 92) (x := nI 2) (Or.inl ⟨by omega, by omega⟩) hs58_40 (by decide) rfl rfl dX6_init_92 ?_
  refine n_icmp_ge C (pc := 93) (tgt := 115) (by decide) (by decide) dX6_init_93 (by decide) (fun z => absurd z (by decide)) (fun _ => ?_)
  refine r_aload_n C (pc := 96) rfl rfl dX6_init_96 ?_
  refine r_get C (pc := 97) (ci := 6) (k := 3) (w := .ref (a + 58)) rfl (by decide) inX6 (by decide) q_234 (Or.inl ⟨by omega, by omega⟩) hs0_40 (zl_ref _ _) dX6_init_97 ?_
  refine r_iload_n C (pc := 100) rfl rfl dX6_init_100 ?_
  refine r_new C (pc := 101) (ci := 5) (L := [1, 1, 1, 0, 0, 0, 1, 1]) rfl (by decide) inX5 tyX5_ok q_32 q_33 q_15 pt0_X5 (Nat.le_of_ble_eq_true rfl) (Nat.le_of_ble_eq_true rfl) dX6_init_101 ?_
  refine VV.gc (k := 312) (n := 2121) rfl rfl ?_
  refine VV.gN (N1 := a + 313) rfl ?_
  refine VV.gs (fun s41 es41 => ?_)
  refine VV.gn (fun w41 ew41 => ?_)
  have ks41 : ∀ b, b ≠ a + 312 → s41 b = s40 b := fun b hb => by rw [es41, s2_ne hb]
  have kv41 : ∀ b, b ≠ a + 312 → w41 b = w39 b := fun b hb => by rw [ew41, z0_ne hb]
  have hs0_41 : s41 a = (6, 6, pts [a + 1 + 2, a + 29 + 2, a + 57 + 2, a + 58 + 2, a + 59 + 2, 0]) := (ks41 _ (by omega)).trans hs0_40
  have hs57_41 : s41 (a + 57) = (11, 8, fH a 8) := (ks41 _ (by omega)).trans hs57_40
  have hs58_41 : s41 (a + 58) = (11, 2, pts [a + 284 + 2, 1]) := (ks41 _ (by omega)).trans hs58_40
  have hs59_41 : s41 (a + 59) = (9, 2, fun _ => 0) := (ks41 _ (by omega)).trans hs59_40
  have lowS_41 : ∀ b, b < a → s41 b = sh b := fun b hb => (ks41 b (by omega)).trans (lowS_40 b hb)
  have lowV_41 : ∀ b, b < a → w41 b = v b := fun b hb => (kv41 b (by omega)).trans (lowV_40 b hb)
  have TR1_41 : zTR G s41 (a + 313) (a + 1) := zTR_up TR1_40 (by omega) (fun b h1 h2 => ks41 b (by omega))
  have tt1_41 : zt w41 (a + 1) M0 := zt_all tt1_40 (fun b h1 h2 => kv41 b (by omega))
  have TR29_41 : zTR G s41 (a + 313) (a + 29) := zTR_up TR29_40 (by omega) (fun b h1 h2 => ks41 b (by omega))
  have row59_41 : w41 (a + 59) = fun _ => 0 := (kv41 _ (by omega)).trans row59_40
  have fld5_41 : w41 a 5 = (nI 0) := (congrFun (kv41 _ (by omega)) _).trans fld5_40
  have TR60_41 : zTR G s41 (a + 313) (a + 60) := zTR_up TR60_40 (by omega) (fun b h1 h2 => ks41 b (by omega))
  have TR88_41 : zTR G s41 (a + 313) (a + 88) := zTR_up TR88_40 (by omega) (fun b h1 h2 => ks41 b (by omega))
  have TR116_41 : zTR G s41 (a + 313) (a + 116) := zTR_up TR116_40 (by omega) (fun b h1 h2 => ks41 b (by omega))
  have TR144_41 : zTR G s41 (a + 313) (a + 144) := zTR_up TR144_40 (by omega) (fun b h1 h2 => ks41 b (by omega))
  have TR172_41 : zTR G s41 (a + 313) (a + 172) := zTR_up TR172_40 (by omega) (fun b h1 h2 => ks41 b (by omega))
  have TR200_41 : zTR G s41 (a + 313) (a + 200) := zTR_up TR200_40 (by omega) (fun b h1 h2 => ks41 b (by omega))
  have TR228_41 : zTR G s41 (a + 313) (a + 228) := zTR_up TR228_40 (by omega) (fun b h1 h2 => ks41 b (by omega))
  have TR256_41 : zTR G s41 (a + 313) (a + 256) := zTR_up TR256_40 (by omega) (fun b h1 h2 => ks41 b (by omega))
  have TR284_41 : zTR G s41 (a + 313) (a + 284) := zTR_up TR284_40 (by omega) (fun b h1 h2 => ks41 b (by omega))
  have hs312_41 : s41 (a + 312) = (5, 8, pts [1, 1, 1, 0, 0, 0, 1, 1]) := by rw [es41, s2_self]
  refine r_dup C (pc := 104) rfl dX6_init_104 ?_
  refine r_callIZ C hZ (pc := 105) (st := [.ref (a + 312), .int (nI 1), .ref (a + 58)]) (m_X5_init l G s41 w41 (a := a + 312) (by omega) hs312_41) kyX5_init q_34 rfl rfl (Nat.le_of_ble_eq_true rfl) ⟨Nat.le_of_ble_eq_true rfl, Nat.le_of_ble_eq_true rfl⟩ ⟨Nat.le_of_ble_eq_true rfl, Nat.le_of_ble_eq_true rfl⟩ dX6_init_105 (fun r42 s42 w42 N42 hp42 => ?_)
  obtain ⟨rfl, hN42, ks42, kv42, hq42⟩ := hp42
  obtain rfl : N42 = a + 340 := hN42
  refine VV.gc (k := 339) (n := 2304) rfl rfl ?_
  refine VV.eq (st2 := [.ref (a + 312), .int (nI 1), .ref (a + 58)]) rfl ?_
  have hs0_42 : s42 a = (6, 6, pts [a + 1 + 2, a + 29 + 2, a + 57 + 2, a + 58 + 2, a + 59 + 2, 0]) := (ks42 _ (by omega)).trans hs0_41
  have hs57_42 : s42 (a + 57) = (11, 8, fH a 8) := (ks42 _ (by omega)).trans hs57_41
  have hs58_42 : s42 (a + 58) = (11, 2, pts [a + 284 + 2, 1]) := (ks42 _ (by omega)).trans hs58_41
  have hs59_42 : s42 (a + 59) = (9, 2, fun _ => 0) := (ks42 _ (by omega)).trans hs59_41
  have lowS_42 : ∀ b, b < a → s42 b = sh b := fun b hb => (ks42 b (by omega)).trans (lowS_41 b hb)
  have lowV_42 : ∀ b, b < a → w42 b = v b := fun b hb => (kv42 b (by omega)).trans (lowV_41 b hb)
  have TR1_42 : zTR G s42 (a + 340) (a + 1) := zTR_up TR1_41 (by omega) (fun b h1 h2 => ks42 b (by omega))
  have tt1_42 : zt w42 (a + 1) M0 := zt_all tt1_41 (fun b h1 h2 => kv42 b (by omega))
  have TR29_42 : zTR G s42 (a + 340) (a + 29) := zTR_up TR29_41 (by omega) (fun b h1 h2 => ks42 b (by omega))
  have row59_42 : w42 (a + 59) = fun _ => 0 := (kv42 _ (by omega)).trans row59_41
  have fld5_42 : w42 a 5 = (nI 0) := (congrFun (kv42 _ (by omega)) _).trans fld5_41
  have TR60_42 : zTR G s42 (a + 340) (a + 60) := zTR_up TR60_41 (by omega) (fun b h1 h2 => ks42 b (by omega))
  have TR88_42 : zTR G s42 (a + 340) (a + 88) := zTR_up TR88_41 (by omega) (fun b h1 h2 => ks42 b (by omega))
  have TR116_42 : zTR G s42 (a + 340) (a + 116) := zTR_up TR116_41 (by omega) (fun b h1 h2 => ks42 b (by omega))
  have TR144_42 : zTR G s42 (a + 340) (a + 144) := zTR_up TR144_41 (by omega) (fun b h1 h2 => ks42 b (by omega))
  have TR172_42 : zTR G s42 (a + 340) (a + 172) := zTR_up TR172_41 (by omega) (fun b h1 h2 => ks42 b (by omega))
  have TR200_42 : zTR G s42 (a + 340) (a + 200) := zTR_up TR200_41 (by omega) (fun b h1 h2 => ks42 b (by omega))
  have TR228_42 : zTR G s42 (a + 340) (a + 228) := zTR_up TR228_41 (by omega) (fun b h1 h2 => ks42 b (by omega))
  have TR256_42 : zTR G s42 (a + 340) (a + 256) := zTR_up TR256_41 (by omega) (fun b h1 h2 => ks42 b (by omega))
  have TR284_42 : zTR G s42 (a + 340) (a + 284) := zTR_up TR284_41 (by omega) (fun b h1 h2 => ks42 b (by omega))
  have TR312_42 : zTR G s42 (a + 340) (a + 312) := hq42.1
  refine r_aast C (pc := 108) (ci := 11) (cj := 5) ⟨by omega, by omega⟩ hs58_42 (by decide) (Or.inl ⟨by omega, by omega⟩) TR312_42.2.2.1 (by decide) rfl rfl (by decide) (by decide) dX6_init_108 ?_
  refine VV.gs (fun s43 es43 => ?_)
  have ks43 : ∀ b, b ≠ a + 58 → s43 b = s42 b := fun b hb => by rw [es43, s2_ne hb]
  have hs0_43 : s43 a = (6, 6, pts [a + 1 + 2, a + 29 + 2, a + 57 + 2, a + 58 + 2, a + 59 + 2, 0]) := (ks43 _ (by omega)).trans hs0_42
  have hs57_43 : s43 (a + 57) = (11, 8, fH a 8) := (ks43 _ (by omega)).trans hs57_42
  have hs59_43 : s43 (a + 59) = (9, 2, fun _ => 0) := (ks43 _ (by omega)).trans hs59_42
  have lowS_43 : ∀ b, b < a → s43 b = sh b := fun b hb => (ks43 b (by omega)).trans (lowS_42 b hb)
  have lowV_43 : ∀ b, b < a → w42 b = v b := lowV_42
  have TR1_43 : zTR G s43 (a + 340) (a + 1) := zTR_up TR1_42 (by omega) (fun b h1 h2 => ks43 b (by omega))
  have tt1_43 : zt w42 (a + 1) M0 := tt1_42
  have TR29_43 : zTR G s43 (a + 340) (a + 29) := zTR_up TR29_42 (by omega) (fun b h1 h2 => ks43 b (by omega))
  have row59_43 : w42 (a + 59) = fun _ => 0 := row59_42
  have fld5_43 : w42 a 5 = (nI 0) := fld5_42
  have TR60_43 : zTR G s43 (a + 340) (a + 60) := zTR_up TR60_42 (by omega) (fun b h1 h2 => ks43 b (by omega))
  have TR88_43 : zTR G s43 (a + 340) (a + 88) := zTR_up TR88_42 (by omega) (fun b h1 h2 => ks43 b (by omega))
  have TR116_43 : zTR G s43 (a + 340) (a + 116) := zTR_up TR116_42 (by omega) (fun b h1 h2 => ks43 b (by omega))
  have TR144_43 : zTR G s43 (a + 340) (a + 144) := zTR_up TR144_42 (by omega) (fun b h1 h2 => ks43 b (by omega))
  have TR172_43 : zTR G s43 (a + 340) (a + 172) := zTR_up TR172_42 (by omega) (fun b h1 h2 => ks43 b (by omega))
  have TR200_43 : zTR G s43 (a + 340) (a + 200) := zTR_up TR200_42 (by omega) (fun b h1 h2 => ks43 b (by omega))
  have TR228_43 : zTR G s43 (a + 340) (a + 228) := zTR_up TR228_42 (by omega) (fun b h1 h2 => ks43 b (by omega))
  have TR256_43 : zTR G s43 (a + 340) (a + 256) := zTR_up TR256_42 (by omega) (fun b h1 h2 => ks43 b (by omega))
  have TR284_43 : zTR G s43 (a + 340) (a + 284) := zTR_up TR284_42 (by omega) (fun b h1 h2 => ks43 b (by omega))
  have TR312_43 : zTR G s43 (a + 340) (a + 312) := zTR_up TR312_42 (by omega) (fun b h1 h2 => ks43 b (by omega))
  have hs58_43 : s43 (a + 58) = (11, 2, pts [a + 284 + 2, a + 312 + 2]) := by rw [es43, s2_self, upn_pts (l := [a + 284 + 2, 1]) (j := 1) (q := a + 312 + 2) (l2 := [a + 284 + 2, a + 312 + 2]) (Nat.le_of_ble_eq_true rfl) rfl]
  refine r_iinc C (pc := 109) (lv2 := [some (.ref a), some (.int (nI 2))]) (y := (nI 2)) rfl (nI_inc _ _) (Nat.le_of_ble_eq_true rfl) rfl rfl dX6_init_109 ?_
  refine r_goto C (pc := 112) (tgt := 87) dX6_init_112 (by decide) ?_
  refine r_iload_n C (pc := 87) rfl rfl dX6_init_87 ?_
  refine r_aload_n C (pc := 88) rfl rfl dX6_init_88 ?_
  refine r_get C (pc := 89) (ci := 6) (k := 3) (w := .ref (a + 58)) rfl (by decide) inX6 (by decide) q_234 (Or.inl ⟨by omega, by omega⟩) hs0_43 (zl_ref _ _) dX6_init_89 ?_
  refine r_alen C (pc := 92) (x := nI 2) (Or.inl ⟨by omega, by omega⟩) hs58_43 (by decide) rfl rfl dX6_init_92 ?_
  refine n_icmp_ge C (pc := 93) (tgt := 115) (by decide) (by decide) dX6_init_93 (by decide) (fun _ => ?_) (fun z => absurd z (by decide))
  exact r_vret C (pc := 115) rfl dX6_init_115 ⟨rfl, rfl, lowS_43, lowV_43, ⟨ha, by omega, hs0_43, hs57_43.trans (by rw [fH_8]), hs58_43, hs59_43, TR1_43, TR29_43, fun i hi => by
      rcases (show i = 0 ∨ i = 1 ∨ i = 2 ∨ i = 3 ∨ i = 4 ∨ i = 5 ∨ i = 6 ∨ i = 7 by omega) with rfl | rfl | rfl | rfl | rfl | rfl | rfl | rfl
      · exact TR60_43
      · exact TR88_43
      · exact TR116_43
      · exact TR144_43
      · exact TR172_43
      · exact TR200_43
      · exact TR228_43
      · exact TR256_43, fun i hi => by
      rcases (show i = 0 ∨ i = 1 by omega) with rfl | rfl
      · exact TR284_43
      · exact TR312_43, ⟨fun i hi => hi, fun i hi j hj e => e⟩⟩, tt1_43, ⟨fld5_43, Nat.zero_le _, fun i hi => absurd hi (Nat.not_lt_zero i), fun i hi => by rw [row59_43]; rfl, fun i hi hf => by cases hf⟩⟩
/-- the first state keeps to all -/
theorem M0_G : zGd 0 M0 := by
  have hs : sOK M0.1 := ⟨by decide, by decide, by decide, by decide, by decide, by decide, by decide, by decide, by decide, by decide, by decide⟩
  refine ⟨⟨⟨hs, by decide, fun r hr q hq => (by cases hq), fun n hn => absurd hn (Nat.not_lt_zero n), Nat.zero_le _, by decide⟩, fun r hr q hq => (by cases hq), fun _ _ => rfl, fun b hb => ?_, ⟨fun q hq => (by cases hq), fun q hq => (by cases hq)⟩, Nat.zero_le _, fun _ _ _ => rfl, fun _ _ => ⟨fun _ _ => rfl, fun _ => rfl, fun _ => rfl⟩⟩, ⟨by decide, by decide, fun b t e => (by cases e), fun b t e => (by cases e)⟩, fun r hr => Nat.zero_le _⟩
  have h1 := span_hi (l := []) (K := 0) (by decide) (fun q hq => (by cases hq)) (Nat.zero_le b) hb
  show false = decide _
  exact (decide_eq_false h1).symm
theorem S0_I : zI 0 (M0, h0) := ⟨M0_G, Nat.zero_le _, fun i hi => absurd hi (Nat.not_lt_zero i), fun i hi e => by cases e⟩
