/-! the setup: the scalars as one function, in the order of the check's row -/
def upc (c : Nat → Nat) (i x : Nat) : Nat → Nat := fun j => if j = i then x else c j
theorem upc_s (c : Nat → Nat) (i x : Nat) : upc c i x i = x := by simp [upc]
theorem upc_n {c : Nat → Nat} {i x j : Nat} (h : j ≠ i) : upc c i x j = c j := by simp [upc, h]
def zSE (G : zG) (sh : zH) (N u : Nat) : Prop := G.2.2.1 ≤ u ∧ u + 3 < N ∧ sh u = (3, 9, pts [u + 1 + 2, u + 2 + 2, u + 3 + 2, 0, 0, 0, 0, 0, 0]) ∧ sh (u + 1) = (8, 12, fun _ => 0) ∧ sh (u + 2) = (8, 4, fun _ => 0) ∧ sh (u + 3) = (8, 7, fun _ => 0)
def zse (v : zV) (u : Nat) (c : Nat → Nat) : Prop := v u 3 = nI (c 0) ∧ v u 4 = nI (c 1) ∧ v u 5 = nI (c 3) ∧ v u 6 = nI (c 4) ∧ v u 7 = nI (c 5) ∧ v u 8 = nI (c 6) ∧ (∀ b, b < 12 → v (u + 1) b = nI (c (17 + b))) ∧ (∀ i, i ≤ c 1 → i < 4 → v (u + 2) i = nI (c (7 + i))) ∧ ∀ d, d < 6 → v (u + 3) (d + 1) = nI (c (11 + d))
theorem zse.kept {v v1 : zV} {u : Nat} {c : Nat → Nat} (h : zse v u c) (k : ∀ b, u ≤ b → b < u + 4 → v1 b = v b) : zse v1 u c := by
  obtain ⟨h0, h1, h3, h4, h5, h6, hv, hl, hw⟩ := h
  have e0 := k u (by omega) (by omega)
  exact ⟨by rw [e0]; exact h0, by rw [e0]; exact h1, by rw [e0]; exact h3, by rw [e0]; exact h4, by rw [e0]; exact h5, by rw [e0]; exact h6, fun b hb => by rw [k (u + 1) (by omega) (by omega)]; exact hv b hb, fun i hi hi4 => by rw [k (u + 2) (by omega) (by omega)]; exact hl i hi hi4, fun d hd => by rw [k (u + 3) (by omega) (by omega)]; exact hw d hd⟩
/-- what the source's numbers keep to -/
def sOK (c : Nat → Nat) : Prop := 2 ≤ c 0 ∧ c 0 ≤ 12 ∧ c 1 ≤ 3 ∧ 1 ≤ c 3 ∧ c 3 ≤ 4 ∧ c 4 ≤ 3 ∧ c 5 ≤ 1 ∧ c 6 < 2 ^ 31 ∧ (∀ i, i < 4 → c (7 + i) < 100) ∧ (∀ d, d < 6 → c (11 + d) ≤ 9) ∧ (∀ b, b < 12 → c (17 + b) < 256)
def dseed (s : Nat) : Nat := (1103515245 * s + 12345) % 2147483648
def drw (s n : Nat) : Nat := dseed s / 65536 % n
theorem dseed_lt (s : Nat) : dseed s < 2 ^ 31 := Nat.mod_lt _ (by decide)
theorem drw_lt (s : Nat) {n : Nat} (h : 0 < n) : drw s n < n := Nat.mod_lt _ h
def wsn (c : Nat → Nat) : Nat → Nat
  | 0 => 0
  | d + 1 => wsn c d + c (11 + d)
theorem wsn_le {c : Nat → Nat} (h : ∀ d, d < 6 → c (11 + d) ≤ 9) : ∀ n, n ≤ 6 → wsn c n ≤ 9 * n
  | 0, _ => Nat.le_refl 0
  | n + 1, hn => by
    have h1 := wsn_le h n (by omega)
    have h2 := h n (by omega)
    show wsn c n + c (11 + n) ≤ 9 * (n + 1)
    omega
def fdg (c : Nat → Nat) (x : Nat) : Nat → Nat → Nat
  | 0, d => d
  | n + 1, d => if x < wsn c d then d else fdg c x n (d + 1)
def deg (c : Nat → Nat) (x : Nat) : Nat := min (fdg c x 5 1) (c 0)
def dst (K b : Nat) (z : Nat × Nat × Nat) : Nat × Nat × Nat := if drw z.1 (K - b) < z.2.1 then (dseed z.1, z.2.1 - 1, z.2.2 ||| 2 ^ b) else (dseed z.1, z.2.1, z.2.2)
def dsn (K : Nat) (z : Nat × Nat × Nat) : Nat → Nat × Nat × Nat
  | 0 => z
  | n + 1 => dst K n (dsn K z n)
def pkn (c : Nat → Nat) (x : Nat) : Nat → Nat
  | 0 => 0
  | n + 1 => if x.testBit n then pkn c x n ^^^ (2 ^ (8 + n) + c (17 + n)) else pkn c x n
theorem pkn_lt {c : Nat → Nat} {x : Nat} (hV : ∀ b, b < 12 → c (17 + b) < 256) : ∀ n, n ≤ 12 → pkn c x n < 2 ^ 20
  | 0, _ => by show 0 < 2 ^ 20; decide
  | n + 1, h => by
    have h1 := pkn_lt (c := c) (x := x) hV n (by omega)
    show (if _ then _ else _) < _
    split
    · exact xor20 h1 (p20 (by omega) (hV n (by omega)))
    · exact h1
theorem dsn_set {K : Nat} {z : Nat × Nat × Nat} (hz : z.2.2 = 0) : ∀ n, (dsn K z n).2.2 < 2 ^ n
  | 0 => by show z.2.2 < 1; omega
  | n + 1 => by
    have h1 := dsn_set (K := K) hz n
    have h2 : 2 ^ n < 2 ^ (n + 1) := Nat.pow_lt_pow_right (by decide) (by omega)
    show (dst K n (dsn K z n)).2.2 < 2 ^ (n + 1)
    unfold dst
    split
    · exact Nat.or_lt_two_pow (by omega) h2
    · show (dsn K z n).2.2 < _
      omega
theorem dsn_op {K : Nat} {z : Nat × Nat × Nat} : ∀ n, (dsn K z n).2.1 ≤ z.2.1
  | 0 => Nat.le_refl _
  | n + 1 => by
    have h1 := dsn_op (K := K) (z := z) n
    show (dst K n (dsn K z n)).2.1 ≤ _
    unfold dst
    split
    · show (dsn K z n).2.1 - 1 ≤ _
      omega
    · exact h1
theorem dsn_seed {K : Nat} {z : Nat × Nat × Nat} (hz : z.1 < 2 ^ 31) : ∀ n, (dsn K z n).1 < 2 ^ 31
  | 0 => hz
  | n + 1 => by
    show (dst K n (dsn K z n)).1 < _
    unfold dst
    split
    · exact dseed_lt _
    · exact dseed_lt _
def layc (c : Nat → Nat) (K R : Nat) : Nat → Nat := fun i => if i = 0 then K else if i = 1 then R else if i = 2 then 0 else if 7 ≤ i ∧ i < 11 then (if i - 7 ≤ c 1 ∧ i - 7 ≤ R then c i else 0) else if 17 ≤ i ∧ i < 29 then 10 * (i - 17) + 7 else if 29 ≤ i then 0 else c i
theorem upc_upc (c : Nat → Nat) (i x y : Nat) : upc (upc c i x) i y = upc c i y := by
  funext j
  by_cases h : j = i <;> simp [upc, h]
theorem sOK_seed {c : Nat → Nat} (h : sOK c) (s : Nat) (hs : s < 2 ^ 31) : sOK (upc c 6 s) := by
  obtain ⟨k0, k1, k2, k3, k4, k5, k6, k7, k8, k9, k10⟩ := h
  exact ⟨k0, k1, k2, k3, k4, k5, k6, by rw [upc_s]; exact hs, fun i hi => by rw [upc_n (by omega)]; exact k8 i hi, fun d hd => by rw [upc_n (by omega)]; exact k9 d hd, fun b hb => by rw [upc_n (by omega)]; exact k10 b hb⟩
theorem pkn_seed (c : Nat → Nat) (s x : Nat) : ∀ n, pkn (upc c 6 s) x n = pkn c x n
  | 0 => rfl
  | n + 1 => by
    show (if _ then _ else _) = (if _ then _ else _)
    rw [pkn_seed c s x n, upc_n (show 17 + n ≠ 6 by omega)]
theorem layc_v {c : Nat → Nat} {K R b : Nat} (h : b < 12) : layc c K R (17 + b) = 10 * b + 7 := by
  unfold layc
  rw [if_neg (by omega), if_neg (by omega), if_neg (by omega), if_neg (by omega), if_pos (by omega), Nat.add_sub_cancel_left]
theorem layc_l {c : Nat → Nat} {K R j : Nat} (h : j < 4) : layc c K R (7 + j) = if j ≤ c 1 ∧ j ≤ R then c (7 + j) else 0 := by
  unfold layc
  rw [if_neg (by omega), if_neg (by omega), if_neg (by omega), if_pos (by omega), Nat.add_sub_cancel_left]
theorem layc_w {c : Nat → Nat} {K R d : Nat} (h : d < 6) : layc c K R (11 + d) = c (11 + d) := by
  unfold layc
  rw [if_neg (by omega), if_neg (by omega), if_neg (by omega), if_neg (by omega), if_neg (by omega), if_neg (by omega)]
set_option maxRecDepth 100000 in
set_option maxHeartbeats 4000000 in
theorem m_X3_draw (l : Launch) (G : zG) (sh : zH) (v : zV) (N : Nat) {u : Nat} {c : Nat → Nat} {n : Nat} (hp : zSE G sh N u) (hv : zse v u c) (hk : sOK c) (hn : 0 < n) (hn2 : n < 2 ^ 31) : zm l G yX3_draw cX3_draw 2 (some .int) 0 [.ref u, .int (nI n)] sh v N (fun r v1 => r = some (.int (nI (drw (c 6) n))) ∧ zse v1 u (upc c 6 (dseed (c 6))) ∧ zfr v v1 u 4) := by
  refine zM.of (by decide) rfl (Nat.le_of_ble_eq_true rfl) ?_
  intro p e s m args below meth co C
  obtain ⟨hB, hN, hs0, hs1, hs2, hs3⟩ := id hp
  obtain ⟨h0, h1, h3, h4, h5, h6, hvv, hll, hww⟩ := id hv
  obtain ⟨k0, k1, k2, k3, k4, k5, k6, k7, k8, k9, k10⟩ := id hk
  have hd0 : G.2.2.1 ≤ u ∧ u < N := ⟨hB, by omega⟩
  have hd1 : G.2.2.1 ≤ u + 1 ∧ u + 1 < N := ⟨by omega, by omega⟩
  have hd2 : G.2.2.1 ≤ u + 2 ∧ u + 2 < N := ⟨by omega, by omega⟩
  have hd3 : G.2.2.1 ≤ u + 3 ∧ u + 3 < N := ⟨by omega, hN⟩
  refine r_aload_n C (pc := 0) rfl rfl dX3_draw_0 ?_
  refine r_ldc2 C (pc := 1) (x := lN 1103515245) q_509 dX3_draw_1 ?_
  refine r_aload_n C (pc := 4) rfl rfl dX3_draw_4 ?_
  refine r_get C (pc := 5) (ci := 3) (k := 8) (w := .int (nI (c 6))) rfl (by decide) inX3 (by decide) q_80 (Or.inl hd0) hs0 (zl_i (h6)) dX3_draw_5 ?_
  refine r_i2l C (pc := 8) (z := lN (c 6)) (nI_l k7) dX3_draw_8 ?_
  refine r_lmul C (pc := 9) (z := lN (1103515245 * c 6)) (lN_mul _ _) dX3_draw_9 ?_
  refine r_ldc2 C (pc := 10) (x := lN 12345) q_510 dX3_draw_10 ?_
  refine r_ladd C (pc := 13) (z := lN (1103515245 * c 6 + 12345)) (lN_add _ _) dX3_draw_13 ?_
  refine r_ldc2 C (pc := 14) (x := lN 2147483648) q_511 dX3_draw_14 ?_
  refine r_lrem C (pc := 17) (z := lN (dseed (c 6))) (by decide) (pk_lRem (by omega) (by decide) (by decide)) dX3_draw_17 ?_
  refine r_l2i C (pc := 18) (z := (nI (dseed (c 6)))) (lN_i _) dX3_draw_18 ?_
  refine r_put C (pc := 19) (ci := 3) (k := 8) rfl (by decide) inX3 tyX3_ok nmX3 (by decide) rfl pfI rfl q_80 hd0 hs0 dX3_draw_19 ?_
  refine VV.gn (fun w19 ew19 => ?_)
  have hds := dseed_lt (c 6)
  refine r_iload_n C (pc := 22) rfl rfl dX3_draw_22 ?_
  refine n_if_le C (pc := 23) (tgt := 38) (by omega) dX3_draw_23 (by decide) (fun c_23 => by exfalso; omega) (fun c_23 => ?_)
  refine r_aload_n C (pc := 26) rfl rfl dX3_draw_26 ?_
  refine r_get C (pc := 27) (ci := 3) (k := 8) (w := .int (nI (dseed (c 6)))) rfl (by decide) inX3 (by decide) q_80 (Or.inl hd0) hs0 (zl_i (by rw [ew19, z2_self])) dX3_draw_27 ?_
  refine r_ldc C (pc := 30) (x := nI 65536) q_512 dX3_draw_30 ?_
  refine r_idiv C (pc := 32) (z := (nI (dseed (c 6) / 65536))) (by decide) (pk_div (by omega) (by decide) (by decide)) dX3_draw_32 ?_
  refine r_iload_n C (pc := 33) rfl rfl dX3_draw_33 ?_
  refine r_irem C (pc := 34) (z := (nI (drw (c 6) n))) (nI_ne0 hn hn2) (pk_rem (by omega) hn hn2) dX3_draw_34 ?_
  refine r_goto C (pc := 35) (tgt := 39) dX3_draw_35 (by decide) ?_
  exact r_iret C (pc := 39) rfl (rfl) dX3_draw_39 ⟨rfl, rfl, rfl, ⟨by rw [ew19, z2_ne (by omega)]; exact h0, by rw [ew19, z2_ne (by omega)]; exact h1, by rw [ew19, z2_ne (by omega)]; exact h3, by rw [ew19, z2_ne (by omega)]; exact h4, by rw [ew19, z2_ne (by omega)]; exact h5, by rw [ew19, z2_self]; rfl, fun b hb => by rw [ew19, z2_addr (by omega), upc_n (by omega)]; exact hvv b hb, fun i hi hi4 => by rw [ew19, z2_addr (by omega), upc_n (by omega)]; exact hll i hi hi4, fun d hd => by rw [ew19, z2_addr (by omega), upc_n (by omega)]; exact hww d hd⟩, by rw [ew19]; exact zfr.rf.z2 (by omega) (by omega)⟩
set_option maxRecDepth 100000 in
set_option maxHeartbeats 4000000 in
theorem m_X3_isLostOn (l : Launch) (G : zG) (sh : zH) (v : zV) (N : Nat) {u : Nat} {c : Nat → Nat} {i : Nat} (hp : zSE G sh N u) (hv : zse v u c) (hk : sOK c) (hi : i ≤ c 1) : zm l G yX3_isLostOn cX3_isLostOn 3 (some .boolean) 1 [.ref u, .int (nI i)] sh v N (fun r v1 => r = some (.int (zb (decide (drw (c 6) 100 < c (7 + i))))) ∧ zse v1 u (upc c 6 (dseed (c 6))) ∧ zfr v v1 u 4) := by
  refine zM.of (by decide) rfl (Nat.le_of_ble_eq_true rfl) ?_
  intro p e s m args below meth co C
  obtain ⟨hB, hN, hs0, hs1, hs2, hs3⟩ := id hp
  obtain ⟨h0, h1, h3, h4, h5, h6, hvv, hll, hww⟩ := id hv
  obtain ⟨k0, k1, k2, k3, k4, k5, k6, k7, k8, k9, k10⟩ := id hk
  have hd0 : G.2.2.1 ≤ u ∧ u < N := ⟨hB, by omega⟩
  have hd1 : G.2.2.1 ≤ u + 1 ∧ u + 1 < N := ⟨by omega, by omega⟩
  have hd2 : G.2.2.1 ≤ u + 2 ∧ u + 2 < N := ⟨by omega, by omega⟩
  have hd3 : G.2.2.1 ≤ u + 3 ∧ u + 3 < N := ⟨by omega, hN⟩
  refine r_aload_n C (pc := 0) rfl rfl dX3_isLostOn_0 ?_
  refine r_bipush C (pc := 1) (x := (nI 100)) (by decide) dX3_isLostOn_1 ?_
  refine r_callV C (pc := 3) (st := []) (m_X3_draw l G sh v N hp hv hk (n := 100) (by decide) (by decide)) kyX3_draw q_505 rfl (Or.inl hd0) hs0 (by decide) rfl rfl rfl (Nat.le_of_ble_eq_true rfl) ⟨Nat.le_of_ble_eq_true rfl, Nat.le_of_ble_eq_true rfl⟩ ⟨Nat.le_of_ble_eq_true rfl, Nat.le_of_ble_eq_true rfl⟩ dX3_isLostOn_3 (fun r3 v3 hp3 => ?_)
  obtain ⟨rfl, g1, g2⟩ := hp3
  refine VV.eq (st2 := [.int (nI (drw (c 6) 100))]) rfl ?_
  have hdl := drw_lt (c 6) (n := 100) (by decide)
  have hlo := k8 i (by omega)
  refine r_istore_n C (pc := 6) (lv2 := [some (.ref u), some (.int (nI i)), some (.int (nI (drw (c 6) 100)))]) rfl (Nat.le_of_ble_eq_true rfl) rfl rfl dX3_isLostOn_6 ?_
  refine r_iload_n C (pc := 7) rfl rfl dX3_isLostOn_7 ?_
  refine n_if_lt C (pc := 8) (by omega) dX3_isLostOn_8 ?_
  refine r_iload_n C (pc := 11) rfl rfl dX3_isLostOn_11 ?_
  refine r_aload_n C (pc := 12) rfl rfl dX3_isLostOn_12 ?_
  refine r_get C (pc := 13) (ci := 3) (k := 1) (w := .ref (u + 2)) rfl (by decide) inX3 (by decide) q_61 (Or.inl hd0) hs0 (zl_ref _ _) dX3_isLostOn_13 ?_
  refine r_alen C (pc := 16) (x := nI 4) (Or.inl hd2) hs2 (by decide) rfl rfl dX3_isLostOn_16 ?_
  refine n_icmp_ge C (pc := 17) (tgt := 34) (by omega) (by omega) dX3_isLostOn_17 (by decide) (fun c_17 => by exfalso; omega) (fun c_17 => ?_)
  refine r_iload_n C (pc := 20) rfl rfl dX3_isLostOn_20 ?_
  refine r_aload_n C (pc := 21) rfl rfl dX3_isLostOn_21 ?_
  refine r_get C (pc := 22) (ci := 3) (k := 1) (w := .ref (u + 2)) rfl (by decide) inX3 (by decide) q_61 (Or.inl hd0) hs0 (zl_ref _ _) dX3_isLostOn_22 ?_
  refine r_iload_n C (pc := 25) rfl rfl dX3_isLostOn_25 ?_
  refine r_iald C (pc := 26) (x := (nI (c (7 + i)))) (Or.inl hd2) hs2 (by omega) (by omega) (by rw [g1.2.2.2.2.2.2.2.1 i (by rw [upc_n (by omega)]; exact hi) (by omega), upc_n (by omega)]) dX3_isLostOn_26 ?_
  refine n_icmp_ge C (pc := 27) (tgt := 34) (by omega) (by omega) dX3_isLostOn_27 (by decide) (fun c_27 => ?_) (fun c_27 => ?_)
  · refine r_iconst C (pc := 34) (x := (nI 0)) (by decide) dX3_isLostOn_34 ?_
    exact r_iret C (pc := 35) rfl (rfl) dX3_isLostOn_35 ⟨rfl, rfl, by rw [decide_eq_false (by omega)]; rfl, g1, g2⟩
  · refine r_iconst C (pc := 30) (x := (nI 1)) (by decide) dX3_isLostOn_30 ?_
    refine r_goto C (pc := 31) (tgt := 35) dX3_isLostOn_31 (by decide) ?_
    exact r_iret C (pc := 35) rfl (rfl) dX3_isLostOn_35 ⟨rfl, rfl, by rw [decide_eq_true c_27]; rfl, g1, g2⟩
set_option maxRecDepth 100000 in
set_option maxHeartbeats 4000000 in
theorem m_X3_weightSum (l : Launch) (G : zG) (sh : zH) (v : zV) (N : Nat) {u : Nat} {c : Nat → Nat} (hp : zSE G sh N u) (hv : zse v u c) (hk : sOK c) : zm l G yX3_weightSum cX3_weightSum 3 (some .int) 0 [.ref u] sh v N (fun r v1 => r = some (.int (nI (wsn c 6))) ∧ v1 = v) := by
  refine zM.of (by decide) rfl (Nat.le_of_ble_eq_true rfl) ?_
  intro p e s m args below meth co C
  obtain ⟨hB, hN, hs0, hs1, hs2, hs3⟩ := id hp
  obtain ⟨h0, h1, h3, h4, h5, h6, hvv, hll, hww⟩ := id hv
  obtain ⟨k0, k1, k2, k3, k4, k5, k6, k7, k8, k9, k10⟩ := id hk
  have hd0 : G.2.2.1 ≤ u ∧ u < N := ⟨hB, by omega⟩
  have hd1 : G.2.2.1 ≤ u + 1 ∧ u + 1 < N := ⟨by omega, by omega⟩
  have hd2 : G.2.2.1 ≤ u + 2 ∧ u + 2 < N := ⟨by omega, by omega⟩
  have hd3 : G.2.2.1 ≤ u + 3 ∧ u + 3 < N := ⟨by omega, hN⟩
  have loop : ∀ (n d : Nat), 6 - d < n → d ≤ 6 → VV p l e ({ frames := 0, cells := 0, slots := 0, locals := 32 * 0 }) s m args below meth co 0 0 (zQ below (fun r sh1 v1 N1 => sh1 = sh ∧ N1 = N ∧ (r = some (.int (nI (wsn c 6))) ∧ v1 = v)) G args s 0 0) G 3 sh v N 4 [some (.ref u), some (.int (nI (wsn c d))), some (.int (nI (d + 1)))] [] := by
    intro n
    induction n with
    | zero => intro d hm; omega
    | succ n ih =>
      intro d hm hd6
      refine r_iload_n C (pc := 4) rfl rfl dX3_weightSum_4 ?_
      refine r_aload_n C (pc := 5) rfl rfl dX3_weightSum_5 ?_
      refine r_get C (pc := 6) (ci := 3) (k := 2) (w := .ref (u + 3)) rfl (by decide) inX3 (by decide) q_63 (Or.inl hd0) hs0 (zl_ref _ _) dX3_weightSum_6 ?_
      refine r_alen C (pc := 9) (x := nI 7) (Or.inl hd3) hs3 (by decide) rfl rfl dX3_weightSum_9 ?_
      refine n_icmp_ge C (pc := 10) (tgt := 28) (by omega) (by omega) dX3_weightSum_10 (by decide) (fun c_10 => ?_) (fun c_10 => ?_)
      · refine r_iload_n C (pc := 28) rfl rfl dX3_weightSum_28 ?_
        exact r_iret C (pc := 29) rfl (rfl) dX3_weightSum_29 ⟨rfl, rfl, by rw [show d = 6 by omega], rfl⟩
      · refine r_iload_n C (pc := 13) rfl rfl dX3_weightSum_13 ?_
        refine r_aload_n C (pc := 14) rfl rfl dX3_weightSum_14 ?_
        refine r_get C (pc := 15) (ci := 3) (k := 2) (w := .ref (u + 3)) rfl (by decide) inX3 (by decide) q_63 (Or.inl hd0) hs0 (zl_ref _ _) dX3_weightSum_15 ?_
        refine r_iload_n C (pc := 18) rfl rfl dX3_weightSum_18 ?_
        refine r_iald C (pc := 19) (x := (nI (c (11 + d)))) (Or.inl hd3) hs3 (by omega) (by omega) (hww d (by omega)) dX3_weightSum_19 ?_
        refine r_iadd C (pc := 20) (z := (nI ((wsn c d) + (c (11 + d))))) (nI_add _ _) dX3_weightSum_20 ?_
        refine r_istore_n C (pc := 21) (lv2 := [some (.ref u), some (.int (nI ((wsn c d) + (c (11 + d))))), some (.int (nI (d + 1)))]) rfl (Nat.le_of_ble_eq_true rfl) rfl rfl dX3_weightSum_21 ?_
        refine r_iinc C (pc := 22) (lv2 := [some (.ref u), some (.int (nI ((wsn c d) + (c (11 + d))))), some (.int (nI (d + 1 + 1)))]) (y := (nI (d + 1 + 1))) rfl (nI_inc _ _) (Nat.le_of_ble_eq_true rfl) rfl rfl dX3_weightSum_22 ?_
        refine r_goto C (pc := 25) (tgt := 4) dX3_weightSum_25 (by decide) ?_
        exact ih (d + 1) (by omega) (by omega)
  refine r_iconst C (pc := 0) (x := (nI 0)) (by decide) dX3_weightSum_0 ?_
  refine r_istore_n C (pc := 1) (lv2 := [some (.ref u), some (.int (nI 0)), none]) rfl (Nat.le_of_ble_eq_true rfl) rfl rfl dX3_weightSum_1 ?_
  refine r_iconst C (pc := 2) (x := (nI 1)) (by decide) dX3_weightSum_2 ?_
  refine r_istore_n C (pc := 3) (lv2 := [some (.ref u), some (.int (nI 0)), some (.int (nI 1))]) rfl (Nat.le_of_ble_eq_true rfl) rfl rfl dX3_weightSum_3 ?_
  exact loop 7 0 (by omega) (by omega)
set_option maxRecDepth 100000 in
set_option maxHeartbeats 4000000 in
theorem m_X3_drawDegree (l : Launch) (G : zG) (sh : zH) (v : zV) (N : Nat) {u : Nat} {c : Nat → Nat} (hp : zSE G sh N u) (hv : zse v u c) (hk : sOK c) (hw : 0 < wsn c 6) : zm l G yX3_drawDegree cX3_drawDegree 4 (some .int) 2 [.ref u] sh v N (fun r v1 => r = some (.int (nI (deg c (drw (c 6) (wsn c 6))))) ∧ zse v1 u (upc c 6 (dseed (c 6))) ∧ zfr v v1 u 4) := by
  refine zM.of (by decide) rfl (Nat.le_of_ble_eq_true rfl) ?_
  intro p e s m args below meth co C
  obtain ⟨hB, hN, hs0, hs1, hs2, hs3⟩ := id hp
  obtain ⟨h0, h1, h3, h4, h5, h6, hvv, hll, hww⟩ := id hv
  obtain ⟨k0, k1, k2, k3, k4, k5, k6, k7, k8, k9, k10⟩ := id hk
  have hd0 : G.2.2.1 ≤ u ∧ u < N := ⟨hB, by omega⟩
  have hd1 : G.2.2.1 ≤ u + 1 ∧ u + 1 < N := ⟨by omega, by omega⟩
  have hd2 : G.2.2.1 ≤ u + 2 ∧ u + 2 < N := ⟨by omega, by omega⟩
  have hd3 : G.2.2.1 ≤ u + 3 ∧ u + 3 < N := ⟨by omega, hN⟩
  refine r_aload_n C (pc := 0) rfl rfl dX3_drawDegree_0 ?_
  refine r_aload_n C (pc := 1) rfl rfl dX3_drawDegree_1 ?_
  refine r_callV C (pc := 2) (st := [.ref u]) (m_X3_weightSum l G sh v N hp hv hk) kyX3_weightSum q_504 rfl (Or.inl hd0) hs0 (by decide) rfl rfl rfl (Nat.le_of_ble_eq_true rfl) ⟨Nat.le_of_ble_eq_true rfl, Nat.le_of_ble_eq_true rfl⟩ ⟨Nat.le_of_ble_eq_true rfl, Nat.le_of_ble_eq_true rfl⟩ dX3_drawDegree_2 (fun r2 v2 hp2 => ?_)
  obtain ⟨rfl, ehp2⟩ := hp2
  refine VV.vq ehp2 ?_
  refine VV.eq (st2 := [.int (nI (wsn c 6)), .ref u]) rfl ?_
  refine r_callV C (pc := 5) (st := []) (m_X3_draw l G sh v N hp hv hk (n := wsn c 6) hw (by have := wsn_le k9 6 (by omega); omega)) kyX3_draw q_505 rfl (Or.inl hd0) hs0 (by decide) rfl rfl rfl (Nat.le_of_ble_eq_true rfl) ⟨Nat.le_of_ble_eq_true rfl, Nat.le_of_ble_eq_true rfl⟩ ⟨Nat.le_of_ble_eq_true rfl, Nat.le_of_ble_eq_true rfl⟩ dX3_drawDegree_5 (fun r5 v5 hp5 => ?_)
  obtain ⟨rfl, g1, g2⟩ := hp5
  refine VV.eq (st2 := [.int (nI (drw (c 6) (wsn c 6)))]) rfl ?_
  refine r_istore_n C (pc := 8) (lv2 := [some (.ref u), some (.int (nI (drw (c 6) (wsn c 6)))), none, none]) rfl (Nat.le_of_ble_eq_true rfl) rfl rfl dX3_drawDegree_8 ?_
  refine r_iconst C (pc := 9) (x := (nI 0)) (by decide) dX3_drawDegree_9 ?_
  refine r_istore_n C (pc := 10) (lv2 := [some (.ref u), some (.int (nI (drw (c 6) (wsn c 6)))), some (.int (nI 0)), none]) rfl (Nat.le_of_ble_eq_true rfl) rfl rfl dX3_drawDegree_10 ?_
  refine r_iconst C (pc := 11) (x := (nI 1)) (by decide) dX3_drawDegree_11 ?_
  refine r_istore_n C (pc := 12) (lv2 := [some (.ref u), some (.int (nI (drw (c 6) (wsn c 6)))), some (.int (nI 0)), some (.int (nI 1))]) rfl (Nat.le_of_ble_eq_true rfl) rfl rfl dX3_drawDegree_12 ?_
  have hdl := drw_lt (c 6) hw
  have hw54 := wsn_le k9 6 (by omega)
  have loop : ∀ (n d : Nat), 6 - d < n → d ≤ 6 → wsn c d ≤ drw (c 6) (wsn c 6) → fdg c (drw (c 6) (wsn c 6)) (5 - d) (d + 1) = fdg c (drw (c 6) (wsn c 6)) 5 1 → VV p l e ({ frames := 2, cells := 0, slots := 0, locals := 32 * 2 }) s m args below meth co 0 0 (zQ below (fun r sh1 v1 N1 => sh1 = sh ∧ N1 = N ∧ (r = some (.int (nI (deg c (drw (c 6) (wsn c 6))))) ∧ zse v1 u (upc c 6 (dseed (c 6))) ∧ zfr v v1 u 4)) G args s 0 0) G 4 sh v5 N 13 [some (.ref u), some (.int (nI (drw (c 6) (wsn c 6)))), some (.int (nI (wsn c d))), some (.int (nI (d + 1)))] [] := by
    intro n
    induction n with
    | zero => intro d hm; omega
    | succ n ih =>
      intro d hm hd6 hle hf
      refine r_iload_n C (pc := 13) rfl rfl dX3_drawDegree_13 ?_
      refine r_aload_n C (pc := 14) rfl rfl dX3_drawDegree_14 ?_
      refine r_get C (pc := 15) (ci := 3) (k := 2) (w := .ref (u + 3)) rfl (by decide) inX3 (by decide) q_63 (Or.inl hd0) hs0 (zl_ref _ _) dX3_drawDegree_15 ?_
      refine r_alen C (pc := 18) (x := nI 7) (Or.inl hd3) hs3 (by decide) rfl rfl dX3_drawDegree_18 ?_
      refine n_icmp_ge C (pc := 19) (tgt := 51) (by omega) (by omega) dX3_drawDegree_19 (by decide) (fun c_19 => by exfalso; rw [show d = 6 by omega] at hle; omega) (fun c_19 => ?_)
      refine r_iload_n C (pc := 22) rfl rfl dX3_drawDegree_22 ?_
      refine r_aload_n C (pc := 23) rfl rfl dX3_drawDegree_23 ?_
      refine r_get C (pc := 24) (ci := 3) (k := 2) (w := .ref (u + 3)) rfl (by decide) inX3 (by decide) q_63 (Or.inl hd0) hs0 (zl_ref _ _) dX3_drawDegree_24 ?_
      refine r_iload_n C (pc := 27) rfl rfl dX3_drawDegree_27 ?_
      refine r_iald C (pc := 28) (x := (nI (c (11 + d)))) (Or.inl hd3) hs3 (by omega) (by omega) (by rw [g1.2.2.2.2.2.2.2.2 d (by omega), upc_n (by omega)]) dX3_drawDegree_28 ?_
      refine r_iadd C (pc := 29) (z := (nI ((wsn c d) + (c (11 + d))))) (nI_add _ _) dX3_drawDegree_29 ?_
      refine r_istore_n C (pc := 30) (lv2 := [some (.ref u), some (.int (nI (drw (c 6) (wsn c 6)))), some (.int (nI ((wsn c d) + (c (11 + d))))), some (.int (nI (d + 1)))]) rfl (Nat.le_of_ble_eq_true rfl) rfl rfl dX3_drawDegree_30 ?_
      refine r_iload_n C (pc := 31) rfl rfl dX3_drawDegree_31 ?_
      refine r_iload_n C (pc := 32) rfl rfl dX3_drawDegree_32 ?_
      refine n_icmp_le C (pc := 33) (tgt := 45) (by have := wsn_le k9 d (by omega); have := k9 d (by omega); omega) (by omega) dX3_drawDegree_33 (by decide) (fun c_33 => ?_) (fun c_33 => ?_)
      · refine r_iinc C (pc := 45) (lv2 := [some (.ref u), some (.int (nI (drw (c 6) (wsn c 6)))), some (.int (nI ((wsn c d) + (c (11 + d))))), some (.int (nI (d + 1 + 1)))]) (y := (nI (d + 1 + 1))) rfl (nI_inc _ _) (Nat.le_of_ble_eq_true rfl) rfl rfl dX3_drawDegree_45 ?_
        refine r_goto C (pc := 48) (tgt := 13) dX3_drawDegree_48 (by decide) ?_
        exact ih (d + 1) (by omega) (by omega) (by show wsn c d + c (11 + d) ≤ _; exact c_33) (by
          rw [← hf]
          cases hd5 : 5 - d with
          | zero =>
            exfalso
            have h5 : d = 5 := by omega
            subst h5
            have : wsn c 6 = wsn c 5 + c (11 + 5) := rfl
            omega
          | succ m =>
            show _ = (if _ then _ else _)
            rw [if_neg (show ¬ drw (c 6) (wsn c 6) < wsn c (d + 1) from Nat.not_lt.mpr c_33), show 5 - (d + 1) = m by omega])
      · refine r_iload_n C (pc := 36) rfl rfl dX3_drawDegree_36 ?_
        refine r_aload_n C (pc := 37) rfl rfl dX3_drawDegree_37 ?_
        refine r_get C (pc := 38) (ci := 3) (k := 3) (w := .int (nI (c 0))) rfl (by decide) inX3 (by decide) q_65 (Or.inl hd0) hs0 (zl_i (by rw [g1.1, upc_n (by omega)])) dX3_drawDegree_38 ?_
        refine r_min C (pc := 41) (z := (nI (min (d + 1) (c 0)))) q_513 (nI_min (by omega) (by omega)) (Nat.le_of_ble_eq_true rfl) ⟨Nat.le_of_ble_eq_true rfl, Nat.le_of_ble_eq_true rfl⟩ ⟨Nat.le_of_ble_eq_true rfl, Nat.le_of_ble_eq_true rfl⟩ dX3_drawDegree_41 ?_
        exact r_iret C (pc := 44) rfl (rfl) dX3_drawDegree_44 ⟨rfl, rfl, (by
            rw [show deg c (drw (c 6) (wsn c 6)) = min (d + 1) (c 0) by
              unfold deg
              rw [← hf]
              cases hd5 : 5 - d with
              | zero => rfl
              | succ m =>
                show min (if _ then _ else _) _ = _
                rw [if_pos (show drw (c 6) (wsn c 6) < wsn c (d + 1) from c_33)]]), g1, g2⟩
  exact loop 7 0 (by omega) (by omega) (Nat.zero_le _) rfl
set_option maxRecDepth 100000 in
set_option maxHeartbeats 4000000 in
theorem m_X3_packetOf (l : Launch) (G : zG) (sh : zH) (v : zV) (N : Nat) {u : Nat} {c : Nat → Nat} {x : Nat} (hp : zSE G sh N u) (hv : zse v u c) (hk : sOK c) (hx : x < 2 ^ 31) : zm l G yX3_packetOf cX3_packetOf 4 (some .int) 1 [.ref u, .int (nI x)] sh v N (fun r v1 => r = some (.int (nI (pkn c x (c 0)))) ∧ v1 = v) := by
  refine zM.of (by decide) rfl (Nat.le_of_ble_eq_true rfl) ?_
  intro p e s m args below meth co C
  obtain ⟨hB, hN, hs0, hs1, hs2, hs3⟩ := id hp
  obtain ⟨h0, h1, h3, h4, h5, h6, hvv, hll, hww⟩ := id hv
  obtain ⟨k0, k1, k2, k3, k4, k5, k6, k7, k8, k9, k10⟩ := id hk
  have hd0 : G.2.2.1 ≤ u ∧ u < N := ⟨hB, by omega⟩
  have hd1 : G.2.2.1 ≤ u + 1 ∧ u + 1 < N := ⟨by omega, by omega⟩
  have hd2 : G.2.2.1 ≤ u + 2 ∧ u + 2 < N := ⟨by omega, by omega⟩
  have hd3 : G.2.2.1 ≤ u + 3 ∧ u + 3 < N := ⟨by omega, hN⟩
  have loop : ∀ (n b : Nat), c 0 - b < n → b ≤ c 0 → VV p l e ({ frames := 1, cells := 0, slots := 0, locals := 32 * 1 }) s m args below meth co 0 0 (zQ below (fun r sh1 v1 N1 => sh1 = sh ∧ N1 = N ∧ (r = some (.int (nI (pkn c x (c 0)))) ∧ v1 = v)) G args s 0 0) G 4 sh v N 4 [some (.ref u), some (.int (nI x)), some (.int (nI (pkn c x b))), some (.int (nI b))] [] := by
    intro n
    induction n with
    | zero => intro b hm; omega
    | succ n ih =>
      intro b hm hb
      refine r_iload_n C (pc := 4) rfl rfl dX3_packetOf_4 ?_
      refine r_aload_n C (pc := 5) rfl rfl dX3_packetOf_5 ?_
      refine r_get C (pc := 6) (ci := 3) (k := 3) (w := .int (nI (c 0))) rfl (by decide) inX3 (by decide) q_65 (Or.inl hd0) hs0 (zl_i (h0)) dX3_packetOf_6 ?_
      refine n_icmp_ge C (pc := 9) (tgt := 48) (by omega) (by omega) dX3_packetOf_9 (by decide) (fun c_9 => ?_) (fun c_9 => ?_)
      · refine r_iload_n C (pc := 48) rfl rfl dX3_packetOf_48 ?_
        exact r_iret C (pc := 49) rfl (rfl) dX3_packetOf_49 ⟨rfl, rfl, by rw [show b = c 0 by omega], rfl⟩
      · refine r_iload_n C (pc := 12) rfl rfl dX3_packetOf_12 ?_
        refine r_aload_n C (pc := 13) rfl rfl dX3_packetOf_13 ?_
        refine r_get C (pc := 14) (ci := 3) (k := 0) (w := .ref (u + 1)) rfl (by decide) inX3 (by decide) q_59 (Or.inl hd0) hs0 (zl_ref _ _) dX3_packetOf_14 ?_
        refine r_alen C (pc := 17) (x := nI 12) (Or.inl hd1) hs1 (by decide) rfl rfl dX3_packetOf_17 ?_
        refine n_icmp_ge C (pc := 18) (tgt := 48) (by omega) (by omega) dX3_packetOf_18 (by decide) (fun c_18 => by exfalso; omega) (fun c_18 => ?_)
        refine r_iload_n C (pc := 21) rfl rfl dX3_packetOf_21 ?_
        refine r_iload_n C (pc := 22) rfl rfl dX3_packetOf_22 ?_
        refine r_ishr C (pc := 23) (z := (nI (x / 2 ^ b))) (nI_shr hx (by omega)) dX3_packetOf_23 ?_
        refine r_iconst C (pc := 24) (x := (nI 1)) (by decide) dX3_packetOf_24 ?_
        refine r_iand C (pc := 25) (z := (nI (if x.testBit b then 1 else 0))) (by rw [nx_and, tb_bit]) dX3_packetOf_25 ?_
        refine n_if_eq C (pc := 26) (tgt := 42) (by split <;> decide) dX3_packetOf_26 (by decide) (fun c_26 => ?_) (fun c_26 => ?_)
        · have hb0 : ¬ x.testBit b = true := fun z => by rw [if_pos z] at c_26; omega
          refine r_iinc C (pc := 42) (lv2 := [some (.ref u), some (.int (nI x)), some (.int (nI (pkn c x b))), some (.int (nI (b + 1)))]) (y := (nI (b + 1))) rfl (nI_inc _ _) (Nat.le_of_ble_eq_true rfl) rfl rfl dX3_packetOf_42 ?_
          refine r_goto C (pc := 45) (tgt := 4) dX3_packetOf_45 (by decide) ?_
          have hs : pkn c x (b + 1) = pkn c x b := by
            show (if _ then _ else _) = _
            rw [if_neg hb0]
          have := ih (b + 1) (by omega) (by omega)
          rw [hs] at this
          exact this
        · have hb1 : x.testBit b = true := by
            cases h : x.testBit b with
            | true => rfl
            | false => rw [h] at c_26; simp at c_26
          refine r_iload_n C (pc := 29) rfl rfl dX3_packetOf_29 ?_
          refine r_iload_n C (pc := 30) rfl rfl dX3_packetOf_30 ?_
          refine r_aload_n C (pc := 31) rfl rfl dX3_packetOf_31 ?_
          refine r_get C (pc := 32) (ci := 3) (k := 0) (w := .ref (u + 1)) rfl (by decide) inX3 (by decide) q_59 (Or.inl hd0) hs0 (zl_ref _ _) dX3_packetOf_32 ?_
          refine r_iload_n C (pc := 35) rfl rfl dX3_packetOf_35 ?_
          refine r_iald C (pc := 36) (x := (nI (c (17 + b)))) (Or.inl hd1) hs1 (by omega) (by omega) (hvv b (by omega)) dX3_packetOf_36 ?_
          refine r_callSN C (pc := 37) (st := [.int (nI (pkn c x b))]) (m_X6_packetWith l G sh v N (b := b) (x := c (17 + b)) (by omega) (k10 b (by omega))) kyX6_packetWith q_402 rfl rfl (Nat.le_of_ble_eq_true rfl) ⟨Nat.le_of_ble_eq_true rfl, Nat.le_of_ble_eq_true rfl⟩ ⟨Nat.le_of_ble_eq_true rfl, Nat.le_of_ble_eq_true rfl⟩ dX3_packetOf_37 (fun r37 v37 hp37 => ?_)
          obtain ⟨rfl, ehp37⟩ := hp37
          refine VV.vq ehp37 ?_
          refine VV.eq (st2 := [.int (nI (2 ^ (8 + b) + c (17 + b))), .int (nI (pkn c x b))]) rfl ?_
          refine r_ixor C (pc := 40) (z := (nI (pkn c x b ^^^ (2 ^ (8 + b) + c (17 + b))))) (nx_xor _ _) dX3_packetOf_40 ?_
          refine r_istore_n C (pc := 41) (lv2 := [some (.ref u), some (.int (nI x)), some (.int (nI (pkn c x b ^^^ (2 ^ (8 + b) + c (17 + b))))), some (.int (nI b))]) rfl (Nat.le_of_ble_eq_true rfl) rfl rfl dX3_packetOf_41 ?_
          refine r_iinc C (pc := 42) (lv2 := [some (.ref u), some (.int (nI x)), some (.int (nI (pkn c x b ^^^ (2 ^ (8 + b) + c (17 + b))))), some (.int (nI (b + 1)))]) (y := (nI (b + 1))) rfl (nI_inc _ _) (Nat.le_of_ble_eq_true rfl) rfl rfl dX3_packetOf_42 ?_
          refine r_goto C (pc := 45) (tgt := 4) dX3_packetOf_45 (by decide) ?_
          have hs : pkn c x (b + 1) = pkn c x b ^^^ (2 ^ (8 + b) + c (17 + b)) := by
            show (if _ then _ else _) = _
            rw [if_pos hb1]
          have := ih (b + 1) (by omega) (by omega)
          rw [hs] at this
          exact this
  refine r_iconst C (pc := 0) (x := (nI 0)) (by decide) dX3_packetOf_0 ?_
  refine r_istore_n C (pc := 1) (lv2 := [some (.ref u), some (.int (nI x)), some (.int (nI 0)), none]) rfl (Nat.le_of_ble_eq_true rfl) rfl rfl dX3_packetOf_1 ?_
  refine r_iconst C (pc := 2) (x := (nI 0)) (by decide) dX3_packetOf_2 ?_
  refine r_istore_n C (pc := 3) (lv2 := [some (.ref u), some (.int (nI x)), some (.int (nI 0)), some (.int (nI 0))]) rfl (Nat.le_of_ble_eq_true rfl) rfl rfl dX3_packetOf_3 ?_
  exact loop (c 0 + 1) 0 (by omega) (by omega)
set_option maxRecDepth 100000 in
set_option maxHeartbeats 4000000 in
theorem m_X3_drawPacket (l : Launch) (G : zG) (sh : zH) (v : zV) (N : Nat) {u : Nat} {c : Nat → Nat} (hp : zSE G sh N u) (hv : zse v u c) (hk : sOK c) (hw : 0 < wsn c 6) : zm l G yX3_drawPacket cX3_drawPacket 4 (some .int) 3 [.ref u] sh v N (fun r v1 => r = some (.int (nI (pkn c (dsn (c 0) (dseed (c 6), deg c (drw (c 6) (wsn c 6)), 0) (c 0)).2.2 (c 0)))) ∧ zse v1 u (upc c 6 (dsn (c 0) (dseed (c 6), deg c (drw (c 6) (wsn c 6)), 0) (c 0)).1) ∧ zfr v v1 u 4) := by
  refine zM.of (by decide) rfl (Nat.le_of_ble_eq_true rfl) ?_
  intro p e s m args below meth co C
  obtain ⟨hB, hN, hs0, hs1, hs2, hs3⟩ := id hp
  obtain ⟨h0, h1, h3, h4, h5, h6, hvv, hll, hww⟩ := id hv
  obtain ⟨k0, k1, k2, k3, k4, k5, k6, k7, k8, k9, k10⟩ := id hk
  have hd0 : G.2.2.1 ≤ u ∧ u < N := ⟨hB, by omega⟩
  have hd1 : G.2.2.1 ≤ u + 1 ∧ u + 1 < N := ⟨by omega, by omega⟩
  have hd2 : G.2.2.1 ≤ u + 2 ∧ u + 2 < N := ⟨by omega, by omega⟩
  have hd3 : G.2.2.1 ≤ u + 3 ∧ u + 3 < N := ⟨by omega, hN⟩
  refine r_aload_n C (pc := 0) rfl rfl dX3_drawPacket_0 ?_
  refine r_callV C (pc := 1) (st := []) (m_X3_drawDegree l G sh v N hp hv hk hw) kyX3_drawDegree q_500 rfl (Or.inl hd0) hs0 (by decide) rfl rfl rfl (Nat.le_of_ble_eq_true rfl) ⟨Nat.le_of_ble_eq_true rfl, Nat.le_of_ble_eq_true rfl⟩ ⟨Nat.le_of_ble_eq_true rfl, Nat.le_of_ble_eq_true rfl⟩ dX3_drawPacket_1 (fun r1 v1 hp1 => ?_)
  obtain ⟨rfl, g1, g2⟩ := hp1
  refine VV.eq (st2 := [.int (nI (deg c (drw (c 6) (wsn c 6))))]) rfl ?_
  refine r_istore_n C (pc := 4) (lv2 := [some (.ref u), some (.int (nI (deg c (drw (c 6) (wsn c 6))))), none, none]) rfl (Nat.le_of_ble_eq_true rfl) rfl rfl dX3_drawPacket_4 ?_
  refine r_iconst C (pc := 5) (x := (nI 0)) (by decide) dX3_drawPacket_5 ?_
  refine r_istore_n C (pc := 6) (lv2 := [some (.ref u), some (.int (nI (deg c (drw (c 6) (wsn c 6))))), some (.int (nI 0)), none]) rfl (Nat.le_of_ble_eq_true rfl) rfl rfl dX3_drawPacket_6 ?_
  refine r_iconst C (pc := 7) (x := (nI 0)) (by decide) dX3_drawPacket_7 ?_
  refine r_istore_n C (pc := 8) (lv2 := [some (.ref u), some (.int (nI (deg c (drw (c 6) (wsn c 6))))), some (.int (nI 0)), some (.int (nI 0))]) rfl (Nat.le_of_ble_eq_true rfl) rfl rfl dX3_drawPacket_8 ?_
  have loop : ∀ (n b : Nat) (v' : zV), c 0 - b < n → b ≤ c 0 → zse v' u (upc c 6 (dsn (c 0) (dseed (c 6), deg c (drw (c 6) (wsn c 6)), 0) b).1) → zfr v v' u 4 → VV p l e ({ frames := 3, cells := 0, slots := 0, locals := 32 * 3 }) s m args below meth co 0 0 (zQ below (fun r sh1 v1 N1 => sh1 = sh ∧ N1 = N ∧ (r = some (.int (nI (pkn c (dsn (c 0) (dseed (c 6), deg c (drw (c 6) (wsn c 6)), 0) (c 0)).2.2 (c 0)))) ∧ zse v1 u (upc c 6 (dsn (c 0) (dseed (c 6), deg c (drw (c 6) (wsn c 6)), 0) (c 0)).1) ∧ zfr v v1 u 4)) G args s 0 0) G 4 sh v' N 9 [some (.ref u), some (.int (nI ((dsn (c 0) (dseed (c 6), deg c (drw (c 6) (wsn c 6)), 0) b).2.1))), some (.int (nI ((dsn (c 0) (dseed (c 6), deg c (drw (c 6) (wsn c 6)), 0) b).2.2))), some (.int (nI b))] [] := by
    intro n
    induction n with
    | zero => intro b v' hm; omega
    | succ n ih =>
      intro b v' hm hb e1 e2
      refine r_iload_n C (pc := 9) rfl rfl dX3_drawPacket_9 ?_
      refine r_aload_n C (pc := 10) rfl rfl dX3_drawPacket_10 ?_
      refine r_get C (pc := 11) (ci := 3) (k := 3) (w := .int (nI (c 0))) rfl (by decide) inX3 (by decide) q_65 (Or.inl hd0) hs0 (zl_i (by rw [e1.1, upc_n (by omega)])) dX3_drawPacket_11 ?_
      refine n_icmp_ge C (pc := 14) (tgt := 46) (by omega) (by omega) dX3_drawPacket_14 (by decide) (fun c_14 => ?_) (fun c_14 => ?_)
      · refine r_aload_n C (pc := 46) rfl rfl dX3_drawPacket_46 ?_
        refine r_iload_n C (pc := 47) rfl rfl dX3_drawPacket_47 ?_
        refine r_callV C (pc := 48) (st := []) (m_X3_packetOf l G sh v' N hp e1 (sOK_seed hk (dsn (c 0) (dseed (c 6), deg c (drw (c 6) (wsn c 6)), 0) b).1 (dsn_seed (dseed_lt _) b)) (x := (dsn (c 0) (dseed (c 6), deg c (drw (c 6) (wsn c 6)), 0) b).2.2) (Nat.lt_trans (dsn_set rfl b) (Nat.pow_lt_pow_right (by decide) (by omega)))) kyX3_packetOf q_514 rfl (Or.inl hd0) hs0 (by decide) rfl rfl rfl (Nat.le_of_ble_eq_true rfl) ⟨Nat.le_of_ble_eq_true rfl, Nat.le_of_ble_eq_true rfl⟩ ⟨Nat.le_of_ble_eq_true rfl, Nat.le_of_ble_eq_true rfl⟩ dX3_drawPacket_48 (fun r48 v48 hp48 => ?_)
        obtain ⟨rfl, ehp48⟩ := hp48
        refine VV.vq ehp48 ?_
        refine VV.eq (st2 := [.int (nI (pkn (upc c 6 (dsn (c 0) (dseed (c 6), deg c (drw (c 6) (wsn c 6)), 0) b).1) (dsn (c 0) (dseed (c 6), deg c (drw (c 6) (wsn c 6)), 0) b).2.2 ((upc c 6 (dsn (c 0) (dseed (c 6), deg c (drw (c 6) (wsn c 6)), 0) b).1) 0)))]) rfl ?_
        exact r_iret C (pc := 51) rfl (rfl) dX3_drawPacket_51 ⟨rfl, rfl, by rw [show b = c 0 by omega, pkn_seed, upc_n (by omega)], by rw [show b = c 0 by omega] at e1; exact e1, e2⟩
      · refine r_aload_n C (pc := 17) rfl rfl dX3_drawPacket_17 ?_
        refine r_aload_n C (pc := 18) rfl rfl dX3_drawPacket_18 ?_
        refine r_get C (pc := 19) (ci := 3) (k := 3) (w := .int (nI (c 0))) rfl (by decide) inX3 (by decide) q_65 (Or.inl hd0) hs0 (zl_i (by rw [e1.1, upc_n (by omega)])) dX3_drawPacket_19 ?_
        refine r_iload_n C (pc := 22) rfl rfl dX3_drawPacket_22 ?_
        refine r_isub C (pc := 23) (z := (nI ((c 0) - b))) (pk_sub (by omega)) dX3_drawPacket_23 ?_
        refine r_callV C (pc := 24) (st := []) (m_X3_draw l G sh v' N hp e1 (sOK_seed hk (dsn (c 0) (dseed (c 6), deg c (drw (c 6) (wsn c 6)), 0) b).1 (dsn_seed (dseed_lt _) b)) (n := c 0 - b) (by omega) (by omega)) kyX3_draw q_505 rfl (Or.inl hd0) hs0 (by decide) rfl rfl rfl (Nat.le_of_ble_eq_true rfl) ⟨Nat.le_of_ble_eq_true rfl, Nat.le_of_ble_eq_true rfl⟩ ⟨Nat.le_of_ble_eq_true rfl, Nat.le_of_ble_eq_true rfl⟩ dX3_drawPacket_24 (fun r24 v24 hp24 => ?_)
        obtain ⟨rfl, g1, g2⟩ := hp24
        refine VV.eq (st2 := [.int (nI (drw ((upc c 6 (dsn (c 0) (dseed (c 6), deg c (drw (c 6) (wsn c 6)), 0) b).1) 6) (c 0 - b)))]) rfl ?_
        rw [upc_s]
        have hop := dsn_op (K := c 0) (z := (dseed (c 6), deg c (drw (c 6) (wsn c 6)), 0)) b
        have hdg : deg c (drw (c 6) (wsn c 6)) ≤ 12 := Nat.le_trans (Nat.min_le_right _ _) k1
        have hdr := drw_lt (dsn (c 0) (dseed (c 6), deg c (drw (c 6) (wsn c 6)), 0) b).1 (n := c 0 - b) (by omega)
        have hop2 : (dsn (c 0) (dseed (c 6), deg c (drw (c 6) (wsn c 6)), 0) b).2.1 ≤ 12 := Nat.le_trans hop hdg
        refine r_iload_n C (pc := 27) rfl rfl dX3_drawPacket_27 ?_
        refine n_icmp_ge C (pc := 28) (tgt := 40) (by omega) (by omega) dX3_drawPacket_28 (by decide) (fun c_28 => ?_) (fun c_28 => ?_)
        · refine r_iinc C (pc := 40) (lv2 := [some (.ref u), some (.int (nI ((dsn (c 0) (dseed (c 6), deg c (drw (c 6) (wsn c 6)), 0) b).2.1))), some (.int (nI ((dsn (c 0) (dseed (c 6), deg c (drw (c 6) (wsn c 6)), 0) b).2.2))), some (.int (nI (b + 1)))]) (y := (nI (b + 1))) rfl (nI_inc _ _) (Nat.le_of_ble_eq_true rfl) rfl rfl dX3_drawPacket_40 ?_
          refine r_goto C (pc := 43) (tgt := 9) dX3_drawPacket_43 (by decide) ?_
          have hs : (dsn (c 0) (dseed (c 6), deg c (drw (c 6) (wsn c 6)), 0) (b + 1)) = (dseed (dsn (c 0) (dseed (c 6), deg c (drw (c 6) (wsn c 6)), 0) b).1, (dsn (c 0) (dseed (c 6), deg c (drw (c 6) (wsn c 6)), 0) b).2.1, (dsn (c 0) (dseed (c 6), deg c (drw (c 6) (wsn c 6)), 0) b).2.2) := by
            show (if _ then _ else _) = _
            rw [if_neg (Nat.not_lt.mpr c_28)]
          have := ih (b + 1) v24 (by omega) (by omega)
          rw [hs] at this
          exact this (by rw [upc_s, upc_upc] at g1; exact g1) (e2.tr g2)
        · refine r_iload_n C (pc := 31) rfl rfl dX3_drawPacket_31 ?_
          refine r_iconst C (pc := 32) (x := (nI 1)) (by decide) dX3_drawPacket_32 ?_
          refine r_iload_n C (pc := 33) rfl rfl dX3_drawPacket_33 ?_
          refine r_ishl C (pc := 34) (z := (nI (2 ^ b))) (nI_shl1 (by omega)) dX3_drawPacket_34 ?_
          refine r_ior C (pc := 35) (z := (nI ((dsn (c 0) (dseed (c 6), deg c (drw (c 6) (wsn c 6)), 0) b).2.2 ||| 2 ^ b))) (nx_or _ _) dX3_drawPacket_35 ?_
          refine r_istore_n C (pc := 36) (lv2 := [some (.ref u), some (.int (nI ((dsn (c 0) (dseed (c 6), deg c (drw (c 6) (wsn c 6)), 0) b).2.1))), some (.int (nI ((dsn (c 0) (dseed (c 6), deg c (drw (c 6) (wsn c 6)), 0) b).2.2 ||| 2 ^ b))), some (.int (nI b))]) rfl (Nat.le_of_ble_eq_true rfl) rfl rfl dX3_drawPacket_36 ?_
          refine r_iinc C (pc := 37) (lv2 := [some (.ref u), some (.int (nI ((dsn (c 0) (dseed (c 6), deg c (drw (c 6) (wsn c 6)), 0) b).2.1 - 1))), some (.int (nI ((dsn (c 0) (dseed (c 6), deg c (drw (c 6) (wsn c 6)), 0) b).2.2 ||| 2 ^ b))), some (.int (nI b))]) (y := (nI ((dsn (c 0) (dseed (c 6), deg c (drw (c 6) (wsn c 6)), 0) b).2.1 - 1))) rfl (nI_decp (by omega)) (Nat.le_of_ble_eq_true rfl) rfl rfl dX3_drawPacket_37 ?_
          refine r_iinc C (pc := 40) (lv2 := [some (.ref u), some (.int (nI ((dsn (c 0) (dseed (c 6), deg c (drw (c 6) (wsn c 6)), 0) b).2.1 - 1))), some (.int (nI ((dsn (c 0) (dseed (c 6), deg c (drw (c 6) (wsn c 6)), 0) b).2.2 ||| 2 ^ b))), some (.int (nI (b + 1)))]) (y := (nI (b + 1))) rfl (nI_inc _ _) (Nat.le_of_ble_eq_true rfl) rfl rfl dX3_drawPacket_40 ?_
          refine r_goto C (pc := 43) (tgt := 9) dX3_drawPacket_43 (by decide) ?_
          have hs : (dsn (c 0) (dseed (c 6), deg c (drw (c 6) (wsn c 6)), 0) (b + 1)) = (dseed (dsn (c 0) (dseed (c 6), deg c (drw (c 6) (wsn c 6)), 0) b).1, (dsn (c 0) (dseed (c 6), deg c (drw (c 6) (wsn c 6)), 0) b).2.1 - 1, (dsn (c 0) (dseed (c 6), deg c (drw (c 6) (wsn c 6)), 0) b).2.2 ||| 2 ^ b) := by
            show (if _ then _ else _) = _
            rw [if_pos c_28]
          have := ih (b + 1) v24 (by omega) (by omega)
          rw [hs] at this
          exact this (by rw [upc_s, upc_upc] at g1; exact g1) (e2.tr g2)
  exact loop (c 0 + 1) 0 v1 (by omega) (by omega) g1 g2
set_option maxRecDepth 100000 in
set_option maxHeartbeats 4000000 in
theorem m_X3_giveFirstValues (l : Launch) (G : zG) (sh : zH) (v : zV) (N : Nat) {u : Nat} (hp : zSE G sh N u) : zm l G yX3_giveFirstValues cX3_giveFirstValues 2 none 0 [.ref u] sh v N (fun r v1 => r = none ∧ (∀ b, b < 12 → v1 (u + 1) b = nI (10 * b + 7)) ∧ ∀ b, b ≠ u + 1 → v1 b = v b) := by
  refine zM.of (by decide) rfl (Nat.le_of_ble_eq_true rfl) ?_
  intro p e s m args below meth co C
  obtain ⟨hB, hN, hs0, hs1, hs2, hs3⟩ := id hp
  have hd0 : G.2.2.1 ≤ u ∧ u < N := ⟨hB, by omega⟩
  have hd1 : G.2.2.1 ≤ u + 1 ∧ u + 1 < N := ⟨by omega, by omega⟩
  have hd2 : G.2.2.1 ≤ u + 2 ∧ u + 2 < N := ⟨by omega, by omega⟩
  have hd3 : G.2.2.1 ≤ u + 3 ∧ u + 3 < N := ⟨by omega, hN⟩
  have loop : ∀ (n i : Nat) (v' : zV), 12 - i < n → i ≤ 12 → (∀ b, b < i → v' (u + 1) b = nI (10 * b + 7)) → (∀ b, b ≠ u + 1 → v' b = v b) → VV p l e ({ frames := 0, cells := 0, slots := 0, locals := 32 * 0 }) s m args below meth co 0 0 (zQ below (fun r sh1 v1 N1 => sh1 = sh ∧ N1 = N ∧ (r = none ∧ (∀ b, b < 12 → v1 (u + 1) b = nI (10 * b + 7)) ∧ ∀ b, b ≠ u + 1 → v1 b = v b)) G args s 0 0) G 2 sh v' N 2 [some (.ref u), some (.int (nI i))] [] := by
    intro n
    induction n with
    | zero => intro i v' hm; omega
    | succ n ih =>
      intro i v' hm hi e1 e2
      refine r_iload_n C (pc := 2) rfl rfl dX3_giveFirstValues_2 ?_
      refine r_aload_n C (pc := 3) rfl rfl dX3_giveFirstValues_3 ?_
      refine r_get C (pc := 4) (ci := 3) (k := 0) (w := .ref (u + 1)) rfl (by decide) inX3 (by decide) q_59 (Or.inl hd0) hs0 (zl_ref _ _) dX3_giveFirstValues_4 ?_
      refine r_alen C (pc := 7) (x := nI 12) (Or.inl hd1) hs1 (by decide) rfl rfl dX3_giveFirstValues_7 ?_
      refine n_icmp_ge C (pc := 8) (tgt := 30) (by omega) (by omega) dX3_giveFirstValues_8 (by decide) (fun c_8 => ?_) (fun c_8 => ?_)
      · exact r_vret C (pc := 30) rfl dX3_giveFirstValues_30 ⟨rfl, rfl, rfl, (fun b hb => e1 b (by omega)), e2⟩
      · refine r_aload_n C (pc := 11) rfl rfl dX3_giveFirstValues_11 ?_
        refine r_get C (pc := 12) (ci := 3) (k := 0) (w := .ref (u + 1)) rfl (by decide) inX3 (by decide) q_59 (Or.inl hd0) hs0 (zl_ref _ _) dX3_giveFirstValues_12 ?_
        refine r_iload_n C (pc := 15) rfl rfl dX3_giveFirstValues_15 ?_
        refine r_bipush C (pc := 16) (x := (nI 10)) (by decide) dX3_giveFirstValues_16 ?_
        refine r_iload_n C (pc := 18) rfl rfl dX3_giveFirstValues_18 ?_
        refine r_imul C (pc := 19) (z := (nI (10 * i))) (pk_mul _ _) dX3_giveFirstValues_19 ?_
        refine r_bipush C (pc := 20) (x := (nI 7)) (by decide) dX3_giveFirstValues_20 ?_
        refine r_iadd C (pc := 22) (z := (nI ((10 * i) + 7))) (nI_add _ _) dX3_giveFirstValues_22 ?_
        refine r_iast C (pc := 23) hd1 hs1 (by omega) (by omega) dX3_giveFirstValues_23 ?_
        refine VV.gn (fun w23 ew23 => ?_)
        refine r_iinc C (pc := 24) (lv2 := [some (.ref u), some (.int (nI (i + 1)))]) (y := (nI (i + 1))) rfl (nI_inc _ _) (Nat.le_of_ble_eq_true rfl) rfl rfl dX3_giveFirstValues_24 ?_
        refine r_goto C (pc := 27) (tgt := 2) dX3_giveFirstValues_27 (by decide) ?_
        exact ih (i + 1) w23 (by omega) (by omega) (fun b hb => by
          rw [ew23]
          by_cases hbi : b = i
          · subst hbi; rw [z2_self]
          · rw [z2_ne (by omega)]; exact e1 b (by omega)) (fun b hb => by rw [ew23, z2_addr hb]; exact e2 b hb)
  refine r_iconst C (pc := 0) (x := (nI 0)) (by decide) dX3_giveFirstValues_0 ?_
  refine r_istore_n C (pc := 1) (lv2 := [some (.ref u), some (.int (nI 0))]) rfl (Nat.le_of_ble_eq_true rfl) rfl rfl dX3_giveFirstValues_1 ?_
  exact loop 13 0 v (by omega) (by omega) (fun b hb => by omega) (fun b hb => rfl)
set_option maxRecDepth 100000 in
set_option maxHeartbeats 4000000 in
theorem m_X3_restart (l : Launch) (G : zG) (sh : zH) (v : zV) (N : Nat) {u : Nat} {c : Nat → Nat} {K R : Nat} (hp : zSE G sh N u) (hv : zse v u c) (hk : sOK c) (hR : R ≤ 3) : zm l G yX3_restart cX3_restart 4 none 1 [.ref u, .int (nI K), .int (nI R)] sh v N (fun r v1 => r = none ∧ zse v1 u (layc c K R) ∧ zfr v v1 u 4) := by
  refine zM.of (by decide) rfl (Nat.le_of_ble_eq_true rfl) ?_
  intro p e s m args below meth co C
  obtain ⟨hB, hN, hs0, hs1, hs2, hs3⟩ := id hp
  obtain ⟨h0, h1, h3, h4, h5, h6, hvv, hll, hww⟩ := id hv
  obtain ⟨k0, k1, k2, k3, k4, k5, k6, k7, k8, k9, k10⟩ := id hk
  have hd0 : G.2.2.1 ≤ u ∧ u < N := ⟨hB, by omega⟩
  have hd1 : G.2.2.1 ≤ u + 1 ∧ u + 1 < N := ⟨by omega, by omega⟩
  have hd2 : G.2.2.1 ≤ u + 2 ∧ u + 2 < N := ⟨by omega, by omega⟩
  have hd3 : G.2.2.1 ≤ u + 3 ∧ u + 3 < N := ⟨by omega, hN⟩
  have loop : ∀ (n i : Nat) (v' : zV), 4 - i < n → i ≤ 4 → (∀ j, j < 4 → v' (u + 2) j = if j < i ∧ c 1 < j then nI 0 else v (u + 2) j) → (∀ b, b ≠ u + 2 → v' b = v b) → VV p l e ({ frames := 1, cells := 0, slots := 0, locals := 32 * 1 }) s m args below meth co 0 0 (zQ below (fun r sh1 v1 N1 => sh1 = sh ∧ N1 = N ∧ (r = none ∧ zse v1 u (layc c K R) ∧ zfr v v1 u 4)) G args s 0 0) G 4 sh v' N 2 [some (.ref u), some (.int (nI K)), some (.int (nI R)), some (.int (nI i))] [] := by
    intro n
    induction n with
    | zero => intro i v' hm; omega
    | succ n ih =>
      intro i v' hm hi e1 e2
      refine r_iload_n C (pc := 2) rfl rfl dX3_restart_2 ?_
      refine r_aload_n C (pc := 3) rfl rfl dX3_restart_3 ?_
      refine r_get C (pc := 4) (ci := 3) (k := 1) (w := .ref (u + 2)) rfl (by decide) inX3 (by decide) q_61 (Or.inl hd0) hs0 (zl_ref _ _) dX3_restart_4 ?_
      refine r_alen C (pc := 7) (x := nI 4) (Or.inl hd2) hs2 (by decide) rfl rfl dX3_restart_7 ?_
      refine n_icmp_ge C (pc := 8) (tgt := 32) (by omega) (by omega) dX3_restart_8 (by decide) (fun c_8 => ?_) (fun c_8 => ?_)
      · refine r_aload_n C (pc := 32) rfl rfl dX3_restart_32 ?_
        refine r_iload_n C (pc := 33) rfl rfl dX3_restart_33 ?_
        refine r_put C (pc := 34) (ci := 3) (k := 3) rfl (by decide) inX3 tyX3_ok nmX3 (by decide) rfl pfI rfl q_65 hd0 hs0 dX3_restart_34 ?_
        refine VV.gn (fun w34 ew34 => ?_)
        refine r_aload_n C (pc := 37) rfl rfl dX3_restart_37 ?_
        refine r_iload_n C (pc := 38) rfl rfl dX3_restart_38 ?_
        refine r_put C (pc := 39) (ci := 3) (k := 4) rfl (by decide) inX3 tyX3_ok nmX3 (by decide) rfl pfI rfl q_68 hd0 hs0 dX3_restart_39 ?_
        refine VV.gn (fun w39 ew39 => ?_)
        refine r_aload_n C (pc := 42) rfl rfl dX3_restart_42 ?_
        refine r_callV C (pc := 43) (st := []) (m_X3_giveFirstValues l G sh w39 N hp) kyX3_giveFirstValues q_55 rfl (Or.inl hd0) hs0 (by decide) rfl rfl rfl (Nat.le_of_ble_eq_true rfl) ⟨Nat.le_of_ble_eq_true rfl, Nat.le_of_ble_eq_true rfl⟩ ⟨Nat.le_of_ble_eq_true rfl, Nat.le_of_ble_eq_true rfl⟩ dX3_restart_43 (fun r43 v43 hp43 => ?_)
        obtain ⟨rfl, g1, g2⟩ := hp43
        refine VV.eq (st2 := []) rfl ?_
        exact r_vret C (pc := 46) rfl dX3_restart_46 ⟨rfl, rfl, rfl, ⟨by rw [g2 u (by omega), ew39, z2_ne (by omega), ew34, z2_self]; rfl, by rw [g2 u (by omega), ew39, z2_self]; rfl, by rw [g2 u (by omega), ew39, z2_ne (by omega), ew34, z2_ne (by omega), e2 u (by omega)]; exact h3, by rw [g2 u (by omega), ew39, z2_ne (by omega), ew34, z2_ne (by omega), e2 u (by omega)]; exact h4, by rw [g2 u (by omega), ew39, z2_ne (by omega), ew34, z2_ne (by omega), e2 u (by omega)]; exact h5, by rw [g2 u (by omega), ew39, z2_ne (by omega), ew34, z2_ne (by omega), e2 u (by omega)]; exact h6, (fun b hb => by rw [g1 b hb, layc_v hb]), (fun j hj hj4 => by
          rw [g2 (u + 2) (by omega), ew39, z2_addr (by omega), ew34, z2_addr (by omega), e1 j hj4, layc_l hj4]
          have hjR : j ≤ R := hj
          by_cases hc : c 1 < j
          · rw [if_pos ⟨by omega, hc⟩, if_neg (by omega)]
          · rw [if_neg (by omega), if_pos ⟨by omega, hjR⟩]; exact hll j (by omega) hj4), (fun d hd => by rw [g2 (u + 3) (by omega), ew39, z2_addr (by omega), ew34, z2_addr (by omega), e2 (u + 3) (by omega), layc_w hd]; exact hww d hd)⟩, (fun b hb => by rw [g2 b (by omega), ew39, z2_addr (by omega), ew34, z2_addr (by omega), e2 b (by omega)])⟩
      · refine r_iload_n C (pc := 11) rfl rfl dX3_restart_11 ?_
        refine r_aload_n C (pc := 12) rfl rfl dX3_restart_12 ?_
        refine r_get C (pc := 13) (ci := 3) (k := 4) (w := .int (nI (c 1))) rfl (by decide) inX3 (by decide) q_68 (Or.inl hd0) hs0 (zl_i (by rw [e2 u (by omega)]; exact h1)) dX3_restart_13 ?_
        refine n_icmp_le C (pc := 16) (tgt := 26) (by omega) (by omega) dX3_restart_16 (by decide) (fun c_16 => ?_) (fun c_16 => ?_)
        · refine r_iinc C (pc := 26) (lv2 := [some (.ref u), some (.int (nI K)), some (.int (nI R)), some (.int (nI (i + 1)))]) (y := (nI (i + 1))) rfl (nI_inc _ _) (Nat.le_of_ble_eq_true rfl) rfl rfl dX3_restart_26 ?_
          refine r_goto C (pc := 29) (tgt := 2) dX3_restart_29 (by decide) ?_
          exact ih (i + 1) v' (by omega) (by omega) (fun j hj => by
            rw [e1 j hj]
            by_cases hc : j < i ∧ c 1 < j
            · rw [if_pos hc, if_pos ⟨by omega, hc.2⟩]
            · rw [if_neg hc, if_neg (by omega)]) e2
        · refine r_aload_n C (pc := 19) rfl rfl dX3_restart_19 ?_
          refine r_get C (pc := 20) (ci := 3) (k := 1) (w := .ref (u + 2)) rfl (by decide) inX3 (by decide) q_61 (Or.inl hd0) hs0 (zl_ref _ _) dX3_restart_20 ?_
          refine r_iload_n C (pc := 23) rfl rfl dX3_restart_23 ?_
          refine r_iconst C (pc := 24) (x := (nI 0)) (by decide) dX3_restart_24 ?_
          refine r_iast C (pc := 25) hd2 hs2 (by omega) (by omega) dX3_restart_25 ?_
          refine VV.gn (fun w25 ew25 => ?_)
          refine r_iinc C (pc := 26) (lv2 := [some (.ref u), some (.int (nI K)), some (.int (nI R)), some (.int (nI (i + 1)))]) (y := (nI (i + 1))) rfl (nI_inc _ _) (Nat.le_of_ble_eq_true rfl) rfl rfl dX3_restart_26 ?_
          refine r_goto C (pc := 29) (tgt := 2) dX3_restart_29 (by decide) ?_
          exact ih (i + 1) w25 (by omega) (by omega) (fun j hj => by
            rw [ew25]
            by_cases hji : j = i
            · subst hji; rw [z2_self, if_pos ⟨by omega, c_16⟩]
            · rw [z2_ne (by omega), e1 j hj]
              by_cases hc : j < i ∧ c 1 < j
              · rw [if_pos hc, if_pos ⟨by omega, hc.2⟩]
              · rw [if_neg hc, if_neg (by omega)]) (fun b hb => by rw [ew25, z2_addr hb]; exact e2 b hb)
  refine r_iconst C (pc := 0) (x := (nI 0)) (by decide) dX3_restart_0 ?_
  refine r_istore_n C (pc := 1) (lv2 := [some (.ref u), some (.int (nI K)), some (.int (nI R)), some (.int (nI 0))]) rfl (Nat.le_of_ble_eq_true rfl) rfl rfl dX3_restart_1 ?_
  exact loop 5 0 v (by omega) (by omega) (fun j hj => by rw [if_neg (by omega)]) (fun b hb => rfl)
set_option maxRecDepth 100000 in
set_option maxHeartbeats 4000000 in
theorem m_X3_changePolicy (l : Launch) (G : zG) (sh : zH) (v : zV) (N : Nat) {u : Nat} {c : Nat → Nat} {x : Nat} (hp : zSE G sh N u) (hv : zse v u c) (hk : sOK c) : zm l G yX3_changePolicy cX3_changePolicy 3 (some .int) 0 [.ref u, .int (nI x)] sh v N (fun r v1 => r = some (.int (nI (c 4))) ∧ zse v1 u (upc c 4 x) ∧ zfr v v1 u 4) := by
  refine zM.of (by decide) rfl (Nat.le_of_ble_eq_true rfl) ?_
  intro p e s m args below meth co C
  obtain ⟨hB, hN, hs0, hs1, hs2, hs3⟩ := id hp
  obtain ⟨h0, h1, h3, h4, h5, h6, hvv, hll, hww⟩ := id hv
  obtain ⟨k0, k1, k2, k3, k4, k5, k6, k7, k8, k9, k10⟩ := id hk
  have hd0 : G.2.2.1 ≤ u ∧ u < N := ⟨hB, by omega⟩
  have hd1 : G.2.2.1 ≤ u + 1 ∧ u + 1 < N := ⟨by omega, by omega⟩
  have hd2 : G.2.2.1 ≤ u + 2 ∧ u + 2 < N := ⟨by omega, by omega⟩
  have hd3 : G.2.2.1 ≤ u + 3 ∧ u + 3 < N := ⟨by omega, hN⟩
  refine r_aload_n C (pc := 0) rfl rfl dX3_changePolicy_0 ?_
  refine r_get C (pc := 1) (ci := 3) (k := 6) (w := .int (nI (c 4))) rfl (by decide) inX3 (by decide) q_74 (Or.inl hd0) hs0 (zl_i (h4)) dX3_changePolicy_1 ?_
  refine r_istore_n C (pc := 4) (lv2 := [some (.ref u), some (.int (nI x)), some (.int (nI (c 4)))]) rfl (Nat.le_of_ble_eq_true rfl) rfl rfl dX3_changePolicy_4 ?_
  refine r_aload_n C (pc := 5) rfl rfl dX3_changePolicy_5 ?_
  refine r_iload_n C (pc := 6) rfl rfl dX3_changePolicy_6 ?_
  refine r_put C (pc := 7) (ci := 3) (k := 6) rfl (by decide) inX3 tyX3_ok nmX3 (by decide) rfl pfI rfl q_74 hd0 hs0 dX3_changePolicy_7 ?_
  refine VV.gn (fun w7 ew7 => ?_)
  refine r_iload_n C (pc := 10) rfl rfl dX3_changePolicy_10 ?_
  exact r_iret C (pc := 11) rfl (rfl) dX3_changePolicy_11 ⟨rfl, rfl, rfl, ⟨by rw [ew7, z2_ne (by omega), upc_n (by omega)]; exact h0, by rw [ew7, z2_ne (by omega), upc_n (by omega)]; exact h1, by rw [ew7, z2_ne (by omega), upc_n (by omega)]; exact h3, by rw [ew7, z2_self, upc_s], by rw [ew7, z2_ne (by omega), upc_n (by omega)]; exact h5, by rw [ew7, z2_ne (by omega), upc_n (by omega)]; exact h6, fun b hb => by rw [ew7, z2_addr (by omega), upc_n (by omega)]; exact hvv b hb, fun i hi hi4 => by rw [upc_n (by omega)] at hi; rw [ew7, z2_addr (by omega), upc_n (by omega)]; exact hll i hi hi4, fun d hd => by rw [ew7, z2_addr (by omega), upc_n (by omega)]; exact hww d hd⟩, by rw [ew7]; exact zfr.rf.z2 (by omega) (by omega)⟩
set_option maxRecDepth 100000 in
set_option maxHeartbeats 4000000 in
theorem m_X3_changeStyle (l : Launch) (G : zG) (sh : zH) (v : zV) (N : Nat) {u : Nat} {c : Nat → Nat} {x : Nat} (hp : zSE G sh N u) (hv : zse v u c) (hk : sOK c) : zm l G yX3_changeStyle cX3_changeStyle 3 (some .int) 0 [.ref u, .int (nI x)] sh v N (fun r v1 => r = some (.int (nI (c 5))) ∧ zse v1 u (upc c 5 x) ∧ zfr v v1 u 4) := by
  refine zM.of (by decide) rfl (Nat.le_of_ble_eq_true rfl) ?_
  intro p e s m args below meth co C
  obtain ⟨hB, hN, hs0, hs1, hs2, hs3⟩ := id hp
  obtain ⟨h0, h1, h3, h4, h5, h6, hvv, hll, hww⟩ := id hv
  obtain ⟨k0, k1, k2, k3, k4, k5, k6, k7, k8, k9, k10⟩ := id hk
  have hd0 : G.2.2.1 ≤ u ∧ u < N := ⟨hB, by omega⟩
  have hd1 : G.2.2.1 ≤ u + 1 ∧ u + 1 < N := ⟨by omega, by omega⟩
  have hd2 : G.2.2.1 ≤ u + 2 ∧ u + 2 < N := ⟨by omega, by omega⟩
  have hd3 : G.2.2.1 ≤ u + 3 ∧ u + 3 < N := ⟨by omega, hN⟩
  refine r_aload_n C (pc := 0) rfl rfl dX3_changeStyle_0 ?_
  refine r_get C (pc := 1) (ci := 3) (k := 7) (w := .int (nI (c 5))) rfl (by decide) inX3 (by decide) q_77 (Or.inl hd0) hs0 (zl_i (h5)) dX3_changeStyle_1 ?_
  refine r_istore_n C (pc := 4) (lv2 := [some (.ref u), some (.int (nI x)), some (.int (nI (c 5)))]) rfl (Nat.le_of_ble_eq_true rfl) rfl rfl dX3_changeStyle_4 ?_
  refine r_aload_n C (pc := 5) rfl rfl dX3_changeStyle_5 ?_
  refine r_iload_n C (pc := 6) rfl rfl dX3_changeStyle_6 ?_
  refine r_put C (pc := 7) (ci := 3) (k := 7) rfl (by decide) inX3 tyX3_ok nmX3 (by decide) rfl pfI rfl q_77 hd0 hs0 dX3_changeStyle_7 ?_
  refine VV.gn (fun w7 ew7 => ?_)
  refine r_iload_n C (pc := 10) rfl rfl dX3_changeStyle_10 ?_
  exact r_iret C (pc := 11) rfl (rfl) dX3_changeStyle_11 ⟨rfl, rfl, rfl, ⟨by rw [ew7, z2_ne (by omega), upc_n (by omega)]; exact h0, by rw [ew7, z2_ne (by omega), upc_n (by omega)]; exact h1, by rw [ew7, z2_ne (by omega), upc_n (by omega)]; exact h3, by rw [ew7, z2_ne (by omega), upc_n (by omega)]; exact h4, by rw [ew7, z2_self, upc_s], by rw [ew7, z2_ne (by omega), upc_n (by omega)]; exact h6, fun b hb => by rw [ew7, z2_addr (by omega), upc_n (by omega)]; exact hvv b hb, fun i hi hi4 => by rw [upc_n (by omega)] at hi; rw [ew7, z2_addr (by omega), upc_n (by omega)]; exact hll i hi hi4, fun d hd => by rw [ew7, z2_addr (by omega), upc_n (by omega)]; exact hww d hd⟩, by rw [ew7]; exact zfr.rf.z2 (by omega) (by omega)⟩
set_option maxRecDepth 100000 in
set_option maxHeartbeats 4000000 in
theorem m_X3_changeSeed (l : Launch) (G : zG) (sh : zH) (v : zV) (N : Nat) {u : Nat} {c : Nat → Nat} {x : Nat} (hp : zSE G sh N u) (hv : zse v u c) (hk : sOK c) : zm l G yX3_changeSeed cX3_changeSeed 3 (some .int) 0 [.ref u, .int (nI x)] sh v N (fun r v1 => r = some (.int (nI (c 6))) ∧ zse v1 u (upc c 6 x) ∧ zfr v v1 u 4) := by
  refine zM.of (by decide) rfl (Nat.le_of_ble_eq_true rfl) ?_
  intro p e s m args below meth co C
  obtain ⟨hB, hN, hs0, hs1, hs2, hs3⟩ := id hp
  obtain ⟨h0, h1, h3, h4, h5, h6, hvv, hll, hww⟩ := id hv
  obtain ⟨k0, k1, k2, k3, k4, k5, k6, k7, k8, k9, k10⟩ := id hk
  have hd0 : G.2.2.1 ≤ u ∧ u < N := ⟨hB, by omega⟩
  have hd1 : G.2.2.1 ≤ u + 1 ∧ u + 1 < N := ⟨by omega, by omega⟩
  have hd2 : G.2.2.1 ≤ u + 2 ∧ u + 2 < N := ⟨by omega, by omega⟩
  have hd3 : G.2.2.1 ≤ u + 3 ∧ u + 3 < N := ⟨by omega, hN⟩
  refine r_aload_n C (pc := 0) rfl rfl dX3_changeSeed_0 ?_
  refine r_get C (pc := 1) (ci := 3) (k := 8) (w := .int (nI (c 6))) rfl (by decide) inX3 (by decide) q_80 (Or.inl hd0) hs0 (zl_i (h6)) dX3_changeSeed_1 ?_
  refine r_istore_n C (pc := 4) (lv2 := [some (.ref u), some (.int (nI x)), some (.int (nI (c 6)))]) rfl (Nat.le_of_ble_eq_true rfl) rfl rfl dX3_changeSeed_4 ?_
  refine r_aload_n C (pc := 5) rfl rfl dX3_changeSeed_5 ?_
  refine r_iload_n C (pc := 6) rfl rfl dX3_changeSeed_6 ?_
  refine r_put C (pc := 7) (ci := 3) (k := 8) rfl (by decide) inX3 tyX3_ok nmX3 (by decide) rfl pfI rfl q_80 hd0 hs0 dX3_changeSeed_7 ?_
  refine VV.gn (fun w7 ew7 => ?_)
  refine r_iload_n C (pc := 10) rfl rfl dX3_changeSeed_10 ?_
  exact r_iret C (pc := 11) rfl (rfl) dX3_changeSeed_11 ⟨rfl, rfl, rfl, ⟨by rw [ew7, z2_ne (by omega), upc_n (by omega)]; exact h0, by rw [ew7, z2_ne (by omega), upc_n (by omega)]; exact h1, by rw [ew7, z2_ne (by omega), upc_n (by omega)]; exact h3, by rw [ew7, z2_ne (by omega), upc_n (by omega)]; exact h4, by rw [ew7, z2_ne (by omega), upc_n (by omega)]; exact h5, by rw [ew7, z2_self, upc_s], fun b hb => by rw [ew7, z2_addr (by omega), upc_n (by omega)]; exact hvv b hb, fun i hi hi4 => by rw [upc_n (by omega)] at hi; rw [ew7, z2_addr (by omega), upc_n (by omega)]; exact hll i hi hi4, fun d hd => by rw [ew7, z2_addr (by omega), upc_n (by omega)]; exact hww d hd⟩, by rw [ew7]; exact zfr.rf.z2 (by omega) (by omega)⟩
set_option maxRecDepth 100000 in
set_option maxHeartbeats 4000000 in
theorem m_X3_copyFrom (l : Launch) (G : zG) (sh : zH) (v : zV) (N : Nat) {u : Nat} {c : Nat → Nat} {o : Nat} (hp : zSE G sh N u) (hpo : zSE G sh N o) (hv : zse v o c) (hno : o + 4 ≤ u ∨ u + 4 ≤ o) : zm l G yX3_copyFrom cX3_copyFrom 2 none 2 [.ref u, .ref o] sh v N (fun r v1 => r = none ∧ zse v1 u c ∧ zfr v v1 u 4) := by
  refine zM.of (by decide) rfl (Nat.le_of_ble_eq_true rfl) ?_
  intro p e s m args below meth co C
  obtain ⟨hB, hN, hs0, hs1, hs2, hs3⟩ := id hp
  obtain ⟨h0, h1, h3, h4, h5, h6, hvv, hll, hww⟩ := id hv
  have hd0 : G.2.2.1 ≤ u ∧ u < N := ⟨hB, by omega⟩
  have hd1 : G.2.2.1 ≤ u + 1 ∧ u + 1 < N := ⟨by omega, by omega⟩
  have hd2 : G.2.2.1 ≤ u + 2 ∧ u + 2 < N := ⟨by omega, by omega⟩
  have hd3 : G.2.2.1 ≤ u + 3 ∧ u + 3 < N := ⟨by omega, hN⟩
  obtain ⟨gB, gN, ho0, ho1, ho2, ho3⟩ := id hpo
  have gd0 : G.2.2.1 ≤ o ∧ o < N := ⟨gB, by omega⟩
  have gd1 : G.2.2.1 ≤ o + 1 ∧ o + 1 < N := ⟨by omega, by omega⟩
  have gd2 : G.2.2.1 ≤ o + 2 ∧ o + 2 < N := ⟨by omega, by omega⟩
  have gd3 : G.2.2.1 ≤ o + 3 ∧ o + 3 < N := ⟨by omega, gN⟩
  refine r_aload_n C (pc := 0) rfl rfl dX3_copyFrom_0 ?_
  refine r_get C (pc := 1) (ci := 3) (k := 0) (w := .ref (o + 1)) rfl (by decide) inX3 (by decide) q_59 (Or.inl gd0) ho0 (zl_ref _ _) dX3_copyFrom_1 ?_
  refine r_aload_n C (pc := 4) rfl rfl dX3_copyFrom_4 ?_
  refine r_get C (pc := 5) (ci := 3) (k := 0) (w := .ref (u + 1)) rfl (by decide) inX3 (by decide) q_59 (Or.inl hd0) hs0 (zl_ref _ _) dX3_copyFrom_5 ?_
  refine r_callSN C (pc := 8) (st := []) (m_X6_copyRow l G sh v N (a0 := o + 1) (a := u + 1) (n := 12) (by omega) (by omega) (Or.inl gd1) ho1 hd1 hs1) kyX6_copyRow q_46 rfl rfl (Nat.le_of_ble_eq_true rfl) ⟨Nat.le_of_ble_eq_true rfl, Nat.le_of_ble_eq_true rfl⟩ ⟨Nat.le_of_ble_eq_true rfl, Nat.le_of_ble_eq_true rfl⟩ dX3_copyFrom_8 (fun r8 v8 hp8 => ?_)
  obtain ⟨rfl, hz8⟩ := hp8
  refine VV.eq (st2 := []) rfl ?_
  refine r_aload_n C (pc := 11) rfl rfl dX3_copyFrom_11 ?_
  refine r_get C (pc := 12) (ci := 3) (k := 1) (w := .ref (o + 2)) rfl (by decide) inX3 (by decide) q_61 (Or.inl gd0) ho0 (zl_ref _ _) dX3_copyFrom_12 ?_
  refine r_aload_n C (pc := 15) rfl rfl dX3_copyFrom_15 ?_
  refine r_get C (pc := 16) (ci := 3) (k := 1) (w := .ref (u + 2)) rfl (by decide) inX3 (by decide) q_61 (Or.inl hd0) hs0 (zl_ref _ _) dX3_copyFrom_16 ?_
  refine r_callSN C (pc := 19) (st := []) (m_X6_copyRow l G sh v8 N (a0 := o + 2) (a := u + 2) (n := 4) (by omega) (by omega) (Or.inl gd2) ho2 hd2 hs2) kyX6_copyRow q_46 rfl rfl (Nat.le_of_ble_eq_true rfl) ⟨Nat.le_of_ble_eq_true rfl, Nat.le_of_ble_eq_true rfl⟩ ⟨Nat.le_of_ble_eq_true rfl, Nat.le_of_ble_eq_true rfl⟩ dX3_copyFrom_19 (fun r19 v19 hp19 => ?_)
  obtain ⟨rfl, hz19⟩ := hp19
  refine VV.eq (st2 := []) rfl ?_
  refine r_aload_n C (pc := 22) rfl rfl dX3_copyFrom_22 ?_
  refine r_get C (pc := 23) (ci := 3) (k := 2) (w := .ref (o + 3)) rfl (by decide) inX3 (by decide) q_63 (Or.inl gd0) ho0 (zl_ref _ _) dX3_copyFrom_23 ?_
  refine r_aload_n C (pc := 26) rfl rfl dX3_copyFrom_26 ?_
  refine r_get C (pc := 27) (ci := 3) (k := 2) (w := .ref (u + 3)) rfl (by decide) inX3 (by decide) q_63 (Or.inl hd0) hs0 (zl_ref _ _) dX3_copyFrom_27 ?_
  refine r_callSN C (pc := 30) (st := []) (m_X6_copyRow l G sh v19 N (a0 := o + 3) (a := u + 3) (n := 7) (by omega) (by omega) (Or.inl gd3) ho3 hd3 hs3) kyX6_copyRow q_46 rfl rfl (Nat.le_of_ble_eq_true rfl) ⟨Nat.le_of_ble_eq_true rfl, Nat.le_of_ble_eq_true rfl⟩ ⟨Nat.le_of_ble_eq_true rfl, Nat.le_of_ble_eq_true rfl⟩ dX3_copyFrom_30 (fun r30 v30 hp30 => ?_)
  obtain ⟨rfl, hz30⟩ := hp30
  refine VV.eq (st2 := []) rfl ?_
  refine r_aload_n C (pc := 33) rfl rfl dX3_copyFrom_33 ?_
  refine r_aload_n C (pc := 34) rfl rfl dX3_copyFrom_34 ?_
  refine r_get C (pc := 35) (ci := 3) (k := 3) (w := .int (nI (c 0))) rfl (by decide) inX3 (by decide) q_65 (Or.inl gd0) ho0 (zl_i (by rw [hz30, zcp_ne (by omega), hz19, zcp_ne (by omega), hz8, zcp_ne (by omega)]; exact h0)) dX3_copyFrom_35 ?_
  refine r_put C (pc := 38) (ci := 3) (k := 3) rfl (by decide) inX3 tyX3_ok nmX3 (by decide) rfl pfI rfl q_65 hd0 hs0 dX3_copyFrom_38 ?_
  refine VV.gn (fun w38 ew38 => ?_)
  refine r_aload_n C (pc := 41) rfl rfl dX3_copyFrom_41 ?_
  refine r_aload_n C (pc := 42) rfl rfl dX3_copyFrom_42 ?_
  refine r_get C (pc := 43) (ci := 3) (k := 4) (w := .int (nI (c 1))) rfl (by decide) inX3 (by decide) q_68 (Or.inl gd0) ho0 (zl_i (by rw [ew38, z2_addr (by omega), hz30, zcp_ne (by omega), hz19, zcp_ne (by omega), hz8, zcp_ne (by omega)]; exact h1)) dX3_copyFrom_43 ?_
  refine r_put C (pc := 46) (ci := 3) (k := 4) rfl (by decide) inX3 tyX3_ok nmX3 (by decide) rfl pfI rfl q_68 hd0 hs0 dX3_copyFrom_46 ?_
  refine VV.gn (fun w46 ew46 => ?_)
  refine r_aload_n C (pc := 49) rfl rfl dX3_copyFrom_49 ?_
  refine r_aload_n C (pc := 50) rfl rfl dX3_copyFrom_50 ?_
  refine r_get C (pc := 51) (ci := 3) (k := 5) (w := .int (nI (c 3))) rfl (by decide) inX3 (by decide) q_71 (Or.inl gd0) ho0 (zl_i (by rw [ew46, z2_addr (by omega), ew38, z2_addr (by omega), hz30, zcp_ne (by omega), hz19, zcp_ne (by omega), hz8, zcp_ne (by omega)]; exact h3)) dX3_copyFrom_51 ?_
  refine r_put C (pc := 54) (ci := 3) (k := 5) rfl (by decide) inX3 tyX3_ok nmX3 (by decide) rfl pfI rfl q_71 hd0 hs0 dX3_copyFrom_54 ?_
  refine VV.gn (fun w54 ew54 => ?_)
  refine r_aload_n C (pc := 57) rfl rfl dX3_copyFrom_57 ?_
  refine r_aload_n C (pc := 58) rfl rfl dX3_copyFrom_58 ?_
  refine r_get C (pc := 59) (ci := 3) (k := 6) (w := .int (nI (c 4))) rfl (by decide) inX3 (by decide) q_74 (Or.inl gd0) ho0 (zl_i (by rw [ew54, z2_addr (by omega), ew46, z2_addr (by omega), ew38, z2_addr (by omega), hz30, zcp_ne (by omega), hz19, zcp_ne (by omega), hz8, zcp_ne (by omega)]; exact h4)) dX3_copyFrom_59 ?_
  refine r_put C (pc := 62) (ci := 3) (k := 6) rfl (by decide) inX3 tyX3_ok nmX3 (by decide) rfl pfI rfl q_74 hd0 hs0 dX3_copyFrom_62 ?_
  refine VV.gn (fun w62 ew62 => ?_)
  refine r_aload_n C (pc := 65) rfl rfl dX3_copyFrom_65 ?_
  refine r_aload_n C (pc := 66) rfl rfl dX3_copyFrom_66 ?_
  refine r_get C (pc := 67) (ci := 3) (k := 7) (w := .int (nI (c 5))) rfl (by decide) inX3 (by decide) q_77 (Or.inl gd0) ho0 (zl_i (by rw [ew62, z2_addr (by omega), ew54, z2_addr (by omega), ew46, z2_addr (by omega), ew38, z2_addr (by omega), hz30, zcp_ne (by omega), hz19, zcp_ne (by omega), hz8, zcp_ne (by omega)]; exact h5)) dX3_copyFrom_67 ?_
  refine r_put C (pc := 70) (ci := 3) (k := 7) rfl (by decide) inX3 tyX3_ok nmX3 (by decide) rfl pfI rfl q_77 hd0 hs0 dX3_copyFrom_70 ?_
  refine VV.gn (fun w70 ew70 => ?_)
  refine r_aload_n C (pc := 73) rfl rfl dX3_copyFrom_73 ?_
  refine r_aload_n C (pc := 74) rfl rfl dX3_copyFrom_74 ?_
  refine r_get C (pc := 75) (ci := 3) (k := 8) (w := .int (nI (c 6))) rfl (by decide) inX3 (by decide) q_80 (Or.inl gd0) ho0 (zl_i (by rw [ew70, z2_addr (by omega), ew62, z2_addr (by omega), ew54, z2_addr (by omega), ew46, z2_addr (by omega), ew38, z2_addr (by omega), hz30, zcp_ne (by omega), hz19, zcp_ne (by omega), hz8, zcp_ne (by omega)]; exact h6)) dX3_copyFrom_75 ?_
  refine r_put C (pc := 78) (ci := 3) (k := 8) rfl (by decide) inX3 tyX3_ok nmX3 (by decide) rfl pfI rfl q_80 hd0 hs0 dX3_copyFrom_78 ?_
  refine VV.gn (fun w78 ew78 => ?_)
  exact r_vret C (pc := 81) rfl dX3_copyFrom_81 ⟨rfl, rfl, rfl, ⟨by rw [ew78, z2_ne (by omega), ew70, z2_ne (by omega), ew62, z2_ne (by omega), ew54, z2_ne (by omega), ew46, z2_ne (by omega), ew38, z2_self], by rw [ew78, z2_ne (by omega), ew70, z2_ne (by omega), ew62, z2_ne (by omega), ew54, z2_ne (by omega), ew46, z2_self], by rw [ew78, z2_ne (by omega), ew70, z2_ne (by omega), ew62, z2_ne (by omega), ew54, z2_self], by rw [ew78, z2_ne (by omega), ew70, z2_ne (by omega), ew62, z2_self], by rw [ew78, z2_ne (by omega), ew70, z2_self], by rw [ew78, z2_self], fun b hb => by rw [ew78, z2_addr (by omega), ew70, z2_addr (by omega), ew62, z2_addr (by omega), ew54, z2_addr (by omega), ew46, z2_addr (by omega), ew38, z2_addr (by omega), hz30, zcp_ne (by omega), hz19, zcp_ne (by omega), hz8, zcp_at hb]; exact hvv b hb, fun i hi hi4 => by rw [ew78, z2_addr (by omega), ew70, z2_addr (by omega), ew62, z2_addr (by omega), ew54, z2_addr (by omega), ew46, z2_addr (by omega), ew38, z2_addr (by omega), hz30, zcp_ne (by omega), hz19, zcp_at hi4, hz8, zcp_ne (by omega)]; exact hll i hi hi4, fun d hd => by rw [ew78, z2_addr (by omega), ew70, z2_addr (by omega), ew62, z2_addr (by omega), ew54, z2_addr (by omega), ew46, z2_addr (by omega), ew38, z2_addr (by omega), hz30, zcp_at (by omega), hz19, zcp_ne (by omega), hz8, zcp_ne (by omega)]; exact hww d hd⟩, fun b hb => by rw [ew78, z2_addr (by omega), ew70, z2_addr (by omega), ew62, z2_addr (by omega), ew54, z2_addr (by omega), ew46, z2_addr (by omega), ew38, z2_addr (by omega), hz30, zcp_ne (by omega), hz19, zcp_ne (by omega), hz8, zcp_ne (by omega)]⟩
