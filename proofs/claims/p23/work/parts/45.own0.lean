def sok (a b : Int32) : Bool := decide ((a = nI 0 ∧ (nI 1 ≤ b ∧ b ≤ nI 4)) ∨ (a = nI 1 ∧ (nI 0 ≤ b ∧ b ≤ nI 3)) ∨ (a = nI 2 ∧ (nI 0 ≤ b ∧ b ≤ nI 1)) ∨ (a = nI 3 ∧ nI 0 ≤ b))
def npI (ps : List Nat) (b c1 : Int32) : Int32 := if nI 0 ≤ b ∧ (nI 0 ≤ c1 ∧ c1 ≤ nI 2) then ptI ps (nn b) (nn c1) else -1
theorem dec_t {p q : Prop} [Decidable p] [Decidable q] (h : p ↔ q) : decide p = decide q := by
  by_cases hp : p
  · rw [decide_eq_true hp, decide_eq_true (h.mp hp)]
  · rw [decide_eq_false hp, decide_eq_false (fun z => hp (h.mpr z))]
def fI (x : Nat) (q : Nat → Nat) (i : Nat) : Nat → Nat := fun j => if j + 1 < i then hpt x q (j + 1) else hpt x q j
theorem fI_1 (x : Nat) (q : Nat → Nat) : fI x q 1 = hpt x q := by
  funext j
  exact if_neg (by omega)
theorem fI_s {x i : Nat} {q : Nat → Nat} (h : 1 ≤ i) : upn (fI x q i) (i - 1) (hpt x q i) = fI x q (i + 1) := by
  funext j
  unfold upn fI
  by_cases hj : j = i - 1
  · rw [if_pos hj, if_pos (by omega), hj, show i - 1 + 1 = i by omega]
  · rw [if_neg hj]
    by_cases h2 : j + 1 < i
    · rw [if_pos h2, if_pos (by omega)]
    · rw [if_neg h2, if_neg (by omega)]
theorem fI_8 (x : Nat) (q : Nat → Nat) : upn (fI x q 8) 7 (hpt x q 0) = hpt x (rot q) := by
  funext j
  unfold upn fI hpt rot
  by_cases h7 : j = 7
  · subst h7; rw [if_pos rfl, if_neg (by omega), if_pos rfl]
  · rw [if_neg h7]
    by_cases h2 : j + 1 < 8
    · rw [if_pos h2, if_pos (by omega)]
    · rw [if_neg h2, if_neg (by omega), if_neg h7]
set_option maxRecDepth 100000 in
set_option maxHeartbeats 4000000 in
theorem m_X6_isBlock (l : Launch) (G : zG) (sh : zH) (v : zV) (N : Nat) {x : Nat} {q : Nat → Nat} {M : zMS} {a : Int32} (hX : zXR G sh N x q) (hv : zt v (x + 1) M) (hK : 2 ≤ M.1 0) : zm l G yX6_isBlock cX6_isBlock 2 (some .boolean) 1 [.ref x, .int a] sh v N (fun r v1 => r = some (.int (zb (decide ((nI 0) ≤ a ∧ a ≤ (nI (M.1 0 - 1)))))) ∧ v1 = v) := by
  refine zM.of (by decide) rfl (Nat.le_of_ble_eq_true rfl) ?_
  intro p e s m args below meth c C
  obtain ⟨xB, xN, hs0, hs57, hs58, hs59, hnow, htri, hhis, himg, hpq⟩ := id hX
  have hd0 : G.2.2.1 ≤ x ∧ x < N := ⟨xB, by omega⟩
  have hd57 : G.2.2.1 ≤ x + 57 ∧ x + 57 < N := ⟨by omega, by omega⟩
  have hd58 : G.2.2.1 ≤ x + 58 ∧ x + 58 < N := ⟨by omega, by omega⟩
  have hd59 : G.2.2.1 ≤ x + 59 ∧ x + 59 < N := ⟨by omega, by omega⟩
  obtain ⟨ntB, ntN, hn0, ntse, hn5, ntrc, hn19, ntsp, ntst⟩ := id hnow
  have hnd0 : G.2.2.1 ≤ x + 1 ∧ x + 1 < N := ⟨by omega, by omega⟩
  have hnd1 : G.2.2.1 ≤ x + 1 + 1 ∧ x + 1 + 1 < N := ⟨by omega, by omega⟩
  have hnd5 : G.2.2.1 ≤ x + 1 + 5 ∧ x + 1 + 5 < N := ⟨by omega, by omega⟩
  have hnd6 : G.2.2.1 ≤ x + 1 + 6 ∧ x + 1 + 6 < N := ⟨by omega, by omega⟩
  have hnd19 : G.2.2.1 ≤ x + 1 + 19 ∧ x + 1 + 19 < N := ⟨by omega, by omega⟩
  have hnd20 : G.2.2.1 ≤ x + 1 + 20 ∧ x + 1 + 20 < N := ⟨by omega, by omega⟩
  have hnd61 : G.2.2.1 ≤ x + 1 + 6 + 1 ∧ x + 1 + 6 + 1 < N := ⟨by omega, by omega⟩
  have hnd65 : G.2.2.1 ≤ x + 1 + 6 + 5 ∧ x + 1 + 6 + 5 < N := ⟨by omega, by omega⟩
  have hnd610 : G.2.2.1 ≤ x + 1 + 6 + 10 ∧ x + 1 + 6 + 10 < N := ⟨by omega, by omega⟩
  have hnd68 : G.2.2.1 ≤ x + 1 + 6 + 8 ∧ x + 1 + 6 + 8 < N := ⟨by omega, by omega⟩
  have hn1 := ntse.2.2.1
  have hn6 := ntrc.2.2.1
  have hn20 := ntsp.2.2.1
  have hn61 := ntrc.2.2.2.1.2.2.2.1
  have hn65 := ntrc.2.2.2.2.2.1.2.2.1
  have hn68 := ntrc.2.2.2.2.2.2.1.2.2.2.1
  have hn610 := ntrc.2.2.2.2.2.2.2.2.2.1
  have hnd11 : G.2.2.1 ≤ x + 1 + 1 + 1 ∧ x + 1 + 1 + 1 < N := ⟨by omega, by omega⟩
  have hnd12 : G.2.2.1 ≤ x + 1 + 1 + 2 ∧ x + 1 + 1 + 2 < N := ⟨by omega, by omega⟩
  have hnd13 : G.2.2.1 ≤ x + 1 + 1 + 3 ∧ x + 1 + 1 + 3 < N := ⟨by omega, by omega⟩
  have hnd652 : G.2.2.1 ≤ x + 1 + 6 + 5 + 2 ∧ x + 1 + 6 + 5 + 2 < N := ⟨by omega, by omega⟩
  have hnd6102 : G.2.2.1 ≤ x + 1 + 6 + 10 + 2 ∧ x + 1 + 6 + 10 + 2 < N := ⟨by omega, by omega⟩
  have hn11 := ntse.2.2.2.1
  have hn12 := ntse.2.2.2.2.1
  have hn13 := ntse.2.2.2.2.2
  have hn652 := ntrc.2.2.2.2.2.1.2.2.2.2
  have hn6102 := ntrc.2.2.2.2.2.2.2.2.2.2.2
  obtain ⟨ltB, ltN, hl0, ltse, hl5, ltrc, hl19, ltsp, ltst⟩ := id htri
  have hld0 : G.2.2.1 ≤ x + 29 ∧ x + 29 < N := ⟨by omega, by omega⟩
  have hld1 : G.2.2.1 ≤ x + 29 + 1 ∧ x + 29 + 1 < N := ⟨by omega, by omega⟩
  have hld5 : G.2.2.1 ≤ x + 29 + 5 ∧ x + 29 + 5 < N := ⟨by omega, by omega⟩
  have hld6 : G.2.2.1 ≤ x + 29 + 6 ∧ x + 29 + 6 < N := ⟨by omega, by omega⟩
  have hld19 : G.2.2.1 ≤ x + 29 + 19 ∧ x + 29 + 19 < N := ⟨by omega, by omega⟩
  have hld20 : G.2.2.1 ≤ x + 29 + 20 ∧ x + 29 + 20 < N := ⟨by omega, by omega⟩
  have hld61 : G.2.2.1 ≤ x + 29 + 6 + 1 ∧ x + 29 + 6 + 1 < N := ⟨by omega, by omega⟩
  have hld65 : G.2.2.1 ≤ x + 29 + 6 + 5 ∧ x + 29 + 6 + 5 < N := ⟨by omega, by omega⟩
  have hld610 : G.2.2.1 ≤ x + 29 + 6 + 10 ∧ x + 29 + 6 + 10 < N := ⟨by omega, by omega⟩
  have hld68 : G.2.2.1 ≤ x + 29 + 6 + 8 ∧ x + 29 + 6 + 8 < N := ⟨by omega, by omega⟩
  have hl1 := ltse.2.2.1
  have hl6 := ltrc.2.2.1
  have hl20 := ltsp.2.2.1
  have hl61 := ltrc.2.2.2.1.2.2.2.1
  have hl65 := ltrc.2.2.2.2.2.1.2.2.1
  have hl68 := ltrc.2.2.2.2.2.2.1.2.2.2.1
  have hl610 := ltrc.2.2.2.2.2.2.2.2.2.1
  have hld11 : G.2.2.1 ≤ x + 29 + 1 + 1 ∧ x + 29 + 1 + 1 < N := ⟨by omega, by omega⟩
  have hld12 : G.2.2.1 ≤ x + 29 + 1 + 2 ∧ x + 29 + 1 + 2 < N := ⟨by omega, by omega⟩
  have hld13 : G.2.2.1 ≤ x + 29 + 1 + 3 ∧ x + 29 + 1 + 3 < N := ⟨by omega, by omega⟩
  have hld652 : G.2.2.1 ≤ x + 29 + 6 + 5 + 2 ∧ x + 29 + 6 + 5 + 2 < N := ⟨by omega, by omega⟩
  have hld6102 : G.2.2.1 ≤ x + 29 + 6 + 10 + 2 ∧ x + 29 + 6 + 10 + 2 < N := ⟨by omega, by omega⟩
  have hl11 := ltse.2.2.2.1
  have hl12 := ltse.2.2.2.2.1
  have hl13 := ltse.2.2.2.2.2
  have hl652 := ltrc.2.2.2.2.2.1.2.2.2.2
  have hl6102 := ltrc.2.2.2.2.2.2.2.2.2.2.2
  refine r_iload_n C (pc := 0) rfl rfl dX6_isBlock_0 ?_
  refine r_iconst C (pc := 1) (x := (nI 0)) (by decide) dX6_isBlock_1 ?_
  refine r_aload_n C (pc := 2) rfl rfl dX6_isBlock_2 ?_
  refine r_get C (pc := 3) (ci := 6) (k := 0) (w := .ref (x + 1)) rfl (by decide) inX6 (by decide) q_231 (Or.inl hd0) hs0 (zl_ref _ _) dX6_isBlock_3 ?_
  refine r_getN C (pc := 6) (ci := 5) (k := 0) (w := .ref (x + 1 + 1)) rfl (by decide) inX5 (by decide) q_201 (Or.inl hnd0) hn0 (zl_ref _ _) dX6_isBlock_6 ?_
  refine r_getN C (pc := 9) (ci := 3) (k := 3) (w := .int (nI (M.1 0))) rfl (by decide) inX3 (by decide) q_67 (Or.inl hnd1) hn1 (zl_i (hv.2.2.2.1.1)) dX6_isBlock_9 ?_
  refine r_iconst C (pc := 12) (x := (nI 1)) (by decide) dX6_isBlock_12 ?_
  refine r_isub C (pc := 13) (z := (nI (M.1 0 - 1))) (pk_sub (by omega)) dX6_isBlock_13 ?_
  refine r_callS C (pc := 14) (st := []) (m_X6_isWithin l G sh v N (x := a) (lo := (nI 0)) (hi := (nI (M.1 0 - 1)))) kyX6_isWithin q_270 rfl rfl (Nat.le_of_ble_eq_true rfl) ⟨Nat.le_of_ble_eq_true rfl, Nat.le_of_ble_eq_true rfl⟩ ⟨Nat.le_of_ble_eq_true rfl, Nat.le_of_ble_eq_true rfl⟩ dX6_isBlock_14 (fun r14 v14 hp14 => ?_)
  obtain ⟨rfl, ehp14⟩ := hp14
  refine VV.vq ehp14 ?_
  refine VV.eq (st2 := [.int (zb (decide ((nI 0) ≤ a ∧ a ≤ (nI (M.1 0 - 1)))))]) rfl ?_
  exact r_iret C (pc := 17) rfl (zb_nar _) dX6_isBlock_17 ⟨rfl, rfl, rfl, rfl⟩
set_option maxRecDepth 100000 in
set_option maxHeartbeats 4000000 in
theorem m_X6_isLink (l : Launch) (G : zG) (sh : zH) (v : zV) (N : Nat) {x : Nat} {q : Nat → Nat} {M : zMS} {a : Int32} (hX : zXR G sh N x q) (hv : zt v (x + 1) M) : zm l G yX6_isLink cX6_isLink 2 (some .boolean) 1 [.ref x, .int a] sh v N (fun r v1 => r = some (.int (zb (decide ((nI 0) ≤ a ∧ a ≤ (nI (M.1 1)))))) ∧ v1 = v) := by
  refine zM.of (by decide) rfl (Nat.le_of_ble_eq_true rfl) ?_
  intro p e s m args below meth c C
  obtain ⟨xB, xN, hs0, hs57, hs58, hs59, hnow, htri, hhis, himg, hpq⟩ := id hX
  have hd0 : G.2.2.1 ≤ x ∧ x < N := ⟨xB, by omega⟩
  have hd57 : G.2.2.1 ≤ x + 57 ∧ x + 57 < N := ⟨by omega, by omega⟩
  have hd58 : G.2.2.1 ≤ x + 58 ∧ x + 58 < N := ⟨by omega, by omega⟩
  have hd59 : G.2.2.1 ≤ x + 59 ∧ x + 59 < N := ⟨by omega, by omega⟩
  obtain ⟨ntB, ntN, hn0, ntse, hn5, ntrc, hn19, ntsp, ntst⟩ := id hnow
  have hnd0 : G.2.2.1 ≤ x + 1 ∧ x + 1 < N := ⟨by omega, by omega⟩
  have hnd1 : G.2.2.1 ≤ x + 1 + 1 ∧ x + 1 + 1 < N := ⟨by omega, by omega⟩
  have hnd5 : G.2.2.1 ≤ x + 1 + 5 ∧ x + 1 + 5 < N := ⟨by omega, by omega⟩
  have hnd6 : G.2.2.1 ≤ x + 1 + 6 ∧ x + 1 + 6 < N := ⟨by omega, by omega⟩
  have hnd19 : G.2.2.1 ≤ x + 1 + 19 ∧ x + 1 + 19 < N := ⟨by omega, by omega⟩
  have hnd20 : G.2.2.1 ≤ x + 1 + 20 ∧ x + 1 + 20 < N := ⟨by omega, by omega⟩
  have hnd61 : G.2.2.1 ≤ x + 1 + 6 + 1 ∧ x + 1 + 6 + 1 < N := ⟨by omega, by omega⟩
  have hnd65 : G.2.2.1 ≤ x + 1 + 6 + 5 ∧ x + 1 + 6 + 5 < N := ⟨by omega, by omega⟩
  have hnd610 : G.2.2.1 ≤ x + 1 + 6 + 10 ∧ x + 1 + 6 + 10 < N := ⟨by omega, by omega⟩
  have hnd68 : G.2.2.1 ≤ x + 1 + 6 + 8 ∧ x + 1 + 6 + 8 < N := ⟨by omega, by omega⟩
  have hn1 := ntse.2.2.1
  have hn6 := ntrc.2.2.1
  have hn20 := ntsp.2.2.1
  have hn61 := ntrc.2.2.2.1.2.2.2.1
  have hn65 := ntrc.2.2.2.2.2.1.2.2.1
  have hn68 := ntrc.2.2.2.2.2.2.1.2.2.2.1
  have hn610 := ntrc.2.2.2.2.2.2.2.2.2.1
  have hnd11 : G.2.2.1 ≤ x + 1 + 1 + 1 ∧ x + 1 + 1 + 1 < N := ⟨by omega, by omega⟩
  have hnd12 : G.2.2.1 ≤ x + 1 + 1 + 2 ∧ x + 1 + 1 + 2 < N := ⟨by omega, by omega⟩
  have hnd13 : G.2.2.1 ≤ x + 1 + 1 + 3 ∧ x + 1 + 1 + 3 < N := ⟨by omega, by omega⟩
  have hnd652 : G.2.2.1 ≤ x + 1 + 6 + 5 + 2 ∧ x + 1 + 6 + 5 + 2 < N := ⟨by omega, by omega⟩
  have hnd6102 : G.2.2.1 ≤ x + 1 + 6 + 10 + 2 ∧ x + 1 + 6 + 10 + 2 < N := ⟨by omega, by omega⟩
  have hn11 := ntse.2.2.2.1
  have hn12 := ntse.2.2.2.2.1
  have hn13 := ntse.2.2.2.2.2
  have hn652 := ntrc.2.2.2.2.2.1.2.2.2.2
  have hn6102 := ntrc.2.2.2.2.2.2.2.2.2.2.2
  obtain ⟨ltB, ltN, hl0, ltse, hl5, ltrc, hl19, ltsp, ltst⟩ := id htri
  have hld0 : G.2.2.1 ≤ x + 29 ∧ x + 29 < N := ⟨by omega, by omega⟩
  have hld1 : G.2.2.1 ≤ x + 29 + 1 ∧ x + 29 + 1 < N := ⟨by omega, by omega⟩
  have hld5 : G.2.2.1 ≤ x + 29 + 5 ∧ x + 29 + 5 < N := ⟨by omega, by omega⟩
  have hld6 : G.2.2.1 ≤ x + 29 + 6 ∧ x + 29 + 6 < N := ⟨by omega, by omega⟩
  have hld19 : G.2.2.1 ≤ x + 29 + 19 ∧ x + 29 + 19 < N := ⟨by omega, by omega⟩
  have hld20 : G.2.2.1 ≤ x + 29 + 20 ∧ x + 29 + 20 < N := ⟨by omega, by omega⟩
  have hld61 : G.2.2.1 ≤ x + 29 + 6 + 1 ∧ x + 29 + 6 + 1 < N := ⟨by omega, by omega⟩
  have hld65 : G.2.2.1 ≤ x + 29 + 6 + 5 ∧ x + 29 + 6 + 5 < N := ⟨by omega, by omega⟩
  have hld610 : G.2.2.1 ≤ x + 29 + 6 + 10 ∧ x + 29 + 6 + 10 < N := ⟨by omega, by omega⟩
  have hld68 : G.2.2.1 ≤ x + 29 + 6 + 8 ∧ x + 29 + 6 + 8 < N := ⟨by omega, by omega⟩
  have hl1 := ltse.2.2.1
  have hl6 := ltrc.2.2.1
  have hl20 := ltsp.2.2.1
  have hl61 := ltrc.2.2.2.1.2.2.2.1
  have hl65 := ltrc.2.2.2.2.2.1.2.2.1
  have hl68 := ltrc.2.2.2.2.2.2.1.2.2.2.1
  have hl610 := ltrc.2.2.2.2.2.2.2.2.2.1
  have hld11 : G.2.2.1 ≤ x + 29 + 1 + 1 ∧ x + 29 + 1 + 1 < N := ⟨by omega, by omega⟩
  have hld12 : G.2.2.1 ≤ x + 29 + 1 + 2 ∧ x + 29 + 1 + 2 < N := ⟨by omega, by omega⟩
  have hld13 : G.2.2.1 ≤ x + 29 + 1 + 3 ∧ x + 29 + 1 + 3 < N := ⟨by omega, by omega⟩
  have hld652 : G.2.2.1 ≤ x + 29 + 6 + 5 + 2 ∧ x + 29 + 6 + 5 + 2 < N := ⟨by omega, by omega⟩
  have hld6102 : G.2.2.1 ≤ x + 29 + 6 + 10 + 2 ∧ x + 29 + 6 + 10 + 2 < N := ⟨by omega, by omega⟩
  have hl11 := ltse.2.2.2.1
  have hl12 := ltse.2.2.2.2.1
  have hl13 := ltse.2.2.2.2.2
  have hl652 := ltrc.2.2.2.2.2.1.2.2.2.2
  have hl6102 := ltrc.2.2.2.2.2.2.2.2.2.2.2
  refine r_iload_n C (pc := 0) rfl rfl dX6_isLink_0 ?_
  refine r_iconst C (pc := 1) (x := (nI 0)) (by decide) dX6_isLink_1 ?_
  refine r_aload_n C (pc := 2) rfl rfl dX6_isLink_2 ?_
  refine r_get C (pc := 3) (ci := 6) (k := 0) (w := .ref (x + 1)) rfl (by decide) inX6 (by decide) q_231 (Or.inl hd0) hs0 (zl_ref _ _) dX6_isLink_3 ?_
  refine r_getN C (pc := 6) (ci := 5) (k := 0) (w := .ref (x + 1 + 1)) rfl (by decide) inX5 (by decide) q_201 (Or.inl hnd0) hn0 (zl_ref _ _) dX6_isLink_6 ?_
  refine r_getN C (pc := 9) (ci := 3) (k := 4) (w := .int (nI (M.1 1))) rfl (by decide) inX3 (by decide) q_70 (Or.inl hnd1) hn1 (zl_i (hv.2.2.2.1.2.1)) dX6_isLink_9 ?_
  refine r_callS C (pc := 12) (st := []) (m_X6_isWithin l G sh v N (x := a) (lo := (nI 0)) (hi := (nI (M.1 1)))) kyX6_isWithin q_270 rfl rfl (Nat.le_of_ble_eq_true rfl) ⟨Nat.le_of_ble_eq_true rfl, Nat.le_of_ble_eq_true rfl⟩ ⟨Nat.le_of_ble_eq_true rfl, Nat.le_of_ble_eq_true rfl⟩ dX6_isLink_12 (fun r12 v12 hp12 => ?_)
  obtain ⟨rfl, ehp12⟩ := hp12
  refine VV.vq ehp12 ?_
  refine VV.eq (st2 := [.int (zb (decide ((nI 0) ≤ a ∧ a ≤ (nI (M.1 1)))))]) rfl ?_
  exact r_iret C (pc := 15) rfl (zb_nar _) dX6_isLink_15 ⟨rfl, rfl, rfl, rfl⟩
set_option maxRecDepth 100000 in
set_option maxHeartbeats 4000000 in
theorem m_X6_isBlockSet (l : Launch) (G : zG) (sh : zH) (v : zV) (N : Nat) {x : Nat} {q : Nat → Nat} {M : zMS} {a : Int32} (hX : zXR G sh N x q) (hv : zt v (x + 1) M) (hK : M.1 0 ≤ 12) : zm l G yX6_isBlockSet cX6_isBlockSet 2 (some .boolean) 1 [.ref x, .int a] sh v N (fun r v1 => r = some (.int (zb (decide ((nI 1) ≤ a ∧ a ≤ (nI (2 ^ M.1 0 - 1)))))) ∧ v1 = v) := by
  refine zM.of (by decide) rfl (Nat.le_of_ble_eq_true rfl) ?_
  intro p e s m args below meth c C
  obtain ⟨xB, xN, hs0, hs57, hs58, hs59, hnow, htri, hhis, himg, hpq⟩ := id hX
  have hd0 : G.2.2.1 ≤ x ∧ x < N := ⟨xB, by omega⟩
  have hd57 : G.2.2.1 ≤ x + 57 ∧ x + 57 < N := ⟨by omega, by omega⟩
  have hd58 : G.2.2.1 ≤ x + 58 ∧ x + 58 < N := ⟨by omega, by omega⟩
  have hd59 : G.2.2.1 ≤ x + 59 ∧ x + 59 < N := ⟨by omega, by omega⟩
  obtain ⟨ntB, ntN, hn0, ntse, hn5, ntrc, hn19, ntsp, ntst⟩ := id hnow
  have hnd0 : G.2.2.1 ≤ x + 1 ∧ x + 1 < N := ⟨by omega, by omega⟩
  have hnd1 : G.2.2.1 ≤ x + 1 + 1 ∧ x + 1 + 1 < N := ⟨by omega, by omega⟩
  have hnd5 : G.2.2.1 ≤ x + 1 + 5 ∧ x + 1 + 5 < N := ⟨by omega, by omega⟩
  have hnd6 : G.2.2.1 ≤ x + 1 + 6 ∧ x + 1 + 6 < N := ⟨by omega, by omega⟩
  have hnd19 : G.2.2.1 ≤ x + 1 + 19 ∧ x + 1 + 19 < N := ⟨by omega, by omega⟩
  have hnd20 : G.2.2.1 ≤ x + 1 + 20 ∧ x + 1 + 20 < N := ⟨by omega, by omega⟩
  have hnd61 : G.2.2.1 ≤ x + 1 + 6 + 1 ∧ x + 1 + 6 + 1 < N := ⟨by omega, by omega⟩
  have hnd65 : G.2.2.1 ≤ x + 1 + 6 + 5 ∧ x + 1 + 6 + 5 < N := ⟨by omega, by omega⟩
  have hnd610 : G.2.2.1 ≤ x + 1 + 6 + 10 ∧ x + 1 + 6 + 10 < N := ⟨by omega, by omega⟩
  have hnd68 : G.2.2.1 ≤ x + 1 + 6 + 8 ∧ x + 1 + 6 + 8 < N := ⟨by omega, by omega⟩
  have hn1 := ntse.2.2.1
  have hn6 := ntrc.2.2.1
  have hn20 := ntsp.2.2.1
  have hn61 := ntrc.2.2.2.1.2.2.2.1
  have hn65 := ntrc.2.2.2.2.2.1.2.2.1
  have hn68 := ntrc.2.2.2.2.2.2.1.2.2.2.1
  have hn610 := ntrc.2.2.2.2.2.2.2.2.2.1
  have hnd11 : G.2.2.1 ≤ x + 1 + 1 + 1 ∧ x + 1 + 1 + 1 < N := ⟨by omega, by omega⟩
  have hnd12 : G.2.2.1 ≤ x + 1 + 1 + 2 ∧ x + 1 + 1 + 2 < N := ⟨by omega, by omega⟩
  have hnd13 : G.2.2.1 ≤ x + 1 + 1 + 3 ∧ x + 1 + 1 + 3 < N := ⟨by omega, by omega⟩
  have hnd652 : G.2.2.1 ≤ x + 1 + 6 + 5 + 2 ∧ x + 1 + 6 + 5 + 2 < N := ⟨by omega, by omega⟩
  have hnd6102 : G.2.2.1 ≤ x + 1 + 6 + 10 + 2 ∧ x + 1 + 6 + 10 + 2 < N := ⟨by omega, by omega⟩
  have hn11 := ntse.2.2.2.1
  have hn12 := ntse.2.2.2.2.1
  have hn13 := ntse.2.2.2.2.2
  have hn652 := ntrc.2.2.2.2.2.1.2.2.2.2
  have hn6102 := ntrc.2.2.2.2.2.2.2.2.2.2.2
  obtain ⟨ltB, ltN, hl0, ltse, hl5, ltrc, hl19, ltsp, ltst⟩ := id htri
  have hld0 : G.2.2.1 ≤ x + 29 ∧ x + 29 < N := ⟨by omega, by omega⟩
  have hld1 : G.2.2.1 ≤ x + 29 + 1 ∧ x + 29 + 1 < N := ⟨by omega, by omega⟩
  have hld5 : G.2.2.1 ≤ x + 29 + 5 ∧ x + 29 + 5 < N := ⟨by omega, by omega⟩
  have hld6 : G.2.2.1 ≤ x + 29 + 6 ∧ x + 29 + 6 < N := ⟨by omega, by omega⟩
  have hld19 : G.2.2.1 ≤ x + 29 + 19 ∧ x + 29 + 19 < N := ⟨by omega, by omega⟩
  have hld20 : G.2.2.1 ≤ x + 29 + 20 ∧ x + 29 + 20 < N := ⟨by omega, by omega⟩
  have hld61 : G.2.2.1 ≤ x + 29 + 6 + 1 ∧ x + 29 + 6 + 1 < N := ⟨by omega, by omega⟩
  have hld65 : G.2.2.1 ≤ x + 29 + 6 + 5 ∧ x + 29 + 6 + 5 < N := ⟨by omega, by omega⟩
  have hld610 : G.2.2.1 ≤ x + 29 + 6 + 10 ∧ x + 29 + 6 + 10 < N := ⟨by omega, by omega⟩
  have hld68 : G.2.2.1 ≤ x + 29 + 6 + 8 ∧ x + 29 + 6 + 8 < N := ⟨by omega, by omega⟩
  have hl1 := ltse.2.2.1
  have hl6 := ltrc.2.2.1
  have hl20 := ltsp.2.2.1
  have hl61 := ltrc.2.2.2.1.2.2.2.1
  have hl65 := ltrc.2.2.2.2.2.1.2.2.1
  have hl68 := ltrc.2.2.2.2.2.2.1.2.2.2.1
  have hl610 := ltrc.2.2.2.2.2.2.2.2.2.1
  have hld11 : G.2.2.1 ≤ x + 29 + 1 + 1 ∧ x + 29 + 1 + 1 < N := ⟨by omega, by omega⟩
  have hld12 : G.2.2.1 ≤ x + 29 + 1 + 2 ∧ x + 29 + 1 + 2 < N := ⟨by omega, by omega⟩
  have hld13 : G.2.2.1 ≤ x + 29 + 1 + 3 ∧ x + 29 + 1 + 3 < N := ⟨by omega, by omega⟩
  have hld652 : G.2.2.1 ≤ x + 29 + 6 + 5 + 2 ∧ x + 29 + 6 + 5 + 2 < N := ⟨by omega, by omega⟩
  have hld6102 : G.2.2.1 ≤ x + 29 + 6 + 10 + 2 ∧ x + 29 + 6 + 10 + 2 < N := ⟨by omega, by omega⟩
  have hl11 := ltse.2.2.2.1
  have hl12 := ltse.2.2.2.2.1
  have hl13 := ltse.2.2.2.2.2
  have hl652 := ltrc.2.2.2.2.2.1.2.2.2.2
  have hl6102 := ltrc.2.2.2.2.2.2.2.2.2.2.2
  refine r_iload_n C (pc := 0) rfl rfl dX6_isBlockSet_0 ?_
  refine r_iconst C (pc := 1) (x := (nI 1)) (by decide) dX6_isBlockSet_1 ?_
  refine r_iconst C (pc := 2) (x := (nI 1)) (by decide) dX6_isBlockSet_2 ?_
  refine r_aload_n C (pc := 3) rfl rfl dX6_isBlockSet_3 ?_
  refine r_get C (pc := 4) (ci := 6) (k := 0) (w := .ref (x + 1)) rfl (by decide) inX6 (by decide) q_231 (Or.inl hd0) hs0 (zl_ref _ _) dX6_isBlockSet_4 ?_
  refine r_getN C (pc := 7) (ci := 5) (k := 0) (w := .ref (x + 1 + 1)) rfl (by decide) inX5 (by decide) q_201 (Or.inl hnd0) hn0 (zl_ref _ _) dX6_isBlockSet_7 ?_
  refine r_getN C (pc := 10) (ci := 3) (k := 3) (w := .int (nI (M.1 0))) rfl (by decide) inX3 (by decide) q_67 (Or.inl hnd1) hn1 (zl_i (hv.2.2.2.1.1)) dX6_isBlockSet_10 ?_
  refine r_ishl C (pc := 13) (z := (nI (2 ^ M.1 0))) (nI_shl1 (by omega)) dX6_isBlockSet_13 ?_
  refine r_iconst C (pc := 14) (x := (nI 1)) (by decide) dX6_isBlockSet_14 ?_
  refine r_isub C (pc := 15) (z := (nI (2 ^ M.1 0 - 1))) (pk_sub (Nat.two_pow_pos _)) dX6_isBlockSet_15 ?_
  refine r_callS C (pc := 16) (st := []) (m_X6_isWithin l G sh v N (x := a) (lo := (nI 1)) (hi := (nI (2 ^ M.1 0 - 1)))) kyX6_isWithin q_270 rfl rfl (Nat.le_of_ble_eq_true rfl) ⟨Nat.le_of_ble_eq_true rfl, Nat.le_of_ble_eq_true rfl⟩ ⟨Nat.le_of_ble_eq_true rfl, Nat.le_of_ble_eq_true rfl⟩ dX6_isBlockSet_16 (fun r16 v16 hp16 => ?_)
  obtain ⟨rfl, ehp16⟩ := hp16
  refine VV.vq ehp16 ?_
  refine VV.eq (st2 := [.int (zb (decide ((nI 1) ≤ a ∧ a ≤ (nI (2 ^ M.1 0 - 1)))))]) rfl ?_
  exact r_iret C (pc := 19) rfl (zb_nar _) dX6_isBlockSet_19 ⟨rfl, rfl, rfl, rfl⟩
set_option maxRecDepth 100000 in
set_option maxHeartbeats 4000000 in
theorem m_X6_isSetting (l : Launch) (G : zG) (sh : zH) (v : zV) (N : Nat) {a b : Int32}  : zm l G yX6_isSetting cX6_isSetting 2 (some .boolean) 1 [.int a, .int b] sh v N (fun r v1 => r = some (.int (zb (sok a b))) ∧ v1 = v) := by
  refine zM.of (by decide) rfl (Nat.le_of_ble_eq_true rfl) ?_
  intro p e s m args below meth c C
  refine r_iload_n C (pc := 0) rfl rfl dX6_isSetting_0 ?_
  by_cases hr : nI 0 ≤ a ∧ a ≤ nI 3
  · obtain ⟨n, hn1, hn2, rfl⟩ := inR hr (by decide) (by decide)
    rcases (show n = 0 ∨ n = 1 ∨ n = 2 ∨ n = 3 by omega) with rfl | rfl | rfl | rfl
    · refine r_tableIn C (pc := 1) (off := 31) (tgt := 32) dX6_isSetting_1 (by decide) (by decide) rfl (by decide) ?_
      refine r_iload_n C (pc := 32) rfl rfl dX6_isSetting_32 ?_
      refine r_iconst C (pc := 33) (x := (nI 1)) (by decide) dX6_isSetting_33 ?_
      refine r_iconst C (pc := 34) (x := (nI 4)) (by decide) dX6_isSetting_34 ?_
      refine r_callS C (pc := 35) (st := []) (m_X6_isWithin l G sh v N (x := b) (lo := (nI 1)) (hi := (nI 4))) kyX6_isWithin q_270 rfl rfl (Nat.le_of_ble_eq_true rfl) ⟨Nat.le_of_ble_eq_true rfl, Nat.le_of_ble_eq_true rfl⟩ ⟨Nat.le_of_ble_eq_true rfl, Nat.le_of_ble_eq_true rfl⟩ dX6_isSetting_35 (fun r35 v35 hp35 => ?_)
      obtain ⟨rfl, ehp35⟩ := hp35
      refine VV.vq ehp35 ?_
      refine VV.eq (st2 := [.int (zb (decide ((nI 1) ≤ b ∧ b ≤ (nI 4))))]) rfl ?_
      exact r_iret C (pc := 38) rfl (zb_nar _) dX6_isSetting_38 ⟨rfl, rfl, (by
      rw [show decide ((nI 1) ≤ b ∧ b ≤ (nI 4)) = sok (nI 0) b from dec_t ⟨fun z => Or.inl ⟨rfl, z⟩, fun y => by
        rcases y with z | z | z | z
        · exact z.2
        · exact absurd z.1 (by decide)
        · exact absurd z.1 (by decide)
        · exact absurd z.1 (by decide)⟩]), rfl⟩
    · refine r_tableIn C (pc := 1) (off := 38) (tgt := 39) dX6_isSetting_1 (by decide) (by decide) rfl (by decide) ?_
      refine r_iload_n C (pc := 39) rfl rfl dX6_isSetting_39 ?_
      refine r_iconst C (pc := 40) (x := (nI 0)) (by decide) dX6_isSetting_40 ?_
      refine r_iconst C (pc := 41) (x := (nI 3)) (by decide) dX6_isSetting_41 ?_
      refine r_callS C (pc := 42) (st := []) (m_X6_isWithin l G sh v N (x := b) (lo := (nI 0)) (hi := (nI 3))) kyX6_isWithin q_270 rfl rfl (Nat.le_of_ble_eq_true rfl) ⟨Nat.le_of_ble_eq_true rfl, Nat.le_of_ble_eq_true rfl⟩ ⟨Nat.le_of_ble_eq_true rfl, Nat.le_of_ble_eq_true rfl⟩ dX6_isSetting_42 (fun r42 v42 hp42 => ?_)
      obtain ⟨rfl, ehp42⟩ := hp42
      refine VV.vq ehp42 ?_
      refine VV.eq (st2 := [.int (zb (decide ((nI 0) ≤ b ∧ b ≤ (nI 3))))]) rfl ?_
      exact r_iret C (pc := 45) rfl (zb_nar _) dX6_isSetting_45 ⟨rfl, rfl, (by
      rw [show decide ((nI 0) ≤ b ∧ b ≤ (nI 3)) = sok (nI 1) b from dec_t ⟨fun z => Or.inr (Or.inl ⟨rfl, z⟩), fun y => by
        rcases y with z | z | z | z
        · exact absurd z.1 (by decide)
        · exact z.2
        · exact absurd z.1 (by decide)
        · exact absurd z.1 (by decide)⟩]), rfl⟩
    · refine r_tableIn C (pc := 1) (off := 45) (tgt := 46) dX6_isSetting_1 (by decide) (by decide) rfl (by decide) ?_
      refine r_iload_n C (pc := 46) rfl rfl dX6_isSetting_46 ?_
      refine r_iconst C (pc := 47) (x := (nI 0)) (by decide) dX6_isSetting_47 ?_
      refine r_iconst C (pc := 48) (x := (nI 1)) (by decide) dX6_isSetting_48 ?_
      refine r_callS C (pc := 49) (st := []) (m_X6_isWithin l G sh v N (x := b) (lo := (nI 0)) (hi := (nI 1))) kyX6_isWithin q_270 rfl rfl (Nat.le_of_ble_eq_true rfl) ⟨Nat.le_of_ble_eq_true rfl, Nat.le_of_ble_eq_true rfl⟩ ⟨Nat.le_of_ble_eq_true rfl, Nat.le_of_ble_eq_true rfl⟩ dX6_isSetting_49 (fun r49 v49 hp49 => ?_)
      obtain ⟨rfl, ehp49⟩ := hp49
      refine VV.vq ehp49 ?_
      refine VV.eq (st2 := [.int (zb (decide ((nI 0) ≤ b ∧ b ≤ (nI 1))))]) rfl ?_
      exact r_iret C (pc := 52) rfl (zb_nar _) dX6_isSetting_52 ⟨rfl, rfl, (by
      rw [show decide ((nI 0) ≤ b ∧ b ≤ (nI 1)) = sok (nI 2) b from dec_t ⟨fun z => Or.inr (Or.inr (Or.inl ⟨rfl, z⟩)), fun y => by
        rcases y with z | z | z | z
        · exact absurd z.1 (by decide)
        · exact absurd z.1 (by decide)
        · exact z.2
        · exact absurd z.1 (by decide)⟩]), rfl⟩
    · refine r_tableIn C (pc := 1) (off := 52) (tgt := 53) dX6_isSetting_1 (by decide) (by decide) rfl (by decide) ?_
      refine r_iload_n C (pc := 53) rfl rfl dX6_isSetting_53 ?_
      refine r_if_lt C (pc := 54) (tgt := 61) dX6_isSetting_54 (by decide) (fun c_54 => ?_) (fun c_54 => ?_)
      · refine r_iconst C (pc := 61) (x := (nI 0)) (by decide) dX6_isSetting_61 ?_
        exact r_iret C (pc := 62) rfl (rfl) dX6_isSetting_62 ⟨rfl, rfl, (by
      rw [show sok (nI 3) b = false from decide_eq_false (fun y => by
        rcases y with z | z | z | z
        · exact absurd z.1 (by decide)
        · exact absurd z.1 (by decide)
        · exact absurd z.1 (by decide)
        · exact neg_n0 c_54 z.2)]; rfl), rfl⟩
      · refine r_iconst C (pc := 57) (x := (nI 1)) (by decide) dX6_isSetting_57 ?_
        refine r_goto C (pc := 58) (tgt := 62) dX6_isSetting_58 (by decide) ?_
        exact r_iret C (pc := 62) rfl (rfl) dX6_isSetting_62 ⟨rfl, rfl, (by
      rw [show sok (nI 3) b = true from decide_eq_true (Or.inr (Or.inr (Or.inr ⟨rfl, nneg c_54⟩)))]; rfl), rfl⟩
  · refine r_tableOut C (pc := 1) (tgt := 63) dX6_isSetting_1 (out_of (hi := 3) (by decide) hr) (by decide) ?_
    refine r_iconst C (pc := 63) (x := (nI 0)) (by decide) dX6_isSetting_63 ?_
    exact r_iret C (pc := 64) rfl (rfl) dX6_isSetting_64 ⟨rfl, rfl, (by
      rw [show sok a b = false from decide_eq_false (fun y => by
        rcases y with z | z | z | z
        · exact hr (by rw [z.1]; exact ⟨by decide, by decide⟩)
        · exact hr (by rw [z.1]; exact ⟨by decide, by decide⟩)
        · exact hr (by rw [z.1]; exact ⟨by decide, by decide⟩)
        · exact hr (by rw [z.1]; exact ⟨by decide, by decide⟩))]; rfl), rfl⟩
set_option maxRecDepth 100000 in
set_option maxHeartbeats 4000000 in
theorem m_X6_numberOfPacket (l : Launch) (G : zG) (sh : zH) (v : zV) (N : Nat) {a cap : Nat} {ps : List Nat} {b c1 : Int32} (hpa : zPL G sh N a cap) (hva : zpl v a cap ps) (hps : ∀ q ∈ ps, q < 2 ^ 20) : zm l G yX6_numberOfPacket cX6_numberOfPacket 4 (some .int) 3 [.ref a, .int b, .int c1] sh v N (fun r v1 => r = some (.int (npI ps b c1)) ∧ v1 = v) := by
  refine zM.of (by decide) rfl (Nat.le_of_ble_eq_true rfl) ?_
  intro p e s m args below meth c C
  have hda : G.2.2.1 ≤ a ∧ a < N := ⟨hpa.1, by have := hpa.2.1; omega⟩
  have ha0 := hpa.2.2.2.1
  have hl20 : ps.length ≤ 20 := by have := hva.2.1; have := hpa.2.2.1; omega
  refine r_iload_n C (pc := 0) rfl rfl dX6_numberOfPacket_0 ?_
  refine r_if_lt C (pc := 1) (tgt := 13) dX6_numberOfPacket_1 (by decide) (fun c_1 => ?_) (fun c_1 => ?_)
  · refine r_iconst C (pc := 13) (x := (-1)) (by decide) dX6_numberOfPacket_13 ?_
    exact r_iret C (pc := 14) rfl (rfl) dX6_numberOfPacket_14 ⟨rfl, rfl, (by rw [npI, if_neg (fun z => neg_n0 c_1 z.1)]), rfl⟩
  · refine r_iload_n C (pc := 4) rfl rfl dX6_numberOfPacket_4 ?_
    refine r_iconst C (pc := 5) (x := (nI 0)) (by decide) dX6_numberOfPacket_5 ?_
    refine r_iconst C (pc := 6) (x := (nI 2)) (by decide) dX6_numberOfPacket_6 ?_
    refine r_callS C (pc := 7) (st := []) (m_X6_isWithin l G sh v N (x := c1) (lo := (nI 0)) (hi := (nI 2))) kyX6_isWithin q_270 rfl rfl (Nat.le_of_ble_eq_true rfl) ⟨Nat.le_of_ble_eq_true rfl, Nat.le_of_ble_eq_true rfl⟩ ⟨Nat.le_of_ble_eq_true rfl, Nat.le_of_ble_eq_true rfl⟩ dX6_numberOfPacket_7 (fun r7 v7 hp7 => ?_)
    obtain ⟨rfl, ehp7⟩ := hp7
    refine VV.vq ehp7 ?_
    refine VV.eq (st2 := [.int (zb (decide ((nI 0) ≤ c1 ∧ c1 ≤ (nI 2))))]) rfl ?_
    refine n_ifb_ne C (pc := 10) (tgt := 15) dX6_numberOfPacket_10 (by decide) (fun c_10 => ?_) (fun c_10 => ?_)
    · have hc2 := nneg c_1
      have hc3 := (of_decide_eq_true c_10)
      obtain ⟨eb, hk31⟩ := I_nn hc2
      generalize nn b = k at eb hk31
      subst eb
      obtain ⟨y, hy1, hy2, rfl⟩ := inR hc3 (by decide) (by decide)
      have hnp : npI ps (nI k) (nI y) = ptI ps k y := (if_pos ⟨hc2, hc3⟩).trans (by rw [nn_I hk31, nn_I (by omega)])
      refine r_iload_n C (pc := 15) rfl rfl dX6_numberOfPacket_15 ?_
      refine r_aload_n C (pc := 16) rfl rfl dX6_numberOfPacket_16 ?_
      refine r_getN C (pc := 17) (ci := 1) (k := 1) (w := .int (nI ps.length)) rfl (by decide) inX1 (by decide) q_123 (Or.inl hda) ha0 (zl_i (hva.1)) dX6_numberOfPacket_17 ?_
      refine n_icmp_lt C (pc := 20) (tgt := 26) (by omega) (by omega) dX6_numberOfPacket_20 (by decide) (fun c_20 => ?_) (fun c_20 => ?_)
      · refine r_aload_n C (pc := 26) rfl rfl dX6_numberOfPacket_26 ?_
        refine r_iload_n C (pc := 27) rfl rfl dX6_numberOfPacket_27 ?_
        refine r_callV C (pc := 28) (st := []) (m_X1_at l G sh v N (j := k) hpa hva hk31) kyX1_at q_573 rfl (Or.inl hda) ha0 (by decide) rfl rfl rfl (Nat.le_of_ble_eq_true rfl) ⟨Nat.le_of_ble_eq_true rfl, Nat.le_of_ble_eq_true rfl⟩ ⟨Nat.le_of_ble_eq_true rfl, Nat.le_of_ble_eq_true rfl⟩ dX6_numberOfPacket_28 (fun r28 v28 hp28 => ?_)
        obtain ⟨rfl, ehp28⟩ := hp28
        refine VV.vq ehp28 ?_
        refine VV.eq (st2 := [.int (nI (ps.getD k 0))]) rfl ?_
        have hq20 : ps.getD k 0 < 2 ^ 20 := gd_lt20 hps
        refine r_istore_n C (pc := 31) (lv2 := [some (.ref a), some (.int (nI k)), some (.int (nI y)), some (.int (nI (ps.getD k 0)))]) rfl (Nat.le_of_ble_eq_true rfl) rfl rfl dX6_numberOfPacket_31 ?_
        refine r_iload_n C (pc := 32) rfl rfl dX6_numberOfPacket_32 ?_
        rcases (show y = 0 ∨ y = 1 ∨ y = 2 by omega) with rfl | rfl | rfl
        · refine r_lookup C (pc := 33) (off := 27) (tgt := 60) dX6_numberOfPacket_33 (by decide) (by decide) (by decide) ?_
          refine r_iload_n C (pc := 60) rfl rfl dX6_numberOfPacket_60 ?_
          refine r_callS C (pc := 61) (st := []) (m_X6_setIn l G sh v N (q := (ps.getD k 0)) (by omega)) kyX6_setIn q_574 rfl rfl (Nat.le_of_ble_eq_true rfl) ⟨Nat.le_of_ble_eq_true rfl, Nat.le_of_ble_eq_true rfl⟩ ⟨Nat.le_of_ble_eq_true rfl, Nat.le_of_ble_eq_true rfl⟩ dX6_numberOfPacket_61 (fun r61 v61 hp61 => ?_)
          obtain ⟨rfl, ehp61⟩ := hp61
          refine VV.vq ehp61 ?_
          refine VV.eq (st2 := [.int (nI ((ps.getD k 0) / 256))]) rfl ?_
          exact r_iret C (pc := 64) rfl (rfl) dX6_numberOfPacket_64 ⟨rfl, rfl, (by rw [hnp, ptI, if_neg (by omega)]; rfl), rfl⟩
        · refine r_lookup C (pc := 33) (off := 32) (tgt := 65) dX6_numberOfPacket_33 (by decide) (by decide) (by decide) ?_
          refine r_iload_n C (pc := 65) rfl rfl dX6_numberOfPacket_65 ?_
          refine r_callS C (pc := 66) (st := []) (m_X6_valueIn l G sh v N (q := (ps.getD k 0)) ) kyX6_valueIn q_575 rfl rfl (Nat.le_of_ble_eq_true rfl) ⟨Nat.le_of_ble_eq_true rfl, Nat.le_of_ble_eq_true rfl⟩ ⟨Nat.le_of_ble_eq_true rfl, Nat.le_of_ble_eq_true rfl⟩ dX6_numberOfPacket_66 (fun r66 v66 hp66 => ?_)
          obtain ⟨rfl, ehp66⟩ := hp66
          refine VV.vq ehp66 ?_
          refine VV.eq (st2 := [.int (nI ((ps.getD k 0) % 256))]) rfl ?_
          exact r_iret C (pc := 69) rfl (rfl) dX6_numberOfPacket_69 ⟨rfl, rfl, (by rw [hnp, ptI, if_neg (by omega)]; rfl), rfl⟩
        · refine r_lookup C (pc := 33) (off := 37) (tgt := 70) dX6_numberOfPacket_33 (by decide) (by decide) (by decide) ?_
          refine r_iload_n C (pc := 70) rfl rfl dX6_numberOfPacket_70 ?_
          refine r_callS C (pc := 71) (st := []) (m_X6_degreeOf l G sh v N (q := (ps.getD k 0)) hq20) kyX6_degreeOf q_576 rfl rfl (Nat.le_of_ble_eq_true rfl) ⟨Nat.le_of_ble_eq_true rfl, Nat.le_of_ble_eq_true rfl⟩ ⟨Nat.le_of_ble_eq_true rfl, Nat.le_of_ble_eq_true rfl⟩ dX6_numberOfPacket_71 (fun r71 v71 hp71 => ?_)
          obtain ⟨rfl, ehp71⟩ := hp71
          refine VV.vq ehp71 ?_
          refine VV.eq (st2 := [.int (nI (pop ((ps.getD k 0) / 256)))]) rfl ?_
          exact r_iret C (pc := 74) rfl (rfl) dX6_numberOfPacket_74 ⟨rfl, rfl, (by rw [hnp, ptI, if_neg (by omega)]; rfl), rfl⟩
      · refine r_bipush C (pc := 23) (x := (-9)) (by decide) dX6_numberOfPacket_23 ?_
        exact r_iret C (pc := 25) rfl (rfl) dX6_numberOfPacket_25 ⟨rfl, rfl, (by rw [hnp, ptI, if_pos (by omega)]), rfl⟩
    · refine r_iconst C (pc := 13) (x := (-1)) (by decide) dX6_numberOfPacket_13 ?_
      exact r_iret C (pc := 14) rfl (rfl) dX6_numberOfPacket_14 ⟨rfl, rfl, (by rw [npI, if_neg (fun z => (of_decide_eq_false c_10) z.2)]), rfl⟩
set_option maxRecDepth 100000 in
set_option maxHeartbeats 4000000 in
theorem m_X6_dropOldestRecord (l : Launch) (G : zG) (sh : zH) (v : zV) (N : Nat) {x : Nat} {q : Nat → Nat} (hX : zXR G sh N x q) : zM l G yX6_dropOldestRecord cX6_dropOldestRecord 3 none 0 0 0 [.ref x] sh v N (fun r sh1 v1 N1 => N = N1 ∧ (r = none ∧ sh1 = s2 sh (x + 57) (11, 8, hpt x (rot q)) ∧ v1 = z2 v x 5 (nI 7))) := by
  refine zM.of (by decide) rfl (Nat.le_of_ble_eq_true rfl) ?_
  intro p e s m args below meth c C
  obtain ⟨xB, xN, hs0, hs57, hs58, hs59, hnow, htri, hhis, himg, hpq⟩ := id hX
  have hd0 : G.2.2.1 ≤ x ∧ x < N := ⟨xB, by omega⟩
  have hd57 : G.2.2.1 ≤ x + 57 ∧ x + 57 < N := ⟨by omega, by omega⟩
  have hd58 : G.2.2.1 ≤ x + 58 ∧ x + 58 < N := ⟨by omega, by omega⟩
  have hd59 : G.2.2.1 ≤ x + 59 ∧ x + 59 < N := ⟨by omega, by omega⟩
  obtain ⟨ntB, ntN, hn0, ntse, hn5, ntrc, hn19, ntsp, ntst⟩ := id hnow
  have hnd0 : G.2.2.1 ≤ x + 1 ∧ x + 1 < N := ⟨by omega, by omega⟩
  have hnd1 : G.2.2.1 ≤ x + 1 + 1 ∧ x + 1 + 1 < N := ⟨by omega, by omega⟩
  have hnd5 : G.2.2.1 ≤ x + 1 + 5 ∧ x + 1 + 5 < N := ⟨by omega, by omega⟩
  have hnd6 : G.2.2.1 ≤ x + 1 + 6 ∧ x + 1 + 6 < N := ⟨by omega, by omega⟩
  have hnd19 : G.2.2.1 ≤ x + 1 + 19 ∧ x + 1 + 19 < N := ⟨by omega, by omega⟩
  have hnd20 : G.2.2.1 ≤ x + 1 + 20 ∧ x + 1 + 20 < N := ⟨by omega, by omega⟩
  have hnd61 : G.2.2.1 ≤ x + 1 + 6 + 1 ∧ x + 1 + 6 + 1 < N := ⟨by omega, by omega⟩
  have hnd65 : G.2.2.1 ≤ x + 1 + 6 + 5 ∧ x + 1 + 6 + 5 < N := ⟨by omega, by omega⟩
  have hnd610 : G.2.2.1 ≤ x + 1 + 6 + 10 ∧ x + 1 + 6 + 10 < N := ⟨by omega, by omega⟩
  have hnd68 : G.2.2.1 ≤ x + 1 + 6 + 8 ∧ x + 1 + 6 + 8 < N := ⟨by omega, by omega⟩
  have hn1 := ntse.2.2.1
  have hn6 := ntrc.2.2.1
  have hn20 := ntsp.2.2.1
  have hn61 := ntrc.2.2.2.1.2.2.2.1
  have hn65 := ntrc.2.2.2.2.2.1.2.2.1
  have hn68 := ntrc.2.2.2.2.2.2.1.2.2.2.1
  have hn610 := ntrc.2.2.2.2.2.2.2.2.2.1
  have hnd11 : G.2.2.1 ≤ x + 1 + 1 + 1 ∧ x + 1 + 1 + 1 < N := ⟨by omega, by omega⟩
  have hnd12 : G.2.2.1 ≤ x + 1 + 1 + 2 ∧ x + 1 + 1 + 2 < N := ⟨by omega, by omega⟩
  have hnd13 : G.2.2.1 ≤ x + 1 + 1 + 3 ∧ x + 1 + 1 + 3 < N := ⟨by omega, by omega⟩
  have hnd652 : G.2.2.1 ≤ x + 1 + 6 + 5 + 2 ∧ x + 1 + 6 + 5 + 2 < N := ⟨by omega, by omega⟩
  have hnd6102 : G.2.2.1 ≤ x + 1 + 6 + 10 + 2 ∧ x + 1 + 6 + 10 + 2 < N := ⟨by omega, by omega⟩
  have hn11 := ntse.2.2.2.1
  have hn12 := ntse.2.2.2.2.1
  have hn13 := ntse.2.2.2.2.2
  have hn652 := ntrc.2.2.2.2.2.1.2.2.2.2
  have hn6102 := ntrc.2.2.2.2.2.2.2.2.2.2.2
  obtain ⟨ltB, ltN, hl0, ltse, hl5, ltrc, hl19, ltsp, ltst⟩ := id htri
  have hld0 : G.2.2.1 ≤ x + 29 ∧ x + 29 < N := ⟨by omega, by omega⟩
  have hld1 : G.2.2.1 ≤ x + 29 + 1 ∧ x + 29 + 1 < N := ⟨by omega, by omega⟩
  have hld5 : G.2.2.1 ≤ x + 29 + 5 ∧ x + 29 + 5 < N := ⟨by omega, by omega⟩
  have hld6 : G.2.2.1 ≤ x + 29 + 6 ∧ x + 29 + 6 < N := ⟨by omega, by omega⟩
  have hld19 : G.2.2.1 ≤ x + 29 + 19 ∧ x + 29 + 19 < N := ⟨by omega, by omega⟩
  have hld20 : G.2.2.1 ≤ x + 29 + 20 ∧ x + 29 + 20 < N := ⟨by omega, by omega⟩
  have hld61 : G.2.2.1 ≤ x + 29 + 6 + 1 ∧ x + 29 + 6 + 1 < N := ⟨by omega, by omega⟩
  have hld65 : G.2.2.1 ≤ x + 29 + 6 + 5 ∧ x + 29 + 6 + 5 < N := ⟨by omega, by omega⟩
  have hld610 : G.2.2.1 ≤ x + 29 + 6 + 10 ∧ x + 29 + 6 + 10 < N := ⟨by omega, by omega⟩
  have hld68 : G.2.2.1 ≤ x + 29 + 6 + 8 ∧ x + 29 + 6 + 8 < N := ⟨by omega, by omega⟩
  have hl1 := ltse.2.2.1
  have hl6 := ltrc.2.2.1
  have hl20 := ltsp.2.2.1
  have hl61 := ltrc.2.2.2.1.2.2.2.1
  have hl65 := ltrc.2.2.2.2.2.1.2.2.1
  have hl68 := ltrc.2.2.2.2.2.2.1.2.2.2.1
  have hl610 := ltrc.2.2.2.2.2.2.2.2.2.1
  have hld11 : G.2.2.1 ≤ x + 29 + 1 + 1 ∧ x + 29 + 1 + 1 < N := ⟨by omega, by omega⟩
  have hld12 : G.2.2.1 ≤ x + 29 + 1 + 2 ∧ x + 29 + 1 + 2 < N := ⟨by omega, by omega⟩
  have hld13 : G.2.2.1 ≤ x + 29 + 1 + 3 ∧ x + 29 + 1 + 3 < N := ⟨by omega, by omega⟩
  have hld652 : G.2.2.1 ≤ x + 29 + 6 + 5 + 2 ∧ x + 29 + 6 + 5 + 2 < N := ⟨by omega, by omega⟩
  have hld6102 : G.2.2.1 ≤ x + 29 + 6 + 10 + 2 ∧ x + 29 + 6 + 10 + 2 < N := ⟨by omega, by omega⟩
  have hl11 := ltse.2.2.2.1
  have hl12 := ltse.2.2.2.2.1
  have hl13 := ltse.2.2.2.2.2
  have hl652 := ltrc.2.2.2.2.2.1.2.2.2.2
  have hl6102 := ltrc.2.2.2.2.2.2.2.2.2.2.2
  have loop : ∀ (n i : Nat) (sh' : zH), 8 - i < n → 1 ≤ i → i ≤ 8 → sh' = s2 sh (x + 57) (11, 8, fI x q i) → VV p l e ({ frames := 0, cells := 0, slots := 0, locals := 32 * 0 }) s m args below meth c 0 0 (zQ below (fun r sh1 v1 N1 => N = N1 ∧ (r = none ∧ sh1 = s2 sh (x + 57) (11, 8, hpt x (rot q)) ∧ v1 = z2 v x 5 (nI 7))) G args s 0 0) G 3 sh' v N 9 [some (.ref x), some (.ref (x + 60 + 28 * q 0)), some (.int (nI i))] [] := by
    intro n
    induction n with
    | zero => intro i sh' hm; omega
    | succ n ih =>
      intro i sh' hm hi1 hi es
      have hs0' : sh' x = (6, 6, pts [x + 1 + 2, x + 29 + 2, x + 57 + 2, x + 58 + 2, x + 59 + 2, 0]) := by rw [es, s2_ne (by omega)]; exact hs0
      have hs57' : sh' (x + 57) = (11, 8, fI x q i) := by rw [es, s2_self]
      have hq0 := hpq.1 0 (by decide)
      have hhs0' : sh' (x + 60 + 28 * q 0) = (5, 8, pts [x + 60 + 28 * q 0 + 1 + 2, x + 60 + 28 * q 0 + 5 + 2, x + 60 + 28 * q 0 + 6 + 2, 0, 0, 0, x + 60 + 28 * q 0 + 19 + 2, x + 60 + 28 * q 0 + 20 + 2]) := by rw [es, s2_ne (by omega)]; exact (hhis (q 0) hq0).2.2.1
      have hhd0 : G.2.2.1 ≤ x + 60 + 28 * q 0 ∧ x + 60 + 28 * q 0 < N := ⟨by omega, by omega⟩
      refine r_iload_n C (pc := 9) rfl rfl dX6_dropOldestRecord_9 ?_
      refine r_aload_n C (pc := 10) rfl rfl dX6_dropOldestRecord_10 ?_
      refine r_get C (pc := 11) (ci := 6) (k := 2) (w := .ref (x + 57)) rfl (by decide) inX6 (by decide) q_233 (Or.inl hd0) hs0' (zl_ref _ _) dX6_dropOldestRecord_11 ?_
      refine r_alen C (pc := 14) (x := nI 8) (Or.inl hd57) hs57' (by decide) rfl rfl dX6_dropOldestRecord_14 ?_
      refine n_icmp_ge C (pc := 15) (tgt := 38) (by omega) (by decide) dX6_dropOldestRecord_15 (by decide) (fun c_15 => ?_) (fun c_15 => ?_)
      · obtain rfl : i = 8 := by omega
        refine r_aload_n C (pc := 38) rfl rfl dX6_dropOldestRecord_38 ?_
        refine r_get C (pc := 39) (ci := 6) (k := 2) (w := .ref (x + 57)) rfl (by decide) inX6 (by decide) q_233 (Or.inl hd0) hs0' (zl_ref _ _) dX6_dropOldestRecord_39 ?_
        refine r_aload_n C (pc := 42) rfl rfl dX6_dropOldestRecord_42 ?_
        refine r_get C (pc := 43) (ci := 6) (k := 2) (w := .ref (x + 57)) rfl (by decide) inX6 (by decide) q_233 (Or.inl hd0) hs0' (zl_ref _ _) dX6_dropOldestRecord_43 ?_
        refine r_alen C (pc := 46) (x := nI 8) (Or.inl hd57) hs57' (by decide) rfl rfl dX6_dropOldestRecord_46 ?_
        refine r_iconst C (pc := 47) (x := (nI 1)) (by decide) dX6_dropOldestRecord_47 ?_
        refine r_isub C (pc := 48) (z := (nI 7)) (pk_sub (by omega)) dX6_dropOldestRecord_48 ?_
        refine r_aload_n C (pc := 49) rfl rfl dX6_dropOldestRecord_49 ?_
        refine r_aast C (pc := 50) (ci := 11) (cj := 5) hd57 hs57' (by decide) (Or.inl hhd0) hhs0' (by decide) rfl rfl (by omega) (by omega) dX6_dropOldestRecord_50 ?_
        refine VV.gs (fun s50 es50 => ?_)
        have es2 : s50 = s2 sh (x + 57) (11, 8, hpt x (rot q)) := by
          rw [es50, es, s2_s2]
          exact congrArg (fun f => s2 sh (x + 57) (11, 8, f)) (fI_8 x q)
        have hs0s : s50 x = (6, 6, pts [x + 1 + 2, x + 29 + 2, x + 57 + 2, x + 58 + 2, x + 59 + 2, 0]) := by rw [es2, s2_ne (by omega)]; exact hs0
        have hs57s : s50 (x + 57) = (11, 8, hpt x (rot q)) := by rw [es2, s2_self]
        refine r_aload_n C (pc := 51) rfl rfl dX6_dropOldestRecord_51 ?_
        refine r_aload_n C (pc := 52) rfl rfl dX6_dropOldestRecord_52 ?_
        refine r_get C (pc := 53) (ci := 6) (k := 2) (w := .ref (x + 57)) rfl (by decide) inX6 (by decide) q_233 (Or.inl hd0) hs0s (zl_ref _ _) dX6_dropOldestRecord_53 ?_
        refine r_alen C (pc := 56) (x := nI 8) (Or.inl hd57) hs57s (by decide) rfl rfl dX6_dropOldestRecord_56 ?_
        refine r_iconst C (pc := 57) (x := (nI 1)) (by decide) dX6_dropOldestRecord_57 ?_
        refine r_isub C (pc := 58) (z := (nI 7)) (pk_sub (by omega)) dX6_dropOldestRecord_58 ?_
        refine r_put C (pc := 59) (ci := 6) (k := 5) rfl (by decide) inX6 tyX6_ok nmX6 (by decide) rfl pfI rfl q_236 hd0 hs0s dX6_dropOldestRecord_59 ?_
        refine VV.gn (fun w59 ew59 => ?_)
        exact r_vret C (pc := 62) rfl dX6_dropOldestRecord_62 ⟨rfl, rfl, es2, ew59⟩
      · have hqi := hpq.1 i (by omega)
        have hhs' : sh' (x + 60 + 28 * q i) = (5, 8, pts [x + 60 + 28 * q i + 1 + 2, x + 60 + 28 * q i + 5 + 2, x + 60 + 28 * q i + 6 + 2, 0, 0, 0, x + 60 + 28 * q i + 19 + 2, x + 60 + 28 * q i + 20 + 2]) := by rw [es, s2_ne (by omega)]; exact (hhis (q i) hqi).2.2.1
        have hhd : G.2.2.1 ≤ x + 60 + 28 * q i ∧ x + 60 + 28 * q i < N := ⟨by omega, by omega⟩
        refine r_aload_n C (pc := 18) rfl rfl dX6_dropOldestRecord_18 ?_
        refine r_get C (pc := 19) (ci := 6) (k := 2) (w := .ref (x + 57)) rfl (by decide) inX6 (by decide) q_233 (Or.inl hd0) hs0' (zl_ref _ _) dX6_dropOldestRecord_19 ?_
        refine r_iload_n C (pc := 22) rfl rfl dX6_dropOldestRecord_22 ?_
        refine r_iconst C (pc := 23) (x := (nI 1)) (by decide) dX6_dropOldestRecord_23 ?_
        refine r_isub C (pc := 24) (z := (nI (i - 1))) (pk_sub (by omega)) dX6_dropOldestRecord_24 ?_
        refine r_aload_n C (pc := 25) rfl rfl dX6_dropOldestRecord_25 ?_
        refine r_get C (pc := 26) (ci := 6) (k := 2) (w := .ref (x + 57)) rfl (by decide) inX6 (by decide) q_233 (Or.inl hd0) hs0' (zl_ref _ _) dX6_dropOldestRecord_26 ?_
        refine r_iload_n C (pc := 29) rfl rfl dX6_dropOldestRecord_29 ?_
        refine r_aald C (pc := 30) (w := .ref (x + 60 + 28 * q i)) (Or.inl hd57) hs57' (by decide) rfl (by omega) (by omega) (by rw [show fI x q i i = hpt x q i from if_neg (by omega)]; rfl) dX6_dropOldestRecord_30 ?_
        refine r_aast C (pc := 31) (ci := 11) (cj := 5) hd57 hs57' (by decide) (Or.inl hhd) hhs' (by decide) rfl rfl (by omega) (by omega) dX6_dropOldestRecord_31 ?_
        refine VV.gs (fun s31 es31 => ?_)
        refine r_iinc C (pc := 32) (lv2 := [some (.ref x), some (.ref (x + 60 + 28 * q 0)), some (.int (nI (i + 1)))]) (y := (nI (i + 1))) rfl (nI_inc _ _) (Nat.le_of_ble_eq_true rfl) rfl rfl dX6_dropOldestRecord_32 ?_
        refine r_goto C (pc := 35) (tgt := 9) dX6_dropOldestRecord_35 (by decide) ?_
        exact ih (i + 1) s31 (by omega) (by omega) (by omega) (by
          rw [es31, es, s2_s2]
          exact congrArg (fun f => s2 sh (x + 57) (11, 8, f)) (fI_s (by omega)))
  refine r_aload_n C (pc := 0) rfl rfl dX6_dropOldestRecord_0 ?_
  refine r_get C (pc := 1) (ci := 6) (k := 2) (w := .ref (x + 57)) rfl (by decide) inX6 (by decide) q_233 (Or.inl hd0) hs0 (zl_ref _ _) dX6_dropOldestRecord_1 ?_
  refine r_iconst C (pc := 4) (x := (nI 0)) (by decide) dX6_dropOldestRecord_4 ?_
  refine r_aald C (pc := 5) (w := .ref (x + 60 + 28 * q 0)) (Or.inl hd57) hs57 (by decide) rfl (by omega) (by omega) (rfl) dX6_dropOldestRecord_5 ?_
  refine r_astore_n C (pc := 6) (lv2 := [some (.ref x), some (.ref (x + 60 + 28 * q 0)), none]) rfl (Nat.le_of_ble_eq_true rfl) rfl rfl dX6_dropOldestRecord_6 ?_
  refine r_iconst C (pc := 7) (x := (nI 1)) (by decide) dX6_dropOldestRecord_7 ?_
  refine r_istore_n C (pc := 8) (lv2 := [some (.ref x), some (.ref (x + 60 + 28 * q 0)), some (.int (nI 1))]) rfl (Nat.le_of_ble_eq_true rfl) rfl rfl dX6_dropOldestRecord_8 ?_
  exact loop 9 1 sh (by omega) (by omega) (by omega) (by rw [fI_1, s2_id hs57])
set_option maxRecDepth 100000 in
set_option maxHeartbeats 4000000 in
theorem m_X6_remember (l : Launch) (G : zG) (sh : zH) (v : zV) (N : Nat) {x : Nat} {q : Nat → Nat} {M : zMS} {h : zHs} (hX : zXR G sh N x q) (hv : zt v (x + 1) M) (hh : zxh v x q h) : zM l G yX6_remember cX6_remember 1 none 5 0 0 [.ref x] sh v N (fun r sh1 v1 N1 => N = N1 ∧ (r = none ∧ ∃ q1, zXR G sh1 N x q1 ∧ (∀ b, b ≠ x + 57 → sh1 b = sh b) ∧ zt v1 (x + 1) M ∧ zxh v1 x q1 (remH M h) ∧ zfr v v1 x 340)) := by
  refine zM.of (by decide) rfl (Nat.le_of_ble_eq_true rfl) ?_
  intro p e s m args below meth c C
  obtain ⟨xB, xN, hs0, hs57, hs58, hs59, hnow, htri, hhis, himg, hpq⟩ := id hX
  have hd0 : G.2.2.1 ≤ x ∧ x < N := ⟨xB, by omega⟩
  have hd57 : G.2.2.1 ≤ x + 57 ∧ x + 57 < N := ⟨by omega, by omega⟩
  have hd58 : G.2.2.1 ≤ x + 58 ∧ x + 58 < N := ⟨by omega, by omega⟩
  have hd59 : G.2.2.1 ≤ x + 59 ∧ x + 59 < N := ⟨by omega, by omega⟩
  obtain ⟨ntB, ntN, hn0, ntse, hn5, ntrc, hn19, ntsp, ntst⟩ := id hnow
  have hnd0 : G.2.2.1 ≤ x + 1 ∧ x + 1 < N := ⟨by omega, by omega⟩
  have hnd1 : G.2.2.1 ≤ x + 1 + 1 ∧ x + 1 + 1 < N := ⟨by omega, by omega⟩
  have hnd5 : G.2.2.1 ≤ x + 1 + 5 ∧ x + 1 + 5 < N := ⟨by omega, by omega⟩
  have hnd6 : G.2.2.1 ≤ x + 1 + 6 ∧ x + 1 + 6 < N := ⟨by omega, by omega⟩
  have hnd19 : G.2.2.1 ≤ x + 1 + 19 ∧ x + 1 + 19 < N := ⟨by omega, by omega⟩
  have hnd20 : G.2.2.1 ≤ x + 1 + 20 ∧ x + 1 + 20 < N := ⟨by omega, by omega⟩
  have hnd61 : G.2.2.1 ≤ x + 1 + 6 + 1 ∧ x + 1 + 6 + 1 < N := ⟨by omega, by omega⟩
  have hnd65 : G.2.2.1 ≤ x + 1 + 6 + 5 ∧ x + 1 + 6 + 5 < N := ⟨by omega, by omega⟩
  have hnd610 : G.2.2.1 ≤ x + 1 + 6 + 10 ∧ x + 1 + 6 + 10 < N := ⟨by omega, by omega⟩
  have hnd68 : G.2.2.1 ≤ x + 1 + 6 + 8 ∧ x + 1 + 6 + 8 < N := ⟨by omega, by omega⟩
  have hn1 := ntse.2.2.1
  have hn6 := ntrc.2.2.1
  have hn20 := ntsp.2.2.1
  have hn61 := ntrc.2.2.2.1.2.2.2.1
  have hn65 := ntrc.2.2.2.2.2.1.2.2.1
  have hn68 := ntrc.2.2.2.2.2.2.1.2.2.2.1
  have hn610 := ntrc.2.2.2.2.2.2.2.2.2.1
  have hnd11 : G.2.2.1 ≤ x + 1 + 1 + 1 ∧ x + 1 + 1 + 1 < N := ⟨by omega, by omega⟩
  have hnd12 : G.2.2.1 ≤ x + 1 + 1 + 2 ∧ x + 1 + 1 + 2 < N := ⟨by omega, by omega⟩
  have hnd13 : G.2.2.1 ≤ x + 1 + 1 + 3 ∧ x + 1 + 1 + 3 < N := ⟨by omega, by omega⟩
  have hnd652 : G.2.2.1 ≤ x + 1 + 6 + 5 + 2 ∧ x + 1 + 6 + 5 + 2 < N := ⟨by omega, by omega⟩
  have hnd6102 : G.2.2.1 ≤ x + 1 + 6 + 10 + 2 ∧ x + 1 + 6 + 10 + 2 < N := ⟨by omega, by omega⟩
  have hn11 := ntse.2.2.2.1
  have hn12 := ntse.2.2.2.2.1
  have hn13 := ntse.2.2.2.2.2
  have hn652 := ntrc.2.2.2.2.2.1.2.2.2.2
  have hn6102 := ntrc.2.2.2.2.2.2.2.2.2.2.2
  obtain ⟨ltB, ltN, hl0, ltse, hl5, ltrc, hl19, ltsp, ltst⟩ := id htri
  have hld0 : G.2.2.1 ≤ x + 29 ∧ x + 29 < N := ⟨by omega, by omega⟩
  have hld1 : G.2.2.1 ≤ x + 29 + 1 ∧ x + 29 + 1 < N := ⟨by omega, by omega⟩
  have hld5 : G.2.2.1 ≤ x + 29 + 5 ∧ x + 29 + 5 < N := ⟨by omega, by omega⟩
  have hld6 : G.2.2.1 ≤ x + 29 + 6 ∧ x + 29 + 6 < N := ⟨by omega, by omega⟩
  have hld19 : G.2.2.1 ≤ x + 29 + 19 ∧ x + 29 + 19 < N := ⟨by omega, by omega⟩
  have hld20 : G.2.2.1 ≤ x + 29 + 20 ∧ x + 29 + 20 < N := ⟨by omega, by omega⟩
  have hld61 : G.2.2.1 ≤ x + 29 + 6 + 1 ∧ x + 29 + 6 + 1 < N := ⟨by omega, by omega⟩
  have hld65 : G.2.2.1 ≤ x + 29 + 6 + 5 ∧ x + 29 + 6 + 5 < N := ⟨by omega, by omega⟩
  have hld610 : G.2.2.1 ≤ x + 29 + 6 + 10 ∧ x + 29 + 6 + 10 < N := ⟨by omega, by omega⟩
  have hld68 : G.2.2.1 ≤ x + 29 + 6 + 8 ∧ x + 29 + 6 + 8 < N := ⟨by omega, by omega⟩
  have hl1 := ltse.2.2.1
  have hl6 := ltrc.2.2.1
  have hl20 := ltsp.2.2.1
  have hl61 := ltrc.2.2.2.1.2.2.2.1
  have hl65 := ltrc.2.2.2.2.2.1.2.2.1
  have hl68 := ltrc.2.2.2.2.2.2.1.2.2.2.1
  have hl610 := ltrc.2.2.2.2.2.2.2.2.2.1
  have hld11 : G.2.2.1 ≤ x + 29 + 1 + 1 ∧ x + 29 + 1 + 1 < N := ⟨by omega, by omega⟩
  have hld12 : G.2.2.1 ≤ x + 29 + 1 + 2 ∧ x + 29 + 1 + 2 < N := ⟨by omega, by omega⟩
  have hld13 : G.2.2.1 ≤ x + 29 + 1 + 3 ∧ x + 29 + 1 + 3 < N := ⟨by omega, by omega⟩
  have hld652 : G.2.2.1 ≤ x + 29 + 6 + 5 + 2 ∧ x + 29 + 6 + 5 + 2 < N := ⟨by omega, by omega⟩
  have hld6102 : G.2.2.1 ≤ x + 29 + 6 + 10 + 2 ∧ x + 29 + 6 + 10 + 2 < N := ⟨by omega, by omega⟩
  have hl11 := ltse.2.2.2.1
  have hl12 := ltse.2.2.2.2.1
  have hl13 := ltse.2.2.2.2.2
  have hl652 := ltrc.2.2.2.2.2.1.2.2.2.2
  have hl6102 := ltrc.2.2.2.2.2.2.2.2.2.2.2
  have phase13 : ∀ (sh' : zH) (v' : zV) (q' : Nat → Nat) (k : Nat), zXR G sh' N x q' → k < 8 → v' x 5 = nI k → zt v' (x + 1) M → (∀ w : zV, w x 5 = nI (k + 1) → zt w (x + 60 + 28 * q' k) M → (∀ b, b ≠ x → (b < x + 60 + 28 * q' k ∨ x + 60 + 28 * q' k + 28 ≤ b) → w b = v' b) → (∀ j, j ≠ 5 → w x j = v' x j) → (none : Option Value) = none ∧ ∃ q1, zXR G sh' N x q1 ∧ (∀ b, b ≠ x + 57 → sh' b = sh b) ∧ zt w (x + 1) M ∧ zxh w x q1 (remH M h) ∧ zfr v w x 340) → VV p l e ({ frames := 5, cells := 0, slots := 0, locals := 32 * 5 }) s m args below meth c 0 0 (zQ below (fun r sh1 v1 N1 => N = N1 ∧ (r = none ∧ ∃ q1, zXR G sh1 N x q1 ∧ (∀ b, b ≠ x + 57 → sh1 b = sh b) ∧ zt v1 (x + 1) M ∧ zxh v1 x q1 (remH M h) ∧ zfr v v1 x 340)) G args s 0 0) G 1 sh' v' N 13 [some (.ref x)] [] := by
    intro sh' v' q' k X1 hk8 X2 X3 fin
    obtain ⟨-, -, gs0, gs57, -, -, gnw, -, gh, -, gpq⟩ := id X1
    have gnow := gnw.2.2.1
    have hqk := gpq.1 k hk8
    have ghz := gh (q' k) hqk
    have ghs := ghz.2.2.1
    have ghd : G.2.2.1 ≤ x + 60 + 28 * q' k ∧ x + 60 + 28 * q' k < N := ⟨by omega, by omega⟩
    refine r_aload_n C (pc := 13) rfl rfl dX6_remember_13 ?_
    refine r_get C (pc := 14) (ci := 6) (k := 2) (w := .ref (x + 57)) rfl (by decide) inX6 (by decide) q_233 (Or.inl hd0) gs0 (zl_ref _ _) dX6_remember_14 ?_
    refine r_aload_n C (pc := 17) rfl rfl dX6_remember_17 ?_
    refine r_get C (pc := 18) (ci := 6) (k := 5) (w := .int (nI k)) rfl (by decide) inX6 (by decide) q_236 (Or.inl hd0) gs0 (zl_i (X2)) dX6_remember_18 ?_
    refine r_aald C (pc := 21) (w := .ref (x + 60 + 28 * q' k)) (Or.inl hd57) gs57 (by decide) rfl (by omega) (by omega) (by rw [show hpt x q' k = x + 60 + 28 * q' k + 2 from rfl]; rfl) dX6_remember_21 ?_
    refine r_aload_n C (pc := 22) rfl rfl dX6_remember_22 ?_
    refine r_get C (pc := 23) (ci := 6) (k := 0) (w := .ref (x + 1)) rfl (by decide) inX6 (by decide) q_231 (Or.inl hd0) gs0 (zl_ref _ _) dX6_remember_23 ?_
    refine r_callV C (pc := 26) (st := []) (m_X5_copyFrom l G sh' v' N (t := x + 60 + 28 * q' k) (o := x + 1) ghz gnw X3 (by omega)) kyX5_copyFrom q_281 rfl (Or.inl ghd) ghs (by decide) rfl rfl rfl (Nat.le_of_ble_eq_true rfl) ⟨Nat.le_of_ble_eq_true rfl, Nat.le_of_ble_eq_true rfl⟩ ⟨Nat.le_of_ble_eq_true rfl, Nat.le_of_ble_eq_true rfl⟩ dX6_remember_26 (fun r26 v26 hp26 => ?_)
    obtain ⟨rfl, g1, g2⟩ := hp26
    refine VV.eq (st2 := []) rfl ?_
    refine r_aload_n C (pc := 29) rfl rfl dX6_remember_29 ?_
    refine r_dup C (pc := 30) rfl dX6_remember_30 ?_
    refine r_get C (pc := 31) (ci := 6) (k := 5) (w := .int (nI k)) rfl (by decide) inX6 (by decide) q_236 (Or.inl hd0) gs0 (zl_i (by rw [g2 x (by omega)]; exact X2)) dX6_remember_31 ?_
    refine r_iconst C (pc := 34) (x := (nI 1)) (by decide) dX6_remember_34 ?_
    refine r_iadd C (pc := 35) (z := (nI (k + 1))) (nI_add _ _) dX6_remember_35 ?_
    refine r_put C (pc := 36) (ci := 6) (k := 5) rfl (by decide) inX6 tyX6_ok nmX6 (by decide) rfl pfI rfl q_236 hd0 gs0 dX6_remember_36 ?_
    refine VV.gn (fun w36 ew36 => ?_)
    exact r_vret C (pc := 39) rfl dX6_remember_39 ⟨rfl, fin w36 (by rw [ew36, z2_self]) (by rw [ew36]; exact zt_all g1 (fun b h1 h2 => z2_addr (by omega))) (fun b h1 h2 => by rw [ew36, z2_addr h1]; exact g2 b h2) (fun j hj => by rw [ew36, z2_ne (by omega), g2 x (by omega)])⟩
  refine r_aload_n C (pc := 0) rfl rfl dX6_remember_0 ?_
  refine r_get C (pc := 1) (ci := 6) (k := 5) (w := .int (nI h.1)) rfl (by decide) inX6 (by decide) q_236 (Or.inl hd0) hs0 (zl_i (hh.1)) dX6_remember_1 ?_
  refine r_bipush C (pc := 4) (x := (nI 8)) (by decide) dX6_remember_4 ?_
  refine n_icmp_lt C (pc := 6) (tgt := 13) (by have := hh.2.1; omega) (by decide) dX6_remember_6 (by decide) (fun c_6 => ?_) (fun c_6 => ?_)
  · refine phase13 sh v q h.1 hX c_6 hh.1 hv (fun w g1 g2 g3 g4 => ⟨rfl, q, hX, fun _ _ => rfl, zt_all hv (fun b h1 h2 => g3 b (by omega) (by omega)), ?_, fun b hb => g3 b (by omega) (by have := hpq.1 h.1 c_6; omega)⟩)
    have hrm : remH M h = (h.1 + 1, (fun i => if i = h.1 then M else h.2.1 i), h.2.2) := if_neg (by omega)
    rw [hrm]
    refine ⟨g1, by show h.1 + 1 ≤ 8; omega, fun i hi => ?_, fun i hi => by rw [g3 _ (by omega) (by omega)]; exact hh.2.2.2.1 i hi, fun i hi hf => zt_all (hh.2.2.2.2 i hi hf) (fun b h1 h2 => g3 b (by omega) (by have := hpq.1 h.1 c_6; omega))⟩
    have hi2 : i < h.1 + 1 := hi
    show zt w _ (if i = h.1 then M else h.2.1 i)
    by_cases hih : i = h.1
    · rw [if_pos hih, hih]; exact g2
    · rw [if_neg hih]
      refine zt_all (hh.2.2.1 i (by omega)) (fun b h1 h2 => g3 b (by omega) ?_)
      have hne : q i ≠ q h.1 := fun z => hih (hpq.2 i (by omega) h.1 c_6 z)
      omega
  · refine r_aload_n C (pc := 9) rfl rfl dX6_remember_9 ?_
    refine r_callVM C (pc := 10) (st := []) (m_X6_dropOldestRecord l G sh v N (q := q) hX) kyX6_dropOldestRecord q_277 rfl (Or.inl hd0) hs0 (by decide) rfl rfl rfl (Nat.le_of_ble_eq_true rfl) ⟨Nat.le_of_ble_eq_true rfl, Nat.le_of_ble_eq_true rfl⟩ ⟨Nat.le_of_ble_eq_true rfl, Nat.le_of_ble_eq_true rfl⟩ dX6_remember_10 (fun r10 s' v10 N' hp10 => ?_)
    obtain ⟨hN, rfl, e1, e2⟩ := hp10
    subst hN
    refine VV.c0 ?_
    refine VV.eq (st2 := []) rfl ?_
    have h8 : h.1 = 8 := by have := hh.2.1; omega
    have hXr : zXR G s' N x (rot q) := zXR_sh hX (rot_pq hpq) (by rw [e1, s2_self]) (fun b hb => by rw [e1, s2_ne hb])
    have ho : ∀ b, b ≠ x → v10 b = v b := fun b hb => by rw [e2, z2_addr hb]
    have hr7 : rot q 7 = q 0 := rfl
    have hq0 := hpq.1 0 (by decide)
    refine phase13 s' v10 (rot q) 7 hXr (by decide) (by rw [e2, z2_self]) (zt_all hv (fun b h1 h2 => ho b (by omega))) (fun w g1 g2 g3 g4 => ⟨rfl, rot q, hXr, fun b hb => by rw [e1, s2_ne hb], zt_all hv (fun b h1 h2 => by rw [g3 b (by omega) (by omega)]; exact ho b (by omega)), ?_, fun b hb => by rw [g3 b (by omega) (by rw [hr7]; omega)]; exact ho b (by omega)⟩)
    rw [hr7] at g2 g3
    have hrm : remH M h = (8, (fun i => if i < 7 then h.2.1 (i + 1) else M), h.2.2) := if_pos h8
    rw [hrm]
    refine ⟨g1, Nat.le_refl 8, fun i hi => ?_, fun i hi => by rw [g3 _ (by omega) (by omega), ho _ (by omega)]; exact hh.2.2.2.1 i hi, fun i hi hf => zt_all (hh.2.2.2.2 i hi hf) (fun b h1 h2 => by rw [g3 b (by omega) (by omega)]; exact ho b (by omega))⟩
    have hi8 : i < 8 := hi
    show zt w (x + 60 + 28 * rot q i) (if i < 7 then h.2.1 (i + 1) else M)
    by_cases hi7 : i < 7
    · rw [if_pos hi7, show rot q i = q (i + 1) from if_pos hi7]
      refine zt_all (hh.2.2.1 (i + 1) (by omega)) (fun b h1 h2 => ?_)
      have hne : q (i + 1) ≠ q 0 := fun z => by
        have := hpq.2 (i + 1) (by omega) 0 (by decide) z
        omega
      have := hpq.1 (i + 1) (by omega)
      rw [g3 b (by omega) (by omega)]
      exact ho b (by omega)
    · rw [if_neg hi7]
      obtain rfl : i = 7 := by omega
      rw [hr7]
      exact g2
