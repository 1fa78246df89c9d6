theorem zxh_now {v v1 : zV} {x : Nat} {q : Nat → Nat} {h : zHs} (g : zxh v x q h) (hq : pq q) (k : zfr v v1 (x + 1) 28) : zxh v1 x q h := g.kept hq (congrFun (k x (by omega)) 5) (k _ (by omega)) (fun b h1 h2 => k b (by omega))
theorem zse_v {v : zV} {u : Nat} {c : Nat → Nat} {b x : Nat} (h : zse v u c) (hb : b < 12) : zse (z2 v (u + 1) b (nI x)) u (upc c (17 + b) x) := by
  obtain ⟨h0, h1, h3, h4, h5, h6, hv, hl, hw⟩ := h
  have e : ∀ i, i ≠ 17 + b → upc c (17 + b) x i = c i := fun i hi => upc_n hi
  have o : ∀ a, a ≠ u + 1 → z2 v (u + 1) b (nI x) a = v a := fun a ha => z2_addr ha
  refine ⟨by rw [o u (by omega), e 0 (by omega)]; exact h0, by rw [o u (by omega), e 1 (by omega)]; exact h1, by rw [o u (by omega), e 3 (by omega)]; exact h3, by rw [o u (by omega), e 4 (by omega)]; exact h4, by rw [o u (by omega), e 5 (by omega)]; exact h5, by rw [o u (by omega), e 6 (by omega)]; exact h6, fun c hc => ?_, fun i hi hi4 => by rw [e 1 (by omega)] at hi; rw [o _ (by omega), e _ (by omega)]; exact hl i hi hi4, fun d hd => by rw [o _ (by omega), e _ (by omega)]; exact hw d hd⟩
  by_cases hcb : c = b
  · subst hcb; rw [z2_self, upc_s]
  · rw [z2_ne (by omega), e _ (by omega)]; exact hv c hc
theorem zse_l {v : zV} {u : Nat} {c : Nat → Nat} {b x : Nat} (h : zse v u c) (hb : b < 4) : zse (z2 v (u + 2) b (nI x)) u (upc c (7 + b) x) := by
  obtain ⟨h0, h1, h3, h4, h5, h6, hv, hl, hw⟩ := h
  have e : ∀ i, i ≠ 7 + b → upc c (7 + b) x i = c i := fun i hi => upc_n hi
  have o : ∀ a, a ≠ u + 2 → z2 v (u + 2) b (nI x) a = v a := fun a ha => z2_addr ha
  refine ⟨by rw [o u (by omega), e 0 (by omega)]; exact h0, by rw [o u (by omega), e 1 (by omega)]; exact h1, by rw [o u (by omega), e 3 (by omega)]; exact h3, by rw [o u (by omega), e 4 (by omega)]; exact h4, by rw [o u (by omega), e 5 (by omega)]; exact h5, by rw [o u (by omega), e 6 (by omega)]; exact h6, fun c hc => by rw [o _ (by omega), e _ (by omega)]; exact hv c hc, fun i hi hi4 => ?_, fun d hd => by rw [o _ (by omega), e _ (by omega)]; exact hw d hd⟩
  rw [e 1 (by omega)] at hi
  by_cases hcb : i = b
  · subst hcb; rw [z2_self, upc_s]
  · rw [z2_ne (by omega), e _ (by omega)]; exact hl i hi hi4
theorem zse_w {v : zV} {u : Nat} {c : Nat → Nat} {b x : Nat} (h : zse v u c) (hb : b < 6) : zse (z2 v (u + 3) (b + 1) (nI x)) u (upc c (11 + b) x) := by
  obtain ⟨h0, h1, h3, h4, h5, h6, hv, hl, hw⟩ := h
  have e : ∀ i, i ≠ 11 + b → upc c (11 + b) x i = c i := fun i hi => upc_n hi
  have o : ∀ a, a ≠ u + 3 → z2 v (u + 3) (b + 1) (nI x) a = v a := fun a ha => z2_addr ha
  refine ⟨by rw [o u (by omega), e 0 (by omega)]; exact h0, by rw [o u (by omega), e 1 (by omega)]; exact h1, by rw [o u (by omega), e 3 (by omega)]; exact h3, by rw [o u (by omega), e 4 (by omega)]; exact h4, by rw [o u (by omega), e 5 (by omega)]; exact h5, by rw [o u (by omega), e 6 (by omega)]; exact h6, fun c hc => by rw [o _ (by omega), e _ (by omega)]; exact hv c hc, fun i hi hi4 => by rw [e 1 (by omega)] at hi; rw [o _ (by omega), e _ (by omega)]; exact hl i hi hi4, fun d hd => ?_⟩
  by_cases hcb : d = b
  · subst hcb; rw [z2_self, upc_s]
  · rw [z2_ne (by omega), e _ (by omega)]; exact hw d hd
/-- a block's value is set, nothing is known yet -/
theorem zt_val {v : zV} {t b x : Nat} {M : zMS} (h : zt v t M) (hb : b < 12) (hs : M.2.2.1 = fun _ => none) (hk : M.2.2.2 = fun _ => none) : zt (z2 v (t + 1 + 1) b (nI x)) t (upc M.1 (17 + b) x, M.2) := by
  obtain ⟨h1, h2, h3, h4, h5, h6⟩ := h
  have e : ∀ i, i < 17 ∨ 29 ≤ i → upc M.1 (17 + b) x i = M.1 i := fun i hi => upc_n (by omega)
  have o : ∀ a, a ≠ t + 1 + 1 → z2 v (t + 1 + 1) b (nI x) a = v a := fun a ha => z2_addr ha
  refine ⟨by rw [o t (by omega)]; dsimp only; rw [e 2 (by omega)]; exact h1, by rw [o t (by omega)]; dsimp only; rw [e 29 (by omega)]; exact h2, by rw [o t (by omega)]; dsimp only; rw [e 30 (by omega)]; exact h3, zse_v h4 hb, fun r hr => (h5 r hr).kept (o _ (by omega)) (o _ (by omega)), ?_⟩
  have h7 := h6.kept (v1 := z2 v (t + 1 + 1) b (nI x)) (fun a g1 g2 => o a (by omega))
  dsimp only
  rw [e 31 (by omega), e 32 (by omega), e 33 (by omega)]
  rw [hs, hk] at h7 ⊢
  exact zrc_V h7
theorem und_0 {n : Nat} (h : n ≤ 8) (k : ¬ (nI 1 ≤ nI n ∧ nI n ≤ nI 8)) : n = 0 := by
  by_cases h0 : n = 0
  · exact h0
  · exact absurd ⟨(nI_leI (by decide) (by omega)).mpr (by omega), (nI_leI (by omega) (by decide)).mpr h⟩ k
theorem und_1 {n : Nat} (h : n ≤ 8) (k : nI 1 ≤ nI n ∧ nI n ≤ nI 8) : 1 ≤ n := (nI_leI (by decide) (by omega)).mp k.1
theorem img_p {x y : Nat} (h : y < 2) : pts [x + 284 + 2, x + 284 + 28 + 2] y = x + 284 + 28 * y + 2 := by
  rcases (show y = 0 ∨ y = 1 by omega) with rfl | rfl <;> rfl
set_option maxRecDepth 100000 in
set_option maxHeartbeats 4000000 in
theorem m_X6_begin (l : Launch) (G : zG) (sh : zH) (v : zV) (N : Nat) {x : Nat} {q : Nat → Nat} {M : zMS} {h : zHs} {T : Nat} {a b : Int32} (hX : zXR G sh N x q) (hv : zt v (x + 1) M) (hh : zxh v x q h) (hI : zI T (M, h)) (hT : T + 1000 < 2 ^ 30) : zM l G yX6_begin cX6_begin 4 (some .int) 6 0 0 [.ref x, .int a, .int b] sh v N (fun r sh1 v1 N1 => N = N1 ∧ (∃ q1, zXR G sh1 N x q1 ∧ (∀ b, b ≠ x + 57 → sh1 b = sh b) ∧ r = some (.int (oBegin a b (M, h)).1) ∧ zt v1 (x + 1) (oBegin a b (M, h)).2.1 ∧ zxh v1 x q1 (oBegin a b (M, h)).2.2 ∧ zfr v v1 x 340)) := by
  refine zM.of (by decide) rfl (Nat.le_of_ble_eq_true rfl) ?_
  intro p e s m args below meth c C
  obtain ⟨xB, xN, hs0, hs57, hs58, hs59, hnow, htri, hhis, himg, hpq⟩ := id hX
  have hd0 : G.2.2.1 ≤ x ∧ x < N := ⟨xB, by omega⟩
  have hd57 : G.2.2.1 ≤ x + 57 ∧ x + 57 < N := ⟨by omega, by omega⟩
  have hd58 : G.2.2.1 ≤ x + 58 ∧ x + 58 < N := ⟨by omega, by omega⟩
  have hd59 : G.2.2.1 ≤ x + 59 ∧ x + 59 < N := ⟨by omega, by omega⟩
  obtain ⟨ntB, ntN, hn0, ntse, hn5, ntrc, hn19, ntsp, ntst⟩ := id hnow
  have hnd0 : G.2.2.1 ≤ x + 1 ∧ x + 1 < N := ⟨by omega, by omega⟩
  have hnd1 : G.2.2.1 ≤ x + 1 + 1 ∧ x + 1 + 1 < N := ⟨by omega, by omega⟩
  have hnd5 : G.2.2.1 ≤ x + 1 + 5 ∧ x + 1 + 5 < N := ⟨by omega, by omega⟩
  have hnd6 : G.2.2.1 ≤ x + 1 + 6 ∧ x + 1 + 6 < N := ⟨by omega, by omega⟩
  have hnd19 : G.2.2.1 ≤ x + 1 + 19 ∧ x + 1 + 19 < N := ⟨by omega, by omega⟩
  have hnd20 : G.2.2.1 ≤ x + 1 + 20 ∧ x + 1 + 20 < N := ⟨by omega, by omega⟩
  have hnd61 : G.2.2.1 ≤ x + 1 + 6 + 1 ∧ x + 1 + 6 + 1 < N := ⟨by omega, by omega⟩
  have hnd65 : G.2.2.1 ≤ x + 1 + 6 + 5 ∧ x + 1 + 6 + 5 < N := ⟨by omega, by omega⟩
  have hnd610 : G.2.2.1 ≤ x + 1 + 6 + 10 ∧ x + 1 + 6 + 10 < N := ⟨by omega, by omega⟩
  have hnd68 : G.2.2.1 ≤ x + 1 + 6 + 8 ∧ x + 1 + 6 + 8 < N := ⟨by omega, by omega⟩
  have hn1 := ntse.2.2.1
  have hn6 := ntrc.2.2.1
  have hn20 := ntsp.2.2.1
  have hn61 := ntrc.2.2.2.1.2.2.2.1
  have hn65 := ntrc.2.2.2.2.2.1.2.2.1
  have hn68 := ntrc.2.2.2.2.2.2.1.2.2.2.1
  have hn610 := ntrc.2.2.2.2.2.2.2.2.2.1
  have hnd11 : G.2.2.1 ≤ x + 1 + 1 + 1 ∧ x + 1 + 1 + 1 < N := ⟨by omega, by omega⟩
  have hnd12 : G.2.2.1 ≤ x + 1 + 1 + 2 ∧ x + 1 + 1 + 2 < N := ⟨by omega, by omega⟩
  have hnd13 : G.2.2.1 ≤ x + 1 + 1 + 3 ∧ x + 1 + 1 + 3 < N := ⟨by omega, by omega⟩
  have hnd652 : G.2.2.1 ≤ x + 1 + 6 + 5 + 2 ∧ x + 1 + 6 + 5 + 2 < N := ⟨by omega, by omega⟩
  have hnd6102 : G.2.2.1 ≤ x + 1 + 6 + 10 + 2 ∧ x + 1 + 6 + 10 + 2 < N := ⟨by omega, by omega⟩
  have hn11 := ntse.2.2.2.1
  have hn12 := ntse.2.2.2.2.1
  have hn13 := ntse.2.2.2.2.2
  have hn652 := ntrc.2.2.2.2.2.1.2.2.2.2
  have hn6102 := ntrc.2.2.2.2.2.2.2.2.2.2.2
  obtain ⟨ltB, ltN, hl0, ltse, hl5, ltrc, hl19, ltsp, ltst⟩ := id htri
  have hld0 : G.2.2.1 ≤ x + 29 ∧ x + 29 < N := ⟨by omega, by omega⟩
  have hld1 : G.2.2.1 ≤ x + 29 + 1 ∧ x + 29 + 1 < N := ⟨by omega, by omega⟩
  have hld5 : G.2.2.1 ≤ x + 29 + 5 ∧ x + 29 + 5 < N := ⟨by omega, by omega⟩
  have hld6 : G.2.2.1 ≤ x + 29 + 6 ∧ x + 29 + 6 < N := ⟨by omega, by omega⟩
  have hld19 : G.2.2.1 ≤ x + 29 + 19 ∧ x + 29 + 19 < N := ⟨by omega, by omega⟩
  have hld20 : G.2.2.1 ≤ x + 29 + 20 ∧ x + 29 + 20 < N := ⟨by omega, by omega⟩
  have hld61 : G.2.2.1 ≤ x + 29 + 6 + 1 ∧ x + 29 + 6 + 1 < N := ⟨by omega, by omega⟩
  have hld65 : G.2.2.1 ≤ x + 29 + 6 + 5 ∧ x + 29 + 6 + 5 < N := ⟨by omega, by omega⟩
  have hld610 : G.2.2.1 ≤ x + 29 + 6 + 10 ∧ x + 29 + 6 + 10 < N := ⟨by omega, by omega⟩
  have hld68 : G.2.2.1 ≤ x + 29 + 6 + 8 ∧ x + 29 + 6 + 8 < N := ⟨by omega, by omega⟩
  have hl1 := ltse.2.2.1
  have hl6 := ltrc.2.2.1
  have hl20 := ltsp.2.2.1
  have hl61 := ltrc.2.2.2.1.2.2.2.1
  have hl65 := ltrc.2.2.2.2.2.1.2.2.1
  have hl68 := ltrc.2.2.2.2.2.2.1.2.2.2.1
  have hl610 := ltrc.2.2.2.2.2.2.2.2.2.1
  have hld11 : G.2.2.1 ≤ x + 29 + 1 + 1 ∧ x + 29 + 1 + 1 < N := ⟨by omega, by omega⟩
  have hld12 : G.2.2.1 ≤ x + 29 + 1 + 2 ∧ x + 29 + 1 + 2 < N := ⟨by omega, by omega⟩
  have hld13 : G.2.2.1 ≤ x + 29 + 1 + 3 ∧ x + 29 + 1 + 3 < N := ⟨by omega, by omega⟩
  have hld652 : G.2.2.1 ≤ x + 29 + 6 + 5 + 2 ∧ x + 29 + 6 + 5 + 2 < N := ⟨by omega, by omega⟩
  have hld6102 : G.2.2.1 ≤ x + 29 + 6 + 10 + 2 ∧ x + 29 + 6 + 10 + 2 < N := ⟨by omega, by omega⟩
  have hl11 := ltse.2.2.2.1
  have hl12 := ltse.2.2.2.2.1
  have hl13 := ltse.2.2.2.2.2
  have hl652 := ltrc.2.2.2.2.2.1.2.2.2.2
  have hl6102 := ltrc.2.2.2.2.2.2.2.2.2.2.2
  have hE : zE M := hI.1.1
  have hk : mOK M := hE.1
  have hK2 := hk.1.1
  have hK12 := hk.1.2.1
  have hR3 := hk.1.2.2.1
  refine r_iload_n C (pc := 0) rfl rfl dX6_begin_0 ?_
  refine r_iconst C (pc := 1) (x := (nI 2)) (by decide) dX6_begin_1 ?_
  refine r_bipush C (pc := 2) (x := (nI 12)) (by decide) dX6_begin_2 ?_
  refine r_callS C (pc := 4) (st := []) (m_X6_isWithin l G sh v N (x := a) (lo := (nI 2)) (hi := (nI 12))) kyX6_isWithin q_270 rfl rfl (Nat.le_of_ble_eq_true rfl) ⟨Nat.le_of_ble_eq_true rfl, Nat.le_of_ble_eq_true rfl⟩ ⟨Nat.le_of_ble_eq_true rfl, Nat.le_of_ble_eq_true rfl⟩ dX6_begin_4 (fun r4 v4 hp4 => ?_)
  obtain ⟨rfl, ehp4⟩ := hp4
  refine VV.vq ehp4 ?_
  refine VV.eq (st2 := [.int (zb (decide ((nI 2) ≤ a ∧ a ≤ (nI 12))))]) rfl ?_
  refine n_ifb_eq C (pc := 7) (tgt := 19) dX6_begin_7 (by decide) (fun c_7 => ?_) (fun c_7 => ?_)
  · refine r_iconst C (pc := 19) (x := (-1)) (by decide) dX6_begin_19 ?_
    exact r_iret C (pc := 20) rfl (rfl) dX6_begin_20 ⟨rfl, (by have ho : oBegin a b (M, h) = (-1, (M, h)) := if_neg (fun z => (of_decide_eq_false c_7) z.1); rw [ho]; exact ⟨q, hX, fun _ _ => rfl, rfl, hv, hh, zfr.rf⟩)⟩
  · refine r_iload_n C (pc := 10) rfl rfl dX6_begin_10 ?_
    refine r_iconst C (pc := 11) (x := (nI 0)) (by decide) dX6_begin_11 ?_
    refine r_iconst C (pc := 12) (x := (nI 3)) (by decide) dX6_begin_12 ?_
    refine r_callS C (pc := 13) (st := []) (m_X6_isWithin l G sh v N (x := b) (lo := (nI 0)) (hi := (nI 3))) kyX6_isWithin q_270 rfl rfl (Nat.le_of_ble_eq_true rfl) ⟨Nat.le_of_ble_eq_true rfl, Nat.le_of_ble_eq_true rfl⟩ ⟨Nat.le_of_ble_eq_true rfl, Nat.le_of_ble_eq_true rfl⟩ dX6_begin_13 (fun r13 v13 hp13 => ?_)
    obtain ⟨rfl, ehp13⟩ := hp13
    refine VV.vq ehp13 ?_
    refine VV.eq (st2 := [.int (zb (decide ((nI 0) ≤ b ∧ b ≤ (nI 3))))]) rfl ?_
    refine n_ifb_ne C (pc := 16) (tgt := 21) dX6_begin_16 (by decide) (fun c_16 => ?_) (fun c_16 => ?_)
    · have hc1 := (of_decide_eq_true c_7)
      have hc2 := (of_decide_eq_true c_16)
      obtain ⟨K, hK1, hK2, rfl⟩ := inR (of_decide_eq_true c_7) (by omega) (by omega)
      obtain ⟨R, hR1, hR2, rfl⟩ := inR (of_decide_eq_true c_16) (by omega) (by omega)
      refine r_aload_n C (pc := 21) rfl rfl dX6_begin_21 ?_
      refine r_callVM C (pc := 22) (st := []) (m_X6_remember l G sh v N hX hv hh) kyX6_remember q_273 rfl (Or.inl hd0) hs0 (by decide) rfl rfl rfl (Nat.le_of_ble_eq_true rfl) ⟨Nat.le_of_ble_eq_true rfl, Nat.le_of_ble_eq_true rfl⟩ ⟨Nat.le_of_ble_eq_true rfl, Nat.le_of_ble_eq_true rfl⟩ dX6_begin_22 (fun r22 sh v22 N' hp22 => ?_)
      obtain ⟨hN, rfl, q1, X1, X2, X3, X4, X5⟩ := hp22
      subst hN
      obtain ⟨xB, xN, hs0, hs57, hs58, hs59, hnow, htri, hhis, himg, hpq⟩ := id X1
      have hd0 : G.2.2.1 ≤ x ∧ x < N := ⟨xB, by omega⟩
      have hd57 : G.2.2.1 ≤ x + 57 ∧ x + 57 < N := ⟨by omega, by omega⟩
      have hd58 : G.2.2.1 ≤ x + 58 ∧ x + 58 < N := ⟨by omega, by omega⟩
      have hd59 : G.2.2.1 ≤ x + 59 ∧ x + 59 < N := ⟨by omega, by omega⟩
      obtain ⟨ntB, ntN, hn0, ntse, hn5, ntrc, hn19, ntsp, ntst⟩ := id hnow
      have hnd0 : G.2.2.1 ≤ x + 1 ∧ x + 1 < N := ⟨by omega, by omega⟩
      have hnd1 : G.2.2.1 ≤ x + 1 + 1 ∧ x + 1 + 1 < N := ⟨by omega, by omega⟩
      have hnd5 : G.2.2.1 ≤ x + 1 + 5 ∧ x + 1 + 5 < N := ⟨by omega, by omega⟩
      have hnd6 : G.2.2.1 ≤ x + 1 + 6 ∧ x + 1 + 6 < N := ⟨by omega, by omega⟩
      have hnd19 : G.2.2.1 ≤ x + 1 + 19 ∧ x + 1 + 19 < N := ⟨by omega, by omega⟩
      have hnd20 : G.2.2.1 ≤ x + 1 + 20 ∧ x + 1 + 20 < N := ⟨by omega, by omega⟩
      have hnd61 : G.2.2.1 ≤ x + 1 + 6 + 1 ∧ x + 1 + 6 + 1 < N := ⟨by omega, by omega⟩
      have hnd65 : G.2.2.1 ≤ x + 1 + 6 + 5 ∧ x + 1 + 6 + 5 < N := ⟨by omega, by omega⟩
      have hnd610 : G.2.2.1 ≤ x + 1 + 6 + 10 ∧ x + 1 + 6 + 10 < N := ⟨by omega, by omega⟩
      have hnd68 : G.2.2.1 ≤ x + 1 + 6 + 8 ∧ x + 1 + 6 + 8 < N := ⟨by omega, by omega⟩
      have hn1 := ntse.2.2.1
      have hn6 := ntrc.2.2.1
      have hn20 := ntsp.2.2.1
      have hn61 := ntrc.2.2.2.1.2.2.2.1
      have hn65 := ntrc.2.2.2.2.2.1.2.2.1
      have hn68 := ntrc.2.2.2.2.2.2.1.2.2.2.1
      have hn610 := ntrc.2.2.2.2.2.2.2.2.2.1
      have hnd11 : G.2.2.1 ≤ x + 1 + 1 + 1 ∧ x + 1 + 1 + 1 < N := ⟨by omega, by omega⟩
      have hnd12 : G.2.2.1 ≤ x + 1 + 1 + 2 ∧ x + 1 + 1 + 2 < N := ⟨by omega, by omega⟩
      have hnd13 : G.2.2.1 ≤ x + 1 + 1 + 3 ∧ x + 1 + 1 + 3 < N := ⟨by omega, by omega⟩
      have hnd652 : G.2.2.1 ≤ x + 1 + 6 + 5 + 2 ∧ x + 1 + 6 + 5 + 2 < N := ⟨by omega, by omega⟩
      have hnd6102 : G.2.2.1 ≤ x + 1 + 6 + 10 + 2 ∧ x + 1 + 6 + 10 + 2 < N := ⟨by omega, by omega⟩
      have hn11 := ntse.2.2.2.1
      have hn12 := ntse.2.2.2.2.1
      have hn13 := ntse.2.2.2.2.2
      have hn652 := ntrc.2.2.2.2.2.1.2.2.2.2
      have hn6102 := ntrc.2.2.2.2.2.2.2.2.2.2.2
      obtain ⟨ltB, ltN, hl0, ltse, hl5, ltrc, hl19, ltsp, ltst⟩ := id htri
      have hld0 : G.2.2.1 ≤ x + 29 ∧ x + 29 < N := ⟨by omega, by omega⟩
      have hld1 : G.2.2.1 ≤ x + 29 + 1 ∧ x + 29 + 1 < N := ⟨by omega, by omega⟩
      have hld5 : G.2.2.1 ≤ x + 29 + 5 ∧ x + 29 + 5 < N := ⟨by omega, by omega⟩
      have hld6 : G.2.2.1 ≤ x + 29 + 6 ∧ x + 29 + 6 < N := ⟨by omega, by omega⟩
      have hld19 : G.2.2.1 ≤ x + 29 + 19 ∧ x + 29 + 19 < N := ⟨by omega, by omega⟩
      have hld20 : G.2.2.1 ≤ x + 29 + 20 ∧ x + 29 + 20 < N := ⟨by omega, by omega⟩
      have hld61 : G.2.2.1 ≤ x + 29 + 6 + 1 ∧ x + 29 + 6 + 1 < N := ⟨by omega, by omega⟩
      have hld65 : G.2.2.1 ≤ x + 29 + 6 + 5 ∧ x + 29 + 6 + 5 < N := ⟨by omega, by omega⟩
      have hld610 : G.2.2.1 ≤ x + 29 + 6 + 10 ∧ x + 29 + 6 + 10 < N := ⟨by omega, by omega⟩
      have hld68 : G.2.2.1 ≤ x + 29 + 6 + 8 ∧ x + 29 + 6 + 8 < N := ⟨by omega, by omega⟩
      have hl1 := ltse.2.2.1
      have hl6 := ltrc.2.2.1
      have hl20 := ltsp.2.2.1
      have hl61 := ltrc.2.2.2.1.2.2.2.1
      have hl65 := ltrc.2.2.2.2.2.1.2.2.1
      have hl68 := ltrc.2.2.2.2.2.2.1.2.2.2.1
      have hl610 := ltrc.2.2.2.2.2.2.2.2.2.1
      have hld11 : G.2.2.1 ≤ x + 29 + 1 + 1 ∧ x + 29 + 1 + 1 < N := ⟨by omega, by omega⟩
      have hld12 : G.2.2.1 ≤ x + 29 + 1 + 2 ∧ x + 29 + 1 + 2 < N := ⟨by omega, by omega⟩
      have hld13 : G.2.2.1 ≤ x + 29 + 1 + 3 ∧ x + 29 + 1 + 3 < N := ⟨by omega, by omega⟩
      have hld652 : G.2.2.1 ≤ x + 29 + 6 + 5 + 2 ∧ x + 29 + 6 + 5 + 2 < N := ⟨by omega, by omega⟩
      have hld6102 : G.2.2.1 ≤ x + 29 + 6 + 10 + 2 ∧ x + 29 + 6 + 10 + 2 < N := ⟨by omega, by omega⟩
      have hl11 := ltse.2.2.2.1
      have hl12 := ltse.2.2.2.2.1
      have hl13 := ltse.2.2.2.2.2
      have hl652 := ltrc.2.2.2.2.2.1.2.2.2.2
      have hl6102 := ltrc.2.2.2.2.2.2.2.2.2.2.2
      refine VV.c0 ?_
      refine VV.eq (st2 := []) rfl ?_
      refine r_aload_n C (pc := 25) rfl rfl dX6_begin_25 ?_
      refine r_get C (pc := 26) (ci := 6) (k := 0) (w := .ref (x + 1)) rfl (by decide) inX6 (by decide) q_231 (Or.inl hd0) hs0 (zl_ref _ _) dX6_begin_26 ?_
      refine r_getN C (pc := 29) (ci := 5) (k := 3) (w := .int (nI (M.1 2))) rfl (by decide) inX5 (by decide) q_206 (Or.inl hnd0) hn0 (zl_i (X3.1)) dX6_begin_29 ?_
      refine r_istore_n C (pc := 32) (lv2 := [some (.ref x), some (.int (nI K)), some (.int (nI R)), some (.int (nI (M.1 2)))]) rfl (Nat.le_of_ble_eq_true rfl) rfl rfl dX6_begin_32 ?_
      refine r_aload_n C (pc := 33) rfl rfl dX6_begin_33 ?_
      refine r_get C (pc := 34) (ci := 6) (k := 0) (w := .ref (x + 1)) rfl (by decide) inX6 (by decide) q_231 (Or.inl hd0) hs0 (zl_ref _ _) dX6_begin_34 ?_
      refine r_iload_n C (pc := 37) rfl rfl dX6_begin_37 ?_
      refine r_iload_n C (pc := 38) rfl rfl dX6_begin_38 ?_
      refine r_callV C (pc := 39) (st := []) (m_X5_restart l G sh v22 N (K := K) (R := R) hnow X3 hk hR2) kyX5_restart q_310 rfl (Or.inl hnd0) hn0 (by decide) rfl rfl rfl (Nat.le_of_ble_eq_true rfl) ⟨Nat.le_of_ble_eq_true rfl, Nat.le_of_ble_eq_true rfl⟩ ⟨Nat.le_of_ble_eq_true rfl, Nat.le_of_ble_eq_true rfl⟩ dX6_begin_39 (fun r39 v39 hp39 => ?_)
      obtain ⟨rfl, g4, g5⟩ := hp39
      refine VV.eq (st2 := []) rfl ?_
      refine r_iload_n C (pc := 42) rfl rfl dX6_begin_42 ?_
      exact r_iret C (pc := 43) rfl (rfl) dX6_begin_43 ⟨rfl, (by have ho : oBegin (nI K) (nI R) (M, h) = (nI (M.1 2), (layM M K R, remH M h)) := (if_pos ⟨hc1, hc2⟩).trans (by rw [nn_I (by omega), nn_I (by omega)]); rw [ho]; exact ⟨q1, X1, X2, rfl, g4, zxh_now X4 hpq (g5), X5.tr (g5.wide (by omega) (by omega))⟩)⟩
    · refine r_iconst C (pc := 19) (x := (-1)) (by decide) dX6_begin_19 ?_
      exact r_iret C (pc := 20) rfl (rfl) dX6_begin_20 ⟨rfl, (by have ho : oBegin a b (M, h) = (-1, (M, h)) := if_neg (fun z => (of_decide_eq_false c_16) z.2); rw [ho]; exact ⟨q, hX, fun _ _ => rfl, rfl, hv, hh, zfr.rf⟩)⟩
set_option maxRecDepth 100000 in
set_option maxHeartbeats 4000000 in
theorem m_X6_setBlock (l : Launch) (G : zG) (sh : zH) (v : zV) (N : Nat) {x : Nat} {q : Nat → Nat} {M : zMS} {h : zHs} {T : Nat} {a b : Int32} (hX : zXR G sh N x q) (hv : zt v (x + 1) M) (hh : zxh v x q h) (hI : zI T (M, h)) (hT : T + 1000 < 2 ^ 30) : zM l G yX6_setBlock cX6_setBlock 4 (some .int) 6 0 0 [.ref x, .int a, .int b] sh v N (fun r sh1 v1 N1 => N = N1 ∧ (∃ q1, zXR G sh1 N x q1 ∧ (∀ b, b ≠ x + 57 → sh1 b = sh b) ∧ r = some (.int (oSetBlock a b (M, h)).1) ∧ zt v1 (x + 1) (oSetBlock a b (M, h)).2.1 ∧ zxh v1 x q1 (oSetBlock a b (M, h)).2.2 ∧ zfr v v1 x 340)) := by
  refine zM.of (by decide) rfl (Nat.le_of_ble_eq_true rfl) ?_
  intro p e s m args below meth c C
  obtain ⟨xB, xN, hs0, hs57, hs58, hs59, hnow, htri, hhis, himg, hpq⟩ := id hX
  have hd0 : G.2.2.1 ≤ x ∧ x < N := ⟨xB, by omega⟩
  have hd57 : G.2.2.1 ≤ x + 57 ∧ x + 57 < N := ⟨by omega, by omega⟩
  have hd58 : G.2.2.1 ≤ x + 58 ∧ x + 58 < N := ⟨by omega, by omega⟩
  have hd59 : G.2.2.1 ≤ x + 59 ∧ x + 59 < N := ⟨by omega, by omega⟩
  obtain ⟨ntB, ntN, hn0, ntse, hn5, ntrc, hn19, ntsp, ntst⟩ := id hnow
  have hnd0 : G.2.2.1 ≤ x + 1 ∧ x + 1 < N := ⟨by omega, by omega⟩
  have hnd1 : G.2.2.1 ≤ x + 1 + 1 ∧ x + 1 + 1 < N := ⟨by omega, by omega⟩
  have hnd5 : G.2.2.1 ≤ x + 1 + 5 ∧ x + 1 + 5 < N := ⟨by omega, by omega⟩
  have hnd6 : G.2.2.1 ≤ x + 1 + 6 ∧ x + 1 + 6 < N := ⟨by omega, by omega⟩
  have hnd19 : G.2.2.1 ≤ x + 1 + 19 ∧ x + 1 + 19 < N := ⟨by omega, by omega⟩
  have hnd20 : G.2.2.1 ≤ x + 1 + 20 ∧ x + 1 + 20 < N := ⟨by omega, by omega⟩
  have hnd61 : G.2.2.1 ≤ x + 1 + 6 + 1 ∧ x + 1 + 6 + 1 < N := ⟨by omega, by omega⟩
  have hnd65 : G.2.2.1 ≤ x + 1 + 6 + 5 ∧ x + 1 + 6 + 5 < N := ⟨by omega, by omega⟩
  have hnd610 : G.2.2.1 ≤ x + 1 + 6 + 10 ∧ x + 1 + 6 + 10 < N := ⟨by omega, by omega⟩
  have hnd68 : G.2.2.1 ≤ x + 1 + 6 + 8 ∧ x + 1 + 6 + 8 < N := ⟨by omega, by omega⟩
  have hn1 := ntse.2.2.1
  have hn6 := ntrc.2.2.1
  have hn20 := ntsp.2.2.1
  have hn61 := ntrc.2.2.2.1.2.2.2.1
  have hn65 := ntrc.2.2.2.2.2.1.2.2.1
  have hn68 := ntrc.2.2.2.2.2.2.1.2.2.2.1
  have hn610 := ntrc.2.2.2.2.2.2.2.2.2.1
  have hnd11 : G.2.2.1 ≤ x + 1 + 1 + 1 ∧ x + 1 + 1 + 1 < N := ⟨by omega, by omega⟩
  have hnd12 : G.2.2.1 ≤ x + 1 + 1 + 2 ∧ x + 1 + 1 + 2 < N := ⟨by omega, by omega⟩
  have hnd13 : G.2.2.1 ≤ x + 1 + 1 + 3 ∧ x + 1 + 1 + 3 < N := ⟨by omega, by omega⟩
  have hnd652 : G.2.2.1 ≤ x + 1 + 6 + 5 + 2 ∧ x + 1 + 6 + 5 + 2 < N := ⟨by omega, by omega⟩
  have hnd6102 : G.2.2.1 ≤ x + 1 + 6 + 10 + 2 ∧ x + 1 + 6 + 10 + 2 < N := ⟨by omega, by omega⟩
  have hn11 := ntse.2.2.2.1
  have hn12 := ntse.2.2.2.2.1
  have hn13 := ntse.2.2.2.2.2
  have hn652 := ntrc.2.2.2.2.2.1.2.2.2.2
  have hn6102 := ntrc.2.2.2.2.2.2.2.2.2.2.2
  obtain ⟨ltB, ltN, hl0, ltse, hl5, ltrc, hl19, ltsp, ltst⟩ := id htri
  have hld0 : G.2.2.1 ≤ x + 29 ∧ x + 29 < N := ⟨by omega, by omega⟩
  have hld1 : G.2.2.1 ≤ x + 29 + 1 ∧ x + 29 + 1 < N := ⟨by omega, by omega⟩
  have hld5 : G.2.2.1 ≤ x + 29 + 5 ∧ x + 29 + 5 < N := ⟨by omega, by omega⟩
  have hld6 : G.2.2.1 ≤ x + 29 + 6 ∧ x + 29 + 6 < N := ⟨by omega, by omega⟩
  have hld19 : G.2.2.1 ≤ x + 29 + 19 ∧ x + 29 + 19 < N := ⟨by omega, by omega⟩
  have hld20 : G.2.2.1 ≤ x + 29 + 20 ∧ x + 29 + 20 < N := ⟨by omega, by omega⟩
  have hld61 : G.2.2.1 ≤ x + 29 + 6 + 1 ∧ x + 29 + 6 + 1 < N := ⟨by omega, by omega⟩
  have hld65 : G.2.2.1 ≤ x + 29 + 6 + 5 ∧ x + 29 + 6 + 5 < N := ⟨by omega, by omega⟩
  have hld610 : G.2.2.1 ≤ x + 29 + 6 + 10 ∧ x + 29 + 6 + 10 < N := ⟨by omega, by omega⟩
  have hld68 : G.2.2.1 ≤ x + 29 + 6 + 8 ∧ x + 29 + 6 + 8 < N := ⟨by omega, by omega⟩
  have hl1 := ltse.2.2.1
  have hl6 := ltrc.2.2.1
  have hl20 := ltsp.2.2.1
  have hl61 := ltrc.2.2.2.1.2.2.2.1
  have hl65 := ltrc.2.2.2.2.2.1.2.2.1
  have hl68 := ltrc.2.2.2.2.2.2.1.2.2.2.1
  have hl610 := ltrc.2.2.2.2.2.2.2.2.2.1
  have hld11 : G.2.2.1 ≤ x + 29 + 1 + 1 ∧ x + 29 + 1 + 1 < N := ⟨by omega, by omega⟩
  have hld12 : G.2.2.1 ≤ x + 29 + 1 + 2 ∧ x + 29 + 1 + 2 < N := ⟨by omega, by omega⟩
  have hld13 : G.2.2.1 ≤ x + 29 + 1 + 3 ∧ x + 29 + 1 + 3 < N := ⟨by omega, by omega⟩
  have hld652 : G.2.2.1 ≤ x + 29 + 6 + 5 + 2 ∧ x + 29 + 6 + 5 + 2 < N := ⟨by omega, by omega⟩
  have hld6102 : G.2.2.1 ≤ x + 29 + 6 + 10 + 2 ∧ x + 29 + 6 + 10 + 2 < N := ⟨by omega, by omega⟩
  have hl11 := ltse.2.2.2.1
  have hl12 := ltse.2.2.2.2.1
  have hl13 := ltse.2.2.2.2.2
  have hl652 := ltrc.2.2.2.2.2.1.2.2.2.2
  have hl6102 := ltrc.2.2.2.2.2.2.2.2.2.2.2
  have hE : zE M := hI.1.1
  have hk : mOK M := hE.1
  have hK2 := hk.1.1
  have hK12 := hk.1.2.1
  have hR3 := hk.1.2.2.1
  refine r_aload_n C (pc := 0) rfl rfl dX6_setBlock_0 ?_
  refine r_iload_n C (pc := 1) rfl rfl dX6_setBlock_1 ?_
  refine r_callV C (pc := 2) (st := []) (m_X6_isBlock l G sh v N (a := a) hX hv hK2) kyX6_isBlock q_339 rfl (Or.inl hd0) hs0 (by decide) rfl rfl rfl (Nat.le_of_ble_eq_true rfl) ⟨Nat.le_of_ble_eq_true rfl, Nat.le_of_ble_eq_true rfl⟩ ⟨Nat.le_of_ble_eq_true rfl, Nat.le_of_ble_eq_true rfl⟩ dX6_setBlock_2 (fun r2 v2 hp2 => ?_)
  obtain ⟨rfl, ehp2⟩ := hp2
  refine VV.vq ehp2 ?_
  refine VV.eq (st2 := [.int (zb (decide ((nI 0) ≤ a ∧ a ≤ (nI (M.1 0 - 1)))))]) rfl ?_
  refine n_ifb_eq C (pc := 5) (tgt := 19) dX6_setBlock_5 (by decide) (fun c_5 => ?_) (fun c_5 => ?_)
  · refine r_iconst C (pc := 19) (x := (-1)) (by decide) dX6_setBlock_19 ?_
    exact r_iret C (pc := 20) rfl (rfl) dX6_setBlock_20 ⟨rfl, (by have ho : oSetBlock a b (M, h) = (-1, (M, h)) := if_neg (fun z => (of_decide_eq_false c_5) z.1); rw [ho]; exact ⟨q, hX, fun _ _ => rfl, rfl, hv, hh, zfr.rf⟩)⟩
  · refine r_iload_n C (pc := 8) rfl rfl dX6_setBlock_8 ?_
    refine r_iconst C (pc := 9) (x := (nI 0)) (by decide) dX6_setBlock_9 ?_
    refine r_sipush C (pc := 10) (x := (nI 255)) (by decide) dX6_setBlock_10 ?_
    refine r_callS C (pc := 13) (st := []) (m_X6_isWithin l G sh v N (x := b) (lo := (nI 0)) (hi := (nI 255))) kyX6_isWithin q_270 rfl rfl (Nat.le_of_ble_eq_true rfl) ⟨Nat.le_of_ble_eq_true rfl, Nat.le_of_ble_eq_true rfl⟩ ⟨Nat.le_of_ble_eq_true rfl, Nat.le_of_ble_eq_true rfl⟩ dX6_setBlock_13 (fun r13 v13 hp13 => ?_)
    obtain ⟨rfl, ehp13⟩ := hp13
    refine VV.vq ehp13 ?_
    refine VV.eq (st2 := [.int (zb (decide ((nI 0) ≤ b ∧ b ≤ (nI 255))))]) rfl ?_
    refine n_ifb_ne C (pc := 16) (tgt := 21) dX6_setBlock_16 (by decide) (fun c_16 => ?_) (fun c_16 => ?_)
    · have hc1 := (of_decide_eq_true c_5)
      have hc2 := (of_decide_eq_true c_16)
      obtain ⟨B, hB1, hB2, rfl⟩ := inR (of_decide_eq_true c_5) (by omega) (by omega)
      obtain ⟨y, hy1, hy2, rfl⟩ := inR (of_decide_eq_true c_16) (by omega) (by omega)
      have hTb : M.1 2 ≤ T := hI.1.2.1.1
      have hAb : M.1 31 ≤ T := hI.1.2.1.2.1
      refine r_aload_n C (pc := 21) rfl rfl dX6_setBlock_21 ?_
      refine r_get C (pc := 22) (ci := 6) (k := 0) (w := .ref (x + 1)) rfl (by decide) inX6 (by decide) q_231 (Or.inl hd0) hs0 (zl_ref _ _) dX6_setBlock_22 ?_
      refine r_getN C (pc := 25) (ci := 5) (k := 3) (w := .int (nI (M.1 2))) rfl (by decide) inX5 (by decide) q_206 (Or.inl hnd0) hn0 (zl_i (hv.1)) dX6_setBlock_25 ?_
      refine n_if_ne C (pc := 28) (tgt := 44) (by omega) dX6_setBlock_28 (by decide) (fun c_28 => ?_) (fun c_28 => ?_)
      · refine r_bipush C (pc := 44) (x := (-2)) (by decide) dX6_setBlock_44 ?_
        exact r_iret C (pc := 46) rfl (rfl) dX6_setBlock_46 ⟨rfl, (by have ho : oSetBlock (nI B) (nI y) (M, h) = (-2, (M, h)) := (if_pos ⟨hc1, hc2⟩).trans (if_pos (Or.inl c_28)); rw [ho]; exact ⟨q, hX, fun _ _ => rfl, rfl, hv, hh, zfr.rf⟩)⟩
      · refine r_aload_n C (pc := 31) rfl rfl dX6_setBlock_31 ?_
        refine r_get C (pc := 32) (ci := 6) (k := 0) (w := .ref (x + 1)) rfl (by decide) inX6 (by decide) q_231 (Or.inl hd0) hs0 (zl_ref _ _) dX6_setBlock_32 ?_
        refine r_getN C (pc := 35) (ci := 5) (k := 2) (w := .ref (x + 1 + 6)) rfl (by decide) inX5 (by decide) q_204 (Or.inl hnd0) hn0 (zl_ref _ _) dX6_setBlock_35 ?_
        refine r_getN C (pc := 38) (ci := 2) (k := 5) (w := .int (nI (M.1 31))) rfl (by decide) inX2 (by decide) q_175 (Or.inl hnd6) hn6 (zl_i (hv.2.2.2.2.2.1)) dX6_setBlock_38 ?_
        refine n_if_eq C (pc := 41) (tgt := 47) (by omega) dX6_setBlock_41 (by decide) (fun c_41 => ?_) (fun c_41 => ?_)
        · refine r_aload_n C (pc := 47) rfl rfl dX6_setBlock_47 ?_
          refine r_callVM C (pc := 48) (st := []) (m_X6_remember l G sh v N hX hv hh) kyX6_remember q_273 rfl (Or.inl hd0) hs0 (by decide) rfl rfl rfl (Nat.le_of_ble_eq_true rfl) ⟨Nat.le_of_ble_eq_true rfl, Nat.le_of_ble_eq_true rfl⟩ ⟨Nat.le_of_ble_eq_true rfl, Nat.le_of_ble_eq_true rfl⟩ dX6_setBlock_48 (fun r48 sh v48 N' hp48 => ?_)
          obtain ⟨hN, rfl, q1, X1, X2, X3, X4, X5⟩ := hp48
          subst hN
          obtain ⟨xB, xN, hs0, hs57, hs58, hs59, hnow, htri, hhis, himg, hpq⟩ := id X1
          have hd0 : G.2.2.1 ≤ x ∧ x < N := ⟨xB, by omega⟩
          have hd57 : G.2.2.1 ≤ x + 57 ∧ x + 57 < N := ⟨by omega, by omega⟩
          have hd58 : G.2.2.1 ≤ x + 58 ∧ x + 58 < N := ⟨by omega, by omega⟩
          have hd59 : G.2.2.1 ≤ x + 59 ∧ x + 59 < N := ⟨by omega, by omega⟩
          obtain ⟨ntB, ntN, hn0, ntse, hn5, ntrc, hn19, ntsp, ntst⟩ := id hnow
          have hnd0 : G.2.2.1 ≤ x + 1 ∧ x + 1 < N := ⟨by omega, by omega⟩
          have hnd1 : G.2.2.1 ≤ x + 1 + 1 ∧ x + 1 + 1 < N := ⟨by omega, by omega⟩
          have hnd5 : G.2.2.1 ≤ x + 1 + 5 ∧ x + 1 + 5 < N := ⟨by omega, by omega⟩
          have hnd6 : G.2.2.1 ≤ x + 1 + 6 ∧ x + 1 + 6 < N := ⟨by omega, by omega⟩
          have hnd19 : G.2.2.1 ≤ x + 1 + 19 ∧ x + 1 + 19 < N := ⟨by omega, by omega⟩
          have hnd20 : G.2.2.1 ≤ x + 1 + 20 ∧ x + 1 + 20 < N := ⟨by omega, by omega⟩
          have hnd61 : G.2.2.1 ≤ x + 1 + 6 + 1 ∧ x + 1 + 6 + 1 < N := ⟨by omega, by omega⟩
          have hnd65 : G.2.2.1 ≤ x + 1 + 6 + 5 ∧ x + 1 + 6 + 5 < N := ⟨by omega, by omega⟩
          have hnd610 : G.2.2.1 ≤ x + 1 + 6 + 10 ∧ x + 1 + 6 + 10 < N := ⟨by omega, by omega⟩
          have hnd68 : G.2.2.1 ≤ x + 1 + 6 + 8 ∧ x + 1 + 6 + 8 < N := ⟨by omega, by omega⟩
          have hn1 := ntse.2.2.1
          have hn6 := ntrc.2.2.1
          have hn20 := ntsp.2.2.1
          have hn61 := ntrc.2.2.2.1.2.2.2.1
          have hn65 := ntrc.2.2.2.2.2.1.2.2.1
          have hn68 := ntrc.2.2.2.2.2.2.1.2.2.2.1
          have hn610 := ntrc.2.2.2.2.2.2.2.2.2.1
          have hnd11 : G.2.2.1 ≤ x + 1 + 1 + 1 ∧ x + 1 + 1 + 1 < N := ⟨by omega, by omega⟩
          have hnd12 : G.2.2.1 ≤ x + 1 + 1 + 2 ∧ x + 1 + 1 + 2 < N := ⟨by omega, by omega⟩
          have hnd13 : G.2.2.1 ≤ x + 1 + 1 + 3 ∧ x + 1 + 1 + 3 < N := ⟨by omega, by omega⟩
          have hnd652 : G.2.2.1 ≤ x + 1 + 6 + 5 + 2 ∧ x + 1 + 6 + 5 + 2 < N := ⟨by omega, by omega⟩
          have hnd6102 : G.2.2.1 ≤ x + 1 + 6 + 10 + 2 ∧ x + 1 + 6 + 10 + 2 < N := ⟨by omega, by omega⟩
          have hn11 := ntse.2.2.2.1
          have hn12 := ntse.2.2.2.2.1
          have hn13 := ntse.2.2.2.2.2
          have hn652 := ntrc.2.2.2.2.2.1.2.2.2.2
          have hn6102 := ntrc.2.2.2.2.2.2.2.2.2.2.2
          obtain ⟨ltB, ltN, hl0, ltse, hl5, ltrc, hl19, ltsp, ltst⟩ := id htri
          have hld0 : G.2.2.1 ≤ x + 29 ∧ x + 29 < N := ⟨by omega, by omega⟩
          have hld1 : G.2.2.1 ≤ x + 29 + 1 ∧ x + 29 + 1 < N := ⟨by omega, by omega⟩
          have hld5 : G.2.2.1 ≤ x + 29 + 5 ∧ x + 29 + 5 < N := ⟨by omega, by omega⟩
          have hld6 : G.2.2.1 ≤ x + 29 + 6 ∧ x + 29 + 6 < N := ⟨by omega, by omega⟩
          have hld19 : G.2.2.1 ≤ x + 29 + 19 ∧ x + 29 + 19 < N := ⟨by omega, by omega⟩
          have hld20 : G.2.2.1 ≤ x + 29 + 20 ∧ x + 29 + 20 < N := ⟨by omega, by omega⟩
          have hld61 : G.2.2.1 ≤ x + 29 + 6 + 1 ∧ x + 29 + 6 + 1 < N := ⟨by omega, by omega⟩
          have hld65 : G.2.2.1 ≤ x + 29 + 6 + 5 ∧ x + 29 + 6 + 5 < N := ⟨by omega, by omega⟩
          have hld610 : G.2.2.1 ≤ x + 29 + 6 + 10 ∧ x + 29 + 6 + 10 < N := ⟨by omega, by omega⟩
          have hld68 : G.2.2.1 ≤ x + 29 + 6 + 8 ∧ x + 29 + 6 + 8 < N := ⟨by omega, by omega⟩
          have hl1 := ltse.2.2.1
          have hl6 := ltrc.2.2.1
          have hl20 := ltsp.2.2.1
          have hl61 := ltrc.2.2.2.1.2.2.2.1
          have hl65 := ltrc.2.2.2.2.2.1.2.2.1
          have hl68 := ltrc.2.2.2.2.2.2.1.2.2.2.1
          have hl610 := ltrc.2.2.2.2.2.2.2.2.2.1
          have hld11 : G.2.2.1 ≤ x + 29 + 1 + 1 ∧ x + 29 + 1 + 1 < N := ⟨by omega, by omega⟩
          have hld12 : G.2.2.1 ≤ x + 29 + 1 + 2 ∧ x + 29 + 1 + 2 < N := ⟨by omega, by omega⟩
          have hld13 : G.2.2.1 ≤ x + 29 + 1 + 3 ∧ x + 29 + 1 + 3 < N := ⟨by omega, by omega⟩
          have hld652 : G.2.2.1 ≤ x + 29 + 6 + 5 + 2 ∧ x + 29 + 6 + 5 + 2 < N := ⟨by omega, by omega⟩
          have hld6102 : G.2.2.1 ≤ x + 29 + 6 + 10 + 2 ∧ x + 29 + 6 + 10 + 2 < N := ⟨by omega, by omega⟩
          have hl11 := ltse.2.2.2.1
          have hl12 := ltse.2.2.2.2.1
          have hl13 := ltse.2.2.2.2.2
          have hl652 := ltrc.2.2.2.2.2.1.2.2.2.2
          have hl6102 := ltrc.2.2.2.2.2.2.2.2.2.2.2
          refine VV.c0 ?_
          refine VV.eq (st2 := []) rfl ?_
          refine r_aload_n C (pc := 51) rfl rfl dX6_setBlock_51 ?_
          refine r_get C (pc := 52) (ci := 6) (k := 0) (w := .ref (x + 1)) rfl (by decide) inX6 (by decide) q_231 (Or.inl hd0) hs0 (zl_ref _ _) dX6_setBlock_52 ?_
          refine r_getN C (pc := 55) (ci := 5) (k := 0) (w := .ref (x + 1 + 1)) rfl (by decide) inX5 (by decide) q_201 (Or.inl hnd0) hn0 (zl_ref _ _) dX6_setBlock_55 ?_
          refine r_getN C (pc := 58) (ci := 3) (k := 0) (w := .ref (x + 1 + 1 + 1)) rfl (by decide) inX3 (by decide) q_60 (Or.inl hnd1) hn1 (zl_ref _ _) dX6_setBlock_58 ?_
          refine r_iload_n C (pc := 61) rfl rfl dX6_setBlock_61 ?_
          refine r_iald C (pc := 62) (x := (nI (M.1 (17 + B)))) (Or.inl hnd11) hn11 (by omega) (by omega) (X3.2.2.2.1.2.2.2.2.2.2.1 B (by omega)) dX6_setBlock_62 ?_
          refine r_istore_n C (pc := 63) (lv2 := [some (.ref x), some (.int (nI B)), some (.int (nI y)), some (.int (nI (M.1 (17 + B))))]) rfl (Nat.le_of_ble_eq_true rfl) rfl rfl dX6_setBlock_63 ?_
          refine r_aload_n C (pc := 64) rfl rfl dX6_setBlock_64 ?_
          refine r_get C (pc := 65) (ci := 6) (k := 0) (w := .ref (x + 1)) rfl (by decide) inX6 (by decide) q_231 (Or.inl hd0) hs0 (zl_ref _ _) dX6_setBlock_65 ?_
          refine r_getN C (pc := 68) (ci := 5) (k := 0) (w := .ref (x + 1 + 1)) rfl (by decide) inX5 (by decide) q_201 (Or.inl hnd0) hn0 (zl_ref _ _) dX6_setBlock_68 ?_
          refine r_getN C (pc := 71) (ci := 3) (k := 0) (w := .ref (x + 1 + 1 + 1)) rfl (by decide) inX3 (by decide) q_60 (Or.inl hnd1) hn1 (zl_ref _ _) dX6_setBlock_71 ?_
          refine r_iload_n C (pc := 74) rfl rfl dX6_setBlock_74 ?_
          refine r_iload_n C (pc := 75) rfl rfl dX6_setBlock_75 ?_
          refine r_iast C (pc := 76) hnd11 hn11 (by omega) (by omega) dX6_setBlock_76 ?_
          refine VV.gn (fun w76 ew76 => ?_)
          refine r_iload_n C (pc := 77) rfl rfl dX6_setBlock_77 ?_
          exact r_iret C (pc := 78) rfl (rfl) dX6_setBlock_78 ⟨rfl, (by have ho : oSetBlock (nI B) (nI y) (M, h) = (nI (M.1 (17 + B)), ((upc M.1 (17 + B) y, M.2), remH M h)) := ((if_pos ⟨hc1, hc2⟩).trans (if_neg (fun z => by rcases z with z | z <;> dsimp only at z <;> omega))).trans (by rw [nn_I (by omega), nn_I (by omega)]); rw [ho]; have hem := hE.2.2.2.2.2.2.2 c_28 c_41; have hz := zt_val (b := B) (x := y) X3 (by omega) (funext hem.2.1) (funext hem.2.2); have hfz : zfr v48 w76 (x + 1) 28 := (by rw [ew76]; exact zfr.rf.z2 (by omega) (by omega)); exact ⟨q1, X1, X2, rfl, (by rw [ew76]; exact hz), zxh_now X4 hpq hfz, X5.tr (hfz.wide (by omega) (by omega))⟩)⟩
        · refine r_bipush C (pc := 44) (x := (-2)) (by decide) dX6_setBlock_44 ?_
          exact r_iret C (pc := 46) rfl (rfl) dX6_setBlock_46 ⟨rfl, (by have ho : oSetBlock (nI B) (nI y) (M, h) = (-2, (M, h)) := (if_pos ⟨hc1, hc2⟩).trans (if_pos (Or.inr c_41)); rw [ho]; exact ⟨q, hX, fun _ _ => rfl, rfl, hv, hh, zfr.rf⟩)⟩
    · refine r_iconst C (pc := 19) (x := (-1)) (by decide) dX6_setBlock_19 ?_
      exact r_iret C (pc := 20) rfl (rfl) dX6_setBlock_20 ⟨rfl, (by have ho : oSetBlock a b (M, h) = (-1, (M, h)) := if_neg (fun z => (of_decide_eq_false c_16) z.2); rw [ho]; exact ⟨q, hX, fun _ _ => rfl, rfl, hv, hh, zfr.rf⟩)⟩
set_option maxRecDepth 100000 in
set_option maxHeartbeats 4000000 in
theorem m_X6_setLoss (l : Launch) (G : zG) (sh : zH) (v : zV) (N : Nat) {x : Nat} {q : Nat → Nat} {M : zMS} {h : zHs} {T : Nat} {a b : Int32} (hX : zXR G sh N x q) (hv : zt v (x + 1) M) (hh : zxh v x q h) (hI : zI T (M, h)) (hT : T + 1000 < 2 ^ 30) : zM l G yX6_setLoss cX6_setLoss 4 (some .int) 6 0 0 [.ref x, .int a, .int b] sh v N (fun r sh1 v1 N1 => N = N1 ∧ (∃ q1, zXR G sh1 N x q1 ∧ (∀ b, b ≠ x + 57 → sh1 b = sh b) ∧ r = some (.int (oSetLoss a b (M, h)).1) ∧ zt v1 (x + 1) (oSetLoss a b (M, h)).2.1 ∧ zxh v1 x q1 (oSetLoss a b (M, h)).2.2 ∧ zfr v v1 x 340)) := by
  refine zM.of (by decide) rfl (Nat.le_of_ble_eq_true rfl) ?_
  intro p e s m args below meth c C
  obtain ⟨xB, xN, hs0, hs57, hs58, hs59, hnow, htri, hhis, himg, hpq⟩ := id hX
  have hd0 : G.2.2.1 ≤ x ∧ x < N := ⟨xB, by omega⟩
  have hd57 : G.2.2.1 ≤ x + 57 ∧ x + 57 < N := ⟨by omega, by omega⟩
  have hd58 : G.2.2.1 ≤ x + 58 ∧ x + 58 < N := ⟨by omega, by omega⟩
  have hd59 : G.2.2.1 ≤ x + 59 ∧ x + 59 < N := ⟨by omega, by omega⟩
  obtain ⟨ntB, ntN, hn0, ntse, hn5, ntrc, hn19, ntsp, ntst⟩ := id hnow
  have hnd0 : G.2.2.1 ≤ x + 1 ∧ x + 1 < N := ⟨by omega, by omega⟩
  have hnd1 : G.2.2.1 ≤ x + 1 + 1 ∧ x + 1 + 1 < N := ⟨by omega, by omega⟩
  have hnd5 : G.2.2.1 ≤ x + 1 + 5 ∧ x + 1 + 5 < N := ⟨by omega, by omega⟩
  have hnd6 : G.2.2.1 ≤ x + 1 + 6 ∧ x + 1 + 6 < N := ⟨by omega, by omega⟩
  have hnd19 : G.2.2.1 ≤ x + 1 + 19 ∧ x + 1 + 19 < N := ⟨by omega, by omega⟩
  have hnd20 : G.2.2.1 ≤ x + 1 + 20 ∧ x + 1 + 20 < N := ⟨by omega, by omega⟩
  have hnd61 : G.2.2.1 ≤ x + 1 + 6 + 1 ∧ x + 1 + 6 + 1 < N := ⟨by omega, by omega⟩
  have hnd65 : G.2.2.1 ≤ x + 1 + 6 + 5 ∧ x + 1 + 6 + 5 < N := ⟨by omega, by omega⟩
  have hnd610 : G.2.2.1 ≤ x + 1 + 6 + 10 ∧ x + 1 + 6 + 10 < N := ⟨by omega, by omega⟩
  have hnd68 : G.2.2.1 ≤ x + 1 + 6 + 8 ∧ x + 1 + 6 + 8 < N := ⟨by omega, by omega⟩
  have hn1 := ntse.2.2.1
  have hn6 := ntrc.2.2.1
  have hn20 := ntsp.2.2.1
  have hn61 := ntrc.2.2.2.1.2.2.2.1
  have hn65 := ntrc.2.2.2.2.2.1.2.2.1
  have hn68 := ntrc.2.2.2.2.2.2.1.2.2.2.1
  have hn610 := ntrc.2.2.2.2.2.2.2.2.2.1
  have hnd11 : G.2.2.1 ≤ x + 1 + 1 + 1 ∧ x + 1 + 1 + 1 < N := ⟨by omega, by omega⟩
  have hnd12 : G.2.2.1 ≤ x + 1 + 1 + 2 ∧ x + 1 + 1 + 2 < N := ⟨by omega, by omega⟩
  have hnd13 : G.2.2.1 ≤ x + 1 + 1 + 3 ∧ x + 1 + 1 + 3 < N := ⟨by omega, by omega⟩
  have hnd652 : G.2.2.1 ≤ x + 1 + 6 + 5 + 2 ∧ x + 1 + 6 + 5 + 2 < N := ⟨by omega, by omega⟩
  have hnd6102 : G.2.2.1 ≤ x + 1 + 6 + 10 + 2 ∧ x + 1 + 6 + 10 + 2 < N := ⟨by omega, by omega⟩
  have hn11 := ntse.2.2.2.1
  have hn12 := ntse.2.2.2.2.1
  have hn13 := ntse.2.2.2.2.2
  have hn652 := ntrc.2.2.2.2.2.1.2.2.2.2
  have hn6102 := ntrc.2.2.2.2.2.2.2.2.2.2.2
  obtain ⟨ltB, ltN, hl0, ltse, hl5, ltrc, hl19, ltsp, ltst⟩ := id htri
  have hld0 : G.2.2.1 ≤ x + 29 ∧ x + 29 < N := ⟨by omega, by omega⟩
  have hld1 : G.2.2.1 ≤ x + 29 + 1 ∧ x + 29 + 1 < N := ⟨by omega, by omega⟩
  have hld5 : G.2.2.1 ≤ x + 29 + 5 ∧ x + 29 + 5 < N := ⟨by omega, by omega⟩
  have hld6 : G.2.2.1 ≤ x + 29 + 6 ∧ x + 29 + 6 < N := ⟨by omega, by omega⟩
  have hld19 : G.2.2.1 ≤ x + 29 + 19 ∧ x + 29 + 19 < N := ⟨by omega, by omega⟩
  have hld20 : G.2.2.1 ≤ x + 29 + 20 ∧ x + 29 + 20 < N := ⟨by omega, by omega⟩
  have hld61 : G.2.2.1 ≤ x + 29 + 6 + 1 ∧ x + 29 + 6 + 1 < N := ⟨by omega, by omega⟩
  have hld65 : G.2.2.1 ≤ x + 29 + 6 + 5 ∧ x + 29 + 6 + 5 < N := ⟨by omega, by omega⟩
  have hld610 : G.2.2.1 ≤ x + 29 + 6 + 10 ∧ x + 29 + 6 + 10 < N := ⟨by omega, by omega⟩
  have hld68 : G.2.2.1 ≤ x + 29 + 6 + 8 ∧ x + 29 + 6 + 8 < N := ⟨by omega, by omega⟩
  have hl1 := ltse.2.2.1
  have hl6 := ltrc.2.2.1
  have hl20 := ltsp.2.2.1
  have hl61 := ltrc.2.2.2.1.2.2.2.1
  have hl65 := ltrc.2.2.2.2.2.1.2.2.1
  have hl68 := ltrc.2.2.2.2.2.2.1.2.2.2.1
  have hl610 := ltrc.2.2.2.2.2.2.2.2.2.1
  have hld11 : G.2.2.1 ≤ x + 29 + 1 + 1 ∧ x + 29 + 1 + 1 < N := ⟨by omega, by omega⟩
  have hld12 : G.2.2.1 ≤ x + 29 + 1 + 2 ∧ x + 29 + 1 + 2 < N := ⟨by omega, by omega⟩
  have hld13 : G.2.2.1 ≤ x + 29 + 1 + 3 ∧ x + 29 + 1 + 3 < N := ⟨by omega, by omega⟩
  have hld652 : G.2.2.1 ≤ x + 29 + 6 + 5 + 2 ∧ x + 29 + 6 + 5 + 2 < N := ⟨by omega, by omega⟩
  have hld6102 : G.2.2.1 ≤ x + 29 + 6 + 10 + 2 ∧ x + 29 + 6 + 10 + 2 < N := ⟨by omega, by omega⟩
  have hl11 := ltse.2.2.2.1
  have hl12 := ltse.2.2.2.2.1
  have hl13 := ltse.2.2.2.2.2
  have hl652 := ltrc.2.2.2.2.2.1.2.2.2.2
  have hl6102 := ltrc.2.2.2.2.2.2.2.2.2.2.2
  have hE : zE M := hI.1.1
  have hk : mOK M := hE.1
  have hK2 := hk.1.1
  have hK12 := hk.1.2.1
  have hR3 := hk.1.2.2.1
  refine r_aload_n C (pc := 0) rfl rfl dX6_setLoss_0 ?_
  refine r_iload_n C (pc := 1) rfl rfl dX6_setLoss_1 ?_
  refine r_callV C (pc := 2) (st := []) (m_X6_isLink l G sh v N (a := a) hX hv) kyX6_isLink q_347 rfl (Or.inl hd0) hs0 (by decide) rfl rfl rfl (Nat.le_of_ble_eq_true rfl) ⟨Nat.le_of_ble_eq_true rfl, Nat.le_of_ble_eq_true rfl⟩ ⟨Nat.le_of_ble_eq_true rfl, Nat.le_of_ble_eq_true rfl⟩ dX6_setLoss_2 (fun r2 v2 hp2 => ?_)
  obtain ⟨rfl, ehp2⟩ := hp2
  refine VV.vq ehp2 ?_
  refine VV.eq (st2 := [.int (zb (decide ((nI 0) ≤ a ∧ a ≤ (nI (M.1 1)))))]) rfl ?_
  refine n_ifb_eq C (pc := 5) (tgt := 18) dX6_setLoss_5 (by decide) (fun c_5 => ?_) (fun c_5 => ?_)
  · refine r_iconst C (pc := 18) (x := (-1)) (by decide) dX6_setLoss_18 ?_
    exact r_iret C (pc := 19) rfl (rfl) dX6_setLoss_19 ⟨rfl, (by have ho : oSetLoss a b (M, h) = (-1, (M, h)) := if_neg (fun z => (of_decide_eq_false c_5) z.1); rw [ho]; exact ⟨q, hX, fun _ _ => rfl, rfl, hv, hh, zfr.rf⟩)⟩
  · refine r_iload_n C (pc := 8) rfl rfl dX6_setLoss_8 ?_
    refine r_iconst C (pc := 9) (x := (nI 0)) (by decide) dX6_setLoss_9 ?_
    refine r_bipush C (pc := 10) (x := (nI 99)) (by decide) dX6_setLoss_10 ?_
    refine r_callS C (pc := 12) (st := []) (m_X6_isWithin l G sh v N (x := b) (lo := (nI 0)) (hi := (nI 99))) kyX6_isWithin q_270 rfl rfl (Nat.le_of_ble_eq_true rfl) ⟨Nat.le_of_ble_eq_true rfl, Nat.le_of_ble_eq_true rfl⟩ ⟨Nat.le_of_ble_eq_true rfl, Nat.le_of_ble_eq_true rfl⟩ dX6_setLoss_12 (fun r12 v12 hp12 => ?_)
    obtain ⟨rfl, ehp12⟩ := hp12
    refine VV.vq ehp12 ?_
    refine VV.eq (st2 := [.int (zb (decide ((nI 0) ≤ b ∧ b ≤ (nI 99))))]) rfl ?_
    refine n_ifb_ne C (pc := 15) (tgt := 20) dX6_setLoss_15 (by decide) (fun c_15 => ?_) (fun c_15 => ?_)
    · have hc1 := (of_decide_eq_true c_5)
      have hc2 := (of_decide_eq_true c_15)
      obtain ⟨B, hB1, hB2, rfl⟩ := inR (of_decide_eq_true c_5) (by omega) (by omega)
      obtain ⟨y, hy1, hy2, rfl⟩ := inR (of_decide_eq_true c_15) (by omega) (by omega)
      refine r_aload_n C (pc := 20) rfl rfl dX6_setLoss_20 ?_
      refine r_callVM C (pc := 21) (st := []) (m_X6_remember l G sh v N hX hv hh) kyX6_remember q_273 rfl (Or.inl hd0) hs0 (by decide) rfl rfl rfl (Nat.le_of_ble_eq_true rfl) ⟨Nat.le_of_ble_eq_true rfl, Nat.le_of_ble_eq_true rfl⟩ ⟨Nat.le_of_ble_eq_true rfl, Nat.le_of_ble_eq_true rfl⟩ dX6_setLoss_21 (fun r21 sh v21 N' hp21 => ?_)
      obtain ⟨hN, rfl, q1, X1, X2, X3, X4, X5⟩ := hp21
      subst hN
      obtain ⟨xB, xN, hs0, hs57, hs58, hs59, hnow, htri, hhis, himg, hpq⟩ := id X1
      have hd0 : G.2.2.1 ≤ x ∧ x < N := ⟨xB, by omega⟩
      have hd57 : G.2.2.1 ≤ x + 57 ∧ x + 57 < N := ⟨by omega, by omega⟩
      have hd58 : G.2.2.1 ≤ x + 58 ∧ x + 58 < N := ⟨by omega, by omega⟩
      have hd59 : G.2.2.1 ≤ x + 59 ∧ x + 59 < N := ⟨by omega, by omega⟩
      obtain ⟨ntB, ntN, hn0, ntse, hn5, ntrc, hn19, ntsp, ntst⟩ := id hnow
      have hnd0 : G.2.2.1 ≤ x + 1 ∧ x + 1 < N := ⟨by omega, by omega⟩
      have hnd1 : G.2.2.1 ≤ x + 1 + 1 ∧ x + 1 + 1 < N := ⟨by omega, by omega⟩
      have hnd5 : G.2.2.1 ≤ x + 1 + 5 ∧ x + 1 + 5 < N := ⟨by omega, by omega⟩
      have hnd6 : G.2.2.1 ≤ x + 1 + 6 ∧ x + 1 + 6 < N := ⟨by omega, by omega⟩
      have hnd19 : G.2.2.1 ≤ x + 1 + 19 ∧ x + 1 + 19 < N := ⟨by omega, by omega⟩
      have hnd20 : G.2.2.1 ≤ x + 1 + 20 ∧ x + 1 + 20 < N := ⟨by omega, by omega⟩
      have hnd61 : G.2.2.1 ≤ x + 1 + 6 + 1 ∧ x + 1 + 6 + 1 < N := ⟨by omega, by omega⟩
      have hnd65 : G.2.2.1 ≤ x + 1 + 6 + 5 ∧ x + 1 + 6 + 5 < N := ⟨by omega, by omega⟩
      have hnd610 : G.2.2.1 ≤ x + 1 + 6 + 10 ∧ x + 1 + 6 + 10 < N := ⟨by omega, by omega⟩
      have hnd68 : G.2.2.1 ≤ x + 1 + 6 + 8 ∧ x + 1 + 6 + 8 < N := ⟨by omega, by omega⟩
      have hn1 := ntse.2.2.1
      have hn6 := ntrc.2.2.1
      have hn20 := ntsp.2.2.1
      have hn61 := ntrc.2.2.2.1.2.2.2.1
      have hn65 := ntrc.2.2.2.2.2.1.2.2.1
      have hn68 := ntrc.2.2.2.2.2.2.1.2.2.2.1
      have hn610 := ntrc.2.2.2.2.2.2.2.2.2.1
      have hnd11 : G.2.2.1 ≤ x + 1 + 1 + 1 ∧ x + 1 + 1 + 1 < N := ⟨by omega, by omega⟩
      have hnd12 : G.2.2.1 ≤ x + 1 + 1 + 2 ∧ x + 1 + 1 + 2 < N := ⟨by omega, by omega⟩
      have hnd13 : G.2.2.1 ≤ x + 1 + 1 + 3 ∧ x + 1 + 1 + 3 < N := ⟨by omega, by omega⟩
      have hnd652 : G.2.2.1 ≤ x + 1 + 6 + 5 + 2 ∧ x + 1 + 6 + 5 + 2 < N := ⟨by omega, by omega⟩
      have hnd6102 : G.2.2.1 ≤ x + 1 + 6 + 10 + 2 ∧ x + 1 + 6 + 10 + 2 < N := ⟨by omega, by omega⟩
      have hn11 := ntse.2.2.2.1
      have hn12 := ntse.2.2.2.2.1
      have hn13 := ntse.2.2.2.2.2
      have hn652 := ntrc.2.2.2.2.2.1.2.2.2.2
      have hn6102 := ntrc.2.2.2.2.2.2.2.2.2.2.2
      obtain ⟨ltB, ltN, hl0, ltse, hl5, ltrc, hl19, ltsp, ltst⟩ := id htri
      have hld0 : G.2.2.1 ≤ x + 29 ∧ x + 29 < N := ⟨by omega, by omega⟩
      have hld1 : G.2.2.1 ≤ x + 29 + 1 ∧ x + 29 + 1 < N := ⟨by omega, by omega⟩
      have hld5 : G.2.2.1 ≤ x + 29 + 5 ∧ x + 29 + 5 < N := ⟨by omega, by omega⟩
      have hld6 : G.2.2.1 ≤ x + 29 + 6 ∧ x + 29 + 6 < N := ⟨by omega, by omega⟩
      have hld19 : G.2.2.1 ≤ x + 29 + 19 ∧ x + 29 + 19 < N := ⟨by omega, by omega⟩
      have hld20 : G.2.2.1 ≤ x + 29 + 20 ∧ x + 29 + 20 < N := ⟨by omega, by omega⟩
      have hld61 : G.2.2.1 ≤ x + 29 + 6 + 1 ∧ x + 29 + 6 + 1 < N := ⟨by omega, by omega⟩
      have hld65 : G.2.2.1 ≤ x + 29 + 6 + 5 ∧ x + 29 + 6 + 5 < N := ⟨by omega, by omega⟩
      have hld610 : G.2.2.1 ≤ x + 29 + 6 + 10 ∧ x + 29 + 6 + 10 < N := ⟨by omega, by omega⟩
      have hld68 : G.2.2.1 ≤ x + 29 + 6 + 8 ∧ x + 29 + 6 + 8 < N := ⟨by omega, by omega⟩
      have hl1 := ltse.2.2.1
      have hl6 := ltrc.2.2.1
      have hl20 := ltsp.2.2.1
      have hl61 := ltrc.2.2.2.1.2.2.2.1
      have hl65 := ltrc.2.2.2.2.2.1.2.2.1
      have hl68 := ltrc.2.2.2.2.2.2.1.2.2.2.1
      have hl610 := ltrc.2.2.2.2.2.2.2.2.2.1
      have hld11 : G.2.2.1 ≤ x + 29 + 1 + 1 ∧ x + 29 + 1 + 1 < N := ⟨by omega, by omega⟩
      have hld12 : G.2.2.1 ≤ x + 29 + 1 + 2 ∧ x + 29 + 1 + 2 < N := ⟨by omega, by omega⟩
      have hld13 : G.2.2.1 ≤ x + 29 + 1 + 3 ∧ x + 29 + 1 + 3 < N := ⟨by omega, by omega⟩
      have hld652 : G.2.2.1 ≤ x + 29 + 6 + 5 + 2 ∧ x + 29 + 6 + 5 + 2 < N := ⟨by omega, by omega⟩
      have hld6102 : G.2.2.1 ≤ x + 29 + 6 + 10 + 2 ∧ x + 29 + 6 + 10 + 2 < N := ⟨by omega, by omega⟩
      have hl11 := ltse.2.2.2.1
      have hl12 := ltse.2.2.2.2.1
      have hl13 := ltse.2.2.2.2.2
      have hl652 := ltrc.2.2.2.2.2.1.2.2.2.2
      have hl6102 := ltrc.2.2.2.2.2.2.2.2.2.2.2
      refine VV.c0 ?_
      refine VV.eq (st2 := []) rfl ?_
      refine r_aload_n C (pc := 24) rfl rfl dX6_setLoss_24 ?_
      refine r_get C (pc := 25) (ci := 6) (k := 0) (w := .ref (x + 1)) rfl (by decide) inX6 (by decide) q_231 (Or.inl hd0) hs0 (zl_ref _ _) dX6_setLoss_25 ?_
      refine r_getN C (pc := 28) (ci := 5) (k := 0) (w := .ref (x + 1 + 1)) rfl (by decide) inX5 (by decide) q_201 (Or.inl hnd0) hn0 (zl_ref _ _) dX6_setLoss_28 ?_
      refine r_getN C (pc := 31) (ci := 3) (k := 1) (w := .ref (x + 1 + 1 + 2)) rfl (by decide) inX3 (by decide) q_62 (Or.inl hnd1) hn1 (zl_ref _ _) dX6_setLoss_31 ?_
      refine r_iload_n C (pc := 34) rfl rfl dX6_setLoss_34 ?_
      refine r_iald C (pc := 35) (x := (nI (M.1 (7 + B)))) (Or.inl hnd12) hn12 (by omega) (by omega) (X3.2.2.2.1.2.2.2.2.2.2.2.1 B hB2 (by omega)) dX6_setLoss_35 ?_
      refine r_istore_n C (pc := 36) (lv2 := [some (.ref x), some (.int (nI B)), some (.int (nI y)), some (.int (nI (M.1 (7 + B))))]) rfl (Nat.le_of_ble_eq_true rfl) rfl rfl dX6_setLoss_36 ?_
      refine r_aload_n C (pc := 37) rfl rfl dX6_setLoss_37 ?_
      refine r_get C (pc := 38) (ci := 6) (k := 0) (w := .ref (x + 1)) rfl (by decide) inX6 (by decide) q_231 (Or.inl hd0) hs0 (zl_ref _ _) dX6_setLoss_38 ?_
      refine r_getN C (pc := 41) (ci := 5) (k := 0) (w := .ref (x + 1 + 1)) rfl (by decide) inX5 (by decide) q_201 (Or.inl hnd0) hn0 (zl_ref _ _) dX6_setLoss_41 ?_
      refine r_getN C (pc := 44) (ci := 3) (k := 1) (w := .ref (x + 1 + 1 + 2)) rfl (by decide) inX3 (by decide) q_62 (Or.inl hnd1) hn1 (zl_ref _ _) dX6_setLoss_44 ?_
      refine r_iload_n C (pc := 47) rfl rfl dX6_setLoss_47 ?_
      refine r_iload_n C (pc := 48) rfl rfl dX6_setLoss_48 ?_
      refine r_iast C (pc := 49) hnd12 hn12 (by omega) (by omega) dX6_setLoss_49 ?_
      refine VV.gn (fun w49 ew49 => ?_)
      refine r_iload_n C (pc := 50) rfl rfl dX6_setLoss_50 ?_
      exact r_iret C (pc := 51) rfl (rfl) dX6_setLoss_51 ⟨rfl, (by have ho : oSetLoss (nI B) (nI y) (M, h) = (nI (M.1 (7 + B)), ((upc M.1 (7 + B) y, M.2), remH M h)) := (if_pos ⟨hc1, hc2⟩).trans (by rw [nn_I (by omega), nn_I (by omega)]); rw [ho]; have hfz : zfr v21 w49 (x + 1 + 1) 4 := (by rw [ew49]; exact zfr.rf.z2 (by omega) (by omega)); have hz := zt_set X3 (v1 := w49) (by rw [ew49]; exact zse_l (b := B) (x := y) X3.2.2.2.1 (by omega)) hfz (fun i hi => upc_n (by omega)); exact ⟨q1, X1, X2, rfl, hz, zxh_now X4 hpq (hfz.wide (by omega) (by omega)), X5.tr (hfz.wide (by omega) (by omega))⟩)⟩
    · refine r_iconst C (pc := 18) (x := (-1)) (by decide) dX6_setLoss_18 ?_
      exact r_iret C (pc := 19) rfl (rfl) dX6_setLoss_19 ⟨rfl, (by have ho : oSetLoss a b (M, h) = (-1, (M, h)) := if_neg (fun z => (of_decide_eq_false c_15) z.2); rw [ho]; exact ⟨q, hX, fun _ _ => rfl, rfl, hv, hh, zfr.rf⟩)⟩
set_option maxRecDepth 100000 in
set_option maxHeartbeats 4000000 in
theorem m_X6_setWeight (l : Launch) (G : zG) (sh : zH) (v : zV) (N : Nat) {x : Nat} {q : Nat → Nat} {M : zMS} {h : zHs} {T : Nat} {a b : Int32} (hX : zXR G sh N x q) (hv : zt v (x + 1) M) (hh : zxh v x q h) (hI : zI T (M, h)) (hT : T + 1000 < 2 ^ 30) : zM l G yX6_setWeight cX6_setWeight 4 (some .int) 6 0 0 [.ref x, .int a, .int b] sh v N (fun r sh1 v1 N1 => N = N1 ∧ (∃ q1, zXR G sh1 N x q1 ∧ (∀ b, b ≠ x + 57 → sh1 b = sh b) ∧ r = some (.int (oSetWeight a b (M, h)).1) ∧ zt v1 (x + 1) (oSetWeight a b (M, h)).2.1 ∧ zxh v1 x q1 (oSetWeight a b (M, h)).2.2 ∧ zfr v v1 x 340)) := by
  refine zM.of (by decide) rfl (Nat.le_of_ble_eq_true rfl) ?_
  intro p e s m args below meth c C
  obtain ⟨xB, xN, hs0, hs57, hs58, hs59, hnow, htri, hhis, himg, hpq⟩ := id hX
  have hd0 : G.2.2.1 ≤ x ∧ x < N := ⟨xB, by omega⟩
  have hd57 : G.2.2.1 ≤ x + 57 ∧ x + 57 < N := ⟨by omega, by omega⟩
  have hd58 : G.2.2.1 ≤ x + 58 ∧ x + 58 < N := ⟨by omega, by omega⟩
  have hd59 : G.2.2.1 ≤ x + 59 ∧ x + 59 < N := ⟨by omega, by omega⟩
  obtain ⟨ntB, ntN, hn0, ntse, hn5, ntrc, hn19, ntsp, ntst⟩ := id hnow
  have hnd0 : G.2.2.1 ≤ x + 1 ∧ x + 1 < N := ⟨by omega, by omega⟩
  have hnd1 : G.2.2.1 ≤ x + 1 + 1 ∧ x + 1 + 1 < N := ⟨by omega, by omega⟩
  have hnd5 : G.2.2.1 ≤ x + 1 + 5 ∧ x + 1 + 5 < N := ⟨by omega, by omega⟩
  have hnd6 : G.2.2.1 ≤ x + 1 + 6 ∧ x + 1 + 6 < N := ⟨by omega, by omega⟩
  have hnd19 : G.2.2.1 ≤ x + 1 + 19 ∧ x + 1 + 19 < N := ⟨by omega, by omega⟩
  have hnd20 : G.2.2.1 ≤ x + 1 + 20 ∧ x + 1 + 20 < N := ⟨by omega, by omega⟩
  have hnd61 : G.2.2.1 ≤ x + 1 + 6 + 1 ∧ x + 1 + 6 + 1 < N := ⟨by omega, by omega⟩
  have hnd65 : G.2.2.1 ≤ x + 1 + 6 + 5 ∧ x + 1 + 6 + 5 < N := ⟨by omega, by omega⟩
  have hnd610 : G.2.2.1 ≤ x + 1 + 6 + 10 ∧ x + 1 + 6 + 10 < N := ⟨by omega, by omega⟩
  have hnd68 : G.2.2.1 ≤ x + 1 + 6 + 8 ∧ x + 1 + 6 + 8 < N := ⟨by omega, by omega⟩
  have hn1 := ntse.2.2.1
  have hn6 := ntrc.2.2.1
  have hn20 := ntsp.2.2.1
  have hn61 := ntrc.2.2.2.1.2.2.2.1
  have hn65 := ntrc.2.2.2.2.2.1.2.2.1
  have hn68 := ntrc.2.2.2.2.2.2.1.2.2.2.1
  have hn610 := ntrc.2.2.2.2.2.2.2.2.2.1
  have hnd11 : G.2.2.1 ≤ x + 1 + 1 + 1 ∧ x + 1 + 1 + 1 < N := ⟨by omega, by omega⟩
  have hnd12 : G.2.2.1 ≤ x + 1 + 1 + 2 ∧ x + 1 + 1 + 2 < N := ⟨by omega, by omega⟩
  have hnd13 : G.2.2.1 ≤ x + 1 + 1 + 3 ∧ x + 1 + 1 + 3 < N := ⟨by omega, by omega⟩
  have hnd652 : G.2.2.1 ≤ x + 1 + 6 + 5 + 2 ∧ x + 1 + 6 + 5 + 2 < N := ⟨by omega, by omega⟩
  have hnd6102 : G.2.2.1 ≤ x + 1 + 6 + 10 + 2 ∧ x + 1 + 6 + 10 + 2 < N := ⟨by omega, by omega⟩
  have hn11 := ntse.2.2.2.1
  have hn12 := ntse.2.2.2.2.1
  have hn13 := ntse.2.2.2.2.2
  have hn652 := ntrc.2.2.2.2.2.1.2.2.2.2
  have hn6102 := ntrc.2.2.2.2.2.2.2.2.2.2.2
  obtain ⟨ltB, ltN, hl0, ltse, hl5, ltrc, hl19, ltsp, ltst⟩ := id htri
  have hld0 : G.2.2.1 ≤ x + 29 ∧ x + 29 < N := ⟨by omega, by omega⟩
  have hld1 : G.2.2.1 ≤ x + 29 + 1 ∧ x + 29 + 1 < N := ⟨by omega, by omega⟩
  have hld5 : G.2.2.1 ≤ x + 29 + 5 ∧ x + 29 + 5 < N := ⟨by omega, by omega⟩
  have hld6 : G.2.2.1 ≤ x + 29 + 6 ∧ x + 29 + 6 < N := ⟨by omega, by omega⟩
  have hld19 : G.2.2.1 ≤ x + 29 + 19 ∧ x + 29 + 19 < N := ⟨by omega, by omega⟩
  have hld20 : G.2.2.1 ≤ x + 29 + 20 ∧ x + 29 + 20 < N := ⟨by omega, by omega⟩
  have hld61 : G.2.2.1 ≤ x + 29 + 6 + 1 ∧ x + 29 + 6 + 1 < N := ⟨by omega, by omega⟩
  have hld65 : G.2.2.1 ≤ x + 29 + 6 + 5 ∧ x + 29 + 6 + 5 < N := ⟨by omega, by omega⟩
  have hld610 : G.2.2.1 ≤ x + 29 + 6 + 10 ∧ x + 29 + 6 + 10 < N := ⟨by omega, by omega⟩
  have hld68 : G.2.2.1 ≤ x + 29 + 6 + 8 ∧ x + 29 + 6 + 8 < N := ⟨by omega, by omega⟩
  have hl1 := ltse.2.2.1
  have hl6 := ltrc.2.2.1
  have hl20 := ltsp.2.2.1
  have hl61 := ltrc.2.2.2.1.2.2.2.1
  have hl65 := ltrc.2.2.2.2.2.1.2.2.1
  have hl68 := ltrc.2.2.2.2.2.2.1.2.2.2.1
  have hl610 := ltrc.2.2.2.2.2.2.2.2.2.1
  have hld11 : G.2.2.1 ≤ x + 29 + 1 + 1 ∧ x + 29 + 1 + 1 < N := ⟨by omega, by omega⟩
  have hld12 : G.2.2.1 ≤ x + 29 + 1 + 2 ∧ x + 29 + 1 + 2 < N := ⟨by omega, by omega⟩
  have hld13 : G.2.2.1 ≤ x + 29 + 1 + 3 ∧ x + 29 + 1 + 3 < N := ⟨by omega, by omega⟩
  have hld652 : G.2.2.1 ≤ x + 29 + 6 + 5 + 2 ∧ x + 29 + 6 + 5 + 2 < N := ⟨by omega, by omega⟩
  have hld6102 : G.2.2.1 ≤ x + 29 + 6 + 10 + 2 ∧ x + 29 + 6 + 10 + 2 < N := ⟨by omega, by omega⟩
  have hl11 := ltse.2.2.2.1
  have hl12 := ltse.2.2.2.2.1
  have hl13 := ltse.2.2.2.2.2
  have hl652 := ltrc.2.2.2.2.2.1.2.2.2.2
  have hl6102 := ltrc.2.2.2.2.2.2.2.2.2.2.2
  have hE : zE M := hI.1.1
  have hk : mOK M := hE.1
  have hK2 := hk.1.1
  have hK12 := hk.1.2.1
  have hR3 := hk.1.2.2.1
  refine r_iload_n C (pc := 0) rfl rfl dX6_setWeight_0 ?_
  refine r_iconst C (pc := 1) (x := (nI 1)) (by decide) dX6_setWeight_1 ?_
  refine r_bipush C (pc := 2) (x := (nI 6)) (by decide) dX6_setWeight_2 ?_
  refine r_callS C (pc := 4) (st := []) (m_X6_isWithin l G sh v N (x := a) (lo := (nI 1)) (hi := (nI 6))) kyX6_isWithin q_270 rfl rfl (Nat.le_of_ble_eq_true rfl) ⟨Nat.le_of_ble_eq_true rfl, Nat.le_of_ble_eq_true rfl⟩ ⟨Nat.le_of_ble_eq_true rfl, Nat.le_of_ble_eq_true rfl⟩ dX6_setWeight_4 (fun r4 v4 hp4 => ?_)
  obtain ⟨rfl, ehp4⟩ := hp4
  refine VV.vq ehp4 ?_
  refine VV.eq (st2 := [.int (zb (decide ((nI 1) ≤ a ∧ a ≤ (nI 6))))]) rfl ?_
  refine n_ifb_eq C (pc := 7) (tgt := 20) dX6_setWeight_7 (by decide) (fun c_7 => ?_) (fun c_7 => ?_)
  · refine r_iconst C (pc := 20) (x := (-1)) (by decide) dX6_setWeight_20 ?_
    exact r_iret C (pc := 21) rfl (rfl) dX6_setWeight_21 ⟨rfl, (by have ho : oSetWeight a b (M, h) = (-1, (M, h)) := if_neg (fun z => (of_decide_eq_false c_7) z.1); rw [ho]; exact ⟨q, hX, fun _ _ => rfl, rfl, hv, hh, zfr.rf⟩)⟩
  · refine r_iload_n C (pc := 10) rfl rfl dX6_setWeight_10 ?_
    refine r_iconst C (pc := 11) (x := (nI 0)) (by decide) dX6_setWeight_11 ?_
    refine r_bipush C (pc := 12) (x := (nI 9)) (by decide) dX6_setWeight_12 ?_
    refine r_callS C (pc := 14) (st := []) (m_X6_isWithin l G sh v N (x := b) (lo := (nI 0)) (hi := (nI 9))) kyX6_isWithin q_270 rfl rfl (Nat.le_of_ble_eq_true rfl) ⟨Nat.le_of_ble_eq_true rfl, Nat.le_of_ble_eq_true rfl⟩ ⟨Nat.le_of_ble_eq_true rfl, Nat.le_of_ble_eq_true rfl⟩ dX6_setWeight_14 (fun r14 v14 hp14 => ?_)
    obtain ⟨rfl, ehp14⟩ := hp14
    refine VV.vq ehp14 ?_
    refine VV.eq (st2 := [.int (zb (decide ((nI 0) ≤ b ∧ b ≤ (nI 9))))]) rfl ?_
    refine n_ifb_ne C (pc := 17) (tgt := 22) dX6_setWeight_17 (by decide) (fun c_17 => ?_) (fun c_17 => ?_)
    · have hc1 := (of_decide_eq_true c_7)
      have hc2 := (of_decide_eq_true c_17)
      obtain ⟨B1, hB1, hB2, ea⟩ := inR (of_decide_eq_true c_7) (by decide) (by decide)
      obtain ⟨B, rfl⟩ : ∃ B, B1 = B + 1 := ⟨B1 - 1, by omega⟩
      subst ea
      obtain ⟨y, hy1, hy2, rfl⟩ := inR (of_decide_eq_true c_17) (by omega) (by omega)
      have hwl := wsn_le hk.1.2.2.2.2.2.2.2.2.2.1 6 (Nat.le_refl 6)
      have hwb := (wsn_w (c := M.1) (x := y) 6 (show B < 6 by omega)).2
      refine r_aload_n C (pc := 22) rfl rfl dX6_setWeight_22 ?_
      refine r_get C (pc := 23) (ci := 6) (k := 0) (w := .ref (x + 1)) rfl (by decide) inX6 (by decide) q_231 (Or.inl hd0) hs0 (zl_ref _ _) dX6_setWeight_23 ?_
      refine r_getN C (pc := 26) (ci := 5) (k := 0) (w := .ref (x + 1 + 1)) rfl (by decide) inX5 (by decide) q_201 (Or.inl hnd0) hn0 (zl_ref _ _) dX6_setWeight_26 ?_
      refine r_getN C (pc := 29) (ci := 3) (k := 2) (w := .ref (x + 1 + 1 + 3)) rfl (by decide) inX3 (by decide) q_64 (Or.inl hnd1) hn1 (zl_ref _ _) dX6_setWeight_29 ?_
      refine r_iload_n C (pc := 32) rfl rfl dX6_setWeight_32 ?_
      refine r_iald C (pc := 33) (x := (nI (M.1 (11 + B)))) (Or.inl hnd13) hn13 (by omega) (by omega) (hv.2.2.2.1.2.2.2.2.2.2.2.2 B (by omega)) dX6_setWeight_33 ?_
      refine r_istore_n C (pc := 34) (lv2 := [some (.ref x), some (.int (nI (B + 1))), some (.int (nI y)), some (.int (nI (M.1 (11 + B))))]) rfl (Nat.le_of_ble_eq_true rfl) rfl rfl dX6_setWeight_34 ?_
      refine r_aload_n C (pc := 35) rfl rfl dX6_setWeight_35 ?_
      refine r_get C (pc := 36) (ci := 6) (k := 0) (w := .ref (x + 1)) rfl (by decide) inX6 (by decide) q_231 (Or.inl hd0) hs0 (zl_ref _ _) dX6_setWeight_36 ?_
      refine r_getN C (pc := 39) (ci := 5) (k := 0) (w := .ref (x + 1 + 1)) rfl (by decide) inX5 (by decide) q_201 (Or.inl hnd0) hn0 (zl_ref _ _) dX6_setWeight_39 ?_
      refine r_callV C (pc := 42) (st := []) (m_X3_weightSum l G sh v N ntse hv.2.2.2.1 hk.1) kyX3_weightSum q_355 rfl (Or.inl hnd1) hn1 (by decide) rfl rfl rfl (Nat.le_of_ble_eq_true rfl) ⟨Nat.le_of_ble_eq_true rfl, Nat.le_of_ble_eq_true rfl⟩ ⟨Nat.le_of_ble_eq_true rfl, Nat.le_of_ble_eq_true rfl⟩ dX6_setWeight_42 (fun r42 v42 hp42 => ?_)
      obtain ⟨rfl, ehp42⟩ := hp42
      refine VV.vq ehp42 ?_
      refine VV.eq (st2 := [.int (nI (wsn M.1 6))]) rfl ?_
      refine r_iload_n C (pc := 45) rfl rfl dX6_setWeight_45 ?_
      refine r_isub C (pc := 46) (z := (nI (wsn M.1 6 - M.1 (11 + B)))) (pk_sub hwb) dX6_setWeight_46 ?_
      refine r_iload_n C (pc := 47) rfl rfl dX6_setWeight_47 ?_
      refine r_iadd C (pc := 48) (z := (nI ((wsn M.1 6 - M.1 (11 + B)) + y))) (nI_add _ _) dX6_setWeight_48 ?_
      refine n_if_ne C (pc := 49) (tgt := 55) (by omega) dX6_setWeight_49 (by decide) (fun c_49 => ?_) (fun c_49 => ?_)
      · refine r_aload_n C (pc := 55) rfl rfl dX6_setWeight_55 ?_
        refine r_callVM C (pc := 56) (st := []) (m_X6_remember l G sh v N hX hv hh) kyX6_remember q_273 rfl (Or.inl hd0) hs0 (by decide) rfl rfl rfl (Nat.le_of_ble_eq_true rfl) ⟨Nat.le_of_ble_eq_true rfl, Nat.le_of_ble_eq_true rfl⟩ ⟨Nat.le_of_ble_eq_true rfl, Nat.le_of_ble_eq_true rfl⟩ dX6_setWeight_56 (fun r56 sh v56 N' hp56 => ?_)
        obtain ⟨hN, rfl, q1, X1, X2, X3, X4, X5⟩ := hp56
        subst hN
        obtain ⟨xB, xN, hs0, hs57, hs58, hs59, hnow, htri, hhis, himg, hpq⟩ := id X1
        have hd0 : G.2.2.1 ≤ x ∧ x < N := ⟨xB, by omega⟩
        have hd57 : G.2.2.1 ≤ x + 57 ∧ x + 57 < N := ⟨by omega, by omega⟩
        have hd58 : G.2.2.1 ≤ x + 58 ∧ x + 58 < N := ⟨by omega, by omega⟩
        have hd59 : G.2.2.1 ≤ x + 59 ∧ x + 59 < N := ⟨by omega, by omega⟩
        obtain ⟨ntB, ntN, hn0, ntse, hn5, ntrc, hn19, ntsp, ntst⟩ := id hnow
        have hnd0 : G.2.2.1 ≤ x + 1 ∧ x + 1 < N := ⟨by omega, by omega⟩
        have hnd1 : G.2.2.1 ≤ x + 1 + 1 ∧ x + 1 + 1 < N := ⟨by omega, by omega⟩
        have hnd5 : G.2.2.1 ≤ x + 1 + 5 ∧ x + 1 + 5 < N := ⟨by omega, by omega⟩
        have hnd6 : G.2.2.1 ≤ x + 1 + 6 ∧ x + 1 + 6 < N := ⟨by omega, by omega⟩
        have hnd19 : G.2.2.1 ≤ x + 1 + 19 ∧ x + 1 + 19 < N := ⟨by omega, by omega⟩
        have hnd20 : G.2.2.1 ≤ x + 1 + 20 ∧ x + 1 + 20 < N := ⟨by omega, by omega⟩
        have hnd61 : G.2.2.1 ≤ x + 1 + 6 + 1 ∧ x + 1 + 6 + 1 < N := ⟨by omega, by omega⟩
        have hnd65 : G.2.2.1 ≤ x + 1 + 6 + 5 ∧ x + 1 + 6 + 5 < N := ⟨by omega, by omega⟩
        have hnd610 : G.2.2.1 ≤ x + 1 + 6 + 10 ∧ x + 1 + 6 + 10 < N := ⟨by omega, by omega⟩
        have hnd68 : G.2.2.1 ≤ x + 1 + 6 + 8 ∧ x + 1 + 6 + 8 < N := ⟨by omega, by omega⟩
        have hn1 := ntse.2.2.1
        have hn6 := ntrc.2.2.1
        have hn20 := ntsp.2.2.1
        have hn61 := ntrc.2.2.2.1.2.2.2.1
        have hn65 := ntrc.2.2.2.2.2.1.2.2.1
        have hn68 := ntrc.2.2.2.2.2.2.1.2.2.2.1
        have hn610 := ntrc.2.2.2.2.2.2.2.2.2.1
        have hnd11 : G.2.2.1 ≤ x + 1 + 1 + 1 ∧ x + 1 + 1 + 1 < N := ⟨by omega, by omega⟩
        have hnd12 : G.2.2.1 ≤ x + 1 + 1 + 2 ∧ x + 1 + 1 + 2 < N := ⟨by omega, by omega⟩
        have hnd13 : G.2.2.1 ≤ x + 1 + 1 + 3 ∧ x + 1 + 1 + 3 < N := ⟨by omega, by omega⟩
        have hnd652 : G.2.2.1 ≤ x + 1 + 6 + 5 + 2 ∧ x + 1 + 6 + 5 + 2 < N := ⟨by omega, by omega⟩
        have hnd6102 : G.2.2.1 ≤ x + 1 + 6 + 10 + 2 ∧ x + 1 + 6 + 10 + 2 < N := ⟨by omega, by omega⟩
        have hn11 := ntse.2.2.2.1
        have hn12 := ntse.2.2.2.2.1
        have hn13 := ntse.2.2.2.2.2
        have hn652 := ntrc.2.2.2.2.2.1.2.2.2.2
        have hn6102 := ntrc.2.2.2.2.2.2.2.2.2.2.2
        obtain ⟨ltB, ltN, hl0, ltse, hl5, ltrc, hl19, ltsp, ltst⟩ := id htri
        have hld0 : G.2.2.1 ≤ x + 29 ∧ x + 29 < N := ⟨by omega, by omega⟩
        have hld1 : G.2.2.1 ≤ x + 29 + 1 ∧ x + 29 + 1 < N := ⟨by omega, by omega⟩
        have hld5 : G.2.2.1 ≤ x + 29 + 5 ∧ x + 29 + 5 < N := ⟨by omega, by omega⟩
        have hld6 : G.2.2.1 ≤ x + 29 + 6 ∧ x + 29 + 6 < N := ⟨by omega, by omega⟩
        have hld19 : G.2.2.1 ≤ x + 29 + 19 ∧ x + 29 + 19 < N := ⟨by omega, by omega⟩
        have hld20 : G.2.2.1 ≤ x + 29 + 20 ∧ x + 29 + 20 < N := ⟨by omega, by omega⟩
        have hld61 : G.2.2.1 ≤ x + 29 + 6 + 1 ∧ x + 29 + 6 + 1 < N := ⟨by omega, by omega⟩
        have hld65 : G.2.2.1 ≤ x + 29 + 6 + 5 ∧ x + 29 + 6 + 5 < N := ⟨by omega, by omega⟩
        have hld610 : G.2.2.1 ≤ x + 29 + 6 + 10 ∧ x + 29 + 6 + 10 < N := ⟨by omega, by omega⟩
        have hld68 : G.2.2.1 ≤ x + 29 + 6 + 8 ∧ x + 29 + 6 + 8 < N := ⟨by omega, by omega⟩
        have hl1 := ltse.2.2.1
        have hl6 := ltrc.2.2.1
        have hl20 := ltsp.2.2.1
        have hl61 := ltrc.2.2.2.1.2.2.2.1
        have hl65 := ltrc.2.2.2.2.2.1.2.2.1
        have hl68 := ltrc.2.2.2.2.2.2.1.2.2.2.1
        have hl610 := ltrc.2.2.2.2.2.2.2.2.2.1
        have hld11 : G.2.2.1 ≤ x + 29 + 1 + 1 ∧ x + 29 + 1 + 1 < N := ⟨by omega, by omega⟩
        have hld12 : G.2.2.1 ≤ x + 29 + 1 + 2 ∧ x + 29 + 1 + 2 < N := ⟨by omega, by omega⟩
        have hld13 : G.2.2.1 ≤ x + 29 + 1 + 3 ∧ x + 29 + 1 + 3 < N := ⟨by omega, by omega⟩
        have hld652 : G.2.2.1 ≤ x + 29 + 6 + 5 + 2 ∧ x + 29 + 6 + 5 + 2 < N := ⟨by omega, by omega⟩
        have hld6102 : G.2.2.1 ≤ x + 29 + 6 + 10 + 2 ∧ x + 29 + 6 + 10 + 2 < N := ⟨by omega, by omega⟩
        have hl11 := ltse.2.2.2.1
        have hl12 := ltse.2.2.2.2.1
        have hl13 := ltse.2.2.2.2.2
        have hl652 := ltrc.2.2.2.2.2.1.2.2.2.2
        have hl6102 := ltrc.2.2.2.2.2.2.2.2.2.2.2
        refine VV.c0 ?_
        refine VV.eq (st2 := []) rfl ?_
        refine r_aload_n C (pc := 59) rfl rfl dX6_setWeight_59 ?_
        refine r_get C (pc := 60) (ci := 6) (k := 0) (w := .ref (x + 1)) rfl (by decide) inX6 (by decide) q_231 (Or.inl hd0) hs0 (zl_ref _ _) dX6_setWeight_60 ?_
        refine r_getN C (pc := 63) (ci := 5) (k := 0) (w := .ref (x + 1 + 1)) rfl (by decide) inX5 (by decide) q_201 (Or.inl hnd0) hn0 (zl_ref _ _) dX6_setWeight_63 ?_
        refine r_getN C (pc := 66) (ci := 3) (k := 2) (w := .ref (x + 1 + 1 + 3)) rfl (by decide) inX3 (by decide) q_64 (Or.inl hnd1) hn1 (zl_ref _ _) dX6_setWeight_66 ?_
        refine r_iload_n C (pc := 69) rfl rfl dX6_setWeight_69 ?_
        refine r_iload_n C (pc := 70) rfl rfl dX6_setWeight_70 ?_
        refine r_iast C (pc := 71) hnd13 hn13 (by omega) (by omega) dX6_setWeight_71 ?_
        refine VV.gn (fun w71 ew71 => ?_)
        refine r_iload_n C (pc := 72) rfl rfl dX6_setWeight_72 ?_
        exact r_iret C (pc := 73) rfl (rfl) dX6_setWeight_73 ⟨rfl, (by have ho : oSetWeight (nI (B + 1)) (nI y) (M, h) = (nI (M.1 (11 + B)), ((upc M.1 (11 + B) y, M.2), remH M h)) := ((if_pos ⟨hc1, hc2⟩).trans (by rw [nn_I (by omega), nn_I (by omega), Nat.add_sub_cancel])).trans (if_neg (fun z => by dsimp only at z; omega)); rw [ho]; have hfz : zfr v56 w71 (x + 1 + 1) 4 := (by rw [ew71]; exact zfr.rf.z2 (by omega) (by omega)); have hz := zt_set X3 (v1 := w71) (by rw [ew71]; exact zse_w (b := B) (x := y) X3.2.2.2.1 (by omega)) hfz (fun i hi => upc_n (by omega)); exact ⟨q1, X1, X2, rfl, hz, zxh_now X4 hpq (hfz.wide (by omega) (by omega)), X5.tr (hfz.wide (by omega) (by omega))⟩)⟩
      · refine r_bipush C (pc := 52) (x := (-2)) (by decide) dX6_setWeight_52 ?_
        exact r_iret C (pc := 54) rfl (rfl) dX6_setWeight_54 ⟨rfl, (by have ho : oSetWeight (nI (B + 1)) (nI y) (M, h) = (-2, (M, h)) := ((if_pos ⟨hc1, hc2⟩).trans (by rw [nn_I (by omega), nn_I (by omega), Nat.add_sub_cancel])).trans (if_pos c_49); rw [ho]; exact ⟨q, hX, fun _ _ => rfl, rfl, hv, hh, zfr.rf⟩)⟩
    · refine r_iconst C (pc := 20) (x := (-1)) (by decide) dX6_setWeight_20 ?_
      exact r_iret C (pc := 21) rfl (rfl) dX6_setWeight_21 ⟨rfl, (by have ho : oSetWeight a b (M, h) = (-1, (M, h)) := if_neg (fun z => (of_decide_eq_false c_17) z.2); rw [ho]; exact ⟨q, hX, fun _ _ => rfl, rfl, hv, hh, zfr.rf⟩)⟩
set_option maxRecDepth 100000 in
set_option maxHeartbeats 4000000 in
theorem m_X6_set (l : Launch) (G : zG) (sh : zH) (v : zV) (N : Nat) {x : Nat} {q : Nat → Nat} {M : zMS} {h : zHs} {T : Nat} {a b : Int32} (hX : zXR G sh N x q) (hv : zt v (x + 1) M) (hh : zxh v x q h) (hI : zI T (M, h)) (hT : T + 1000 < 2 ^ 30) : zM l G yX6_set cX6_set 3 (some .int) 6 0 0 [.ref x, .int a, .int b] sh v N (fun r sh1 v1 N1 => N = N1 ∧ (∃ q1, zXR G sh1 N x q1 ∧ (∀ b, b ≠ x + 57 → sh1 b = sh b) ∧ r = some (.int (oSet a b (M, h)).1) ∧ zt v1 (x + 1) (oSet a b (M, h)).2.1 ∧ zxh v1 x q1 (oSet a b (M, h)).2.2 ∧ zfr v v1 x 340)) := by
  refine zM.of (by decide) rfl (Nat.le_of_ble_eq_true rfl) ?_
  intro p e s m args below meth c C
  obtain ⟨xB, xN, hs0, hs57, hs58, hs59, hnow, htri, hhis, himg, hpq⟩ := id hX
  have hd0 : G.2.2.1 ≤ x ∧ x < N := ⟨xB, by omega⟩
  have hd57 : G.2.2.1 ≤ x + 57 ∧ x + 57 < N := ⟨by omega, by omega⟩
  have hd58 : G.2.2.1 ≤ x + 58 ∧ x + 58 < N := ⟨by omega, by omega⟩
  have hd59 : G.2.2.1 ≤ x + 59 ∧ x + 59 < N := ⟨by omega, by omega⟩
  obtain ⟨ntB, ntN, hn0, ntse, hn5, ntrc, hn19, ntsp, ntst⟩ := id hnow
  have hnd0 : G.2.2.1 ≤ x + 1 ∧ x + 1 < N := ⟨by omega, by omega⟩
  have hnd1 : G.2.2.1 ≤ x + 1 + 1 ∧ x + 1 + 1 < N := ⟨by omega, by omega⟩
  have hnd5 : G.2.2.1 ≤ x + 1 + 5 ∧ x + 1 + 5 < N := ⟨by omega, by omega⟩
  have hnd6 : G.2.2.1 ≤ x + 1 + 6 ∧ x + 1 + 6 < N := ⟨by omega, by omega⟩
  have hnd19 : G.2.2.1 ≤ x + 1 + 19 ∧ x + 1 + 19 < N := ⟨by omega, by omega⟩
  have hnd20 : G.2.2.1 ≤ x + 1 + 20 ∧ x + 1 + 20 < N := ⟨by omega, by omega⟩
  have hnd61 : G.2.2.1 ≤ x + 1 + 6 + 1 ∧ x + 1 + 6 + 1 < N := ⟨by omega, by omega⟩
  have hnd65 : G.2.2.1 ≤ x + 1 + 6 + 5 ∧ x + 1 + 6 + 5 < N := ⟨by omega, by omega⟩
  have hnd610 : G.2.2.1 ≤ x + 1 + 6 + 10 ∧ x + 1 + 6 + 10 < N := ⟨by omega, by omega⟩
  have hnd68 : G.2.2.1 ≤ x + 1 + 6 + 8 ∧ x + 1 + 6 + 8 < N := ⟨by omega, by omega⟩
  have hn1 := ntse.2.2.1
  have hn6 := ntrc.2.2.1
  have hn20 := ntsp.2.2.1
  have hn61 := ntrc.2.2.2.1.2.2.2.1
  have hn65 := ntrc.2.2.2.2.2.1.2.2.1
  have hn68 := ntrc.2.2.2.2.2.2.1.2.2.2.1
  have hn610 := ntrc.2.2.2.2.2.2.2.2.2.1
  have hnd11 : G.2.2.1 ≤ x + 1 + 1 + 1 ∧ x + 1 + 1 + 1 < N := ⟨by omega, by omega⟩
  have hnd12 : G.2.2.1 ≤ x + 1 + 1 + 2 ∧ x + 1 + 1 + 2 < N := ⟨by omega, by omega⟩
  have hnd13 : G.2.2.1 ≤ x + 1 + 1 + 3 ∧ x + 1 + 1 + 3 < N := ⟨by omega, by omega⟩
  have hnd652 : G.2.2.1 ≤ x + 1 + 6 + 5 + 2 ∧ x + 1 + 6 + 5 + 2 < N := ⟨by omega, by omega⟩
  have hnd6102 : G.2.2.1 ≤ x + 1 + 6 + 10 + 2 ∧ x + 1 + 6 + 10 + 2 < N := ⟨by omega, by omega⟩
  have hn11 := ntse.2.2.2.1
  have hn12 := ntse.2.2.2.2.1
  have hn13 := ntse.2.2.2.2.2
  have hn652 := ntrc.2.2.2.2.2.1.2.2.2.2
  have hn6102 := ntrc.2.2.2.2.2.2.2.2.2.2.2
  obtain ⟨ltB, ltN, hl0, ltse, hl5, ltrc, hl19, ltsp, ltst⟩ := id htri
  have hld0 : G.2.2.1 ≤ x + 29 ∧ x + 29 < N := ⟨by omega, by omega⟩
  have hld1 : G.2.2.1 ≤ x + 29 + 1 ∧ x + 29 + 1 < N := ⟨by omega, by omega⟩
  have hld5 : G.2.2.1 ≤ x + 29 + 5 ∧ x + 29 + 5 < N := ⟨by omega, by omega⟩
  have hld6 : G.2.2.1 ≤ x + 29 + 6 ∧ x + 29 + 6 < N := ⟨by omega, by omega⟩
  have hld19 : G.2.2.1 ≤ x + 29 + 19 ∧ x + 29 + 19 < N := ⟨by omega, by omega⟩
  have hld20 : G.2.2.1 ≤ x + 29 + 20 ∧ x + 29 + 20 < N := ⟨by omega, by omega⟩
  have hld61 : G.2.2.1 ≤ x + 29 + 6 + 1 ∧ x + 29 + 6 + 1 < N := ⟨by omega, by omega⟩
  have hld65 : G.2.2.1 ≤ x + 29 + 6 + 5 ∧ x + 29 + 6 + 5 < N := ⟨by omega, by omega⟩
  have hld610 : G.2.2.1 ≤ x + 29 + 6 + 10 ∧ x + 29 + 6 + 10 < N := ⟨by omega, by omega⟩
  have hld68 : G.2.2.1 ≤ x + 29 + 6 + 8 ∧ x + 29 + 6 + 8 < N := ⟨by omega, by omega⟩
  have hl1 := ltse.2.2.1
  have hl6 := ltrc.2.2.1
  have hl20 := ltsp.2.2.1
  have hl61 := ltrc.2.2.2.1.2.2.2.1
  have hl65 := ltrc.2.2.2.2.2.1.2.2.1
  have hl68 := ltrc.2.2.2.2.2.2.1.2.2.2.1
  have hl610 := ltrc.2.2.2.2.2.2.2.2.2.1
  have hld11 : G.2.2.1 ≤ x + 29 + 1 + 1 ∧ x + 29 + 1 + 1 < N := ⟨by omega, by omega⟩
  have hld12 : G.2.2.1 ≤ x + 29 + 1 + 2 ∧ x + 29 + 1 + 2 < N := ⟨by omega, by omega⟩
  have hld13 : G.2.2.1 ≤ x + 29 + 1 + 3 ∧ x + 29 + 1 + 3 < N := ⟨by omega, by omega⟩
  have hld652 : G.2.2.1 ≤ x + 29 + 6 + 5 + 2 ∧ x + 29 + 6 + 5 + 2 < N := ⟨by omega, by omega⟩
  have hld6102 : G.2.2.1 ≤ x + 29 + 6 + 10 + 2 ∧ x + 29 + 6 + 10 + 2 < N := ⟨by omega, by omega⟩
  have hl11 := ltse.2.2.2.1
  have hl12 := ltse.2.2.2.2.1
  have hl13 := ltse.2.2.2.2.2
  have hl652 := ltrc.2.2.2.2.2.1.2.2.2.2
  have hl6102 := ltrc.2.2.2.2.2.2.2.2.2.2.2
  have hE : zE M := hI.1.1
  have hk : mOK M := hE.1
  have hK2 := hk.1.1
  have hK12 := hk.1.2.1
  have hR3 := hk.1.2.2.1
  refine r_iload_n C (pc := 0) rfl rfl dX6_set_0 ?_
  refine r_iload_n C (pc := 1) rfl rfl dX6_set_1 ?_
  refine r_callS C (pc := 2) (st := []) (m_X6_isSetting l G sh v N (a := a) (b := b)) kyX6_isSetting q_363 rfl rfl (Nat.le_of_ble_eq_true rfl) ⟨Nat.le_of_ble_eq_true rfl, Nat.le_of_ble_eq_true rfl⟩ ⟨Nat.le_of_ble_eq_true rfl, Nat.le_of_ble_eq_true rfl⟩ dX6_set_2 (fun r2 v2 hp2 => ?_)
  obtain ⟨rfl, ehp2⟩ := hp2
  refine VV.vq ehp2 ?_
  refine VV.eq (st2 := [.int (zb (sok a b))]) rfl ?_
  refine n_ifb_ne C (pc := 5) (tgt := 10) dX6_set_5 (by decide) (fun c_5 => ?_) (fun c_5 => ?_)
  · rcases of_decide_eq_true c_5 with ⟨ea, hz⟩ | ⟨ea, hz⟩ | ⟨ea, hz⟩ | ⟨ea, hz⟩
    · obtain ⟨y, hy1, hy2, eb⟩ := inR hz (by decide) (by decide)
      subst eb
      subst ea
      refine r_aload_n C (pc := 10) rfl rfl dX6_set_10 ?_
      refine r_callVM C (pc := 11) (st := []) (m_X6_remember l G sh v N hX hv hh) kyX6_remember q_273 rfl (Or.inl hd0) hs0 (by decide) rfl rfl rfl (Nat.le_of_ble_eq_true rfl) ⟨Nat.le_of_ble_eq_true rfl, Nat.le_of_ble_eq_true rfl⟩ ⟨Nat.le_of_ble_eq_true rfl, Nat.le_of_ble_eq_true rfl⟩ dX6_set_11 (fun r11 sh v11 N' hp11 => ?_)
      obtain ⟨hN, rfl, q1, X1, X2, X3, X4, X5⟩ := hp11
      subst hN
      obtain ⟨xB, xN, hs0, hs57, hs58, hs59, hnow, htri, hhis, himg, hpq⟩ := id X1
      have hd0 : G.2.2.1 ≤ x ∧ x < N := ⟨xB, by omega⟩
      have hd57 : G.2.2.1 ≤ x + 57 ∧ x + 57 < N := ⟨by omega, by omega⟩
      have hd58 : G.2.2.1 ≤ x + 58 ∧ x + 58 < N := ⟨by omega, by omega⟩
      have hd59 : G.2.2.1 ≤ x + 59 ∧ x + 59 < N := ⟨by omega, by omega⟩
      obtain ⟨ntB, ntN, hn0, ntse, hn5, ntrc, hn19, ntsp, ntst⟩ := id hnow
      have hnd0 : G.2.2.1 ≤ x + 1 ∧ x + 1 < N := ⟨by omega, by omega⟩
      have hnd1 : G.2.2.1 ≤ x + 1 + 1 ∧ x + 1 + 1 < N := ⟨by omega, by omega⟩
      have hnd5 : G.2.2.1 ≤ x + 1 + 5 ∧ x + 1 + 5 < N := ⟨by omega, by omega⟩
      have hnd6 : G.2.2.1 ≤ x + 1 + 6 ∧ x + 1 + 6 < N := ⟨by omega, by omega⟩
      have hnd19 : G.2.2.1 ≤ x + 1 + 19 ∧ x + 1 + 19 < N := ⟨by omega, by omega⟩
      have hnd20 : G.2.2.1 ≤ x + 1 + 20 ∧ x + 1 + 20 < N := ⟨by omega, by omega⟩
      have hnd61 : G.2.2.1 ≤ x + 1 + 6 + 1 ∧ x + 1 + 6 + 1 < N := ⟨by omega, by omega⟩
      have hnd65 : G.2.2.1 ≤ x + 1 + 6 + 5 ∧ x + 1 + 6 + 5 < N := ⟨by omega, by omega⟩
      have hnd610 : G.2.2.1 ≤ x + 1 + 6 + 10 ∧ x + 1 + 6 + 10 < N := ⟨by omega, by omega⟩
      have hnd68 : G.2.2.1 ≤ x + 1 + 6 + 8 ∧ x + 1 + 6 + 8 < N := ⟨by omega, by omega⟩
      have hn1 := ntse.2.2.1
      have hn6 := ntrc.2.2.1
      have hn20 := ntsp.2.2.1
      have hn61 := ntrc.2.2.2.1.2.2.2.1
      have hn65 := ntrc.2.2.2.2.2.1.2.2.1
      have hn68 := ntrc.2.2.2.2.2.2.1.2.2.2.1
      have hn610 := ntrc.2.2.2.2.2.2.2.2.2.1
      have hnd11 : G.2.2.1 ≤ x + 1 + 1 + 1 ∧ x + 1 + 1 + 1 < N := ⟨by omega, by omega⟩
      have hnd12 : G.2.2.1 ≤ x + 1 + 1 + 2 ∧ x + 1 + 1 + 2 < N := ⟨by omega, by omega⟩
      have hnd13 : G.2.2.1 ≤ x + 1 + 1 + 3 ∧ x + 1 + 1 + 3 < N := ⟨by omega, by omega⟩
      have hnd652 : G.2.2.1 ≤ x + 1 + 6 + 5 + 2 ∧ x + 1 + 6 + 5 + 2 < N := ⟨by omega, by omega⟩
      have hnd6102 : G.2.2.1 ≤ x + 1 + 6 + 10 + 2 ∧ x + 1 + 6 + 10 + 2 < N := ⟨by omega, by omega⟩
      have hn11 := ntse.2.2.2.1
      have hn12 := ntse.2.2.2.2.1
      have hn13 := ntse.2.2.2.2.2
      have hn652 := ntrc.2.2.2.2.2.1.2.2.2.2
      have hn6102 := ntrc.2.2.2.2.2.2.2.2.2.2.2
      obtain ⟨ltB, ltN, hl0, ltse, hl5, ltrc, hl19, ltsp, ltst⟩ := id htri
      have hld0 : G.2.2.1 ≤ x + 29 ∧ x + 29 < N := ⟨by omega, by omega⟩
      have hld1 : G.2.2.1 ≤ x + 29 + 1 ∧ x + 29 + 1 < N := ⟨by omega, by omega⟩
      have hld5 : G.2.2.1 ≤ x + 29 + 5 ∧ x + 29 + 5 < N := ⟨by omega, by omega⟩
      have hld6 : G.2.2.1 ≤ x + 29 + 6 ∧ x + 29 + 6 < N := ⟨by omega, by omega⟩
      have hld19 : G.2.2.1 ≤ x + 29 + 19 ∧ x + 29 + 19 < N := ⟨by omega, by omega⟩
      have hld20 : G.2.2.1 ≤ x + 29 + 20 ∧ x + 29 + 20 < N := ⟨by omega, by omega⟩
      have hld61 : G.2.2.1 ≤ x + 29 + 6 + 1 ∧ x + 29 + 6 + 1 < N := ⟨by omega, by omega⟩
      have hld65 : G.2.2.1 ≤ x + 29 + 6 + 5 ∧ x + 29 + 6 + 5 < N := ⟨by omega, by omega⟩
      have hld610 : G.2.2.1 ≤ x + 29 + 6 + 10 ∧ x + 29 + 6 + 10 < N := ⟨by omega, by omega⟩
      have hld68 : G.2.2.1 ≤ x + 29 + 6 + 8 ∧ x + 29 + 6 + 8 < N := ⟨by omega, by omega⟩
      have hl1 := ltse.2.2.1
      have hl6 := ltrc.2.2.1
      have hl20 := ltsp.2.2.1
      have hl61 := ltrc.2.2.2.1.2.2.2.1
      have hl65 := ltrc.2.2.2.2.2.1.2.2.1
      have hl68 := ltrc.2.2.2.2.2.2.1.2.2.2.1
      have hl610 := ltrc.2.2.2.2.2.2.2.2.2.1
      have hld11 : G.2.2.1 ≤ x + 29 + 1 + 1 ∧ x + 29 + 1 + 1 < N := ⟨by omega, by omega⟩
      have hld12 : G.2.2.1 ≤ x + 29 + 1 + 2 ∧ x + 29 + 1 + 2 < N := ⟨by omega, by omega⟩
      have hld13 : G.2.2.1 ≤ x + 29 + 1 + 3 ∧ x + 29 + 1 + 3 < N := ⟨by omega, by omega⟩
      have hld652 : G.2.2.1 ≤ x + 29 + 6 + 5 + 2 ∧ x + 29 + 6 + 5 + 2 < N := ⟨by omega, by omega⟩
      have hld6102 : G.2.2.1 ≤ x + 29 + 6 + 10 + 2 ∧ x + 29 + 6 + 10 + 2 < N := ⟨by omega, by omega⟩
      have hl11 := ltse.2.2.2.1
      have hl12 := ltse.2.2.2.2.1
      have hl13 := ltse.2.2.2.2.2
      have hl652 := ltrc.2.2.2.2.2.1.2.2.2.2
      have hl6102 := ltrc.2.2.2.2.2.2.2.2.2.2.2
      refine VV.c0 ?_
      refine VV.eq (st2 := []) rfl ?_
      refine r_iload_n C (pc := 14) rfl rfl dX6_set_14 ?_
      refine r_tableIn C (pc := 15) (off := 25) (tgt := 40) dX6_set_15 (by decide) (by decide) rfl (by decide) ?_
      refine r_aload_n C (pc := 40) rfl rfl dX6_set_40 ?_
      refine r_get C (pc := 41) (ci := 6) (k := 0) (w := .ref (x + 1)) rfl (by decide) inX6 (by decide) q_231 (Or.inl hd0) hs0 (zl_ref _ _) dX6_set_41 ?_
      refine r_iload_n C (pc := 44) rfl rfl dX6_set_44 ?_
      refine r_callV C (pc := 45) (st := []) (m_X5_changeRoom l G sh v11 N (x := y) hnow X3 hk (by omega)) kyX5_changeRoom q_366 rfl (Or.inl hnd0) hn0 (by decide) rfl rfl rfl (Nat.le_of_ble_eq_true rfl) ⟨Nat.le_of_ble_eq_true rfl, Nat.le_of_ble_eq_true rfl⟩ ⟨Nat.le_of_ble_eq_true rfl, Nat.le_of_ble_eq_true rfl⟩ dX6_set_45 (fun r45 v45 hp45 => ?_)
      obtain ⟨rfl, g4, g5⟩ := hp45
      refine VV.eq (st2 := [.int (nI (M.1 3))]) rfl ?_
      exact r_iret C (pc := 48) rfl (rfl) dX6_set_48 ⟨rfl, (by have ho : oSet (nI 0) (nI y) (M, h) = (nI (M.1 3), (trm M y, remH M h)) := (if_pos ⟨rfl, hz⟩).trans (by rw [nn_I (by omega)]); rw [ho]; exact ⟨q1, X1, X2, rfl, g4, zxh_now X4 hpq (g5), X5.tr (g5.wide (by omega) (by omega))⟩)⟩
    · obtain ⟨y, hy1, hy2, eb⟩ := inR hz (by decide) (by decide)
      subst eb
      subst ea
      refine r_aload_n C (pc := 10) rfl rfl dX6_set_10 ?_
      refine r_callVM C (pc := 11) (st := []) (m_X6_remember l G sh v N hX hv hh) kyX6_remember q_273 rfl (Or.inl hd0) hs0 (by decide) rfl rfl rfl (Nat.le_of_ble_eq_true rfl) ⟨Nat.le_of_ble_eq_true rfl, Nat.le_of_ble_eq_true rfl⟩ ⟨Nat.le_of_ble_eq_true rfl, Nat.le_of_ble_eq_true rfl⟩ dX6_set_11 (fun r11' sh v11' N' hp11' => ?_)
      obtain ⟨hN, rfl, q1, X1, X2, X3, X4, X5⟩ := hp11'
      subst hN
      obtain ⟨xB, xN, hs0, hs57, hs58, hs59, hnow, htri, hhis, himg, hpq⟩ := id X1
      have hd0 : G.2.2.1 ≤ x ∧ x < N := ⟨xB, by omega⟩
      have hd57 : G.2.2.1 ≤ x + 57 ∧ x + 57 < N := ⟨by omega, by omega⟩
      have hd58 : G.2.2.1 ≤ x + 58 ∧ x + 58 < N := ⟨by omega, by omega⟩
      have hd59 : G.2.2.1 ≤ x + 59 ∧ x + 59 < N := ⟨by omega, by omega⟩
      obtain ⟨ntB, ntN, hn0, ntse, hn5, ntrc, hn19, ntsp, ntst⟩ := id hnow
      have hnd0 : G.2.2.1 ≤ x + 1 ∧ x + 1 < N := ⟨by omega, by omega⟩
      have hnd1 : G.2.2.1 ≤ x + 1 + 1 ∧ x + 1 + 1 < N := ⟨by omega, by omega⟩
      have hnd5 : G.2.2.1 ≤ x + 1 + 5 ∧ x + 1 + 5 < N := ⟨by omega, by omega⟩
      have hnd6 : G.2.2.1 ≤ x + 1 + 6 ∧ x + 1 + 6 < N := ⟨by omega, by omega⟩
      have hnd19 : G.2.2.1 ≤ x + 1 + 19 ∧ x + 1 + 19 < N := ⟨by omega, by omega⟩
      have hnd20 : G.2.2.1 ≤ x + 1 + 20 ∧ x + 1 + 20 < N := ⟨by omega, by omega⟩
      have hnd61 : G.2.2.1 ≤ x + 1 + 6 + 1 ∧ x + 1 + 6 + 1 < N := ⟨by omega, by omega⟩
      have hnd65 : G.2.2.1 ≤ x + 1 + 6 + 5 ∧ x + 1 + 6 + 5 < N := ⟨by omega, by omega⟩
      have hnd610 : G.2.2.1 ≤ x + 1 + 6 + 10 ∧ x + 1 + 6 + 10 < N := ⟨by omega, by omega⟩
      have hnd68 : G.2.2.1 ≤ x + 1 + 6 + 8 ∧ x + 1 + 6 + 8 < N := ⟨by omega, by omega⟩
      have hn1 := ntse.2.2.1
      have hn6 := ntrc.2.2.1
      have hn20 := ntsp.2.2.1
      have hn61 := ntrc.2.2.2.1.2.2.2.1
      have hn65 := ntrc.2.2.2.2.2.1.2.2.1
      have hn68 := ntrc.2.2.2.2.2.2.1.2.2.2.1
      have hn610 := ntrc.2.2.2.2.2.2.2.2.2.1
      have hnd11 : G.2.2.1 ≤ x + 1 + 1 + 1 ∧ x + 1 + 1 + 1 < N := ⟨by omega, by omega⟩
      have hnd12 : G.2.2.1 ≤ x + 1 + 1 + 2 ∧ x + 1 + 1 + 2 < N := ⟨by omega, by omega⟩
      have hnd13 : G.2.2.1 ≤ x + 1 + 1 + 3 ∧ x + 1 + 1 + 3 < N := ⟨by omega, by omega⟩
      have hnd652 : G.2.2.1 ≤ x + 1 + 6 + 5 + 2 ∧ x + 1 + 6 + 5 + 2 < N := ⟨by omega, by omega⟩
      have hnd6102 : G.2.2.1 ≤ x + 1 + 6 + 10 + 2 ∧ x + 1 + 6 + 10 + 2 < N := ⟨by omega, by omega⟩
      have hn11 := ntse.2.2.2.1
      have hn12 := ntse.2.2.2.2.1
      have hn13 := ntse.2.2.2.2.2
      have hn652 := ntrc.2.2.2.2.2.1.2.2.2.2
      have hn6102 := ntrc.2.2.2.2.2.2.2.2.2.2.2
      obtain ⟨ltB, ltN, hl0, ltse, hl5, ltrc, hl19, ltsp, ltst⟩ := id htri
      have hld0 : G.2.2.1 ≤ x + 29 ∧ x + 29 < N := ⟨by omega, by omega⟩
      have hld1 : G.2.2.1 ≤ x + 29 + 1 ∧ x + 29 + 1 < N := ⟨by omega, by omega⟩
      have hld5 : G.2.2.1 ≤ x + 29 + 5 ∧ x + 29 + 5 < N := ⟨by omega, by omega⟩
      have hld6 : G.2.2.1 ≤ x + 29 + 6 ∧ x + 29 + 6 < N := ⟨by omega, by omega⟩
      have hld19 : G.2.2.1 ≤ x + 29 + 19 ∧ x + 29 + 19 < N := ⟨by omega, by omega⟩
      have hld20 : G.2.2.1 ≤ x + 29 + 20 ∧ x + 29 + 20 < N := ⟨by omega, by omega⟩
      have hld61 : G.2.2.1 ≤ x + 29 + 6 + 1 ∧ x + 29 + 6 + 1 < N := ⟨by omega, by omega⟩
      have hld65 : G.2.2.1 ≤ x + 29 + 6 + 5 ∧ x + 29 + 6 + 5 < N := ⟨by omega, by omega⟩
      have hld610 : G.2.2.1 ≤ x + 29 + 6 + 10 ∧ x + 29 + 6 + 10 < N := ⟨by omega, by omega⟩
      have hld68 : G.2.2.1 ≤ x + 29 + 6 + 8 ∧ x + 29 + 6 + 8 < N := ⟨by omega, by omega⟩
      have hl1 := ltse.2.2.1
      have hl6 := ltrc.2.2.1
      have hl20 := ltsp.2.2.1
      have hl61 := ltrc.2.2.2.1.2.2.2.1
      have hl65 := ltrc.2.2.2.2.2.1.2.2.1
      have hl68 := ltrc.2.2.2.2.2.2.1.2.2.2.1
      have hl610 := ltrc.2.2.2.2.2.2.2.2.2.1
      have hld11 : G.2.2.1 ≤ x + 29 + 1 + 1 ∧ x + 29 + 1 + 1 < N := ⟨by omega, by omega⟩
      have hld12 : G.2.2.1 ≤ x + 29 + 1 + 2 ∧ x + 29 + 1 + 2 < N := ⟨by omega, by omega⟩
      have hld13 : G.2.2.1 ≤ x + 29 + 1 + 3 ∧ x + 29 + 1 + 3 < N := ⟨by omega, by omega⟩
      have hld652 : G.2.2.1 ≤ x + 29 + 6 + 5 + 2 ∧ x + 29 + 6 + 5 + 2 < N := ⟨by omega, by omega⟩
      have hld6102 : G.2.2.1 ≤ x + 29 + 6 + 10 + 2 ∧ x + 29 + 6 + 10 + 2 < N := ⟨by omega, by omega⟩
      have hl11 := ltse.2.2.2.1
      have hl12 := ltse.2.2.2.2.1
      have hl13 := ltse.2.2.2.2.2
      have hl652 := ltrc.2.2.2.2.2.1.2.2.2.2
      have hl6102 := ltrc.2.2.2.2.2.2.2.2.2.2.2
      refine VV.c0 ?_
      refine VV.eq (st2 := []) rfl ?_
      refine r_iload_n C (pc := 14) rfl rfl dX6_set_14 ?_
      refine r_tableIn C (pc := 15) (off := 34) (tgt := 49) dX6_set_15 (by decide) (by decide) rfl (by decide) ?_
      refine r_aload_n C (pc := 49) rfl rfl dX6_set_49 ?_
      refine r_get C (pc := 50) (ci := 6) (k := 0) (w := .ref (x + 1)) rfl (by decide) inX6 (by decide) q_231 (Or.inl hd0) hs0 (zl_ref _ _) dX6_set_50 ?_
      refine r_getN C (pc := 53) (ci := 5) (k := 0) (w := .ref (x + 1 + 1)) rfl (by decide) inX5 (by decide) q_201 (Or.inl hnd0) hn0 (zl_ref _ _) dX6_set_53 ?_
      refine r_iload_n C (pc := 56) rfl rfl dX6_set_56 ?_
      refine r_callV C (pc := 57) (st := []) (m_X3_changePolicy l G sh v11' N (x := y) ntse X3.2.2.2.1 hk.1) kyX3_changePolicy q_378 rfl (Or.inl hnd1) hn1 (by decide) rfl rfl rfl (Nat.le_of_ble_eq_true rfl) ⟨Nat.le_of_ble_eq_true rfl, Nat.le_of_ble_eq_true rfl⟩ ⟨Nat.le_of_ble_eq_true rfl, Nat.le_of_ble_eq_true rfl⟩ dX6_set_57 (fun r57 v57 hp57 => ?_)
      obtain ⟨rfl, g4, g5⟩ := hp57
      refine VV.eq (st2 := [.int (nI (M.1 4))]) rfl ?_
      exact r_iret C (pc := 60) rfl (rfl) dX6_set_60 ⟨rfl, (by have ho : oSet (nI 1) (nI y) (M, h) = (nI (M.1 4), ((upc M.1 4 y, M.2), remH M h)) := (if_neg (fun z => absurd z.1 (by decide))).trans ((if_pos ⟨rfl, hz⟩).trans (by rw [nn_I (by omega)])); rw [ho]; exact ⟨q1, X1, X2, rfl, zt_set X3 g4 g5 (fun i hi => upc_n (by omega)), zxh_now X4 hpq ((g5.wide (by omega) (by omega))), X5.tr (g5.wide (by omega) (by omega))⟩)⟩
    · obtain ⟨y, hy1, hy2, eb⟩ := inR hz (by decide) (by decide)
      subst eb
      subst ea
      refine r_aload_n C (pc := 10) rfl rfl dX6_set_10 ?_
      refine r_callVM C (pc := 11) (st := []) (m_X6_remember l G sh v N hX hv hh) kyX6_remember q_273 rfl (Or.inl hd0) hs0 (by decide) rfl rfl rfl (Nat.le_of_ble_eq_true rfl) ⟨Nat.le_of_ble_eq_true rfl, Nat.le_of_ble_eq_true rfl⟩ ⟨Nat.le_of_ble_eq_true rfl, Nat.le_of_ble_eq_true rfl⟩ dX6_set_11 (fun r11'' sh v11'' N' hp11'' => ?_)
      obtain ⟨hN, rfl, q1, X1, X2, X3, X4, X5⟩ := hp11''
      subst hN
      obtain ⟨xB, xN, hs0, hs57, hs58, hs59, hnow, htri, hhis, himg, hpq⟩ := id X1
      have hd0 : G.2.2.1 ≤ x ∧ x < N := ⟨xB, by omega⟩
      have hd57 : G.2.2.1 ≤ x + 57 ∧ x + 57 < N := ⟨by omega, by omega⟩
      have hd58 : G.2.2.1 ≤ x + 58 ∧ x + 58 < N := ⟨by omega, by omega⟩
      have hd59 : G.2.2.1 ≤ x + 59 ∧ x + 59 < N := ⟨by omega, by omega⟩
      obtain ⟨ntB, ntN, hn0, ntse, hn5, ntrc, hn19, ntsp, ntst⟩ := id hnow
      have hnd0 : G.2.2.1 ≤ x + 1 ∧ x + 1 < N := ⟨by omega, by omega⟩
      have hnd1 : G.2.2.1 ≤ x + 1 + 1 ∧ x + 1 + 1 < N := ⟨by omega, by omega⟩
      have hnd5 : G.2.2.1 ≤ x + 1 + 5 ∧ x + 1 + 5 < N := ⟨by omega, by omega⟩
      have hnd6 : G.2.2.1 ≤ x + 1 + 6 ∧ x + 1 + 6 < N := ⟨by omega, by omega⟩
      have hnd19 : G.2.2.1 ≤ x + 1 + 19 ∧ x + 1 + 19 < N := ⟨by omega, by omega⟩
      have hnd20 : G.2.2.1 ≤ x + 1 + 20 ∧ x + 1 + 20 < N := ⟨by omega, by omega⟩
      have hnd61 : G.2.2.1 ≤ x + 1 + 6 + 1 ∧ x + 1 + 6 + 1 < N := ⟨by omega, by omega⟩
      have hnd65 : G.2.2.1 ≤ x + 1 + 6 + 5 ∧ x + 1 + 6 + 5 < N := ⟨by omega, by omega⟩
      have hnd610 : G.2.2.1 ≤ x + 1 + 6 + 10 ∧ x + 1 + 6 + 10 < N := ⟨by omega, by omega⟩
      have hnd68 : G.2.2.1 ≤ x + 1 + 6 + 8 ∧ x + 1 + 6 + 8 < N := ⟨by omega, by omega⟩
      have hn1 := ntse.2.2.1
      have hn6 := ntrc.2.2.1
      have hn20 := ntsp.2.2.1
      have hn61 := ntrc.2.2.2.1.2.2.2.1
      have hn65 := ntrc.2.2.2.2.2.1.2.2.1
      have hn68 := ntrc.2.2.2.2.2.2.1.2.2.2.1
      have hn610 := ntrc.2.2.2.2.2.2.2.2.2.1
      have hnd11 : G.2.2.1 ≤ x + 1 + 1 + 1 ∧ x + 1 + 1 + 1 < N := ⟨by omega, by omega⟩
      have hnd12 : G.2.2.1 ≤ x + 1 + 1 + 2 ∧ x + 1 + 1 + 2 < N := ⟨by omega, by omega⟩
      have hnd13 : G.2.2.1 ≤ x + 1 + 1 + 3 ∧ x + 1 + 1 + 3 < N := ⟨by omega, by omega⟩
      have hnd652 : G.2.2.1 ≤ x + 1 + 6 + 5 + 2 ∧ x + 1 + 6 + 5 + 2 < N := ⟨by omega, by omega⟩
      have hnd6102 : G.2.2.1 ≤ x + 1 + 6 + 10 + 2 ∧ x + 1 + 6 + 10 + 2 < N := ⟨by omega, by omega⟩
      have hn11 := ntse.2.2.2.1
      have hn12 := ntse.2.2.2.2.1
      have hn13 := ntse.2.2.2.2.2
      have hn652 := ntrc.2.2.2.2.2.1.2.2.2.2
      have hn6102 := ntrc.2.2.2.2.2.2.2.2.2.2.2
      obtain ⟨ltB, ltN, hl0, ltse, hl5, ltrc, hl19, ltsp, ltst⟩ := id htri
      have hld0 : G.2.2.1 ≤ x + 29 ∧ x + 29 < N := ⟨by omega, by omega⟩
      have hld1 : G.2.2.1 ≤ x + 29 + 1 ∧ x + 29 + 1 < N := ⟨by omega, by omega⟩
      have hld5 : G.2.2.1 ≤ x + 29 + 5 ∧ x + 29 + 5 < N := ⟨by omega, by omega⟩
      have hld6 : G.2.2.1 ≤ x + 29 + 6 ∧ x + 29 + 6 < N := ⟨by omega, by omega⟩
      have hld19 : G.2.2.1 ≤ x + 29 + 19 ∧ x + 29 + 19 < N := ⟨by omega, by omega⟩
      have hld20 : G.2.2.1 ≤ x + 29 + 20 ∧ x + 29 + 20 < N := ⟨by omega, by omega⟩
      have hld61 : G.2.2.1 ≤ x + 29 + 6 + 1 ∧ x + 29 + 6 + 1 < N := ⟨by omega, by omega⟩
      have hld65 : G.2.2.1 ≤ x + 29 + 6 + 5 ∧ x + 29 + 6 + 5 < N := ⟨by omega, by omega⟩
      have hld610 : G.2.2.1 ≤ x + 29 + 6 + 10 ∧ x + 29 + 6 + 10 < N := ⟨by omega, by omega⟩
      have hld68 : G.2.2.1 ≤ x + 29 + 6 + 8 ∧ x + 29 + 6 + 8 < N := ⟨by omega, by omega⟩
      have hl1 := ltse.2.2.1
      have hl6 := ltrc.2.2.1
      have hl20 := ltsp.2.2.1
      have hl61 := ltrc.2.2.2.1.2.2.2.1
      have hl65 := ltrc.2.2.2.2.2.1.2.2.1
      have hl68 := ltrc.2.2.2.2.2.2.1.2.2.2.1
      have hl610 := ltrc.2.2.2.2.2.2.2.2.2.1
      have hld11 : G.2.2.1 ≤ x + 29 + 1 + 1 ∧ x + 29 + 1 + 1 < N := ⟨by omega, by omega⟩
      have hld12 : G.2.2.1 ≤ x + 29 + 1 + 2 ∧ x + 29 + 1 + 2 < N := ⟨by omega, by omega⟩
      have hld13 : G.2.2.1 ≤ x + 29 + 1 + 3 ∧ x + 29 + 1 + 3 < N := ⟨by omega, by omega⟩
      have hld652 : G.2.2.1 ≤ x + 29 + 6 + 5 + 2 ∧ x + 29 + 6 + 5 + 2 < N := ⟨by omega, by omega⟩
      have hld6102 : G.2.2.1 ≤ x + 29 + 6 + 10 + 2 ∧ x + 29 + 6 + 10 + 2 < N := ⟨by omega, by omega⟩
      have hl11 := ltse.2.2.2.1
      have hl12 := ltse.2.2.2.2.1
      have hl13 := ltse.2.2.2.2.2
      have hl652 := ltrc.2.2.2.2.2.1.2.2.2.2
      have hl6102 := ltrc.2.2.2.2.2.2.2.2.2.2.2
      refine VV.c0 ?_
      refine VV.eq (st2 := []) rfl ?_
      refine r_iload_n C (pc := 14) rfl rfl dX6_set_14 ?_
      refine r_tableIn C (pc := 15) (off := 46) (tgt := 61) dX6_set_15 (by decide) (by decide) rfl (by decide) ?_
      refine r_aload_n C (pc := 61) rfl rfl dX6_set_61 ?_
      refine r_get C (pc := 62) (ci := 6) (k := 0) (w := .ref (x + 1)) rfl (by decide) inX6 (by decide) q_231 (Or.inl hd0) hs0 (zl_ref _ _) dX6_set_62 ?_
      refine r_getN C (pc := 65) (ci := 5) (k := 0) (w := .ref (x + 1 + 1)) rfl (by decide) inX5 (by decide) q_201 (Or.inl hnd0) hn0 (zl_ref _ _) dX6_set_65 ?_
      refine r_iload_n C (pc := 68) rfl rfl dX6_set_68 ?_
      refine r_callV C (pc := 69) (st := []) (m_X3_changeStyle l G sh v11'' N (x := y) ntse X3.2.2.2.1 hk.1) kyX3_changeStyle q_382 rfl (Or.inl hnd1) hn1 (by decide) rfl rfl rfl (Nat.le_of_ble_eq_true rfl) ⟨Nat.le_of_ble_eq_true rfl, Nat.le_of_ble_eq_true rfl⟩ ⟨Nat.le_of_ble_eq_true rfl, Nat.le_of_ble_eq_true rfl⟩ dX6_set_69 (fun r69 v69 hp69 => ?_)
      obtain ⟨rfl, g4, g5⟩ := hp69
      refine VV.eq (st2 := [.int (nI (M.1 5))]) rfl ?_
      exact r_iret C (pc := 72) rfl (rfl) dX6_set_72 ⟨rfl, (by have ho : oSet (nI 2) (nI y) (M, h) = (nI (M.1 5), ((upc M.1 5 y, M.2), remH M h)) := (if_neg (fun z => absurd z.1 (by decide))).trans ((if_neg (fun z => absurd z.1 (by decide))).trans ((if_pos ⟨rfl, hz⟩).trans (by rw [nn_I (by omega)]))); rw [ho]; exact ⟨q1, X1, X2, rfl, zt_set X3 g4 g5 (fun i hi => upc_n (by omega)), zxh_now X4 hpq ((g5.wide (by omega) (by omega))), X5.tr (g5.wide (by omega) (by omega))⟩)⟩
    · obtain ⟨eb, hy2⟩ := I_nn hz
      generalize nn b = y at eb hy2
      subst eb
      subst ea
      refine r_aload_n C (pc := 10) rfl rfl dX6_set_10 ?_
      refine r_callVM C (pc := 11) (st := []) (m_X6_remember l G sh v N hX hv hh) kyX6_remember q_273 rfl (Or.inl hd0) hs0 (by decide) rfl rfl rfl (Nat.le_of_ble_eq_true rfl) ⟨Nat.le_of_ble_eq_true rfl, Nat.le_of_ble_eq_true rfl⟩ ⟨Nat.le_of_ble_eq_true rfl, Nat.le_of_ble_eq_true rfl⟩ dX6_set_11 (fun r11''' sh v11''' N' hp11''' => ?_)
      obtain ⟨hN, rfl, q1, X1, X2, X3, X4, X5⟩ := hp11'''
      subst hN
      obtain ⟨xB, xN, hs0, hs57, hs58, hs59, hnow, htri, hhis, himg, hpq⟩ := id X1
      have hd0 : G.2.2.1 ≤ x ∧ x < N := ⟨xB, by omega⟩
      have hd57 : G.2.2.1 ≤ x + 57 ∧ x + 57 < N := ⟨by omega, by omega⟩
      have hd58 : G.2.2.1 ≤ x + 58 ∧ x + 58 < N := ⟨by omega, by omega⟩
      have hd59 : G.2.2.1 ≤ x + 59 ∧ x + 59 < N := ⟨by omega, by omega⟩
      obtain ⟨ntB, ntN, hn0, ntse, hn5, ntrc, hn19, ntsp, ntst⟩ := id hnow
      have hnd0 : G.2.2.1 ≤ x + 1 ∧ x + 1 < N := ⟨by omega, by omega⟩
      have hnd1 : G.2.2.1 ≤ x + 1 + 1 ∧ x + 1 + 1 < N := ⟨by omega, by omega⟩
      have hnd5 : G.2.2.1 ≤ x + 1 + 5 ∧ x + 1 + 5 < N := ⟨by omega, by omega⟩
      have hnd6 : G.2.2.1 ≤ x + 1 + 6 ∧ x + 1 + 6 < N := ⟨by omega, by omega⟩
      have hnd19 : G.2.2.1 ≤ x + 1 + 19 ∧ x + 1 + 19 < N := ⟨by omega, by omega⟩
      have hnd20 : G.2.2.1 ≤ x + 1 + 20 ∧ x + 1 + 20 < N := ⟨by omega, by omega⟩
      have hnd61 : G.2.2.1 ≤ x + 1 + 6 + 1 ∧ x + 1 + 6 + 1 < N := ⟨by omega, by omega⟩
      have hnd65 : G.2.2.1 ≤ x + 1 + 6 + 5 ∧ x + 1 + 6 + 5 < N := ⟨by omega, by omega⟩
      have hnd610 : G.2.2.1 ≤ x + 1 + 6 + 10 ∧ x + 1 + 6 + 10 < N := ⟨by omega, by omega⟩
      have hnd68 : G.2.2.1 ≤ x + 1 + 6 + 8 ∧ x + 1 + 6 + 8 < N := ⟨by omega, by omega⟩
      have hn1 := ntse.2.2.1
      have hn6 := ntrc.2.2.1
      have hn20 := ntsp.2.2.1
      have hn61 := ntrc.2.2.2.1.2.2.2.1
      have hn65 := ntrc.2.2.2.2.2.1.2.2.1
      have hn68 := ntrc.2.2.2.2.2.2.1.2.2.2.1
      have hn610 := ntrc.2.2.2.2.2.2.2.2.2.1
      have hnd11 : G.2.2.1 ≤ x + 1 + 1 + 1 ∧ x + 1 + 1 + 1 < N := ⟨by omega, by omega⟩
      have hnd12 : G.2.2.1 ≤ x + 1 + 1 + 2 ∧ x + 1 + 1 + 2 < N := ⟨by omega, by omega⟩
      have hnd13 : G.2.2.1 ≤ x + 1 + 1 + 3 ∧ x + 1 + 1 + 3 < N := ⟨by omega, by omega⟩
      have hnd652 : G.2.2.1 ≤ x + 1 + 6 + 5 + 2 ∧ x + 1 + 6 + 5 + 2 < N := ⟨by omega, by omega⟩
      have hnd6102 : G.2.2.1 ≤ x + 1 + 6 + 10 + 2 ∧ x + 1 + 6 + 10 + 2 < N := ⟨by omega, by omega⟩
      have hn11 := ntse.2.2.2.1
      have hn12 := ntse.2.2.2.2.1
      have hn13 := ntse.2.2.2.2.2
      have hn652 := ntrc.2.2.2.2.2.1.2.2.2.2
      have hn6102 := ntrc.2.2.2.2.2.2.2.2.2.2.2
      obtain ⟨ltB, ltN, hl0, ltse, hl5, ltrc, hl19, ltsp, ltst⟩ := id htri
      have hld0 : G.2.2.1 ≤ x + 29 ∧ x + 29 < N := ⟨by omega, by omega⟩
      have hld1 : G.2.2.1 ≤ x + 29 + 1 ∧ x + 29 + 1 < N := ⟨by omega, by omega⟩
      have hld5 : G.2.2.1 ≤ x + 29 + 5 ∧ x + 29 + 5 < N := ⟨by omega, by omega⟩
      have hld6 : G.2.2.1 ≤ x + 29 + 6 ∧ x + 29 + 6 < N := ⟨by omega, by omega⟩
      have hld19 : G.2.2.1 ≤ x + 29 + 19 ∧ x + 29 + 19 < N := ⟨by omega, by omega⟩
      have hld20 : G.2.2.1 ≤ x + 29 + 20 ∧ x + 29 + 20 < N := ⟨by omega, by omega⟩
      have hld61 : G.2.2.1 ≤ x + 29 + 6 + 1 ∧ x + 29 + 6 + 1 < N := ⟨by omega, by omega⟩
      have hld65 : G.2.2.1 ≤ x + 29 + 6 + 5 ∧ x + 29 + 6 + 5 < N := ⟨by omega, by omega⟩
      have hld610 : G.2.2.1 ≤ x + 29 + 6 + 10 ∧ x + 29 + 6 + 10 < N := ⟨by omega, by omega⟩
      have hld68 : G.2.2.1 ≤ x + 29 + 6 + 8 ∧ x + 29 + 6 + 8 < N := ⟨by omega, by omega⟩
      have hl1 := ltse.2.2.1
      have hl6 := ltrc.2.2.1
      have hl20 := ltsp.2.2.1
      have hl61 := ltrc.2.2.2.1.2.2.2.1
      have hl65 := ltrc.2.2.2.2.2.1.2.2.1
      have hl68 := ltrc.2.2.2.2.2.2.1.2.2.2.1
      have hl610 := ltrc.2.2.2.2.2.2.2.2.2.1
      have hld11 : G.2.2.1 ≤ x + 29 + 1 + 1 ∧ x + 29 + 1 + 1 < N := ⟨by omega, by omega⟩
      have hld12 : G.2.2.1 ≤ x + 29 + 1 + 2 ∧ x + 29 + 1 + 2 < N := ⟨by omega, by omega⟩
      have hld13 : G.2.2.1 ≤ x + 29 + 1 + 3 ∧ x + 29 + 1 + 3 < N := ⟨by omega, by omega⟩
      have hld652 : G.2.2.1 ≤ x + 29 + 6 + 5 + 2 ∧ x + 29 + 6 + 5 + 2 < N := ⟨by omega, by omega⟩
      have hld6102 : G.2.2.1 ≤ x + 29 + 6 + 10 + 2 ∧ x + 29 + 6 + 10 + 2 < N := ⟨by omega, by omega⟩
      have hl11 := ltse.2.2.2.1
      have hl12 := ltse.2.2.2.2.1
      have hl13 := ltse.2.2.2.2.2
      have hl652 := ltrc.2.2.2.2.2.1.2.2.2.2
      have hl6102 := ltrc.2.2.2.2.2.2.2.2.2.2.2
      refine VV.c0 ?_
      refine VV.eq (st2 := []) rfl ?_
      refine r_iload_n C (pc := 14) rfl rfl dX6_set_14 ?_
      refine r_tableOut C (pc := 15) (tgt := 73) dX6_set_15 (Or.inr (by decide)) (by decide) ?_
      refine r_aload_n C (pc := 73) rfl rfl dX6_set_73 ?_
      refine r_get C (pc := 74) (ci := 6) (k := 0) (w := .ref (x + 1)) rfl (by decide) inX6 (by decide) q_231 (Or.inl hd0) hs0 (zl_ref _ _) dX6_set_74 ?_
      refine r_getN C (pc := 77) (ci := 5) (k := 0) (w := .ref (x + 1 + 1)) rfl (by decide) inX5 (by decide) q_201 (Or.inl hnd0) hn0 (zl_ref _ _) dX6_set_77 ?_
      refine r_iload_n C (pc := 80) rfl rfl dX6_set_80 ?_
      refine r_callV C (pc := 81) (st := []) (m_X3_changeSeed l G sh v11''' N (x := y) ntse X3.2.2.2.1 hk.1) kyX3_changeSeed q_386 rfl (Or.inl hnd1) hn1 (by decide) rfl rfl rfl (Nat.le_of_ble_eq_true rfl) ⟨Nat.le_of_ble_eq_true rfl, Nat.le_of_ble_eq_true rfl⟩ ⟨Nat.le_of_ble_eq_true rfl, Nat.le_of_ble_eq_true rfl⟩ dX6_set_81 (fun r81 v81 hp81 => ?_)
      obtain ⟨rfl, g4, g5⟩ := hp81
      refine VV.eq (st2 := [.int (nI (M.1 6))]) rfl ?_
      exact r_iret C (pc := 84) rfl (rfl) dX6_set_84 ⟨rfl, (by have ho : oSet (nI 3) (nI y) (M, h) = (nI (M.1 6), ((upc M.1 6 y, M.2), remH M h)) := (if_neg (fun z => absurd z.1 (by decide))).trans ((if_neg (fun z => absurd z.1 (by decide))).trans ((if_neg (fun z => absurd z.1 (by decide))).trans ((if_pos ⟨rfl, hz⟩).trans (by rw [nn_I (by omega)])))); rw [ho]; exact ⟨q1, X1, X2, rfl, zt_set X3 g4 g5 (fun i hi => upc_n (by omega)), zxh_now X4 hpq ((g5.wide (by omega) (by omega))), X5.tr (g5.wide (by omega) (by omega))⟩)⟩
  · refine r_iconst C (pc := 8) (x := (-1)) (by decide) dX6_set_8 ?_
    exact r_iret C (pc := 9) rfl (rfl) dX6_set_9 ⟨rfl, (by have hn := of_decide_eq_false c_5; have ho : oSet a b (M, h) = (-1, (M, h)) := (if_neg (fun z => hn (Or.inl z))).trans ((if_neg (fun z => hn (Or.inr (Or.inl z)))).trans ((if_neg (fun z => hn (Or.inr (Or.inr (Or.inl z))))).trans (if_neg (fun z => hn (Or.inr (Or.inr (Or.inr z))))))); rw [ho]; exact ⟨q, hX, fun _ _ => rfl, rfl, hv, hh, zfr.rf⟩)⟩
set_option maxRecDepth 100000 in
set_option maxHeartbeats 4000000 in
theorem m_X6_run (l : Launch) (G : zG) (sh : zH) (v : zV) (N : Nat) {x : Nat} {q : Nat → Nat} {M : zMS} {h : zHs} {T : Nat} {a : Int32} (hX : zXR G sh N x q) (hv : zt v (x + 1) M) (hh : zxh v x q h) (hI : zI T (M, h)) (hT : T + 1000 < 2 ^ 30) : zM l G yX6_run cX6_run 3 (some .int) 6 0 0 [.ref x, .int a] sh v N (fun r sh1 v1 N1 => N = N1 ∧ (∃ q1, zXR G sh1 N x q1 ∧ (∀ b, b ≠ x + 57 → sh1 b = sh b) ∧ r = some (.int (oRun a (M, h)).1) ∧ zt v1 (x + 1) (oRun a (M, h)).2.1 ∧ zxh v1 x q1 (oRun a (M, h)).2.2 ∧ zfr v v1 x 340)) := by
  refine zM.of (by decide) rfl (Nat.le_of_ble_eq_true rfl) ?_
  intro p e s m args below meth c C
  obtain ⟨xB, xN, hs0, hs57, hs58, hs59, hnow, htri, hhis, himg, hpq⟩ := id hX
  have hd0 : G.2.2.1 ≤ x ∧ x < N := ⟨xB, by omega⟩
  have hd57 : G.2.2.1 ≤ x + 57 ∧ x + 57 < N := ⟨by omega, by omega⟩
  have hd58 : G.2.2.1 ≤ x + 58 ∧ x + 58 < N := ⟨by omega, by omega⟩
  have hd59 : G.2.2.1 ≤ x + 59 ∧ x + 59 < N := ⟨by omega, by omega⟩
  obtain ⟨ntB, ntN, hn0, ntse, hn5, ntrc, hn19, ntsp, ntst⟩ := id hnow
  have hnd0 : G.2.2.1 ≤ x + 1 ∧ x + 1 < N := ⟨by omega, by omega⟩
  have hnd1 : G.2.2.1 ≤ x + 1 + 1 ∧ x + 1 + 1 < N := ⟨by omega, by omega⟩
  have hnd5 : G.2.2.1 ≤ x + 1 + 5 ∧ x + 1 + 5 < N := ⟨by omega, by omega⟩
  have hnd6 : G.2.2.1 ≤ x + 1 + 6 ∧ x + 1 + 6 < N := ⟨by omega, by omega⟩
  have hnd19 : G.2.2.1 ≤ x + 1 + 19 ∧ x + 1 + 19 < N := ⟨by omega, by omega⟩
  have hnd20 : G.2.2.1 ≤ x + 1 + 20 ∧ x + 1 + 20 < N := ⟨by omega, by omega⟩
  have hnd61 : G.2.2.1 ≤ x + 1 + 6 + 1 ∧ x + 1 + 6 + 1 < N := ⟨by omega, by omega⟩
  have hnd65 : G.2.2.1 ≤ x + 1 + 6 + 5 ∧ x + 1 + 6 + 5 < N := ⟨by omega, by omega⟩
  have hnd610 : G.2.2.1 ≤ x + 1 + 6 + 10 ∧ x + 1 + 6 + 10 < N := ⟨by omega, by omega⟩
  have hnd68 : G.2.2.1 ≤ x + 1 + 6 + 8 ∧ x + 1 + 6 + 8 < N := ⟨by omega, by omega⟩
  have hn1 := ntse.2.2.1
  have hn6 := ntrc.2.2.1
  have hn20 := ntsp.2.2.1
  have hn61 := ntrc.2.2.2.1.2.2.2.1
  have hn65 := ntrc.2.2.2.2.2.1.2.2.1
  have hn68 := ntrc.2.2.2.2.2.2.1.2.2.2.1
  have hn610 := ntrc.2.2.2.2.2.2.2.2.2.1
  have hnd11 : G.2.2.1 ≤ x + 1 + 1 + 1 ∧ x + 1 + 1 + 1 < N := ⟨by omega, by omega⟩
  have hnd12 : G.2.2.1 ≤ x + 1 + 1 + 2 ∧ x + 1 + 1 + 2 < N := ⟨by omega, by omega⟩
  have hnd13 : G.2.2.1 ≤ x + 1 + 1 + 3 ∧ x + 1 + 1 + 3 < N := ⟨by omega, by omega⟩
  have hnd652 : G.2.2.1 ≤ x + 1 + 6 + 5 + 2 ∧ x + 1 + 6 + 5 + 2 < N := ⟨by omega, by omega⟩
  have hnd6102 : G.2.2.1 ≤ x + 1 + 6 + 10 + 2 ∧ x + 1 + 6 + 10 + 2 < N := ⟨by omega, by omega⟩
  have hn11 := ntse.2.2.2.1
  have hn12 := ntse.2.2.2.2.1
  have hn13 := ntse.2.2.2.2.2
  have hn652 := ntrc.2.2.2.2.2.1.2.2.2.2
  have hn6102 := ntrc.2.2.2.2.2.2.2.2.2.2.2
  obtain ⟨ltB, ltN, hl0, ltse, hl5, ltrc, hl19, ltsp, ltst⟩ := id htri
  have hld0 : G.2.2.1 ≤ x + 29 ∧ x + 29 < N := ⟨by omega, by omega⟩
  have hld1 : G.2.2.1 ≤ x + 29 + 1 ∧ x + 29 + 1 < N := ⟨by omega, by omega⟩
  have hld5 : G.2.2.1 ≤ x + 29 + 5 ∧ x + 29 + 5 < N := ⟨by omega, by omega⟩
  have hld6 : G.2.2.1 ≤ x + 29 + 6 ∧ x + 29 + 6 < N := ⟨by omega, by omega⟩
  have hld19 : G.2.2.1 ≤ x + 29 + 19 ∧ x + 29 + 19 < N := ⟨by omega, by omega⟩
  have hld20 : G.2.2.1 ≤ x + 29 + 20 ∧ x + 29 + 20 < N := ⟨by omega, by omega⟩
  have hld61 : G.2.2.1 ≤ x + 29 + 6 + 1 ∧ x + 29 + 6 + 1 < N := ⟨by omega, by omega⟩
  have hld65 : G.2.2.1 ≤ x + 29 + 6 + 5 ∧ x + 29 + 6 + 5 < N := ⟨by omega, by omega⟩
  have hld610 : G.2.2.1 ≤ x + 29 + 6 + 10 ∧ x + 29 + 6 + 10 < N := ⟨by omega, by omega⟩
  have hld68 : G.2.2.1 ≤ x + 29 + 6 + 8 ∧ x + 29 + 6 + 8 < N := ⟨by omega, by omega⟩
  have hl1 := ltse.2.2.1
  have hl6 := ltrc.2.2.1
  have hl20 := ltsp.2.2.1
  have hl61 := ltrc.2.2.2.1.2.2.2.1
  have hl65 := ltrc.2.2.2.2.2.1.2.2.1
  have hl68 := ltrc.2.2.2.2.2.2.1.2.2.2.1
  have hl610 := ltrc.2.2.2.2.2.2.2.2.2.1
  have hld11 : G.2.2.1 ≤ x + 29 + 1 + 1 ∧ x + 29 + 1 + 1 < N := ⟨by omega, by omega⟩
  have hld12 : G.2.2.1 ≤ x + 29 + 1 + 2 ∧ x + 29 + 1 + 2 < N := ⟨by omega, by omega⟩
  have hld13 : G.2.2.1 ≤ x + 29 + 1 + 3 ∧ x + 29 + 1 + 3 < N := ⟨by omega, by omega⟩
  have hld652 : G.2.2.1 ≤ x + 29 + 6 + 5 + 2 ∧ x + 29 + 6 + 5 + 2 < N := ⟨by omega, by omega⟩
  have hld6102 : G.2.2.1 ≤ x + 29 + 6 + 10 + 2 ∧ x + 29 + 6 + 10 + 2 < N := ⟨by omega, by omega⟩
  have hl11 := ltse.2.2.2.1
  have hl12 := ltse.2.2.2.2.1
  have hl13 := ltse.2.2.2.2.2
  have hl652 := ltrc.2.2.2.2.2.1.2.2.2.2
  have hl6102 := ltrc.2.2.2.2.2.2.2.2.2.2.2
  have hE : zE M := hI.1.1
  have hk : mOK M := hE.1
  have hK2 := hk.1.1
  have hK12 := hk.1.2.1
  have hR3 := hk.1.2.2.1
  refine r_iload_n C (pc := 0) rfl rfl dX6_run_0 ?_
  refine r_iconst C (pc := 1) (x := (nI 1)) (by decide) dX6_run_1 ?_
  refine r_bipush C (pc := 2) (x := (nI 100)) (by decide) dX6_run_2 ?_
  refine r_callS C (pc := 4) (st := []) (m_X6_isWithin l G sh v N (x := a) (lo := (nI 1)) (hi := (nI 100))) kyX6_isWithin q_270 rfl rfl (Nat.le_of_ble_eq_true rfl) ⟨Nat.le_of_ble_eq_true rfl, Nat.le_of_ble_eq_true rfl⟩ ⟨Nat.le_of_ble_eq_true rfl, Nat.le_of_ble_eq_true rfl⟩ dX6_run_4 (fun r4 v4 hp4 => ?_)
  obtain ⟨rfl, ehp4⟩ := hp4
  refine VV.vq ehp4 ?_
  refine VV.eq (st2 := [.int (zb (decide ((nI 1) ≤ a ∧ a ≤ (nI 100))))]) rfl ?_
  refine n_ifb_ne C (pc := 7) (tgt := 12) dX6_run_7 (by decide) (fun c_7 => ?_) (fun c_7 => ?_)
  · have hc1 := (of_decide_eq_true c_7)
    obtain ⟨y, hy1, hy2, rfl⟩ := inR (of_decide_eq_true c_7) (by omega) (by omega)
    refine r_aload_n C (pc := 12) rfl rfl dX6_run_12 ?_
    refine r_callVM C (pc := 13) (st := []) (m_X6_remember l G sh v N hX hv hh) kyX6_remember q_273 rfl (Or.inl hd0) hs0 (by decide) rfl rfl rfl (Nat.le_of_ble_eq_true rfl) ⟨Nat.le_of_ble_eq_true rfl, Nat.le_of_ble_eq_true rfl⟩ ⟨Nat.le_of_ble_eq_true rfl, Nat.le_of_ble_eq_true rfl⟩ dX6_run_13 (fun r13 s13 v13 N' hp13 => ?_)
    obtain ⟨hN, rfl, q1, X1, X2, X3, X4, X5⟩ := hp13
    subst hN
    obtain ⟨xB, xN, hs0, hs57, hs58, hs59, hnow, htri, hhis, himg, hpq⟩ := id X1
    have hd0 : G.2.2.1 ≤ x ∧ x < N := ⟨xB, by omega⟩
    have hd57 : G.2.2.1 ≤ x + 57 ∧ x + 57 < N := ⟨by omega, by omega⟩
    have hd58 : G.2.2.1 ≤ x + 58 ∧ x + 58 < N := ⟨by omega, by omega⟩
    have hd59 : G.2.2.1 ≤ x + 59 ∧ x + 59 < N := ⟨by omega, by omega⟩
    obtain ⟨ntB, ntN, hn0, ntse, hn5, ntrc, hn19, ntsp, ntst⟩ := id hnow
    have hnd0 : G.2.2.1 ≤ x + 1 ∧ x + 1 < N := ⟨by omega, by omega⟩
    have hnd1 : G.2.2.1 ≤ x + 1 + 1 ∧ x + 1 + 1 < N := ⟨by omega, by omega⟩
    have hnd5 : G.2.2.1 ≤ x + 1 + 5 ∧ x + 1 + 5 < N := ⟨by omega, by omega⟩
    have hnd6 : G.2.2.1 ≤ x + 1 + 6 ∧ x + 1 + 6 < N := ⟨by omega, by omega⟩
    have hnd19 : G.2.2.1 ≤ x + 1 + 19 ∧ x + 1 + 19 < N := ⟨by omega, by omega⟩
    have hnd20 : G.2.2.1 ≤ x + 1 + 20 ∧ x + 1 + 20 < N := ⟨by omega, by omega⟩
    have hnd61 : G.2.2.1 ≤ x + 1 + 6 + 1 ∧ x + 1 + 6 + 1 < N := ⟨by omega, by omega⟩
    have hnd65 : G.2.2.1 ≤ x + 1 + 6 + 5 ∧ x + 1 + 6 + 5 < N := ⟨by omega, by omega⟩
    have hnd610 : G.2.2.1 ≤ x + 1 + 6 + 10 ∧ x + 1 + 6 + 10 < N := ⟨by omega, by omega⟩
    have hnd68 : G.2.2.1 ≤ x + 1 + 6 + 8 ∧ x + 1 + 6 + 8 < N := ⟨by omega, by omega⟩
    have hn1 := ntse.2.2.1
    have hn6 := ntrc.2.2.1
    have hn20 := ntsp.2.2.1
    have hn61 := ntrc.2.2.2.1.2.2.2.1
    have hn65 := ntrc.2.2.2.2.2.1.2.2.1
    have hn68 := ntrc.2.2.2.2.2.2.1.2.2.2.1
    have hn610 := ntrc.2.2.2.2.2.2.2.2.2.1
    have hnd11 : G.2.2.1 ≤ x + 1 + 1 + 1 ∧ x + 1 + 1 + 1 < N := ⟨by omega, by omega⟩
    have hnd12 : G.2.2.1 ≤ x + 1 + 1 + 2 ∧ x + 1 + 1 + 2 < N := ⟨by omega, by omega⟩
    have hnd13 : G.2.2.1 ≤ x + 1 + 1 + 3 ∧ x + 1 + 1 + 3 < N := ⟨by omega, by omega⟩
    have hnd652 : G.2.2.1 ≤ x + 1 + 6 + 5 + 2 ∧ x + 1 + 6 + 5 + 2 < N := ⟨by omega, by omega⟩
    have hnd6102 : G.2.2.1 ≤ x + 1 + 6 + 10 + 2 ∧ x + 1 + 6 + 10 + 2 < N := ⟨by omega, by omega⟩
    have hn11 := ntse.2.2.2.1
    have hn12 := ntse.2.2.2.2.1
    have hn13 := ntse.2.2.2.2.2
    have hn652 := ntrc.2.2.2.2.2.1.2.2.2.2
    have hn6102 := ntrc.2.2.2.2.2.2.2.2.2.2.2
    obtain ⟨ltB, ltN, hl0, ltse, hl5, ltrc, hl19, ltsp, ltst⟩ := id htri
    have hld0 : G.2.2.1 ≤ x + 29 ∧ x + 29 < N := ⟨by omega, by omega⟩
    have hld1 : G.2.2.1 ≤ x + 29 + 1 ∧ x + 29 + 1 < N := ⟨by omega, by omega⟩
    have hld5 : G.2.2.1 ≤ x + 29 + 5 ∧ x + 29 + 5 < N := ⟨by omega, by omega⟩
    have hld6 : G.2.2.1 ≤ x + 29 + 6 ∧ x + 29 + 6 < N := ⟨by omega, by omega⟩
    have hld19 : G.2.2.1 ≤ x + 29 + 19 ∧ x + 29 + 19 < N := ⟨by omega, by omega⟩
    have hld20 : G.2.2.1 ≤ x + 29 + 20 ∧ x + 29 + 20 < N := ⟨by omega, by omega⟩
    have hld61 : G.2.2.1 ≤ x + 29 + 6 + 1 ∧ x + 29 + 6 + 1 < N := ⟨by omega, by omega⟩
    have hld65 : G.2.2.1 ≤ x + 29 + 6 + 5 ∧ x + 29 + 6 + 5 < N := ⟨by omega, by omega⟩
    have hld610 : G.2.2.1 ≤ x + 29 + 6 + 10 ∧ x + 29 + 6 + 10 < N := ⟨by omega, by omega⟩
    have hld68 : G.2.2.1 ≤ x + 29 + 6 + 8 ∧ x + 29 + 6 + 8 < N := ⟨by omega, by omega⟩
    have hl1 := ltse.2.2.1
    have hl6 := ltrc.2.2.1
    have hl20 := ltsp.2.2.1
    have hl61 := ltrc.2.2.2.1.2.2.2.1
    have hl65 := ltrc.2.2.2.2.2.1.2.2.1
    have hl68 := ltrc.2.2.2.2.2.2.1.2.2.2.1
    have hl610 := ltrc.2.2.2.2.2.2.2.2.2.1
    have hld11 : G.2.2.1 ≤ x + 29 + 1 + 1 ∧ x + 29 + 1 + 1 < N := ⟨by omega, by omega⟩
    have hld12 : G.2.2.1 ≤ x + 29 + 1 + 2 ∧ x + 29 + 1 + 2 < N := ⟨by omega, by omega⟩
    have hld13 : G.2.2.1 ≤ x + 29 + 1 + 3 ∧ x + 29 + 1 + 3 < N := ⟨by omega, by omega⟩
    have hld652 : G.2.2.1 ≤ x + 29 + 6 + 5 + 2 ∧ x + 29 + 6 + 5 + 2 < N := ⟨by omega, by omega⟩
    have hld6102 : G.2.2.1 ≤ x + 29 + 6 + 10 + 2 ∧ x + 29 + 6 + 10 + 2 < N := ⟨by omega, by omega⟩
    have hl11 := ltse.2.2.2.1
    have hl12 := ltse.2.2.2.2.1
    have hl13 := ltse.2.2.2.2.2
    have hl652 := ltrc.2.2.2.2.2.1.2.2.2.2
    have hl6102 := ltrc.2.2.2.2.2.2.2.2.2.2.2
    refine VV.c0 ?_
    refine VV.eq (st2 := []) rfl ?_
    refine r_iconst C (pc := 16) (x := (nI 0)) (by decide) dX6_run_16 ?_
    refine r_istore_n C (pc := 17) (lv2 := [some (.ref x), some (.int (nI y)), some (.int (nI 0))]) rfl (Nat.le_of_ble_eq_true rfl) rfl rfl dX6_run_17 ?_
    have loop : ∀ (n k : Nat) (v' : zV), y - k < n → k ≤ y → zt v' (x + 1) (itk k M) → zxh v' x q1 (remH M h) → zfr v v' x 340 → VV p l e ({ frames := 6, cells := 0, slots := 0, locals := 32 * 6 }) s m args below meth c 0 0 (zQ below (fun r sh1 v1 N1 => N = N1 ∧ (∃ q1, zXR G sh1 N x q1 ∧ (∀ b, b ≠ x + 57 → sh1 b = sh b) ∧ r = some (.int (oRun (nI y) (M, h)).1) ∧ zt v1 (x + 1) (oRun (nI y) (M, h)).2.1 ∧ zxh v1 x q1 (oRun (nI y) (M, h)).2.2 ∧ zfr v v1 x 340)) G args s 0 0) G 3 s13 v' N 18 [some (.ref x), some (.int (nI y)), some (.int (nI k))] [] := by
      intro n
      induction n with
      | zero => intro k v' hm; omega
      | succ n ih =>
        intro k v' hm hk2 e1 e2 e3
        refine r_iload_n C (pc := 18) rfl rfl dX6_run_18 ?_
        refine r_iload_n C (pc := 19) rfl rfl dX6_run_19 ?_
        refine n_icmp_ge C (pc := 20) (tgt := 36) (by omega) (by omega) dX6_run_20 (by decide) (fun c_20 => ?_) (fun c_20 => ?_)
        · refine r_aload_n C (pc := 36) rfl rfl dX6_run_36 ?_
          refine r_get C (pc := 37) (ci := 6) (k := 0) (w := .ref (x + 1)) rfl (by decide) inX6 (by decide) q_231 (Or.inl hd0) hs0 (zl_ref _ _) dX6_run_37 ?_
          refine r_getN C (pc := 40) (ci := 5) (k := 2) (w := .ref (x + 1 + 6)) rfl (by decide) inX5 (by decide) q_204 (Or.inl hnd0) hn0 (zl_ref _ _) dX6_run_40 ?_
          refine r_getN C (pc := 43) (ci := 2) (k := 0) (w := .ref (x + 1 + 6 + 1)) rfl (by decide) inX2 (by decide) q_164 (Or.inl hnd6) hn6 (zl_ref _ _) dX6_run_43 ?_
          refine r_getN C (pc := 46) (ci := 1) (k := 1) (w := .int (nI (((itk y M).2.1 3).length))) rfl (by decide) inX1 (by decide) q_123 (Or.inl hnd61) hn61 (zl_i (by have hky : k = y := (by omega); rw [hky] at e1; exact e1.2.2.2.2.2.2.2.2.1.1)) dX6_run_46 ?_
          exact r_iret C (pc := 49) rfl (rfl) dX6_run_49 ⟨rfl, (by have ho : oRun (nI y) (M, h) = (nI ((itk y M).2.1 3).length, (itk y M, remH M h)) := (if_pos hc1).trans (by rw [nn_I (by omega)]); rw [ho]; have hky : k = y := (by omega); rw [hky] at e1; exact ⟨q1, X1, X2, rfl, e1, e2, e3⟩)⟩
        · refine r_aload_n C (pc := 23) rfl rfl dX6_run_23 ?_
          refine r_get C (pc := 24) (ci := 6) (k := 0) (w := .ref (x + 1)) rfl (by decide) inX6 (by decide) q_231 (Or.inl hd0) hs0 (zl_ref _ _) dX6_run_24 ?_
          refine r_callV C (pc := 27) (st := []) (m_X5_tick l G s13 v' N hnow e1 (itk_G hI.1 k).1.1) kyX5_tick q_488 rfl (Or.inl hnd0) hn0 (by decide) rfl rfl rfl (Nat.le_of_ble_eq_true rfl) ⟨Nat.le_of_ble_eq_true rfl, Nat.le_of_ble_eq_true rfl⟩ ⟨Nat.le_of_ble_eq_true rfl, Nat.le_of_ble_eq_true rfl⟩ dX6_run_27 (fun r27 v27 hp27 => ?_)
          obtain ⟨rfl, g4, g5⟩ := hp27
          refine VV.eq (st2 := []) rfl ?_
          refine r_iinc C (pc := 30) (lv2 := [some (.ref x), some (.int (nI y)), some (.int (nI (k + 1)))]) (y := (nI (k + 1))) rfl (nI_inc _ _) (Nat.le_of_ble_eq_true rfl) rfl rfl dX6_run_30 ?_
          refine r_goto C (pc := 33) (tgt := 18) dX6_run_33 (by decide) ?_
          exact ih (k + 1) v27 (by omega) (by omega) g4 (zxh_now e2 hpq g5) (e3.tr (g5.wide (by omega) (by omega)))
    exact loop (y + 1) 0 v13 (by omega) (by omega) X3 X4 X5
  · refine r_iconst C (pc := 10) (x := (-1)) (by decide) dX6_run_10 ?_
    exact r_iret C (pc := 11) rfl (rfl) dX6_run_11 ⟨rfl, (by have ho : oRun a (M, h) = (-1, (M, h)) := if_neg (fun z => (of_decide_eq_false c_7) z); rw [ho]; exact ⟨q, hX, fun _ _ => rfl, rfl, hv, hh, zfr.rf⟩)⟩
set_option maxRecDepth 100000 in
set_option maxHeartbeats 4000000 in
theorem m_X6_inject (l : Launch) (G : zG) (sh : zH) (v : zV) (N : Nat) {x : Nat} {q : Nat → Nat} {M : zMS} {h : zHs} {T : Nat} {a : Int32} (hX : zXR G sh N x q) (hv : zt v (x + 1) M) (hh : zxh v x q h) (hI : zI T (M, h)) (hT : T + 1000 < 2 ^ 30) : zM l G yX6_inject cX6_inject 2 (some .int) 6 0 0 [.ref x, .int a] sh v N (fun r sh1 v1 N1 => N = N1 ∧ (∃ q1, zXR G sh1 N x q1 ∧ (∀ b, b ≠ x + 57 → sh1 b = sh b) ∧ r = some (.int (oInject a (M, h)).1) ∧ zt v1 (x + 1) (oInject a (M, h)).2.1 ∧ zxh v1 x q1 (oInject a (M, h)).2.2 ∧ zfr v v1 x 340)) := by
  refine zM.of (by decide) rfl (Nat.le_of_ble_eq_true rfl) ?_
  intro p e s m args below meth c C
  obtain ⟨xB, xN, hs0, hs57, hs58, hs59, hnow, htri, hhis, himg, hpq⟩ := id hX
  have hd0 : G.2.2.1 ≤ x ∧ x < N := ⟨xB, by omega⟩
  have hd57 : G.2.2.1 ≤ x + 57 ∧ x + 57 < N := ⟨by omega, by omega⟩
  have hd58 : G.2.2.1 ≤ x + 58 ∧ x + 58 < N := ⟨by omega, by omega⟩
  have hd59 : G.2.2.1 ≤ x + 59 ∧ x + 59 < N := ⟨by omega, by omega⟩
  obtain ⟨ntB, ntN, hn0, ntse, hn5, ntrc, hn19, ntsp, ntst⟩ := id hnow
  have hnd0 : G.2.2.1 ≤ x + 1 ∧ x + 1 < N := ⟨by omega, by omega⟩
  have hnd1 : G.2.2.1 ≤ x + 1 + 1 ∧ x + 1 + 1 < N := ⟨by omega, by omega⟩
  have hnd5 : G.2.2.1 ≤ x + 1 + 5 ∧ x + 1 + 5 < N := ⟨by omega, by omega⟩
  have hnd6 : G.2.2.1 ≤ x + 1 + 6 ∧ x + 1 + 6 < N := ⟨by omega, by omega⟩
  have hnd19 : G.2.2.1 ≤ x + 1 + 19 ∧ x + 1 + 19 < N := ⟨by omega, by omega⟩
  have hnd20 : G.2.2.1 ≤ x + 1 + 20 ∧ x + 1 + 20 < N := ⟨by omega, by omega⟩
  have hnd61 : G.2.2.1 ≤ x + 1 + 6 + 1 ∧ x + 1 + 6 + 1 < N := ⟨by omega, by omega⟩
  have hnd65 : G.2.2.1 ≤ x + 1 + 6 + 5 ∧ x + 1 + 6 + 5 < N := ⟨by omega, by omega⟩
  have hnd610 : G.2.2.1 ≤ x + 1 + 6 + 10 ∧ x + 1 + 6 + 10 < N := ⟨by omega, by omega⟩
  have hnd68 : G.2.2.1 ≤ x + 1 + 6 + 8 ∧ x + 1 + 6 + 8 < N := ⟨by omega, by omega⟩
  have hn1 := ntse.2.2.1
  have hn6 := ntrc.2.2.1
  have hn20 := ntsp.2.2.1
  have hn61 := ntrc.2.2.2.1.2.2.2.1
  have hn65 := ntrc.2.2.2.2.2.1.2.2.1
  have hn68 := ntrc.2.2.2.2.2.2.1.2.2.2.1
  have hn610 := ntrc.2.2.2.2.2.2.2.2.2.1
  have hnd11 : G.2.2.1 ≤ x + 1 + 1 + 1 ∧ x + 1 + 1 + 1 < N := ⟨by omega, by omega⟩
  have hnd12 : G.2.2.1 ≤ x + 1 + 1 + 2 ∧ x + 1 + 1 + 2 < N := ⟨by omega, by omega⟩
  have hnd13 : G.2.2.1 ≤ x + 1 + 1 + 3 ∧ x + 1 + 1 + 3 < N := ⟨by omega, by omega⟩
  have hnd652 : G.2.2.1 ≤ x + 1 + 6 + 5 + 2 ∧ x + 1 + 6 + 5 + 2 < N := ⟨by omega, by omega⟩
  have hnd6102 : G.2.2.1 ≤ x + 1 + 6 + 10 + 2 ∧ x + 1 + 6 + 10 + 2 < N := ⟨by omega, by omega⟩
  have hn11 := ntse.2.2.2.1
  have hn12 := ntse.2.2.2.2.1
  have hn13 := ntse.2.2.2.2.2
  have hn652 := ntrc.2.2.2.2.2.1.2.2.2.2
  have hn6102 := ntrc.2.2.2.2.2.2.2.2.2.2.2
  obtain ⟨ltB, ltN, hl0, ltse, hl5, ltrc, hl19, ltsp, ltst⟩ := id htri
  have hld0 : G.2.2.1 ≤ x + 29 ∧ x + 29 < N := ⟨by omega, by omega⟩
  have hld1 : G.2.2.1 ≤ x + 29 + 1 ∧ x + 29 + 1 < N := ⟨by omega, by omega⟩
  have hld5 : G.2.2.1 ≤ x + 29 + 5 ∧ x + 29 + 5 < N := ⟨by omega, by omega⟩
  have hld6 : G.2.2.1 ≤ x + 29 + 6 ∧ x + 29 + 6 < N := ⟨by omega, by omega⟩
  have hld19 : G.2.2.1 ≤ x + 29 + 19 ∧ x + 29 + 19 < N := ⟨by omega, by omega⟩
  have hld20 : G.2.2.1 ≤ x + 29 + 20 ∧ x + 29 + 20 < N := ⟨by omega, by omega⟩
  have hld61 : G.2.2.1 ≤ x + 29 + 6 + 1 ∧ x + 29 + 6 + 1 < N := ⟨by omega, by omega⟩
  have hld65 : G.2.2.1 ≤ x + 29 + 6 + 5 ∧ x + 29 + 6 + 5 < N := ⟨by omega, by omega⟩
  have hld610 : G.2.2.1 ≤ x + 29 + 6 + 10 ∧ x + 29 + 6 + 10 < N := ⟨by omega, by omega⟩
  have hld68 : G.2.2.1 ≤ x + 29 + 6 + 8 ∧ x + 29 + 6 + 8 < N := ⟨by omega, by omega⟩
  have hl1 := ltse.2.2.1
  have hl6 := ltrc.2.2.1
  have hl20 := ltsp.2.2.1
  have hl61 := ltrc.2.2.2.1.2.2.2.1
  have hl65 := ltrc.2.2.2.2.2.1.2.2.1
  have hl68 := ltrc.2.2.2.2.2.2.1.2.2.2.1
  have hl610 := ltrc.2.2.2.2.2.2.2.2.2.1
  have hld11 : G.2.2.1 ≤ x + 29 + 1 + 1 ∧ x + 29 + 1 + 1 < N := ⟨by omega, by omega⟩
  have hld12 : G.2.2.1 ≤ x + 29 + 1 + 2 ∧ x + 29 + 1 + 2 < N := ⟨by omega, by omega⟩
  have hld13 : G.2.2.1 ≤ x + 29 + 1 + 3 ∧ x + 29 + 1 + 3 < N := ⟨by omega, by omega⟩
  have hld652 : G.2.2.1 ≤ x + 29 + 6 + 5 + 2 ∧ x + 29 + 6 + 5 + 2 < N := ⟨by omega, by omega⟩
  have hld6102 : G.2.2.1 ≤ x + 29 + 6 + 10 + 2 ∧ x + 29 + 6 + 10 + 2 < N := ⟨by omega, by omega⟩
  have hl11 := ltse.2.2.2.1
  have hl12 := ltse.2.2.2.2.1
  have hl13 := ltse.2.2.2.2.2
  have hl652 := ltrc.2.2.2.2.2.1.2.2.2.2
  have hl6102 := ltrc.2.2.2.2.2.2.2.2.2.2.2
  have hE : zE M := hI.1.1
  have hk : mOK M := hE.1
  have hK2 := hk.1.1
  have hK12 := hk.1.2.1
  have hR3 := hk.1.2.2.1
  refine r_aload_n C (pc := 0) rfl rfl dX6_inject_0 ?_
  refine r_iload_n C (pc := 1) rfl rfl dX6_inject_1 ?_
  refine r_callV C (pc := 2) (st := []) (m_X6_isBlockSet l G sh v N (a := a) hX hv hK12) kyX6_isBlockSet q_394 rfl (Or.inl hd0) hs0 (by decide) rfl rfl rfl (Nat.le_of_ble_eq_true rfl) ⟨Nat.le_of_ble_eq_true rfl, Nat.le_of_ble_eq_true rfl⟩ ⟨Nat.le_of_ble_eq_true rfl, Nat.le_of_ble_eq_true rfl⟩ dX6_inject_2 (fun r2 v2 hp2 => ?_)
  obtain ⟨rfl, ehp2⟩ := hp2
  refine VV.vq ehp2 ?_
  refine VV.eq (st2 := [.int (zb (decide ((nI 1) ≤ a ∧ a ≤ (nI (2 ^ M.1 0 - 1)))))]) rfl ?_
  refine n_ifb_ne C (pc := 5) (tgt := 10) dX6_inject_5 (by decide) (fun c_5 => ?_) (fun c_5 => ?_)
  · have hc1 := (of_decide_eq_true c_5)
    have hp12 : 2 ^ M.1 0 ≤ 2 ^ 12 := Nat.pow_le_pow_right (by decide) hK12
    obtain ⟨y, hy1, hy2, rfl⟩ := inR (of_decide_eq_true c_5) (by decide) (by omega)
    obtain ⟨hpc, hpb⟩ := pkS_ok hE y
    refine r_aload_n C (pc := 10) rfl rfl dX6_inject_10 ?_
    refine r_callVM C (pc := 11) (st := []) (m_X6_remember l G sh v N hX hv hh) kyX6_remember q_273 rfl (Or.inl hd0) hs0 (by decide) rfl rfl rfl (Nat.le_of_ble_eq_true rfl) ⟨Nat.le_of_ble_eq_true rfl, Nat.le_of_ble_eq_true rfl⟩ ⟨Nat.le_of_ble_eq_true rfl, Nat.le_of_ble_eq_true rfl⟩ dX6_inject_11 (fun r11 sh v11 N' hp11 => ?_)
    obtain ⟨hN, rfl, q1, X1, X2, X3, X4, X5⟩ := hp11
    subst hN
    obtain ⟨xB, xN, hs0, hs57, hs58, hs59, hnow, htri, hhis, himg, hpq⟩ := id X1
    have hd0 : G.2.2.1 ≤ x ∧ x < N := ⟨xB, by omega⟩
    have hd57 : G.2.2.1 ≤ x + 57 ∧ x + 57 < N := ⟨by omega, by omega⟩
    have hd58 : G.2.2.1 ≤ x + 58 ∧ x + 58 < N := ⟨by omega, by omega⟩
    have hd59 : G.2.2.1 ≤ x + 59 ∧ x + 59 < N := ⟨by omega, by omega⟩
    obtain ⟨ntB, ntN, hn0, ntse, hn5, ntrc, hn19, ntsp, ntst⟩ := id hnow
    have hnd0 : G.2.2.1 ≤ x + 1 ∧ x + 1 < N := ⟨by omega, by omega⟩
    have hnd1 : G.2.2.1 ≤ x + 1 + 1 ∧ x + 1 + 1 < N := ⟨by omega, by omega⟩
    have hnd5 : G.2.2.1 ≤ x + 1 + 5 ∧ x + 1 + 5 < N := ⟨by omega, by omega⟩
    have hnd6 : G.2.2.1 ≤ x + 1 + 6 ∧ x + 1 + 6 < N := ⟨by omega, by omega⟩
    have hnd19 : G.2.2.1 ≤ x + 1 + 19 ∧ x + 1 + 19 < N := ⟨by omega, by omega⟩
    have hnd20 : G.2.2.1 ≤ x + 1 + 20 ∧ x + 1 + 20 < N := ⟨by omega, by omega⟩
    have hnd61 : G.2.2.1 ≤ x + 1 + 6 + 1 ∧ x + 1 + 6 + 1 < N := ⟨by omega, by omega⟩
    have hnd65 : G.2.2.1 ≤ x + 1 + 6 + 5 ∧ x + 1 + 6 + 5 < N := ⟨by omega, by omega⟩
    have hnd610 : G.2.2.1 ≤ x + 1 + 6 + 10 ∧ x + 1 + 6 + 10 < N := ⟨by omega, by omega⟩
    have hnd68 : G.2.2.1 ≤ x + 1 + 6 + 8 ∧ x + 1 + 6 + 8 < N := ⟨by omega, by omega⟩
    have hn1 := ntse.2.2.1
    have hn6 := ntrc.2.2.1
    have hn20 := ntsp.2.2.1
    have hn61 := ntrc.2.2.2.1.2.2.2.1
    have hn65 := ntrc.2.2.2.2.2.1.2.2.1
    have hn68 := ntrc.2.2.2.2.2.2.1.2.2.2.1
    have hn610 := ntrc.2.2.2.2.2.2.2.2.2.1
    have hnd11 : G.2.2.1 ≤ x + 1 + 1 + 1 ∧ x + 1 + 1 + 1 < N := ⟨by omega, by omega⟩
    have hnd12 : G.2.2.1 ≤ x + 1 + 1 + 2 ∧ x + 1 + 1 + 2 < N := ⟨by omega, by omega⟩
    have hnd13 : G.2.2.1 ≤ x + 1 + 1 + 3 ∧ x + 1 + 1 + 3 < N := ⟨by omega, by omega⟩
    have hnd652 : G.2.2.1 ≤ x + 1 + 6 + 5 + 2 ∧ x + 1 + 6 + 5 + 2 < N := ⟨by omega, by omega⟩
    have hnd6102 : G.2.2.1 ≤ x + 1 + 6 + 10 + 2 ∧ x + 1 + 6 + 10 + 2 < N := ⟨by omega, by omega⟩
    have hn11 := ntse.2.2.2.1
    have hn12 := ntse.2.2.2.2.1
    have hn13 := ntse.2.2.2.2.2
    have hn652 := ntrc.2.2.2.2.2.1.2.2.2.2
    have hn6102 := ntrc.2.2.2.2.2.2.2.2.2.2.2
    obtain ⟨ltB, ltN, hl0, ltse, hl5, ltrc, hl19, ltsp, ltst⟩ := id htri
    have hld0 : G.2.2.1 ≤ x + 29 ∧ x + 29 < N := ⟨by omega, by omega⟩
    have hld1 : G.2.2.1 ≤ x + 29 + 1 ∧ x + 29 + 1 < N := ⟨by omega, by omega⟩
    have hld5 : G.2.2.1 ≤ x + 29 + 5 ∧ x + 29 + 5 < N := ⟨by omega, by omega⟩
    have hld6 : G.2.2.1 ≤ x + 29 + 6 ∧ x + 29 + 6 < N := ⟨by omega, by omega⟩
    have hld19 : G.2.2.1 ≤ x + 29 + 19 ∧ x + 29 + 19 < N := ⟨by omega, by omega⟩
    have hld20 : G.2.2.1 ≤ x + 29 + 20 ∧ x + 29 + 20 < N := ⟨by omega, by omega⟩
    have hld61 : G.2.2.1 ≤ x + 29 + 6 + 1 ∧ x + 29 + 6 + 1 < N := ⟨by omega, by omega⟩
    have hld65 : G.2.2.1 ≤ x + 29 + 6 + 5 ∧ x + 29 + 6 + 5 < N := ⟨by omega, by omega⟩
    have hld610 : G.2.2.1 ≤ x + 29 + 6 + 10 ∧ x + 29 + 6 + 10 < N := ⟨by omega, by omega⟩
    have hld68 : G.2.2.1 ≤ x + 29 + 6 + 8 ∧ x + 29 + 6 + 8 < N := ⟨by omega, by omega⟩
    have hl1 := ltse.2.2.1
    have hl6 := ltrc.2.2.1
    have hl20 := ltsp.2.2.1
    have hl61 := ltrc.2.2.2.1.2.2.2.1
    have hl65 := ltrc.2.2.2.2.2.1.2.2.1
    have hl68 := ltrc.2.2.2.2.2.2.1.2.2.2.1
    have hl610 := ltrc.2.2.2.2.2.2.2.2.2.1
    have hld11 : G.2.2.1 ≤ x + 29 + 1 + 1 ∧ x + 29 + 1 + 1 < N := ⟨by omega, by omega⟩
    have hld12 : G.2.2.1 ≤ x + 29 + 1 + 2 ∧ x + 29 + 1 + 2 < N := ⟨by omega, by omega⟩
    have hld13 : G.2.2.1 ≤ x + 29 + 1 + 3 ∧ x + 29 + 1 + 3 < N := ⟨by omega, by omega⟩
    have hld652 : G.2.2.1 ≤ x + 29 + 6 + 5 + 2 ∧ x + 29 + 6 + 5 + 2 < N := ⟨by omega, by omega⟩
    have hld6102 : G.2.2.1 ≤ x + 29 + 6 + 10 + 2 ∧ x + 29 + 6 + 10 + 2 < N := ⟨by omega, by omega⟩
    have hl11 := ltse.2.2.2.1
    have hl12 := ltse.2.2.2.2.1
    have hl13 := ltse.2.2.2.2.2
    have hl652 := ltrc.2.2.2.2.2.1.2.2.2.2
    have hl6102 := ltrc.2.2.2.2.2.2.2.2.2.2.2
    refine VV.c0 ?_
    refine VV.eq (st2 := []) rfl ?_
    refine r_aload_n C (pc := 14) rfl rfl dX6_inject_14 ?_
    refine r_get C (pc := 15) (ci := 6) (k := 0) (w := .ref (x + 1)) rfl (by decide) inX6 (by decide) q_231 (Or.inl hd0) hs0 (zl_ref _ _) dX6_inject_15 ?_
    refine r_getN C (pc := 18) (ci := 5) (k := 2) (w := .ref (x + 1 + 6)) rfl (by decide) inX5 (by decide) q_204 (Or.inl hnd0) hn0 (zl_ref _ _) dX6_inject_18 ?_
    refine r_aload_n C (pc := 21) rfl rfl dX6_inject_21 ?_
    refine r_get C (pc := 22) (ci := 6) (k := 0) (w := .ref (x + 1)) rfl (by decide) inX6 (by decide) q_231 (Or.inl hd0) hs0 (zl_ref _ _) dX6_inject_22 ?_
    refine r_getN C (pc := 25) (ci := 5) (k := 0) (w := .ref (x + 1 + 1)) rfl (by decide) inX5 (by decide) q_201 (Or.inl hnd0) hn0 (zl_ref _ _) dX6_inject_25 ?_
    refine r_iload_n C (pc := 28) rfl rfl dX6_inject_28 ?_
    refine r_callV C (pc := 29) (st := [.ref (x + 1 + 6)]) (m_X3_packetOf l G sh v11 N (x := y) ntse X3.2.2.2.1 hk.1 (by omega)) kyX3_packetOf q_398 rfl (Or.inl hnd1) hn1 (by decide) rfl rfl rfl (Nat.le_of_ble_eq_true rfl) ⟨Nat.le_of_ble_eq_true rfl, Nat.le_of_ble_eq_true rfl⟩ ⟨Nat.le_of_ble_eq_true rfl, Nat.le_of_ble_eq_true rfl⟩ dX6_inject_29 (fun r29 v29 hp29 => ?_)
    obtain ⟨rfl, ehp29⟩ := hp29
    refine VV.vq ehp29 ?_
    refine VV.eq (st2 := [.int (nI (pkS M y)), .ref (x + 1 + 6)]) rfl ?_
    refine r_aload_n C (pc := 32) rfl rfl dX6_inject_32 ?_
    refine r_get C (pc := 33) (ci := 6) (k := 0) (w := .ref (x + 1)) rfl (by decide) inX6 (by decide) q_231 (Or.inl hd0) hs0 (zl_ref _ _) dX6_inject_33 ?_
    refine r_getN C (pc := 36) (ci := 5) (k := 3) (w := .int (nI (M.1 2))) rfl (by decide) inX5 (by decide) q_206 (Or.inl hnd0) hn0 (zl_i (X3.1)) dX6_inject_36 ?_
    refine r_callV C (pc := 39) (st := []) (m_X2_accept l G sh v11 N (x := (pkS M y)) (t := M.1 2) ntrc X3.2.2.2.2.2 (mOK_V hk) hpc (hk.2.2.1 4 (by decide)) (spr_con (hk.2.2.1 3 (by decide)) _) (nvl_k hk.2.2.2.1) (by have := hk.2.2.2.2.2; omega)) kyX2_accept q_405 rfl (Or.inl hnd6) hn6 (by decide) rfl rfl rfl (Nat.le_of_ble_eq_true rfl) ⟨Nat.le_of_ble_eq_true rfl, Nat.le_of_ble_eq_true rfl⟩ ⟨Nat.le_of_ble_eq_true rfl, Nat.le_of_ble_eq_true rfl⟩ dX6_inject_39 (fun r39 v39 hp39 => ?_)
    obtain ⟨rfl, g4, g5⟩ := hp39
    refine VV.eq (st2 := [.int (zb (tkb (spo (M.2.1 3)) (pkS M y)))]) rfl ?_
    refine n_ifb_eq C (pc := 42) (tgt := 49) dX6_inject_42 (by decide) (fun c_42 => ?_) (fun c_42 => ?_)
    · refine r_iconst C (pc := 49) (x := (nI 0)) (by decide) dX6_inject_49 ?_
      exact r_iret C (pc := 50) rfl (rfl) dX6_inject_50 ⟨rfl, (by have ho : oInject (nI y) (M, h) = (nI (if tkb (spo (M.2.1 3)) (pkS M y) then 1 else 0), (mAcc M (pkS M y), remH M h)) := (if_pos hc1).trans (by rw [nn_I (by omega)]); rw [ho]; exact ⟨q1, X1, X2, (by rw [c_42]; rfl), zt_acc X3 g4 g5, zxh_now X4 hpq (g5.wide (by omega) (by omega)), X5.tr (g5.wide (by omega) (by omega))⟩)⟩
    · refine r_iconst C (pc := 45) (x := (nI 1)) (by decide) dX6_inject_45 ?_
      refine r_goto C (pc := 46) (tgt := 50) dX6_inject_46 (by decide) ?_
      exact r_iret C (pc := 50) rfl (rfl) dX6_inject_50 ⟨rfl, (by have ho : oInject (nI y) (M, h) = (nI (if tkb (spo (M.2.1 3)) (pkS M y) then 1 else 0), (mAcc M (pkS M y), remH M h)) := (if_pos hc1).trans (by rw [nn_I (by omega)]); rw [ho]; exact ⟨q1, X1, X2, (by rw [c_42]; rfl), zt_acc X3 g4 g5, zxh_now X4 hpq (g5.wide (by omega) (by omega)), X5.tr (g5.wide (by omega) (by omega))⟩)⟩
  · refine r_iconst C (pc := 8) (x := (-1)) (by decide) dX6_inject_8 ?_
    exact r_iret C (pc := 9) rfl (rfl) dX6_inject_9 ⟨rfl, (by have ho : oInject a (M, h) = (-1, (M, h)) := if_neg (fun z => (of_decide_eq_false c_5) z); rw [ho]; exact ⟨q, hX, fun _ _ => rfl, rfl, hv, hh, zfr.rf⟩)⟩
set_option maxRecDepth 100000 in
set_option maxHeartbeats 4000000 in
theorem m_X6_undo (l : Launch) (G : zG) (sh : zH) (v : zV) (N : Nat) {x : Nat} {q : Nat → Nat} {M : zMS} {h : zHs} {T : Nat} (hX : zXR G sh N x q) (hv : zt v (x + 1) M) (hh : zxh v x q h) (hI : zI T (M, h)) (hT : T + 1000 < 2 ^ 30) : zM l G yX6_undo cX6_undo 1 (some .int) 5 0 0 [.ref x] sh v N (fun r sh1 v1 N1 => N = N1 ∧ (∃ q1, zXR G sh1 N x q1 ∧ (∀ b, b ≠ x + 57 → sh1 b = sh b) ∧ r = some (.int (oUndo (M, h)).1) ∧ zt v1 (x + 1) (oUndo (M, h)).2.1 ∧ zxh v1 x q1 (oUndo (M, h)).2.2 ∧ zfr v v1 x 340)) := by
  refine zM.of (by decide) rfl (Nat.le_of_ble_eq_true rfl) ?_
  intro p e s m args below meth c C
  obtain ⟨xB, xN, hs0, hs57, hs58, hs59, hnow, htri, hhis, himg, hpq⟩ := id hX
  have hd0 : G.2.2.1 ≤ x ∧ x < N := ⟨xB, by omega⟩
  have hd57 : G.2.2.1 ≤ x + 57 ∧ x + 57 < N := ⟨by omega, by omega⟩
  have hd58 : G.2.2.1 ≤ x + 58 ∧ x + 58 < N := ⟨by omega, by omega⟩
  have hd59 : G.2.2.1 ≤ x + 59 ∧ x + 59 < N := ⟨by omega, by omega⟩
  obtain ⟨ntB, ntN, hn0, ntse, hn5, ntrc, hn19, ntsp, ntst⟩ := id hnow
  have hnd0 : G.2.2.1 ≤ x + 1 ∧ x + 1 < N := ⟨by omega, by omega⟩
  have hnd1 : G.2.2.1 ≤ x + 1 + 1 ∧ x + 1 + 1 < N := ⟨by omega, by omega⟩
  have hnd5 : G.2.2.1 ≤ x + 1 + 5 ∧ x + 1 + 5 < N := ⟨by omega, by omega⟩
  have hnd6 : G.2.2.1 ≤ x + 1 + 6 ∧ x + 1 + 6 < N := ⟨by omega, by omega⟩
  have hnd19 : G.2.2.1 ≤ x + 1 + 19 ∧ x + 1 + 19 < N := ⟨by omega, by omega⟩
  have hnd20 : G.2.2.1 ≤ x + 1 + 20 ∧ x + 1 + 20 < N := ⟨by omega, by omega⟩
  have hnd61 : G.2.2.1 ≤ x + 1 + 6 + 1 ∧ x + 1 + 6 + 1 < N := ⟨by omega, by omega⟩
  have hnd65 : G.2.2.1 ≤ x + 1 + 6 + 5 ∧ x + 1 + 6 + 5 < N := ⟨by omega, by omega⟩
  have hnd610 : G.2.2.1 ≤ x + 1 + 6 + 10 ∧ x + 1 + 6 + 10 < N := ⟨by omega, by omega⟩
  have hnd68 : G.2.2.1 ≤ x + 1 + 6 + 8 ∧ x + 1 + 6 + 8 < N := ⟨by omega, by omega⟩
  have hn1 := ntse.2.2.1
  have hn6 := ntrc.2.2.1
  have hn20 := ntsp.2.2.1
  have hn61 := ntrc.2.2.2.1.2.2.2.1
  have hn65 := ntrc.2.2.2.2.2.1.2.2.1
  have hn68 := ntrc.2.2.2.2.2.2.1.2.2.2.1
  have hn610 := ntrc.2.2.2.2.2.2.2.2.2.1
  have hnd11 : G.2.2.1 ≤ x + 1 + 1 + 1 ∧ x + 1 + 1 + 1 < N := ⟨by omega, by omega⟩
  have hnd12 : G.2.2.1 ≤ x + 1 + 1 + 2 ∧ x + 1 + 1 + 2 < N := ⟨by omega, by omega⟩
  have hnd13 : G.2.2.1 ≤ x + 1 + 1 + 3 ∧ x + 1 + 1 + 3 < N := ⟨by omega, by omega⟩
  have hnd652 : G.2.2.1 ≤ x + 1 + 6 + 5 + 2 ∧ x + 1 + 6 + 5 + 2 < N := ⟨by omega, by omega⟩
  have hnd6102 : G.2.2.1 ≤ x + 1 + 6 + 10 + 2 ∧ x + 1 + 6 + 10 + 2 < N := ⟨by omega, by omega⟩
  have hn11 := ntse.2.2.2.1
  have hn12 := ntse.2.2.2.2.1
  have hn13 := ntse.2.2.2.2.2
  have hn652 := ntrc.2.2.2.2.2.1.2.2.2.2
  have hn6102 := ntrc.2.2.2.2.2.2.2.2.2.2.2
  obtain ⟨ltB, ltN, hl0, ltse, hl5, ltrc, hl19, ltsp, ltst⟩ := id htri
  have hld0 : G.2.2.1 ≤ x + 29 ∧ x + 29 < N := ⟨by omega, by omega⟩
  have hld1 : G.2.2.1 ≤ x + 29 + 1 ∧ x + 29 + 1 < N := ⟨by omega, by omega⟩
  have hld5 : G.2.2.1 ≤ x + 29 + 5 ∧ x + 29 + 5 < N := ⟨by omega, by omega⟩
  have hld6 : G.2.2.1 ≤ x + 29 + 6 ∧ x + 29 + 6 < N := ⟨by omega, by omega⟩
  have hld19 : G.2.2.1 ≤ x + 29 + 19 ∧ x + 29 + 19 < N := ⟨by omega, by omega⟩
  have hld20 : G.2.2.1 ≤ x + 29 + 20 ∧ x + 29 + 20 < N := ⟨by omega, by omega⟩
  have hld61 : G.2.2.1 ≤ x + 29 + 6 + 1 ∧ x + 29 + 6 + 1 < N := ⟨by omega, by omega⟩
  have hld65 : G.2.2.1 ≤ x + 29 + 6 + 5 ∧ x + 29 + 6 + 5 < N := ⟨by omega, by omega⟩
  have hld610 : G.2.2.1 ≤ x + 29 + 6 + 10 ∧ x + 29 + 6 + 10 < N := ⟨by omega, by omega⟩
  have hld68 : G.2.2.1 ≤ x + 29 + 6 + 8 ∧ x + 29 + 6 + 8 < N := ⟨by omega, by omega⟩
  have hl1 := ltse.2.2.1
  have hl6 := ltrc.2.2.1
  have hl20 := ltsp.2.2.1
  have hl61 := ltrc.2.2.2.1.2.2.2.1
  have hl65 := ltrc.2.2.2.2.2.1.2.2.1
  have hl68 := ltrc.2.2.2.2.2.2.1.2.2.2.1
  have hl610 := ltrc.2.2.2.2.2.2.2.2.2.1
  have hld11 : G.2.2.1 ≤ x + 29 + 1 + 1 ∧ x + 29 + 1 + 1 < N := ⟨by omega, by omega⟩
  have hld12 : G.2.2.1 ≤ x + 29 + 1 + 2 ∧ x + 29 + 1 + 2 < N := ⟨by omega, by omega⟩
  have hld13 : G.2.2.1 ≤ x + 29 + 1 + 3 ∧ x + 29 + 1 + 3 < N := ⟨by omega, by omega⟩
  have hld652 : G.2.2.1 ≤ x + 29 + 6 + 5 + 2 ∧ x + 29 + 6 + 5 + 2 < N := ⟨by omega, by omega⟩
  have hld6102 : G.2.2.1 ≤ x + 29 + 6 + 10 + 2 ∧ x + 29 + 6 + 10 + 2 < N := ⟨by omega, by omega⟩
  have hl11 := ltse.2.2.2.1
  have hl12 := ltse.2.2.2.2.1
  have hl13 := ltse.2.2.2.2.2
  have hl652 := ltrc.2.2.2.2.2.1.2.2.2.2
  have hl6102 := ltrc.2.2.2.2.2.2.2.2.2.2.2
  have hE : zE M := hI.1.1
  have hk : mOK M := hE.1
  have hK2 := hk.1.1
  have hK12 := hk.1.2.1
  have hR3 := hk.1.2.2.1
  refine r_aload_n C (pc := 0) rfl rfl dX6_undo_0 ?_
  refine r_get C (pc := 1) (ci := 6) (k := 5) (w := .int (nI h.1)) rfl (by decide) inX6 (by decide) q_236 (Or.inl hd0) hs0 (zl_i (hh.1)) dX6_undo_1 ?_
  refine r_iconst C (pc := 4) (x := (nI 1)) (by decide) dX6_undo_4 ?_
  refine r_bipush C (pc := 5) (x := (nI 8)) (by decide) dX6_undo_5 ?_
  refine r_callS C (pc := 7) (st := []) (m_X6_isWithin l G sh v N (x := (nI h.1)) (lo := (nI 1)) (hi := (nI 8))) kyX6_isWithin q_270 rfl rfl (Nat.le_of_ble_eq_true rfl) ⟨Nat.le_of_ble_eq_true rfl, Nat.le_of_ble_eq_true rfl⟩ ⟨Nat.le_of_ble_eq_true rfl, Nat.le_of_ble_eq_true rfl⟩ dX6_undo_7 (fun r7 v7 hp7 => ?_)
  obtain ⟨rfl, ehp7⟩ := hp7
  refine VV.vq ehp7 ?_
  refine VV.eq (st2 := [.int (zb (decide ((nI 1) ≤ (nI h.1) ∧ (nI h.1) ≤ (nI 8))))]) rfl ?_
  refine n_ifb_ne C (pc := 10) (tgt := 16) dX6_undo_10 (by decide) (fun c_10 => ?_) (fun c_10 => ?_)
  · have hu1 : 1 ≤ h.1 := und_1 hh.2.1 (of_decide_eq_true c_10)
    have h8 := hh.2.1
    have hqk := hpq.1 (h.1 - 1) (by omega)
    have ghz := hhis (q (h.1 - 1)) hqk
    have ghs := ghz.2.2.1
    have ghd : G.2.2.1 ≤ x + 60 + 28 * q (h.1 - 1) ∧ x + 60 + 28 * q (h.1 - 1) < N := ⟨by omega, by omega⟩
    refine r_aload_n C (pc := 16) rfl rfl dX6_undo_16 ?_
    refine r_dup C (pc := 17) rfl dX6_undo_17 ?_
    refine r_get C (pc := 18) (ci := 6) (k := 5) (w := .int (nI h.1)) rfl (by decide) inX6 (by decide) q_236 (Or.inl hd0) hs0 (zl_i (hh.1)) dX6_undo_18 ?_
    refine r_iconst C (pc := 21) (x := (nI 1)) (by decide) dX6_undo_21 ?_
    refine r_isub C (pc := 22) (z := (nI (h.1 - 1))) (pk_sub (by omega)) dX6_undo_22 ?_
    refine r_put C (pc := 23) (ci := 6) (k := 5) rfl (by decide) inX6 tyX6_ok nmX6 (by decide) rfl pfI rfl q_236 hd0 hs0 dX6_undo_23 ?_
    refine VV.gn (fun w23 ew23 => ?_)
    refine r_aload_n C (pc := 26) rfl rfl dX6_undo_26 ?_
    refine r_get C (pc := 27) (ci := 6) (k := 0) (w := .ref (x + 1)) rfl (by decide) inX6 (by decide) q_231 (Or.inl hd0) hs0 (zl_ref _ _) dX6_undo_27 ?_
    refine r_aload_n C (pc := 30) rfl rfl dX6_undo_30 ?_
    refine r_get C (pc := 31) (ci := 6) (k := 2) (w := .ref (x + 57)) rfl (by decide) inX6 (by decide) q_233 (Or.inl hd0) hs0 (zl_ref _ _) dX6_undo_31 ?_
    refine r_aload_n C (pc := 34) rfl rfl dX6_undo_34 ?_
    refine r_get C (pc := 35) (ci := 6) (k := 5) (w := .int (nI (h.1 - 1))) rfl (by decide) inX6 (by decide) q_236 (Or.inl hd0) hs0 (zl_i (by rw [ew23, z2_self])) dX6_undo_35 ?_
    refine r_aald C (pc := 38) (w := .ref (x + 60 + 28 * q (h.1 - 1))) (Or.inl hd57) hs57 (by decide) rfl (by omega) (by omega) (rfl) dX6_undo_38 ?_
    refine r_callV C (pc := 39) (st := []) (m_X5_copyFrom l G sh w23 N (t := x + 1) (o := x + 60 + 28 * q (h.1 - 1)) hnow ghz (by rw [ew23]; exact zt_all (hh.2.2.1 (h.1 - 1) (by omega)) (fun b h1 h2 => z2_addr (by omega))) (by omega)) kyX5_copyFrom q_281 rfl (Or.inl hnd0) hn0 (by decide) rfl rfl rfl (Nat.le_of_ble_eq_true rfl) ⟨Nat.le_of_ble_eq_true rfl, Nat.le_of_ble_eq_true rfl⟩ ⟨Nat.le_of_ble_eq_true rfl, Nat.le_of_ble_eq_true rfl⟩ dX6_undo_39 (fun r39 v39 hp39 => ?_)
    obtain ⟨rfl, g4, g5⟩ := hp39
    refine VV.eq (st2 := []) rfl ?_
    refine r_aload_n C (pc := 42) rfl rfl dX6_undo_42 ?_
    refine r_get C (pc := 43) (ci := 6) (k := 5) (w := .int (nI (h.1 - 1))) rfl (by decide) inX6 (by decide) q_236 (Or.inl hd0) hs0 (zl_i (by rw [g5 x (by omega), ew23, z2_self])) dX6_undo_43 ?_
    exact r_iret C (pc := 46) rfl (rfl) dX6_undo_46 ⟨rfl, (by have ho : oUndo (M, h) = (nI (h.1 - 1), (h.2.1 (h.1 - 1), (h.1 - 1, h.2))) := if_neg (show ¬ h.1 = 0 by omega); rw [ho]; have o : ∀ b, b ≠ x → b < x + 1 ∨ x + 29 ≤ b → v39 b = v b := fun b h1 h2 => (by rw [g5 b (by omega), ew23, z2_addr h1]); exact ⟨q, hX, fun _ _ => rfl, rfl, g4, ⟨(by rw [g5 x (by omega), ew23, z2_self]), (by show h.1 - 1 ≤ 8; omega), (fun i hi => zt_all (hh.2.2.1 i (by have hi2 : i < h.1 - 1 := hi; omega)) (fun b h1 h2 => o b (by omega) (by omega))), (fun i hi => by rw [o _ (by omega) (by omega)]; exact hh.2.2.2.1 i hi), (fun i hi hf => zt_all (hh.2.2.2.2 i hi hf) (fun b h1 h2 => o b (by omega) (by omega)))⟩, (fun b hb => by rw [g5 b (by omega), ew23, z2_addr (by omega)])⟩)⟩
  · refine r_bipush C (pc := 13) (x := (-2)) (by decide) dX6_undo_13 ?_
    exact r_iret C (pc := 15) rfl (rfl) dX6_undo_15 ⟨rfl, (by have hz : h.1 = 0 := und_0 hh.2.1 (of_decide_eq_false c_10); have ho : oUndo (M, h) = (-2, (M, h)) := if_pos hz; rw [ho]; exact ⟨q, hX, fun _ _ => rfl, rfl, hv, hh, zfr.rf⟩)⟩
set_option maxRecDepth 100000 in
set_option maxHeartbeats 4000000 in
theorem m_X6_keep (l : Launch) (G : zG) (sh : zH) (v : zV) (N : Nat) {x : Nat} {q : Nat → Nat} {M : zMS} {h : zHs} {T : Nat} {a : Int32} (hX : zXR G sh N x q) (hv : zt v (x + 1) M) (hh : zxh v x q h) (hI : zI T (M, h)) (hT : T + 1000 < 2 ^ 30) : zM l G yX6_keep cX6_keep 2 (some .int) 5 0 0 [.ref x, .int a] sh v N (fun r sh1 v1 N1 => N = N1 ∧ (∃ q1, zXR G sh1 N x q1 ∧ (∀ b, b ≠ x + 57 → sh1 b = sh b) ∧ r = some (.int (oKeep a (M, h)).1) ∧ zt v1 (x + 1) (oKeep a (M, h)).2.1 ∧ zxh v1 x q1 (oKeep a (M, h)).2.2 ∧ zfr v v1 x 340)) := by
  refine zM.of (by decide) rfl (Nat.le_of_ble_eq_true rfl) ?_
  intro p e s m args below meth c C
  obtain ⟨xB, xN, hs0, hs57, hs58, hs59, hnow, htri, hhis, himg, hpq⟩ := id hX
  have hd0 : G.2.2.1 ≤ x ∧ x < N := ⟨xB, by omega⟩
  have hd57 : G.2.2.1 ≤ x + 57 ∧ x + 57 < N := ⟨by omega, by omega⟩
  have hd58 : G.2.2.1 ≤ x + 58 ∧ x + 58 < N := ⟨by omega, by omega⟩
  have hd59 : G.2.2.1 ≤ x + 59 ∧ x + 59 < N := ⟨by omega, by omega⟩
  obtain ⟨ntB, ntN, hn0, ntse, hn5, ntrc, hn19, ntsp, ntst⟩ := id hnow
  have hnd0 : G.2.2.1 ≤ x + 1 ∧ x + 1 < N := ⟨by omega, by omega⟩
  have hnd1 : G.2.2.1 ≤ x + 1 + 1 ∧ x + 1 + 1 < N := ⟨by omega, by omega⟩
  have hnd5 : G.2.2.1 ≤ x + 1 + 5 ∧ x + 1 + 5 < N := ⟨by omega, by omega⟩
  have hnd6 : G.2.2.1 ≤ x + 1 + 6 ∧ x + 1 + 6 < N := ⟨by omega, by omega⟩
  have hnd19 : G.2.2.1 ≤ x + 1 + 19 ∧ x + 1 + 19 < N := ⟨by omega, by omega⟩
  have hnd20 : G.2.2.1 ≤ x + 1 + 20 ∧ x + 1 + 20 < N := ⟨by omega, by omega⟩
  have hnd61 : G.2.2.1 ≤ x + 1 + 6 + 1 ∧ x + 1 + 6 + 1 < N := ⟨by omega, by omega⟩
  have hnd65 : G.2.2.1 ≤ x + 1 + 6 + 5 ∧ x + 1 + 6 + 5 < N := ⟨by omega, by omega⟩
  have hnd610 : G.2.2.1 ≤ x + 1 + 6 + 10 ∧ x + 1 + 6 + 10 < N := ⟨by omega, by omega⟩
  have hnd68 : G.2.2.1 ≤ x + 1 + 6 + 8 ∧ x + 1 + 6 + 8 < N := ⟨by omega, by omega⟩
  have hn1 := ntse.2.2.1
  have hn6 := ntrc.2.2.1
  have hn20 := ntsp.2.2.1
  have hn61 := ntrc.2.2.2.1.2.2.2.1
  have hn65 := ntrc.2.2.2.2.2.1.2.2.1
  have hn68 := ntrc.2.2.2.2.2.2.1.2.2.2.1
  have hn610 := ntrc.2.2.2.2.2.2.2.2.2.1
  have hnd11 : G.2.2.1 ≤ x + 1 + 1 + 1 ∧ x + 1 + 1 + 1 < N := ⟨by omega, by omega⟩
  have hnd12 : G.2.2.1 ≤ x + 1 + 1 + 2 ∧ x + 1 + 1 + 2 < N := ⟨by omega, by omega⟩
  have hnd13 : G.2.2.1 ≤ x + 1 + 1 + 3 ∧ x + 1 + 1 + 3 < N := ⟨by omega, by omega⟩
  have hnd652 : G.2.2.1 ≤ x + 1 + 6 + 5 + 2 ∧ x + 1 + 6 + 5 + 2 < N := ⟨by omega, by omega⟩
  have hnd6102 : G.2.2.1 ≤ x + 1 + 6 + 10 + 2 ∧ x + 1 + 6 + 10 + 2 < N := ⟨by omega, by omega⟩
  have hn11 := ntse.2.2.2.1
  have hn12 := ntse.2.2.2.2.1
  have hn13 := ntse.2.2.2.2.2
  have hn652 := ntrc.2.2.2.2.2.1.2.2.2.2
  have hn6102 := ntrc.2.2.2.2.2.2.2.2.2.2.2
  obtain ⟨ltB, ltN, hl0, ltse, hl5, ltrc, hl19, ltsp, ltst⟩ := id htri
  have hld0 : G.2.2.1 ≤ x + 29 ∧ x + 29 < N := ⟨by omega, by omega⟩
  have hld1 : G.2.2.1 ≤ x + 29 + 1 ∧ x + 29 + 1 < N := ⟨by omega, by omega⟩
  have hld5 : G.2.2.1 ≤ x + 29 + 5 ∧ x + 29 + 5 < N := ⟨by omega, by omega⟩
  have hld6 : G.2.2.1 ≤ x + 29 + 6 ∧ x + 29 + 6 < N := ⟨by omega, by omega⟩
  have hld19 : G.2.2.1 ≤ x + 29 + 19 ∧ x + 29 + 19 < N := ⟨by omega, by omega⟩
  have hld20 : G.2.2.1 ≤ x + 29 + 20 ∧ x + 29 + 20 < N := ⟨by omega, by omega⟩
  have hld61 : G.2.2.1 ≤ x + 29 + 6 + 1 ∧ x + 29 + 6 + 1 < N := ⟨by omega, by omega⟩
  have hld65 : G.2.2.1 ≤ x + 29 + 6 + 5 ∧ x + 29 + 6 + 5 < N := ⟨by omega, by omega⟩
  have hld610 : G.2.2.1 ≤ x + 29 + 6 + 10 ∧ x + 29 + 6 + 10 < N := ⟨by omega, by omega⟩
  have hld68 : G.2.2.1 ≤ x + 29 + 6 + 8 ∧ x + 29 + 6 + 8 < N := ⟨by omega, by omega⟩
  have hl1 := ltse.2.2.1
  have hl6 := ltrc.2.2.1
  have hl20 := ltsp.2.2.1
  have hl61 := ltrc.2.2.2.1.2.2.2.1
  have hl65 := ltrc.2.2.2.2.2.1.2.2.1
  have hl68 := ltrc.2.2.2.2.2.2.1.2.2.2.1
  have hl610 := ltrc.2.2.2.2.2.2.2.2.2.1
  have hld11 : G.2.2.1 ≤ x + 29 + 1 + 1 ∧ x + 29 + 1 + 1 < N := ⟨by omega, by omega⟩
  have hld12 : G.2.2.1 ≤ x + 29 + 1 + 2 ∧ x + 29 + 1 + 2 < N := ⟨by omega, by omega⟩
  have hld13 : G.2.2.1 ≤ x + 29 + 1 + 3 ∧ x + 29 + 1 + 3 < N := ⟨by omega, by omega⟩
  have hld652 : G.2.2.1 ≤ x + 29 + 6 + 5 + 2 ∧ x + 29 + 6 + 5 + 2 < N := ⟨by omega, by omega⟩
  have hld6102 : G.2.2.1 ≤ x + 29 + 6 + 10 + 2 ∧ x + 29 + 6 + 10 + 2 < N := ⟨by omega, by omega⟩
  have hl11 := ltse.2.2.2.1
  have hl12 := ltse.2.2.2.2.1
  have hl13 := ltse.2.2.2.2.2
  have hl652 := ltrc.2.2.2.2.2.1.2.2.2.2
  have hl6102 := ltrc.2.2.2.2.2.2.2.2.2.2.2
  have hE : zE M := hI.1.1
  have hk : mOK M := hE.1
  have hK2 := hk.1.1
  have hK12 := hk.1.2.1
  have hR3 := hk.1.2.2.1
  refine r_iload_n C (pc := 0) rfl rfl dX6_keep_0 ?_
  refine r_iconst C (pc := 1) (x := (nI 0)) (by decide) dX6_keep_1 ?_
  refine r_iconst C (pc := 2) (x := (nI 1)) (by decide) dX6_keep_2 ?_
  refine r_callS C (pc := 3) (st := []) (m_X6_isWithin l G sh v N (x := a) (lo := (nI 0)) (hi := (nI 1))) kyX6_isWithin q_270 rfl rfl (Nat.le_of_ble_eq_true rfl) ⟨Nat.le_of_ble_eq_true rfl, Nat.le_of_ble_eq_true rfl⟩ ⟨Nat.le_of_ble_eq_true rfl, Nat.le_of_ble_eq_true rfl⟩ dX6_keep_3 (fun r3 v3 hp3 => ?_)
  obtain ⟨rfl, ehp3⟩ := hp3
  refine VV.vq ehp3 ?_
  refine VV.eq (st2 := [.int (zb (decide ((nI 0) ≤ a ∧ a ≤ (nI 1))))]) rfl ?_
  refine n_ifb_ne C (pc := 6) (tgt := 11) dX6_keep_6 (by decide) (fun c_6 => ?_) (fun c_6 => ?_)
  · have hc1 := (of_decide_eq_true c_6)
    obtain ⟨y, hy1, hy2, rfl⟩ := inR (of_decide_eq_true c_6) (by omega) (by omega)
    have ghz := himg y (by omega)
    have ghs := ghz.2.2.1
    have ghd : G.2.2.1 ≤ x + 284 + 28 * y ∧ x + 284 + 28 * y < N := ⟨by omega, by omega⟩
    refine r_aload_n C (pc := 11) rfl rfl dX6_keep_11 ?_
    refine r_get C (pc := 12) (ci := 6) (k := 3) (w := .ref (x + 58)) rfl (by decide) inX6 (by decide) q_234 (Or.inl hd0) hs0 (zl_ref _ _) dX6_keep_12 ?_
    refine r_iload_n C (pc := 15) rfl rfl dX6_keep_15 ?_
    refine r_aald C (pc := 16) (w := .ref (x + 284 + 28 * y)) (Or.inl hd58) hs58 (by decide) rfl (by omega) (by omega) (by rw [img_p (by omega)]; rfl) dX6_keep_16 ?_
    refine r_aload_n C (pc := 17) rfl rfl dX6_keep_17 ?_
    refine r_get C (pc := 18) (ci := 6) (k := 0) (w := .ref (x + 1)) rfl (by decide) inX6 (by decide) q_231 (Or.inl hd0) hs0 (zl_ref _ _) dX6_keep_18 ?_
    refine r_callV C (pc := 21) (st := []) (m_X5_copyFrom l G sh v N (t := x + 284 + 28 * y) (o := x + 1) ghz hnow hv (by omega)) kyX5_copyFrom q_281 rfl (Or.inl ghd) ghs (by decide) rfl rfl rfl (Nat.le_of_ble_eq_true rfl) ⟨Nat.le_of_ble_eq_true rfl, Nat.le_of_ble_eq_true rfl⟩ ⟨Nat.le_of_ble_eq_true rfl, Nat.le_of_ble_eq_true rfl⟩ dX6_keep_21 (fun r21 v21 hp21 => ?_)
    obtain ⟨rfl, g4, g5⟩ := hp21
    refine VV.eq (st2 := []) rfl ?_
    refine r_aload_n C (pc := 24) rfl rfl dX6_keep_24 ?_
    refine r_get C (pc := 25) (ci := 6) (k := 4) (w := .ref (x + 59)) rfl (by decide) inX6 (by decide) q_235 (Or.inl hd0) hs0 (zl_ref _ _) dX6_keep_25 ?_
    refine r_iload_n C (pc := 28) rfl rfl dX6_keep_28 ?_
    refine r_iconst C (pc := 29) (x := (nI 1)) (by decide) dX6_keep_29 ?_
    refine r_zast C (pc := 30) hd59 hs59 (by omega) (by omega) rfl dX6_keep_30 ?_
    refine VV.gn (fun w30 ew30 => ?_)
    refine r_aload_n C (pc := 31) rfl rfl dX6_keep_31 ?_
    refine r_get C (pc := 32) (ci := 6) (k := 0) (w := .ref (x + 1)) rfl (by decide) inX6 (by decide) q_231 (Or.inl hd0) hs0 (zl_ref _ _) dX6_keep_32 ?_
    refine r_getN C (pc := 35) (ci := 5) (k := 3) (w := .int (nI (M.1 2))) rfl (by decide) inX5 (by decide) q_206 (Or.inl hnd0) hn0 (zl_i (by rw [ew30, z2_addr (by omega), g5 _ (by omega)]; exact hv.1)) dX6_keep_35 ?_
    exact r_iret C (pc := 38) rfl (rfl) dX6_keep_38 ⟨rfl, (by
    have ho : oKeep (nI y) (M, h) = (nI (M.1 2), (M, h.1, h.2.1, (fun i => if i = y then M else h.2.2.1 i), (fun i => if i = y then true else h.2.2.2 i))) := (if_pos hc1).trans (by rw [nn_I (by omega)])
    rw [ho]
    have o : ∀ b, b ≠ x + 59 → (b < x + 284 + 28 * y ∨ x + 284 + 28 * y + 28 ≤ b) → w30 b = v b := fun b h1 h2 => by rw [ew30, z2_addr h1, g5 b h2]
    have hq8 := hpq.1
    refine ⟨q, hX, fun _ _ => rfl, rfl, zt_all hv (fun b h1 h2 => o b (by omega) (by omega)), ⟨by rw [o x (by omega) (by omega)]; exact hh.1, hh.2.1, fun i hi => zt_all (hh.2.2.1 i hi) (fun b h1 h2 => o b (by have := hq8 i (by have := hh.2.1; have hi2 : i < h.1 := hi; omega); omega) (by have := hq8 i (by have := hh.2.1; have hi2 : i < h.1 := hi; omega); omega)), fun i hi => ?_, fun i hi hf => ?_⟩, fun b hb => o b (by omega) (by omega)⟩
    · show w30 (x + 59) i = zb (if i = y then true else h.2.2.2 i)
      by_cases hiy : i = y
      · subst hiy; rw [ew30, z2_self, if_pos rfl]; rfl
      · rw [ew30, z2_ne (by omega), if_neg hiy, g5 _ (by omega)]; exact hh.2.2.2.1 i hi
    · show zt w30 _ (if i = y then M else h.2.2.1 i)
      by_cases hiy : i = y
      · subst hiy; rw [if_pos rfl, ew30]; exact zt_all g4 (fun b h1 h2 => z2_addr (by omega))
      · rw [if_neg hiy]
        have hf2 : (if i = y then true else h.2.2.2 i) = true := hf
        rw [if_neg hiy] at hf2
        exact zt_all (hh.2.2.2.2 i hi hf2) (fun b h1 h2 => o b (by omega) (by omega)))⟩
  · refine r_iconst C (pc := 9) (x := (-1)) (by decide) dX6_keep_9 ?_
    exact r_iret C (pc := 10) rfl (rfl) dX6_keep_10 ⟨rfl, (by have ho : oKeep a (M, h) = (-1, (M, h)) := if_neg (fun z => (of_decide_eq_false c_6) z); rw [ho]; exact ⟨q, hX, fun _ _ => rfl, rfl, hv, hh, zfr.rf⟩)⟩
set_option maxRecDepth 100000 in
set_option maxHeartbeats 4000000 in
theorem m_X6_back (l : Launch) (G : zG) (sh : zH) (v : zV) (N : Nat) {x : Nat} {q : Nat → Nat} {M : zMS} {h : zHs} {T : Nat} {a : Int32} (hX : zXR G sh N x q) (hv : zt v (x + 1) M) (hh : zxh v x q h) (hI : zI T (M, h)) (hT : T + 1000 < 2 ^ 30) : zM l G yX6_back cX6_back 2 (some .int) 6 0 0 [.ref x, .int a] sh v N (fun r sh1 v1 N1 => N = N1 ∧ (∃ q1, zXR G sh1 N x q1 ∧ (∀ b, b ≠ x + 57 → sh1 b = sh b) ∧ r = some (.int (oBack a (M, h)).1) ∧ zt v1 (x + 1) (oBack a (M, h)).2.1 ∧ zxh v1 x q1 (oBack a (M, h)).2.2 ∧ zfr v v1 x 340)) := by
  refine zM.of (by decide) rfl (Nat.le_of_ble_eq_true rfl) ?_
  intro p e s m args below meth c C
  obtain ⟨xB, xN, hs0, hs57, hs58, hs59, hnow, htri, hhis, himg, hpq⟩ := id hX
  have hd0 : G.2.2.1 ≤ x ∧ x < N := ⟨xB, by omega⟩
  have hd57 : G.2.2.1 ≤ x + 57 ∧ x + 57 < N := ⟨by omega, by omega⟩
  have hd58 : G.2.2.1 ≤ x + 58 ∧ x + 58 < N := ⟨by omega, by omega⟩
  have hd59 : G.2.2.1 ≤ x + 59 ∧ x + 59 < N := ⟨by omega, by omega⟩
  obtain ⟨ntB, ntN, hn0, ntse, hn5, ntrc, hn19, ntsp, ntst⟩ := id hnow
  have hnd0 : G.2.2.1 ≤ x + 1 ∧ x + 1 < N := ⟨by omega, by omega⟩
  have hnd1 : G.2.2.1 ≤ x + 1 + 1 ∧ x + 1 + 1 < N := ⟨by omega, by omega⟩
  have hnd5 : G.2.2.1 ≤ x + 1 + 5 ∧ x + 1 + 5 < N := ⟨by omega, by omega⟩
  have hnd6 : G.2.2.1 ≤ x + 1 + 6 ∧ x + 1 + 6 < N := ⟨by omega, by omega⟩
  have hnd19 : G.2.2.1 ≤ x + 1 + 19 ∧ x + 1 + 19 < N := ⟨by omega, by omega⟩
  have hnd20 : G.2.2.1 ≤ x + 1 + 20 ∧ x + 1 + 20 < N := ⟨by omega, by omega⟩
  have hnd61 : G.2.2.1 ≤ x + 1 + 6 + 1 ∧ x + 1 + 6 + 1 < N := ⟨by omega, by omega⟩
  have hnd65 : G.2.2.1 ≤ x + 1 + 6 + 5 ∧ x + 1 + 6 + 5 < N := ⟨by omega, by omega⟩
  have hnd610 : G.2.2.1 ≤ x + 1 + 6 + 10 ∧ x + 1 + 6 + 10 < N := ⟨by omega, by omega⟩
  have hnd68 : G.2.2.1 ≤ x + 1 + 6 + 8 ∧ x + 1 + 6 + 8 < N := ⟨by omega, by omega⟩
  have hn1 := ntse.2.2.1
  have hn6 := ntrc.2.2.1
  have hn20 := ntsp.2.2.1
  have hn61 := ntrc.2.2.2.1.2.2.2.1
  have hn65 := ntrc.2.2.2.2.2.1.2.2.1
  have hn68 := ntrc.2.2.2.2.2.2.1.2.2.2.1
  have hn610 := ntrc.2.2.2.2.2.2.2.2.2.1
  have hnd11 : G.2.2.1 ≤ x + 1 + 1 + 1 ∧ x + 1 + 1 + 1 < N := ⟨by omega, by omega⟩
  have hnd12 : G.2.2.1 ≤ x + 1 + 1 + 2 ∧ x + 1 + 1 + 2 < N := ⟨by omega, by omega⟩
  have hnd13 : G.2.2.1 ≤ x + 1 + 1 + 3 ∧ x + 1 + 1 + 3 < N := ⟨by omega, by omega⟩
  have hnd652 : G.2.2.1 ≤ x + 1 + 6 + 5 + 2 ∧ x + 1 + 6 + 5 + 2 < N := ⟨by omega, by omega⟩
  have hnd6102 : G.2.2.1 ≤ x + 1 + 6 + 10 + 2 ∧ x + 1 + 6 + 10 + 2 < N := ⟨by omega, by omega⟩
  have hn11 := ntse.2.2.2.1
  have hn12 := ntse.2.2.2.2.1
  have hn13 := ntse.2.2.2.2.2
  have hn652 := ntrc.2.2.2.2.2.1.2.2.2.2
  have hn6102 := ntrc.2.2.2.2.2.2.2.2.2.2.2
  obtain ⟨ltB, ltN, hl0, ltse, hl5, ltrc, hl19, ltsp, ltst⟩ := id htri
  have hld0 : G.2.2.1 ≤ x + 29 ∧ x + 29 < N := ⟨by omega, by omega⟩
  have hld1 : G.2.2.1 ≤ x + 29 + 1 ∧ x + 29 + 1 < N := ⟨by omega, by omega⟩
  have hld5 : G.2.2.1 ≤ x + 29 + 5 ∧ x + 29 + 5 < N := ⟨by omega, by omega⟩
  have hld6 : G.2.2.1 ≤ x + 29 + 6 ∧ x + 29 + 6 < N := ⟨by omega, by omega⟩
  have hld19 : G.2.2.1 ≤ x + 29 + 19 ∧ x + 29 + 19 < N := ⟨by omega, by omega⟩
  have hld20 : G.2.2.1 ≤ x + 29 + 20 ∧ x + 29 + 20 < N := ⟨by omega, by omega⟩
  have hld61 : G.2.2.1 ≤ x + 29 + 6 + 1 ∧ x + 29 + 6 + 1 < N := ⟨by omega, by omega⟩
  have hld65 : G.2.2.1 ≤ x + 29 + 6 + 5 ∧ x + 29 + 6 + 5 < N := ⟨by omega, by omega⟩
  have hld610 : G.2.2.1 ≤ x + 29 + 6 + 10 ∧ x + 29 + 6 + 10 < N := ⟨by omega, by omega⟩
  have hld68 : G.2.2.1 ≤ x + 29 + 6 + 8 ∧ x + 29 + 6 + 8 < N := ⟨by omega, by omega⟩
  have hl1 := ltse.2.2.1
  have hl6 := ltrc.2.2.1
  have hl20 := ltsp.2.2.1
  have hl61 := ltrc.2.2.2.1.2.2.2.1
  have hl65 := ltrc.2.2.2.2.2.1.2.2.1
  have hl68 := ltrc.2.2.2.2.2.2.1.2.2.2.1
  have hl610 := ltrc.2.2.2.2.2.2.2.2.2.1
  have hld11 : G.2.2.1 ≤ x + 29 + 1 + 1 ∧ x + 29 + 1 + 1 < N := ⟨by omega, by omega⟩
  have hld12 : G.2.2.1 ≤ x + 29 + 1 + 2 ∧ x + 29 + 1 + 2 < N := ⟨by omega, by omega⟩
  have hld13 : G.2.2.1 ≤ x + 29 + 1 + 3 ∧ x + 29 + 1 + 3 < N := ⟨by omega, by omega⟩
  have hld652 : G.2.2.1 ≤ x + 29 + 6 + 5 + 2 ∧ x + 29 + 6 + 5 + 2 < N := ⟨by omega, by omega⟩
  have hld6102 : G.2.2.1 ≤ x + 29 + 6 + 10 + 2 ∧ x + 29 + 6 + 10 + 2 < N := ⟨by omega, by omega⟩
  have hl11 := ltse.2.2.2.1
  have hl12 := ltse.2.2.2.2.1
  have hl13 := ltse.2.2.2.2.2
  have hl652 := ltrc.2.2.2.2.2.1.2.2.2.2
  have hl6102 := ltrc.2.2.2.2.2.2.2.2.2.2.2
  have hE : zE M := hI.1.1
  have hk : mOK M := hE.1
  have hK2 := hk.1.1
  have hK12 := hk.1.2.1
  have hR3 := hk.1.2.2.1
  refine r_iload_n C (pc := 0) rfl rfl dX6_back_0 ?_
  refine r_iconst C (pc := 1) (x := (nI 0)) (by decide) dX6_back_1 ?_
  refine r_iconst C (pc := 2) (x := (nI 1)) (by decide) dX6_back_2 ?_
  refine r_callS C (pc := 3) (st := []) (m_X6_isWithin l G sh v N (x := a) (lo := (nI 0)) (hi := (nI 1))) kyX6_isWithin q_270 rfl rfl (Nat.le_of_ble_eq_true rfl) ⟨Nat.le_of_ble_eq_true rfl, Nat.le_of_ble_eq_true rfl⟩ ⟨Nat.le_of_ble_eq_true rfl, Nat.le_of_ble_eq_true rfl⟩ dX6_back_3 (fun r3 v3 hp3 => ?_)
  obtain ⟨rfl, ehp3⟩ := hp3
  refine VV.vq ehp3 ?_
  refine VV.eq (st2 := [.int (zb (decide ((nI 0) ≤ a ∧ a ≤ (nI 1))))]) rfl ?_
  refine n_ifb_ne C (pc := 6) (tgt := 11) dX6_back_6 (by decide) (fun c_6 => ?_) (fun c_6 => ?_)
  · have hc1 := (of_decide_eq_true c_6)
    obtain ⟨y, hy1, hy2, rfl⟩ := inR (of_decide_eq_true c_6) (by omega) (by omega)
    have hy22 : y < 2 := by omega
    refine r_aload_n C (pc := 11) rfl rfl dX6_back_11 ?_
    refine r_get C (pc := 12) (ci := 6) (k := 4) (w := .ref (x + 59)) rfl (by decide) inX6 (by decide) q_235 (Or.inl hd0) hs0 (zl_ref _ _) dX6_back_12 ?_
    refine r_iload_n C (pc := 15) rfl rfl dX6_back_15 ?_
    refine r_zald C (pc := 16) (x := (zb (h.2.2.2 y))) (Or.inl hd59) hs59 (by omega) (by omega) (hh.2.2.2.1 y (by omega)) dX6_back_16 ?_
    refine n_ifb_ne C (pc := 17) (tgt := 23) dX6_back_17 (by decide) (fun c_17 => ?_) (fun c_17 => ?_)
    · have hf := c_17
      have ho : oBack (nI y) (M, h) = (nI ((h.2.2.1 y).1 2), (h.2.2.1 y, remH M h)) := ((if_pos hc1).trans (by rw [nn_I (by omega)])).trans (if_pos hf)
      refine r_aload_n C (pc := 23) rfl rfl dX6_back_23 ?_
      refine r_callVM C (pc := 24) (st := []) (m_X6_remember l G sh v N hX hv hh) kyX6_remember q_273 rfl (Or.inl hd0) hs0 (by decide) rfl rfl rfl (Nat.le_of_ble_eq_true rfl) ⟨Nat.le_of_ble_eq_true rfl, Nat.le_of_ble_eq_true rfl⟩ ⟨Nat.le_of_ble_eq_true rfl, Nat.le_of_ble_eq_true rfl⟩ dX6_back_24 (fun r24 sh v24 N' hp24 => ?_)
      obtain ⟨hN, rfl, q1, X1, X2, X3, X4, X5⟩ := hp24
      subst hN
      obtain ⟨xB, xN, hs0, hs57, hs58, hs59, hnow, htri, hhis, himg, hpq⟩ := id X1
      have hd0 : G.2.2.1 ≤ x ∧ x < N := ⟨xB, by omega⟩
      have hd57 : G.2.2.1 ≤ x + 57 ∧ x + 57 < N := ⟨by omega, by omega⟩
      have hd58 : G.2.2.1 ≤ x + 58 ∧ x + 58 < N := ⟨by omega, by omega⟩
      have hd59 : G.2.2.1 ≤ x + 59 ∧ x + 59 < N := ⟨by omega, by omega⟩
      obtain ⟨ntB, ntN, hn0, ntse, hn5, ntrc, hn19, ntsp, ntst⟩ := id hnow
      have hnd0 : G.2.2.1 ≤ x + 1 ∧ x + 1 < N := ⟨by omega, by omega⟩
      have hnd1 : G.2.2.1 ≤ x + 1 + 1 ∧ x + 1 + 1 < N := ⟨by omega, by omega⟩
      have hnd5 : G.2.2.1 ≤ x + 1 + 5 ∧ x + 1 + 5 < N := ⟨by omega, by omega⟩
      have hnd6 : G.2.2.1 ≤ x + 1 + 6 ∧ x + 1 + 6 < N := ⟨by omega, by omega⟩
      have hnd19 : G.2.2.1 ≤ x + 1 + 19 ∧ x + 1 + 19 < N := ⟨by omega, by omega⟩
      have hnd20 : G.2.2.1 ≤ x + 1 + 20 ∧ x + 1 + 20 < N := ⟨by omega, by omega⟩
      have hnd61 : G.2.2.1 ≤ x + 1 + 6 + 1 ∧ x + 1 + 6 + 1 < N := ⟨by omega, by omega⟩
      have hnd65 : G.2.2.1 ≤ x + 1 + 6 + 5 ∧ x + 1 + 6 + 5 < N := ⟨by omega, by omega⟩
      have hnd610 : G.2.2.1 ≤ x + 1 + 6 + 10 ∧ x + 1 + 6 + 10 < N := ⟨by omega, by omega⟩
      have hnd68 : G.2.2.1 ≤ x + 1 + 6 + 8 ∧ x + 1 + 6 + 8 < N := ⟨by omega, by omega⟩
      have hn1 := ntse.2.2.1
      have hn6 := ntrc.2.2.1
      have hn20 := ntsp.2.2.1
      have hn61 := ntrc.2.2.2.1.2.2.2.1
      have hn65 := ntrc.2.2.2.2.2.1.2.2.1
      have hn68 := ntrc.2.2.2.2.2.2.1.2.2.2.1
      have hn610 := ntrc.2.2.2.2.2.2.2.2.2.1
      have hnd11 : G.2.2.1 ≤ x + 1 + 1 + 1 ∧ x + 1 + 1 + 1 < N := ⟨by omega, by omega⟩
      have hnd12 : G.2.2.1 ≤ x + 1 + 1 + 2 ∧ x + 1 + 1 + 2 < N := ⟨by omega, by omega⟩
      have hnd13 : G.2.2.1 ≤ x + 1 + 1 + 3 ∧ x + 1 + 1 + 3 < N := ⟨by omega, by omega⟩
      have hnd652 : G.2.2.1 ≤ x + 1 + 6 + 5 + 2 ∧ x + 1 + 6 + 5 + 2 < N := ⟨by omega, by omega⟩
      have hnd6102 : G.2.2.1 ≤ x + 1 + 6 + 10 + 2 ∧ x + 1 + 6 + 10 + 2 < N := ⟨by omega, by omega⟩
      have hn11 := ntse.2.2.2.1
      have hn12 := ntse.2.2.2.2.1
      have hn13 := ntse.2.2.2.2.2
      have hn652 := ntrc.2.2.2.2.2.1.2.2.2.2
      have hn6102 := ntrc.2.2.2.2.2.2.2.2.2.2.2
      obtain ⟨ltB, ltN, hl0, ltse, hl5, ltrc, hl19, ltsp, ltst⟩ := id htri
      have hld0 : G.2.2.1 ≤ x + 29 ∧ x + 29 < N := ⟨by omega, by omega⟩
      have hld1 : G.2.2.1 ≤ x + 29 + 1 ∧ x + 29 + 1 < N := ⟨by omega, by omega⟩
      have hld5 : G.2.2.1 ≤ x + 29 + 5 ∧ x + 29 + 5 < N := ⟨by omega, by omega⟩
      have hld6 : G.2.2.1 ≤ x + 29 + 6 ∧ x + 29 + 6 < N := ⟨by omega, by omega⟩
      have hld19 : G.2.2.1 ≤ x + 29 + 19 ∧ x + 29 + 19 < N := ⟨by omega, by omega⟩
      have hld20 : G.2.2.1 ≤ x + 29 + 20 ∧ x + 29 + 20 < N := ⟨by omega, by omega⟩
      have hld61 : G.2.2.1 ≤ x + 29 + 6 + 1 ∧ x + 29 + 6 + 1 < N := ⟨by omega, by omega⟩
      have hld65 : G.2.2.1 ≤ x + 29 + 6 + 5 ∧ x + 29 + 6 + 5 < N := ⟨by omega, by omega⟩
      have hld610 : G.2.2.1 ≤ x + 29 + 6 + 10 ∧ x + 29 + 6 + 10 < N := ⟨by omega, by omega⟩
      have hld68 : G.2.2.1 ≤ x + 29 + 6 + 8 ∧ x + 29 + 6 + 8 < N := ⟨by omega, by omega⟩
      have hl1 := ltse.2.2.1
      have hl6 := ltrc.2.2.1
      have hl20 := ltsp.2.2.1
      have hl61 := ltrc.2.2.2.1.2.2.2.1
      have hl65 := ltrc.2.2.2.2.2.1.2.2.1
      have hl68 := ltrc.2.2.2.2.2.2.1.2.2.2.1
      have hl610 := ltrc.2.2.2.2.2.2.2.2.2.1
      have hld11 : G.2.2.1 ≤ x + 29 + 1 + 1 ∧ x + 29 + 1 + 1 < N := ⟨by omega, by omega⟩
      have hld12 : G.2.2.1 ≤ x + 29 + 1 + 2 ∧ x + 29 + 1 + 2 < N := ⟨by omega, by omega⟩
      have hld13 : G.2.2.1 ≤ x + 29 + 1 + 3 ∧ x + 29 + 1 + 3 < N := ⟨by omega, by omega⟩
      have hld652 : G.2.2.1 ≤ x + 29 + 6 + 5 + 2 ∧ x + 29 + 6 + 5 + 2 < N := ⟨by omega, by omega⟩
      have hld6102 : G.2.2.1 ≤ x + 29 + 6 + 10 + 2 ∧ x + 29 + 6 + 10 + 2 < N := ⟨by omega, by omega⟩
      have hl11 := ltse.2.2.2.1
      have hl12 := ltse.2.2.2.2.1
      have hl13 := ltse.2.2.2.2.2
      have hl652 := ltrc.2.2.2.2.2.1.2.2.2.2
      have hl6102 := ltrc.2.2.2.2.2.2.2.2.2.2.2
      have ghz := himg y (by omega)
      have ghs := ghz.2.2.1
      have ghd : G.2.2.1 ≤ x + 284 + 28 * y ∧ x + 284 + 28 * y < N := ⟨by omega, by omega⟩
      have hz := X4.2.2.2.2 y hy22
      rw [remH_im] at hz
      have g1im := hz hf
      refine VV.c0 ?_
      refine VV.eq (st2 := []) rfl ?_
      refine r_aload_n C (pc := 27) rfl rfl dX6_back_27 ?_
      refine r_get C (pc := 28) (ci := 6) (k := 0) (w := .ref (x + 1)) rfl (by decide) inX6 (by decide) q_231 (Or.inl hd0) hs0 (zl_ref _ _) dX6_back_28 ?_
      refine r_aload_n C (pc := 31) rfl rfl dX6_back_31 ?_
      refine r_get C (pc := 32) (ci := 6) (k := 3) (w := .ref (x + 58)) rfl (by decide) inX6 (by decide) q_234 (Or.inl hd0) hs0 (zl_ref _ _) dX6_back_32 ?_
      refine r_iload_n C (pc := 35) rfl rfl dX6_back_35 ?_
      refine r_aald C (pc := 36) (w := .ref (x + 284 + 28 * y)) (Or.inl hd58) hs58 (by decide) rfl (by omega) (by omega) (by rw [img_p (by omega)]; rfl) dX6_back_36 ?_
      refine r_callV C (pc := 37) (st := []) (m_X5_copyFrom l G sh v24 N (t := x + 1) (o := x + 284 + 28 * y) hnow ghz g1im (by omega)) kyX5_copyFrom q_281 rfl (Or.inl hnd0) hn0 (by decide) rfl rfl rfl (Nat.le_of_ble_eq_true rfl) ⟨Nat.le_of_ble_eq_true rfl, Nat.le_of_ble_eq_true rfl⟩ ⟨Nat.le_of_ble_eq_true rfl, Nat.le_of_ble_eq_true rfl⟩ dX6_back_37 (fun r37 v37 hp37 => ?_)
      obtain ⟨rfl, g4, g5⟩ := hp37
      refine VV.eq (st2 := []) rfl ?_
      refine r_aload_n C (pc := 40) rfl rfl dX6_back_40 ?_
      refine r_get C (pc := 41) (ci := 6) (k := 0) (w := .ref (x + 1)) rfl (by decide) inX6 (by decide) q_231 (Or.inl hd0) hs0 (zl_ref _ _) dX6_back_41 ?_
      refine r_getN C (pc := 44) (ci := 5) (k := 3) (w := .int (nI ((h.2.2.1 y).1 2))) rfl (by decide) inX5 (by decide) q_206 (Or.inl hnd0) hn0 (zl_i (g4.1)) dX6_back_44 ?_
      exact r_iret C (pc := 47) rfl (rfl) dX6_back_47 ⟨rfl, (by rw [ho]; exact ⟨q1, X1, X2, rfl, g4, zxh_now X4 hpq g5, X5.tr (g5.wide (by omega) (by omega))⟩)⟩
    · refine r_bipush C (pc := 20) (x := (-2)) (by decide) dX6_back_20 ?_
      exact r_iret C (pc := 22) rfl (rfl) dX6_back_22 ⟨rfl, (by have ho : oBack (nI y) (M, h) = (-2, (M, h)) := ((if_pos hc1).trans (by rw [nn_I (by omega)])).trans (if_neg (fun z => by dsimp only at z; rw [c_17] at z; cases z)); rw [ho]; exact ⟨q, hX, fun _ _ => rfl, rfl, hv, hh, zfr.rf⟩)⟩
  · refine r_iconst C (pc := 9) (x := (-1)) (by decide) dX6_back_9 ?_
    exact r_iret C (pc := 10) rfl (rfl) dX6_back_10 ⟨rfl, (by have ho : oBack a (M, h) = (-1, (M, h)) := if_neg (fun z => (of_decide_eq_false c_6) z); rw [ho]; exact ⟨q, hX, fun _ _ => rfl, rfl, hv, hh, zfr.rf⟩)⟩
