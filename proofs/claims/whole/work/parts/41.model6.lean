theorem a0 {a : Int32} (h : a = 0) : a = nI 0 := h.trans nI_0.symm
theorem nI_m1 {K : Nat} (h : 1 ≤ K) : nI K - nI 1 = nI (K - 1) := pk_sub h
theorem zwf_v {f g : Nat → Int32} {M : zMS} {b x : Nat} (h : zwf f M) (hb : b < 12) (hn : ∀ b, M.2.2.2 b = none) (e : g (17 + b) = nI x) (k : ∀ j, j ≠ 17 + b → g j = f j) : zwf g (upc M.1 (17 + b) x, M.2) := by
  obtain ⟨h1, h2, h3, h4, h5⟩ := h
  refine ⟨fun j hj => ?_, fun r hr => (h2 r hr).kept (fun j h1 h2 => k j (by have := lb_top r hr; omega)), fun c hc => ?_, fun c hc => by rw [k _ (by omega)]; exact h4 c hc, fun c hc => by rw [k _ (by omega)]; exact h5 c hc⟩
  · show g j = nI (upc M.1 (17 + b) x j)
    by_cases hji : j = 17 + b
    · subst hji; rw [upc_s]; exact e
    · rw [upc_n hji, k j hji]; exact h1 j hj
  · show g (86 + c) = knI (M.2.2.2 c) _
    rw [k _ (by omega), h3 c hc, hn c]
    rfl
set_option maxRecDepth 100000 in
set_option maxHeartbeats 4000000 in
theorem m_X7_begin (l : Launch) (G : zG) (sh : zH) (v : zV) (N : Nat) {m : Nat} {M : zMS} {h : zHs} {T : Nat} {a b : Int32} (hp : zMD G sh N m) (hv : zwf (v (m + 1)) M) (hh : zmh v m h) (hI : zI T (M, h)) (hT : T + 1000 < 2 ^ 30) : zm l G yX7_begin cX7_begin 4 (some .int) 1 [.ref m, .int a, .int b] sh v N (fun r v1 => r = some (.int (oBegin a b (M, h)).1) ∧ zwf (v1 (m + 1)) (oBegin a b (M, h)).2.1 ∧ zmh v1 m (oBegin a b (M, h)).2.2 ∧ zfr v v1 m 9) := by
  refine zM.of (by decide) rfl (Nat.le_of_ble_eq_true rfl) ?_
  intro p e s mi args below meth c C
  obtain ⟨hB, hN, hs0, hs1, hs2, hs3, hs4, hs5, hs6, hs7, hs8⟩ := id hp
  have hd0 : G.2.2.1 ≤ m ∧ m < N := ⟨hB, by omega⟩
  have hd1 : G.2.2.1 ≤ m + 1 ∧ m + 1 < N := ⟨by omega, by omega⟩
  have hd2 : G.2.2.1 ≤ m + 2 ∧ m + 2 < N := ⟨by omega, by omega⟩
  have hd3 : G.2.2.1 ≤ m + 3 ∧ m + 3 < N := ⟨by omega, by omega⟩
  have hd4 : G.2.2.1 ≤ m + 4 ∧ m + 4 < N := ⟨by omega, by omega⟩
  have hd5 : G.2.2.1 ≤ m + 5 ∧ m + 5 < N := ⟨by omega, by omega⟩
  have hd6 : G.2.2.1 ≤ m + 6 ∧ m + 6 < N := ⟨by omega, by omega⟩
  have hd7 : G.2.2.1 ≤ m + 7 ∧ m + 7 < N := ⟨by omega, by omega⟩
  have hd8 : G.2.2.1 ≤ m + 8 ∧ m + 8 < N := ⟨by omega, by omega⟩
  have hE : zE M := hI.1.1
  have hk : mOK M := hE.1
  have hK2 := hk.1.1
  have hK12 := hk.1.2.1
  have hR3 := hk.1.2.2.1
  refine r_iload_n C (pc := 0) rfl rfl dX7_begin_0 ?_
  refine r_iconst C (pc := 1) (x := (nI 2)) (by decide) dX7_begin_1 ?_
  refine r_bipush C (pc := 2) (x := (nI 12)) (by decide) dX7_begin_2 ?_
  refine r_callS C (pc := 4) (st := []) (m_X7_isIn l G sh v N (x := a) (lo := (nI 2)) (hi := (nI 12))) kyX7_isIn q_701 rfl rfl (Nat.le_of_ble_eq_true rfl) ⟨Nat.le_of_ble_eq_true rfl, Nat.le_of_ble_eq_true rfl⟩ ⟨Nat.le_of_ble_eq_true rfl, Nat.le_of_ble_eq_true rfl⟩ dX7_begin_4 (fun r4 v4 hp4 => ?_)
  obtain ⟨rfl, ehp4⟩ := hp4
  refine VV.vq ehp4 ?_
  refine VV.eq (st2 := [.int (zb (decide ((nI 2) ≤ a ∧ a ≤ (nI 12))))]) rfl ?_
  refine n_ifb_eq C (pc := 7) (tgt := 19) dX7_begin_7 (by decide) (fun c_7 => ?_) (fun c_7 => ?_)
  · refine r_iconst C (pc := 19) (x := (-1)) (by decide) dX7_begin_19 ?_
    exact r_iret C (pc := 20) rfl (rfl) dX7_begin_20 ⟨rfl, rfl, (by have ho : oBegin a b (M, h) = (-1, (M, h)) := if_neg (fun z => (of_decide_eq_false c_7) z.1); rw [ho]; exact ⟨rfl, hv, hh, zfr.rf⟩)⟩
  · refine r_iload_n C (pc := 10) rfl rfl dX7_begin_10 ?_
    refine r_iconst C (pc := 11) (x := (nI 0)) (by decide) dX7_begin_11 ?_
    refine r_iconst C (pc := 12) (x := (nI 3)) (by decide) dX7_begin_12 ?_
    refine r_callS C (pc := 13) (st := []) (m_X7_isIn l G sh v N (x := b) (lo := (nI 0)) (hi := (nI 3))) kyX7_isIn q_701 rfl rfl (Nat.le_of_ble_eq_true rfl) ⟨Nat.le_of_ble_eq_true rfl, Nat.le_of_ble_eq_true rfl⟩ ⟨Nat.le_of_ble_eq_true rfl, Nat.le_of_ble_eq_true rfl⟩ dX7_begin_13 (fun r13 v13 hp13 => ?_)
    obtain ⟨rfl, ehp13⟩ := hp13
    refine VV.vq ehp13 ?_
    refine VV.eq (st2 := [.int (zb (decide ((nI 0) ≤ b ∧ b ≤ (nI 3))))]) rfl ?_
    refine n_ifb_ne C (pc := 16) (tgt := 21) dX7_begin_16 (by decide) (fun c_16 => ?_) (fun c_16 => ?_)
    · have hc1 := (of_decide_eq_true c_7)
      have hc2 := (of_decide_eq_true c_16)
      obtain ⟨K, hK1, hK2, rfl⟩ := inR (of_decide_eq_true c_7) (by omega) (by omega)
      obtain ⟨R, hR1, hR2, rfl⟩ := inR (of_decide_eq_true c_16) (by omega) (by omega)
      refine r_aload_n C (pc := 21) rfl rfl dX7_begin_21 ?_
      refine r_callV C (pc := 22) (st := []) (m_X7_remember l G sh v N hp hv hh) kyX7_remember q_704 rfl (Or.inl hd0) hs0 (by decide) rfl rfl rfl (Nat.le_of_ble_eq_true rfl) ⟨Nat.le_of_ble_eq_true rfl, Nat.le_of_ble_eq_true rfl⟩ ⟨Nat.le_of_ble_eq_true rfl, Nat.le_of_ble_eq_true rfl⟩ dX7_begin_22 (fun r22 v22 hp22 => ?_)
      obtain ⟨rfl, g1, g2, g3⟩ := hp22
      refine VV.eq (st2 := []) rfl ?_
      refine r_aload_n C (pc := 25) rfl rfl dX7_begin_25 ?_
      refine r_get C (pc := 26) (ci := 7) (k := 0) (w := .ref (m + 1)) rfl (by decide) inX7 (by decide) q_654 (Or.inl hd0) hs0 (zl_ref _ _) dX7_begin_26 ?_
      refine r_iconst C (pc := 29) (x := (nI 2)) (by decide) dX7_begin_29 ?_
      refine r_iald C (pc := 30) (x := (nI (M.1 2))) (Or.inl hd1) hs1 (by omega) (by omega) (by rw [g2]; exact hv.1 2 (by decide)) dX7_begin_30 ?_
      refine r_istore_n C (pc := 31) (lv2 := [some (.ref m), some (.int (nI K)), some (.int (nI R)), some (.int (nI (M.1 2)))]) rfl (Nat.le_of_ble_eq_true rfl) rfl rfl dX7_begin_31 ?_
      refine r_aload_n C (pc := 32) rfl rfl dX7_begin_32 ?_
      refine r_iload_n C (pc := 33) rfl rfl dX7_begin_33 ?_
      refine r_iload_n C (pc := 34) rfl rfl dX7_begin_34 ?_
      refine r_callV C (pc := 35) (st := []) (m_X7_lay l G sh v22 N (M := M) (K := K) (R := R) hp (by rw [g2]; exact hv) hR3 hR2) kyX7_lay q_650 rfl (Or.inl hd0) hs0 (by decide) rfl rfl rfl (Nat.le_of_ble_eq_true rfl) ⟨Nat.le_of_ble_eq_true rfl, Nat.le_of_ble_eq_true rfl⟩ ⟨Nat.le_of_ble_eq_true rfl, Nat.le_of_ble_eq_true rfl⟩ dX7_begin_35 (fun r35 v35 hp35 => ?_)
      obtain ⟨rfl, g4, g5⟩ := hp35
      refine VV.eq (st2 := []) rfl ?_
      refine r_iload_n C (pc := 38) rfl rfl dX7_begin_38 ?_
      exact r_iret C (pc := 39) rfl (rfl) dX7_begin_39 ⟨rfl, rfl, (by have ho : oBegin (nI K) (nI R) (M, h) = (nI (M.1 2), (layM M K R, remH M h)) := (if_pos ⟨hc1, hc2⟩).trans (by rw [nn_I (by omega), nn_I (by omega)]); rw [ho]; exact ⟨rfl, g4, zmh_T g1 g5.B.T, g3.tr g5.B.T.fr⟩)⟩
    · refine r_iconst C (pc := 19) (x := (-1)) (by decide) dX7_begin_19 ?_
      exact r_iret C (pc := 20) rfl (rfl) dX7_begin_20 ⟨rfl, rfl, (by have ho : oBegin a b (M, h) = (-1, (M, h)) := if_neg (fun z => (of_decide_eq_false c_16) z.2); rw [ho]; exact ⟨rfl, hv, hh, zfr.rf⟩)⟩
set_option maxRecDepth 100000 in
set_option maxHeartbeats 4000000 in
theorem m_X7_isBlock (l : Launch) (G : zG) (sh : zH) (v : zV) (N : Nat) {m : Nat} {M : zMS} {a : Int32} (hp : zMD G sh N m) (hv : zwf (v (m + 1)) M) (hK : 2 ≤ M.1 0) : zm l G yX7_isBlock cX7_isBlock 2 (some .boolean) 1 [.ref m, .int a] sh v N (fun r v1 => r = some (.int (zb (decide ((nI 0) ≤ a ∧ a ≤ (nI (M.1 0 - 1)))))) ∧ v1 = v) := by
  refine zM.of (by decide) rfl (Nat.le_of_ble_eq_true rfl) ?_
  intro p e s mi args below meth c C
  obtain ⟨hB, hN, hs0, hs1, hs2, hs3, hs4, hs5, hs6, hs7, hs8⟩ := id hp
  have hd0 : G.2.2.1 ≤ m ∧ m < N := ⟨hB, by omega⟩
  have hd1 : G.2.2.1 ≤ m + 1 ∧ m + 1 < N := ⟨by omega, by omega⟩
  have hd2 : G.2.2.1 ≤ m + 2 ∧ m + 2 < N := ⟨by omega, by omega⟩
  have hd3 : G.2.2.1 ≤ m + 3 ∧ m + 3 < N := ⟨by omega, by omega⟩
  have hd4 : G.2.2.1 ≤ m + 4 ∧ m + 4 < N := ⟨by omega, by omega⟩
  have hd5 : G.2.2.1 ≤ m + 5 ∧ m + 5 < N := ⟨by omega, by omega⟩
  have hd6 : G.2.2.1 ≤ m + 6 ∧ m + 6 < N := ⟨by omega, by omega⟩
  have hd7 : G.2.2.1 ≤ m + 7 ∧ m + 7 < N := ⟨by omega, by omega⟩
  have hd8 : G.2.2.1 ≤ m + 8 ∧ m + 8 < N := ⟨by omega, by omega⟩
  refine r_iload_n C (pc := 0) rfl rfl dX7_isBlock_0 ?_
  refine r_iconst C (pc := 1) (x := (nI 0)) (by decide) dX7_isBlock_1 ?_
  refine r_aload_n C (pc := 2) rfl rfl dX7_isBlock_2 ?_
  refine r_get C (pc := 3) (ci := 7) (k := 0) (w := .ref (m + 1)) rfl (by decide) inX7 (by decide) q_654 (Or.inl hd0) hs0 (zl_ref _ _) dX7_isBlock_3 ?_
  refine r_iconst C (pc := 6) (x := (nI 0)) (by decide) dX7_isBlock_6 ?_
  refine r_iald C (pc := 7) (x := (nI (M.1 0))) (Or.inl hd1) hs1 (by omega) (by omega) (hv.1 0 (by decide)) dX7_isBlock_7 ?_
  refine r_iconst C (pc := 8) (x := (nI 1)) (by decide) dX7_isBlock_8 ?_
  refine r_isub C (pc := 9) (z := (nI (M.1 0 - 1))) (pk_sub (by omega)) dX7_isBlock_9 ?_
  refine r_callS C (pc := 10) (st := []) (m_X7_isIn l G sh v N (x := a) (lo := (nI 0)) (hi := (nI (M.1 0 - 1)))) kyX7_isIn q_701 rfl rfl (Nat.le_of_ble_eq_true rfl) ⟨Nat.le_of_ble_eq_true rfl, Nat.le_of_ble_eq_true rfl⟩ ⟨Nat.le_of_ble_eq_true rfl, Nat.le_of_ble_eq_true rfl⟩ dX7_isBlock_10 (fun r10 v10 hp10 => ?_)
  obtain ⟨rfl, ehp10⟩ := hp10
  refine VV.vq ehp10 ?_
  refine VV.eq (st2 := [.int (zb (decide ((nI 0) ≤ a ∧ a ≤ (nI (M.1 0 - 1)))))]) rfl ?_
  exact r_iret C (pc := 13) rfl (zb_nar _) dX7_isBlock_13 ⟨rfl, rfl, rfl, rfl⟩
set_option maxRecDepth 100000 in
set_option maxHeartbeats 4000000 in
theorem m_X7_isSet (l : Launch) (G : zG) (sh : zH) (v : zV) (N : Nat) {m : Nat} {M : zMS} {a : Int32} (hp : zMD G sh N m) (hv : zwf (v (m + 1)) M) (hK : M.1 0 ≤ 12) : zm l G yX7_isSet cX7_isSet 2 (some .boolean) 1 [.ref m, .int a] sh v N (fun r v1 => r = some (.int (zb (decide ((nI 1) ≤ a ∧ a ≤ (nI (2 ^ M.1 0 - 1)))))) ∧ v1 = v) := by
  refine zM.of (by decide) rfl (Nat.le_of_ble_eq_true rfl) ?_
  intro p e s mi args below meth c C
  obtain ⟨hB, hN, hs0, hs1, hs2, hs3, hs4, hs5, hs6, hs7, hs8⟩ := id hp
  have hd0 : G.2.2.1 ≤ m ∧ m < N := ⟨hB, by omega⟩
  have hd1 : G.2.2.1 ≤ m + 1 ∧ m + 1 < N := ⟨by omega, by omega⟩
  have hd2 : G.2.2.1 ≤ m + 2 ∧ m + 2 < N := ⟨by omega, by omega⟩
  have hd3 : G.2.2.1 ≤ m + 3 ∧ m + 3 < N := ⟨by omega, by omega⟩
  have hd4 : G.2.2.1 ≤ m + 4 ∧ m + 4 < N := ⟨by omega, by omega⟩
  have hd5 : G.2.2.1 ≤ m + 5 ∧ m + 5 < N := ⟨by omega, by omega⟩
  have hd6 : G.2.2.1 ≤ m + 6 ∧ m + 6 < N := ⟨by omega, by omega⟩
  have hd7 : G.2.2.1 ≤ m + 7 ∧ m + 7 < N := ⟨by omega, by omega⟩
  have hd8 : G.2.2.1 ≤ m + 8 ∧ m + 8 < N := ⟨by omega, by omega⟩
  refine r_iload_n C (pc := 0) rfl rfl dX7_isSet_0 ?_
  refine r_iconst C (pc := 1) (x := (nI 1)) (by decide) dX7_isSet_1 ?_
  refine r_iconst C (pc := 2) (x := (nI 1)) (by decide) dX7_isSet_2 ?_
  refine r_aload_n C (pc := 3) rfl rfl dX7_isSet_3 ?_
  refine r_get C (pc := 4) (ci := 7) (k := 0) (w := .ref (m + 1)) rfl (by decide) inX7 (by decide) q_654 (Or.inl hd0) hs0 (zl_ref _ _) dX7_isSet_4 ?_
  refine r_iconst C (pc := 7) (x := (nI 0)) (by decide) dX7_isSet_7 ?_
  refine r_iald C (pc := 8) (x := (nI (M.1 0))) (Or.inl hd1) hs1 (by omega) (by omega) (hv.1 0 (by decide)) dX7_isSet_8 ?_
  refine r_ishl C (pc := 9) (z := (nI (2 ^ M.1 0))) (nI_shl1 (by omega)) dX7_isSet_9 ?_
  refine r_iconst C (pc := 10) (x := (nI 1)) (by decide) dX7_isSet_10 ?_
  refine r_isub C (pc := 11) (z := (nI (2 ^ M.1 0 - 1))) (pk_sub (Nat.two_pow_pos _)) dX7_isSet_11 ?_
  refine r_callS C (pc := 12) (st := []) (m_X7_isIn l G sh v N (x := a) (lo := (nI 1)) (hi := (nI (2 ^ M.1 0 - 1)))) kyX7_isIn q_701 rfl rfl (Nat.le_of_ble_eq_true rfl) ⟨Nat.le_of_ble_eq_true rfl, Nat.le_of_ble_eq_true rfl⟩ ⟨Nat.le_of_ble_eq_true rfl, Nat.le_of_ble_eq_true rfl⟩ dX7_isSet_12 (fun r12 v12 hp12 => ?_)
  obtain ⟨rfl, ehp12⟩ := hp12
  refine VV.vq ehp12 ?_
  refine VV.eq (st2 := [.int (zb (decide ((nI 1) ≤ a ∧ a ≤ (nI (2 ^ M.1 0 - 1)))))]) rfl ?_
  exact r_iret C (pc := 15) rfl (zb_nar _) dX7_isSet_15 ⟨rfl, rfl, rfl, rfl⟩
set_option maxRecDepth 100000 in
set_option maxHeartbeats 4000000 in
theorem m_X7_hasList (l : Launch) (G : zG) (sh : zH) (v : zV) (N : Nat) {m : Nat} {M : zMS} {a : Int32} (hp : zMD G sh N m) (hv : zwf (v (m + 1)) M)  : zm l G yX7_hasList cX7_hasList 2 (some .boolean) 1 [.ref m, .int a] sh v N (fun r v1 => r = some (.int (zb (decide ((nI 1) ≤ a ∧ a ≤ (nI (M.1 1 + 1)))))) ∧ v1 = v) := by
  refine zM.of (by decide) rfl (Nat.le_of_ble_eq_true rfl) ?_
  intro p e s mi args below meth c C
  obtain ⟨hB, hN, hs0, hs1, hs2, hs3, hs4, hs5, hs6, hs7, hs8⟩ := id hp
  have hd0 : G.2.2.1 ≤ m ∧ m < N := ⟨hB, by omega⟩
  have hd1 : G.2.2.1 ≤ m + 1 ∧ m + 1 < N := ⟨by omega, by omega⟩
  have hd2 : G.2.2.1 ≤ m + 2 ∧ m + 2 < N := ⟨by omega, by omega⟩
  have hd3 : G.2.2.1 ≤ m + 3 ∧ m + 3 < N := ⟨by omega, by omega⟩
  have hd4 : G.2.2.1 ≤ m + 4 ∧ m + 4 < N := ⟨by omega, by omega⟩
  have hd5 : G.2.2.1 ≤ m + 5 ∧ m + 5 < N := ⟨by omega, by omega⟩
  have hd6 : G.2.2.1 ≤ m + 6 ∧ m + 6 < N := ⟨by omega, by omega⟩
  have hd7 : G.2.2.1 ≤ m + 7 ∧ m + 7 < N := ⟨by omega, by omega⟩
  have hd8 : G.2.2.1 ≤ m + 8 ∧ m + 8 < N := ⟨by omega, by omega⟩
  refine r_iload_n C (pc := 0) rfl rfl dX7_hasList_0 ?_
  refine r_iconst C (pc := 1) (x := (nI 1)) (by decide) dX7_hasList_1 ?_
  refine r_aload_n C (pc := 2) rfl rfl dX7_hasList_2 ?_
  refine r_get C (pc := 3) (ci := 7) (k := 0) (w := .ref (m + 1)) rfl (by decide) inX7 (by decide) q_654 (Or.inl hd0) hs0 (zl_ref _ _) dX7_hasList_3 ?_
  refine r_iconst C (pc := 6) (x := (nI 1)) (by decide) dX7_hasList_6 ?_
  refine r_iald C (pc := 7) (x := (nI (M.1 1))) (Or.inl hd1) hs1 (by omega) (by omega) (hv.1 1 (by decide)) dX7_hasList_7 ?_
  refine r_iconst C (pc := 8) (x := (nI 1)) (by decide) dX7_hasList_8 ?_
  refine r_iadd C (pc := 9) (z := (nI ((M.1 1) + 1))) (nI_add _ _) dX7_hasList_9 ?_
  refine r_callS C (pc := 10) (st := []) (m_X7_isIn l G sh v N (x := a) (lo := (nI 1)) (hi := (nI (M.1 1 + 1)))) kyX7_isIn q_701 rfl rfl (Nat.le_of_ble_eq_true rfl) ⟨Nat.le_of_ble_eq_true rfl, Nat.le_of_ble_eq_true rfl⟩ ⟨Nat.le_of_ble_eq_true rfl, Nat.le_of_ble_eq_true rfl⟩ dX7_hasList_10 (fun r10 v10 hp10 => ?_)
  obtain ⟨rfl, ehp10⟩ := hp10
  refine VV.vq ehp10 ?_
  refine VV.eq (st2 := [.int (zb (decide ((nI 1) ≤ a ∧ a ≤ (nI (M.1 1 + 1)))))]) rfl ?_
  exact r_iret C (pc := 13) rfl (zb_nar _) dX7_hasList_13 ⟨rfl, rfl, rfl, rfl⟩
set_option maxRecDepth 100000 in
set_option maxHeartbeats 4000000 in
theorem m_X7_setBlock (l : Launch) (G : zG) (sh : zH) (v : zV) (N : Nat) {m : Nat} {M : zMS} {h : zHs} {T : Nat} {a b : Int32} (hp : zMD G sh N m) (hv : zwf (v (m + 1)) M) (hh : zmh v m h) (hI : zI T (M, h)) (hT : T + 1000 < 2 ^ 30) : zm l G yX7_setBlock cX7_setBlock 3 (some .int) 2 [.ref m, .int a, .int b] sh v N (fun r v1 => r = some (.int (oSetBlock a b (M, h)).1) ∧ zwf (v1 (m + 1)) (oSetBlock a b (M, h)).2.1 ∧ zmh v1 m (oSetBlock a b (M, h)).2.2 ∧ zfr v v1 m 9) := by
  refine zM.of (by decide) rfl (Nat.le_of_ble_eq_true rfl) ?_
  intro p e s mi args below meth c C
  obtain ⟨hB, hN, hs0, hs1, hs2, hs3, hs4, hs5, hs6, hs7, hs8⟩ := id hp
  have hd0 : G.2.2.1 ≤ m ∧ m < N := ⟨hB, by omega⟩
  have hd1 : G.2.2.1 ≤ m + 1 ∧ m + 1 < N := ⟨by omega, by omega⟩
  have hd2 : G.2.2.1 ≤ m + 2 ∧ m + 2 < N := ⟨by omega, by omega⟩
  have hd3 : G.2.2.1 ≤ m + 3 ∧ m + 3 < N := ⟨by omega, by omega⟩
  have hd4 : G.2.2.1 ≤ m + 4 ∧ m + 4 < N := ⟨by omega, by omega⟩
  have hd5 : G.2.2.1 ≤ m + 5 ∧ m + 5 < N := ⟨by omega, by omega⟩
  have hd6 : G.2.2.1 ≤ m + 6 ∧ m + 6 < N := ⟨by omega, by omega⟩
  have hd7 : G.2.2.1 ≤ m + 7 ∧ m + 7 < N := ⟨by omega, by omega⟩
  have hd8 : G.2.2.1 ≤ m + 8 ∧ m + 8 < N := ⟨by omega, by omega⟩
  have hE : zE M := hI.1.1
  have hk : mOK M := hE.1
  have hK2 := hk.1.1
  have hK12 := hk.1.2.1
  have hR3 := hk.1.2.2.1
  refine r_aload_n C (pc := 0) rfl rfl dX7_setBlock_0 ?_
  refine r_iload_n C (pc := 1) rfl rfl dX7_setBlock_1 ?_
  refine r_callV C (pc := 2) (st := []) (m_X7_isBlock l G sh v N (a := a) hp hv hK2) kyX7_isBlock q_712 rfl (Or.inl hd0) hs0 (by decide) rfl rfl rfl (Nat.le_of_ble_eq_true rfl) ⟨Nat.le_of_ble_eq_true rfl, Nat.le_of_ble_eq_true rfl⟩ ⟨Nat.le_of_ble_eq_true rfl, Nat.le_of_ble_eq_true rfl⟩ dX7_setBlock_2 (fun r2 v2 hp2 => ?_)
  obtain ⟨rfl, ehp2⟩ := hp2
  refine VV.vq ehp2 ?_
  refine VV.eq (st2 := [.int (zb (decide ((nI 0) ≤ a ∧ a ≤ (nI (M.1 0 - 1)))))]) rfl ?_
  refine n_ifb_eq C (pc := 5) (tgt := 19) dX7_setBlock_5 (by decide) (fun c_5 => ?_) (fun c_5 => ?_)
  · refine r_iconst C (pc := 19) (x := (-1)) (by decide) dX7_setBlock_19 ?_
    exact r_iret C (pc := 20) rfl (rfl) dX7_setBlock_20 ⟨rfl, rfl, (by have ho : oSetBlock a b (M, h) = (-1, (M, h)) := if_neg (fun z => (of_decide_eq_false c_5) z.1); rw [ho]; exact ⟨rfl, hv, hh, zfr.rf⟩)⟩
  · refine r_iload_n C (pc := 8) rfl rfl dX7_setBlock_8 ?_
    refine r_iconst C (pc := 9) (x := (nI 0)) (by decide) dX7_setBlock_9 ?_
    refine r_sipush C (pc := 10) (x := (nI 255)) (by decide) dX7_setBlock_10 ?_
    refine r_callS C (pc := 13) (st := []) (m_X7_isIn l G sh v N (x := b) (lo := (nI 0)) (hi := (nI 255))) kyX7_isIn q_701 rfl rfl (Nat.le_of_ble_eq_true rfl) ⟨Nat.le_of_ble_eq_true rfl, Nat.le_of_ble_eq_true rfl⟩ ⟨Nat.le_of_ble_eq_true rfl, Nat.le_of_ble_eq_true rfl⟩ dX7_setBlock_13 (fun r13 v13 hp13 => ?_)
    obtain ⟨rfl, ehp13⟩ := hp13
    refine VV.vq ehp13 ?_
    refine VV.eq (st2 := [.int (zb (decide ((nI 0) ≤ b ∧ b ≤ (nI 255))))]) rfl ?_
    refine n_ifb_ne C (pc := 16) (tgt := 21) dX7_setBlock_16 (by decide) (fun c_16 => ?_) (fun c_16 => ?_)
    · have hc1 := (of_decide_eq_true c_5)
      have hc2 := (of_decide_eq_true c_16)
      obtain ⟨B, hB1, hB2, rfl⟩ := inR (of_decide_eq_true c_5) (by omega) (by omega)
      obtain ⟨x, hx1, hx2, rfl⟩ := inR (of_decide_eq_true c_16) (by omega) (by omega)
      refine r_aload_n C (pc := 21) rfl rfl dX7_setBlock_21 ?_
      refine r_get C (pc := 22) (ci := 7) (k := 0) (w := .ref (m + 1)) rfl (by decide) inX7 (by decide) q_654 (Or.inl hd0) hs0 (zl_ref _ _) dX7_setBlock_22 ?_
      refine r_iconst C (pc := 25) (x := (nI 2)) (by decide) dX7_setBlock_25 ?_
      refine r_iald C (pc := 26) (x := (nI (M.1 2))) (Or.inl hd1) hs1 (by omega) (by omega) (hv.1 2 (by decide)) dX7_setBlock_26 ?_
      refine n_if_gt C (pc := 27) (tgt := 40) (by have := hI.1.2.1.1; dsimp only at this; omega) dX7_setBlock_27 (by decide) (fun c_27 => ?_) (fun c_27 => ?_)
      · refine r_bipush C (pc := 40) (x := (-2)) (by decide) dX7_setBlock_40 ?_
        refine r_goto C (pc := 42) (tgt := 54) dX7_setBlock_42 (by decide) ?_
        exact r_iret C (pc := 54) rfl (rfl) dX7_setBlock_54 ⟨rfl, rfl, (by have ho : oSetBlock (nI B) (nI x) (M, h) = (-2, (M, h)) := (if_pos ⟨hc1, hc2⟩).trans (if_pos (Or.inl c_27)); rw [ho]; exact ⟨rfl, hv, hh, zfr.rf⟩)⟩
      · refine r_aload_n C (pc := 30) rfl rfl dX7_setBlock_30 ?_
        refine r_get C (pc := 31) (ci := 7) (k := 0) (w := .ref (m + 1)) rfl (by decide) inX7 (by decide) q_654 (Or.inl hd0) hs0 (zl_ref _ _) dX7_setBlock_31 ?_
        refine r_bipush C (pc := 34) (x := (nI 31)) (by decide) dX7_setBlock_34 ?_
        refine r_iald C (pc := 36) (x := (nI (M.1 31))) (Or.inl hd1) hs1 (by omega) (by omega) (hv.1 31 (by decide)) dX7_setBlock_36 ?_
        refine n_if_le C (pc := 37) (tgt := 45) (by have := hI.1.2.1.2.1; dsimp only at this; omega) dX7_setBlock_37 (by decide) (fun c_37 => ?_) (fun c_37 => ?_)
        · refine r_aload_n C (pc := 45) rfl rfl dX7_setBlock_45 ?_
          refine r_bipush C (pc := 46) (x := (nI 17)) (by decide) dX7_setBlock_46 ?_
          refine r_iload_n C (pc := 48) rfl rfl dX7_setBlock_48 ?_
          refine r_iadd C (pc := 49) (z := (nI (17 + B))) (nI_add _ _) dX7_setBlock_49 ?_
          refine r_iload_n C (pc := 50) rfl rfl dX7_setBlock_50 ?_
          refine r_callV C (pc := 51) (st := []) (m_X7_put l G sh v N (a := 17 + B) (x := x) hp hv hh (by omega)) kyX7_put q_716 rfl (Or.inl hd0) hs0 (by decide) rfl rfl rfl (Nat.le_of_ble_eq_true rfl) ⟨Nat.le_of_ble_eq_true rfl, Nat.le_of_ble_eq_true rfl⟩ ⟨Nat.le_of_ble_eq_true rfl, Nat.le_of_ble_eq_true rfl⟩ dX7_setBlock_51 (fun r51 v51 hp51 => ?_)
          obtain ⟨rfl, g1, g2, g3⟩ := hp51
          refine VV.eq (st2 := [.int (v (m + 1) (17 + B))]) rfl ?_
          exact r_iret C (pc := 54) rfl (rfl) dX7_setBlock_54 ⟨rfl, rfl, (by have ho : oSetBlock (nI B) (nI x) (M, h) = (nI (M.1 (17 + B)), ((upc M.1 (17 + B) x, M.2), remH M h)) := ((if_pos ⟨hc1, hc2⟩).trans (if_neg (fun z => by rcases z with z | z <;> dsimp only at z <;> omega))).trans (by rw [nn_I (by omega), nn_I (by omega)]); rw [ho]; exact ⟨congrArg _ (congrArg _ (hv.1 (17 + B) (by omega))), zwf_v hv (by omega) ((hE.2.2.2.2.2.2.2 c_27 c_37).2.2) (by rw [g2]; exact if_pos rfl) (fun j hj => by rw [g2]; exact if_neg hj), g1, g3⟩)⟩
        · refine r_bipush C (pc := 40) (x := (-2)) (by decide) dX7_setBlock_40 ?_
          refine r_goto C (pc := 42) (tgt := 54) dX7_setBlock_42 (by decide) ?_
          exact r_iret C (pc := 54) rfl (rfl) dX7_setBlock_54 ⟨rfl, rfl, (by have ho : oSetBlock (nI B) (nI x) (M, h) = (-2, (M, h)) := (if_pos ⟨hc1, hc2⟩).trans (if_pos (Or.inr c_37)); rw [ho]; exact ⟨rfl, hv, hh, zfr.rf⟩)⟩
    · refine r_iconst C (pc := 19) (x := (-1)) (by decide) dX7_setBlock_19 ?_
      exact r_iret C (pc := 20) rfl (rfl) dX7_setBlock_20 ⟨rfl, rfl, (by have ho : oSetBlock a b (M, h) = (-1, (M, h)) := if_neg (fun z => (of_decide_eq_false c_16) z.2); rw [ho]; exact ⟨rfl, hv, hh, zfr.rf⟩)⟩
set_option maxRecDepth 100000 in
set_option maxHeartbeats 4000000 in
theorem m_X7_setLoss (l : Launch) (G : zG) (sh : zH) (v : zV) (N : Nat) {m : Nat} {M : zMS} {h : zHs} {T : Nat} {a b : Int32} (hp : zMD G sh N m) (hv : zwf (v (m + 1)) M) (hh : zmh v m h) (hI : zI T (M, h)) (hT : T + 1000 < 2 ^ 30) : zm l G yX7_setLoss cX7_setLoss 3 (some .int) 2 [.ref m, .int a, .int b] sh v N (fun r v1 => r = some (.int (oSetLoss a b (M, h)).1) ∧ zwf (v1 (m + 1)) (oSetLoss a b (M, h)).2.1 ∧ zmh v1 m (oSetLoss a b (M, h)).2.2 ∧ zfr v v1 m 9) := by
  refine zM.of (by decide) rfl (Nat.le_of_ble_eq_true rfl) ?_
  intro p e s mi args below meth c C
  obtain ⟨hB, hN, hs0, hs1, hs2, hs3, hs4, hs5, hs6, hs7, hs8⟩ := id hp
  have hd0 : G.2.2.1 ≤ m ∧ m < N := ⟨hB, by omega⟩
  have hd1 : G.2.2.1 ≤ m + 1 ∧ m + 1 < N := ⟨by omega, by omega⟩
  have hd2 : G.2.2.1 ≤ m + 2 ∧ m + 2 < N := ⟨by omega, by omega⟩
  have hd3 : G.2.2.1 ≤ m + 3 ∧ m + 3 < N := ⟨by omega, by omega⟩
  have hd4 : G.2.2.1 ≤ m + 4 ∧ m + 4 < N := ⟨by omega, by omega⟩
  have hd5 : G.2.2.1 ≤ m + 5 ∧ m + 5 < N := ⟨by omega, by omega⟩
  have hd6 : G.2.2.1 ≤ m + 6 ∧ m + 6 < N := ⟨by omega, by omega⟩
  have hd7 : G.2.2.1 ≤ m + 7 ∧ m + 7 < N := ⟨by omega, by omega⟩
  have hd8 : G.2.2.1 ≤ m + 8 ∧ m + 8 < N := ⟨by omega, by omega⟩
  have hE : zE M := hI.1.1
  have hk : mOK M := hE.1
  have hK2 := hk.1.1
  have hK12 := hk.1.2.1
  have hR3 := hk.1.2.2.1
  refine r_iload_n C (pc := 0) rfl rfl dX7_setLoss_0 ?_
  refine r_iconst C (pc := 1) (x := (nI 0)) (by decide) dX7_setLoss_1 ?_
  refine r_aload_n C (pc := 2) rfl rfl dX7_setLoss_2 ?_
  refine r_get C (pc := 3) (ci := 7) (k := 0) (w := .ref (m + 1)) rfl (by decide) inX7 (by decide) q_654 (Or.inl hd0) hs0 (zl_ref _ _) dX7_setLoss_3 ?_
  refine r_iconst C (pc := 6) (x := (nI 1)) (by decide) dX7_setLoss_6 ?_
  refine r_iald C (pc := 7) (x := (nI (M.1 1))) (Or.inl hd1) hs1 (by omega) (by omega) (hv.1 1 (by decide)) dX7_setLoss_7 ?_
  refine r_callS C (pc := 8) (st := []) (m_X7_isIn l G sh v N (x := a) (lo := (nI 0)) (hi := (nI (M.1 1)))) kyX7_isIn q_701 rfl rfl (Nat.le_of_ble_eq_true rfl) ⟨Nat.le_of_ble_eq_true rfl, Nat.le_of_ble_eq_true rfl⟩ ⟨Nat.le_of_ble_eq_true rfl, Nat.le_of_ble_eq_true rfl⟩ dX7_setLoss_8 (fun r8 v8 hp8 => ?_)
  obtain ⟨rfl, ehp8⟩ := hp8
  refine VV.vq ehp8 ?_
  refine VV.eq (st2 := [.int (zb (decide ((nI 0) ≤ a ∧ a ≤ (nI (M.1 1)))))]) rfl ?_
  refine n_ifb_eq C (pc := 11) (tgt := 36) dX7_setLoss_11 (by decide) (fun c_11 => ?_) (fun c_11 => ?_)
  · refine r_iconst C (pc := 36) (x := (-1)) (by decide) dX7_setLoss_36 ?_
    exact r_iret C (pc := 37) rfl (rfl) dX7_setLoss_37 ⟨rfl, rfl, (by have ho : oSetLoss a b (M, h) = (-1, (M, h)) := if_neg (fun z => (of_decide_eq_false c_11) z.1); rw [ho]; exact ⟨rfl, hv, hh, zfr.rf⟩)⟩
  · refine r_iload_n C (pc := 14) rfl rfl dX7_setLoss_14 ?_
    refine r_iconst C (pc := 15) (x := (nI 0)) (by decide) dX7_setLoss_15 ?_
    refine r_bipush C (pc := 16) (x := (nI 99)) (by decide) dX7_setLoss_16 ?_
    refine r_callS C (pc := 18) (st := []) (m_X7_isIn l G sh v N (x := b) (lo := (nI 0)) (hi := (nI 99))) kyX7_isIn q_701 rfl rfl (Nat.le_of_ble_eq_true rfl) ⟨Nat.le_of_ble_eq_true rfl, Nat.le_of_ble_eq_true rfl⟩ ⟨Nat.le_of_ble_eq_true rfl, Nat.le_of_ble_eq_true rfl⟩ dX7_setLoss_18 (fun r18 v18 hp18 => ?_)
    obtain ⟨rfl, ehp18⟩ := hp18
    refine VV.vq ehp18 ?_
    refine VV.eq (st2 := [.int (zb (decide ((nI 0) ≤ b ∧ b ≤ (nI 99))))]) rfl ?_
    refine n_ifb_eq C (pc := 21) (tgt := 36) dX7_setLoss_21 (by decide) (fun c_21 => ?_) (fun c_21 => ?_)
    · refine r_iconst C (pc := 36) (x := (-1)) (by decide) dX7_setLoss_36 ?_
      exact r_iret C (pc := 37) rfl (rfl) dX7_setLoss_37 ⟨rfl, rfl, (by have ho : oSetLoss a b (M, h) = (-1, (M, h)) := if_neg (fun z => (of_decide_eq_false c_21) z.2); rw [ho]; exact ⟨rfl, hv, hh, zfr.rf⟩)⟩
    · have hc1 := (of_decide_eq_true c_11)
      have hc2 := (of_decide_eq_true c_21)
      obtain ⟨B, hB1, hB2, rfl⟩ := inR (of_decide_eq_true c_11) (by omega) (by omega)
      obtain ⟨x, hx1, hx2, rfl⟩ := inR (of_decide_eq_true c_21) (by omega) (by omega)
      refine r_aload_n C (pc := 24) rfl rfl dX7_setLoss_24 ?_
      refine r_bipush C (pc := 25) (x := (nI 7)) (by decide) dX7_setLoss_25 ?_
      refine r_iload_n C (pc := 27) rfl rfl dX7_setLoss_27 ?_
      refine r_iadd C (pc := 28) (z := (nI (7 + B))) (nI_add _ _) dX7_setLoss_28 ?_
      refine r_iload_n C (pc := 29) rfl rfl dX7_setLoss_29 ?_
      refine r_callV C (pc := 30) (st := []) (m_X7_put l G sh v N (a := 7 + B) (x := x) hp hv hh (by omega)) kyX7_put q_716 rfl (Or.inl hd0) hs0 (by decide) rfl rfl rfl (Nat.le_of_ble_eq_true rfl) ⟨Nat.le_of_ble_eq_true rfl, Nat.le_of_ble_eq_true rfl⟩ ⟨Nat.le_of_ble_eq_true rfl, Nat.le_of_ble_eq_true rfl⟩ dX7_setLoss_30 (fun r30 v30 hp30 => ?_)
      obtain ⟨rfl, g1, g2, g3⟩ := hp30
      refine VV.eq (st2 := [.int (v (m + 1) (7 + B))]) rfl ?_
      refine r_goto C (pc := 33) (tgt := 37) dX7_setLoss_33 (by decide) ?_
      exact r_iret C (pc := 37) rfl (rfl) dX7_setLoss_37 ⟨rfl, rfl, (by have ho : oSetLoss (nI B) (nI x) (M, h) = (nI (M.1 (7 + B)), ((upc M.1 (7 + B) x, M.2), remH M h)) := (if_pos ⟨hc1, hc2⟩).trans (by rw [nn_I (by omega), nn_I (by omega)]); rw [ho]; exact ⟨congrArg _ (congrArg _ (hv.1 (7 + B) (by omega))), zwf_c hv (by omega) (by omega) (by rw [g2]; exact if_pos rfl) (fun j hj => by rw [g2]; exact if_neg hj), g1, g3⟩)⟩
set_option maxRecDepth 100000 in
set_option maxHeartbeats 4000000 in
theorem m_X7_setWeight (l : Launch) (G : zG) (sh : zH) (v : zV) (N : Nat) {m : Nat} {M : zMS} {h : zHs} {T : Nat} {a b : Int32} (hp : zMD G sh N m) (hv : zwf (v (m + 1)) M) (hh : zmh v m h) (hI : zI T (M, h)) (hT : T + 1000 < 2 ^ 30) : zm l G yX7_setWeight cX7_setWeight 4 (some .int) 2 [.ref m, .int a, .int b] sh v N (fun r v1 => r = some (.int (oSetWeight a b (M, h)).1) ∧ zwf (v1 (m + 1)) (oSetWeight a b (M, h)).2.1 ∧ zmh v1 m (oSetWeight a b (M, h)).2.2 ∧ zfr v v1 m 9) := by
  refine zM.of (by decide) rfl (Nat.le_of_ble_eq_true rfl) ?_
  intro p e s mi args below meth c C
  obtain ⟨hB, hN, hs0, hs1, hs2, hs3, hs4, hs5, hs6, hs7, hs8⟩ := id hp
  have hd0 : G.2.2.1 ≤ m ∧ m < N := ⟨hB, by omega⟩
  have hd1 : G.2.2.1 ≤ m + 1 ∧ m + 1 < N := ⟨by omega, by omega⟩
  have hd2 : G.2.2.1 ≤ m + 2 ∧ m + 2 < N := ⟨by omega, by omega⟩
  have hd3 : G.2.2.1 ≤ m + 3 ∧ m + 3 < N := ⟨by omega, by omega⟩
  have hd4 : G.2.2.1 ≤ m + 4 ∧ m + 4 < N := ⟨by omega, by omega⟩
  have hd5 : G.2.2.1 ≤ m + 5 ∧ m + 5 < N := ⟨by omega, by omega⟩
  have hd6 : G.2.2.1 ≤ m + 6 ∧ m + 6 < N := ⟨by omega, by omega⟩
  have hd7 : G.2.2.1 ≤ m + 7 ∧ m + 7 < N := ⟨by omega, by omega⟩
  have hd8 : G.2.2.1 ≤ m + 8 ∧ m + 8 < N := ⟨by omega, by omega⟩
  have hE : zE M := hI.1.1
  have hk : mOK M := hE.1
  have hK2 := hk.1.1
  have hK12 := hk.1.2.1
  have hR3 := hk.1.2.2.1
  refine r_iload_n C (pc := 0) rfl rfl dX7_setWeight_0 ?_
  refine r_iconst C (pc := 1) (x := (nI 1)) (by decide) dX7_setWeight_1 ?_
  refine r_bipush C (pc := 2) (x := (nI 6)) (by decide) dX7_setWeight_2 ?_
  refine r_callS C (pc := 4) (st := []) (m_X7_isIn l G sh v N (x := a) (lo := (nI 1)) (hi := (nI 6))) kyX7_isIn q_701 rfl rfl (Nat.le_of_ble_eq_true rfl) ⟨Nat.le_of_ble_eq_true rfl, Nat.le_of_ble_eq_true rfl⟩ ⟨Nat.le_of_ble_eq_true rfl, Nat.le_of_ble_eq_true rfl⟩ dX7_setWeight_4 (fun r4 v4 hp4 => ?_)
  obtain ⟨rfl, ehp4⟩ := hp4
  refine VV.vq ehp4 ?_
  refine VV.eq (st2 := [.int (zb (decide ((nI 1) ≤ a ∧ a ≤ (nI 6))))]) rfl ?_
  refine n_ifb_eq C (pc := 7) (tgt := 20) dX7_setWeight_7 (by decide) (fun c_7 => ?_) (fun c_7 => ?_)
  · refine r_iconst C (pc := 20) (x := (-1)) (by decide) dX7_setWeight_20 ?_
    exact r_iret C (pc := 21) rfl (rfl) dX7_setWeight_21 ⟨rfl, rfl, (by have ho : oSetWeight a b (M, h) = (-1, (M, h)) := if_neg (fun z => (of_decide_eq_false c_7) z.1); rw [ho]; exact ⟨rfl, hv, hh, zfr.rf⟩)⟩
  · refine r_iload_n C (pc := 10) rfl rfl dX7_setWeight_10 ?_
    refine r_iconst C (pc := 11) (x := (nI 0)) (by decide) dX7_setWeight_11 ?_
    refine r_bipush C (pc := 12) (x := (nI 9)) (by decide) dX7_setWeight_12 ?_
    refine r_callS C (pc := 14) (st := []) (m_X7_isIn l G sh v N (x := b) (lo := (nI 0)) (hi := (nI 9))) kyX7_isIn q_701 rfl rfl (Nat.le_of_ble_eq_true rfl) ⟨Nat.le_of_ble_eq_true rfl, Nat.le_of_ble_eq_true rfl⟩ ⟨Nat.le_of_ble_eq_true rfl, Nat.le_of_ble_eq_true rfl⟩ dX7_setWeight_14 (fun r14 v14 hp14 => ?_)
    obtain ⟨rfl, ehp14⟩ := hp14
    refine VV.vq ehp14 ?_
    refine VV.eq (st2 := [.int (zb (decide ((nI 0) ≤ b ∧ b ≤ (nI 9))))]) rfl ?_
    refine n_ifb_ne C (pc := 17) (tgt := 22) dX7_setWeight_17 (by decide) (fun c_17 => ?_) (fun c_17 => ?_)
    · have hc1 := (of_decide_eq_true c_7)
      have hc2 := (of_decide_eq_true c_17)
      obtain ⟨B1, hB1, hB2, ea⟩ := inR (of_decide_eq_true c_7) (by decide) (by decide)
      obtain ⟨B, rfl⟩ : ∃ B, B1 = B + 1 := ⟨B1 - 1, by omega⟩
      subst ea
      obtain ⟨x, hx1, hx2, rfl⟩ := inR (of_decide_eq_true c_17) (by omega) (by omega)
      have hwl := wsn_le hk.1.2.2.2.2.2.2.2.2.2.1 6 (Nat.le_refl 6)
      have hwb := (wsn_w (c := M.1) (x := x) 6 (show B < 6 by omega)).2
      refine r_bipush C (pc := 22) (x := (nI 11)) (by decide) dX7_setWeight_22 ?_
      refine r_iload_n C (pc := 24) rfl rfl dX7_setWeight_24 ?_
      refine r_iadd C (pc := 25) (z := (nI (11 + (B + 1)))) (nI_add _ _) dX7_setWeight_25 ?_
      refine r_iconst C (pc := 26) (x := (nI 1)) (by decide) dX7_setWeight_26 ?_
      refine r_isub C (pc := 27) (z := (nI (11 + B))) ((pk_sub (by omega)).trans (congrArg nI (by omega))) dX7_setWeight_27 ?_
      refine r_istore_n C (pc := 28) (lv2 := [some (.ref m), some (.int (nI (B + 1))), some (.int (nI x)), some (.int (nI (11 + B)))]) rfl (Nat.le_of_ble_eq_true rfl) rfl rfl dX7_setWeight_28 ?_
      refine r_aload_n C (pc := 29) rfl rfl dX7_setWeight_29 ?_
      refine r_callV C (pc := 30) (st := []) (m_X7_weights l G sh v N hp hv) kyX7_weights q_728 rfl (Or.inl hd0) hs0 (by decide) rfl rfl rfl (Nat.le_of_ble_eq_true rfl) ⟨Nat.le_of_ble_eq_true rfl, Nat.le_of_ble_eq_true rfl⟩ ⟨Nat.le_of_ble_eq_true rfl, Nat.le_of_ble_eq_true rfl⟩ dX7_setWeight_30 (fun r30 v30 hp30 => ?_)
      obtain ⟨rfl, ehp30⟩ := hp30
      refine VV.vq ehp30 ?_
      refine VV.eq (st2 := [.int (nI (wsn M.1 6))]) rfl ?_
      refine r_aload_n C (pc := 33) rfl rfl dX7_setWeight_33 ?_
      refine r_get C (pc := 34) (ci := 7) (k := 0) (w := .ref (m + 1)) rfl (by decide) inX7 (by decide) q_654 (Or.inl hd0) hs0 (zl_ref _ _) dX7_setWeight_34 ?_
      refine r_iload_n C (pc := 37) rfl rfl dX7_setWeight_37 ?_
      refine r_iald C (pc := 38) (x := (nI (M.1 (11 + B)))) (Or.inl hd1) hs1 (by omega) (by omega) (hv.1 (11 + B) (by omega)) dX7_setWeight_38 ?_
      refine r_isub C (pc := 39) (z := (nI (wsn M.1 6 - M.1 (11 + B)))) (pk_sub hwb) dX7_setWeight_39 ?_
      refine r_iload_n C (pc := 40) rfl rfl dX7_setWeight_40 ?_
      refine r_iadd C (pc := 41) (z := (nI ((wsn M.1 6 - M.1 (11 + B)) + x))) (nI_add _ _) dX7_setWeight_41 ?_
      refine n_if_ne C (pc := 42) (tgt := 50) (by omega) dX7_setWeight_42 (by decide) (fun c_42 => ?_) (fun c_42 => ?_)
      · refine r_aload_n C (pc := 50) rfl rfl dX7_setWeight_50 ?_
        refine r_iload_n C (pc := 51) rfl rfl dX7_setWeight_51 ?_
        refine r_iload_n C (pc := 52) rfl rfl dX7_setWeight_52 ?_
        refine r_callV C (pc := 53) (st := []) (m_X7_put l G sh v N (a := 11 + B) (x := x) hp hv hh (by omega)) kyX7_put q_716 rfl (Or.inl hd0) hs0 (by decide) rfl rfl rfl (Nat.le_of_ble_eq_true rfl) ⟨Nat.le_of_ble_eq_true rfl, Nat.le_of_ble_eq_true rfl⟩ ⟨Nat.le_of_ble_eq_true rfl, Nat.le_of_ble_eq_true rfl⟩ dX7_setWeight_53 (fun r53 v53 hp53 => ?_)
        obtain ⟨rfl, g1, g2, g3⟩ := hp53
        refine VV.eq (st2 := [.int (v (m + 1) (11 + B))]) rfl ?_
        exact r_iret C (pc := 56) rfl (rfl) dX7_setWeight_56 ⟨rfl, rfl, (by have ho : oSetWeight (nI (B + 1)) (nI x) (M, h) = (nI (M.1 (11 + B)), ((upc M.1 (11 + B) x, M.2), remH M h)) := ((if_pos ⟨hc1, hc2⟩).trans (by rw [nn_I (by omega), nn_I (by omega), Nat.add_sub_cancel])).trans (if_neg (fun z => by dsimp only at z; omega)); rw [ho]; exact ⟨congrArg _ (congrArg _ (hv.1 (11 + B) (by omega))), zwf_c hv (by omega) (by omega) (by rw [g2]; exact if_pos rfl) (fun j hj => by rw [g2]; exact if_neg hj), g1, g3⟩)⟩
      · refine r_bipush C (pc := 45) (x := (-2)) (by decide) dX7_setWeight_45 ?_
        refine r_goto C (pc := 47) (tgt := 56) dX7_setWeight_47 (by decide) ?_
        exact r_iret C (pc := 56) rfl (rfl) dX7_setWeight_56 ⟨rfl, rfl, (by have ho : oSetWeight (nI (B + 1)) (nI x) (M, h) = (-2, (M, h)) := ((if_pos ⟨hc1, hc2⟩).trans (by rw [nn_I (by omega), nn_I (by omega), Nat.add_sub_cancel])).trans (if_pos c_42); rw [ho]; exact ⟨rfl, hv, hh, zfr.rf⟩)⟩
    · refine r_iconst C (pc := 20) (x := (-1)) (by decide) dX7_setWeight_20 ?_
      exact r_iret C (pc := 21) rfl (rfl) dX7_setWeight_21 ⟨rfl, rfl, (by have ho : oSetWeight a b (M, h) = (-1, (M, h)) := if_neg (fun z => (of_decide_eq_false c_17) z.2); rw [ho]; exact ⟨rfl, hv, hh, zfr.rf⟩)⟩
set_option maxRecDepth 100000 in
set_option maxHeartbeats 4000000 in
theorem m_X7_set (l : Launch) (G : zG) (sh : zH) (v : zV) (N : Nat) {m : Nat} {M : zMS} {h : zHs} {T : Nat} {a b : Int32} (hp : zMD G sh N m) (hv : zwf (v (m + 1)) M) (hh : zmh v m h) (hI : zI T (M, h)) (hT : T + 1000 < 2 ^ 30) : zm l G yX7_set cX7_set 6 (some .int) 2 [.ref m, .int a, .int b] sh v N (fun r v1 => r = some (.int (oSet a b (M, h)).1) ∧ zwf (v1 (m + 1)) (oSet a b (M, h)).2.1 ∧ zmh v1 m (oSet a b (M, h)).2.2 ∧ zfr v v1 m 9) := by
  refine zM.of (by decide) rfl (Nat.le_of_ble_eq_true rfl) ?_
  intro p e s mi args below meth c C
  obtain ⟨hB, hN, hs0, hs1, hs2, hs3, hs4, hs5, hs6, hs7, hs8⟩ := id hp
  have hd0 : G.2.2.1 ≤ m ∧ m < N := ⟨hB, by omega⟩
  have hd1 : G.2.2.1 ≤ m + 1 ∧ m + 1 < N := ⟨by omega, by omega⟩
  have hd2 : G.2.2.1 ≤ m + 2 ∧ m + 2 < N := ⟨by omega, by omega⟩
  have hd3 : G.2.2.1 ≤ m + 3 ∧ m + 3 < N := ⟨by omega, by omega⟩
  have hd4 : G.2.2.1 ≤ m + 4 ∧ m + 4 < N := ⟨by omega, by omega⟩
  have hd5 : G.2.2.1 ≤ m + 5 ∧ m + 5 < N := ⟨by omega, by omega⟩
  have hd6 : G.2.2.1 ≤ m + 6 ∧ m + 6 < N := ⟨by omega, by omega⟩
  have hd7 : G.2.2.1 ≤ m + 7 ∧ m + 7 < N := ⟨by omega, by omega⟩
  have hd8 : G.2.2.1 ≤ m + 8 ∧ m + 8 < N := ⟨by omega, by omega⟩
  have hE : zE M := hI.1.1
  have hk : mOK M := hE.1
  have hK2 := hk.1.1
  have hK12 := hk.1.2.1
  have hR3 := hk.1.2.2.1
  have hL4 : ∀ r, r < 3 → (M.2.1 r).length ≤ 4 := fun r hr => Nat.le_trans (hI.1.2.2 r hr) hk.1.2.2.2.2.1
  have trim : ∀ (c1 : Nat → Nat) (ret : Int32) (u : zV), zwf (u (m + 1)) (c1, M.2) → c1 1 = M.1 1 → c1 3 < 2 ^ 20 → (∀ w : zV, zwf (w (m + 1)) ((c1, (fun r => if r < M.1 1 then (M.2.1 r).drop ((M.2.1 r).length - c1 3) else M.2.1 r), M.2.2) : zMS) → fA u w m → ((some (Value.int ret) = some (.int (oSet a b (M, h)).1)) ∧ zwf (w (m + 1)) (oSet a b (M, h)).2.1 ∧ zmh w m (oSet a b (M, h)).2.2 ∧ zfr v w m 9)) → VV p l e ({ frames := 2, cells := 0, slots := 0, locals := 32 * 2 }) s mi args below meth c 0 0 (zQ below (fun r sh1 v1 N1 => sh1 = sh ∧ N1 = N ∧ (r = some (.int (oSet a b (M, h)).1) ∧ zwf (v1 (m + 1)) (oSet a b (M, h)).2.1 ∧ zmh v1 m (oSet a b (M, h)).2.2 ∧ zfr v v1 m 9)) G args s 0 0) G 6 sh u N 72 [some (.ref m), none, none, none, some (.int ret), none] [] := by
    intro c1 ret u x1 hc1 hc3 hfin
    have outer : ∀ (n q : Nat) (v' : zV), M.1 1 - q < n → q ≤ M.1 1 → zwf (v' (m + 1)) ((c1, (fun r => if r < q then (M.2.1 r).drop ((M.2.1 r).length - c1 3) else M.2.1 r), M.2.2) : zMS) → fA u v' m → VV p l e ({ frames := 2, cells := 0, slots := 0, locals := 32 * 2 }) s mi args below meth c 0 0 (zQ below (fun r sh1 v1 N1 => sh1 = sh ∧ N1 = N ∧ (r = some (.int (oSet a b (M, h)).1) ∧ zwf (v1 (m + 1)) (oSet a b (M, h)).2.1 ∧ zmh v1 m (oSet a b (M, h)).2.2 ∧ zfr v v1 m 9)) G args s 0 0) G 6 sh v' N 75 [some (.ref m), none, none, none, some (.int ret), some (.int (nI (q + 1)))] [] := by
      intro n
      induction n with
      | zero => intro q v' hm; omega
      | succ n ih =>
        intro q v' hm hq e1 e2
        refine r_iload C (pc := 75) rfl dX7_set_75 ?_
        refine r_aload_n C (pc := 77) rfl rfl dX7_set_77 ?_
        refine r_get C (pc := 78) (ci := 7) (k := 0) (w := .ref (m + 1)) rfl (by decide) inX7 (by decide) q_654 (Or.inl hd0) hs0 (zl_ref _ _) dX7_set_78 ?_
        refine r_iconst C (pc := 81) (x := (nI 1)) (by decide) dX7_set_81 ?_
        refine r_iald C (pc := 82) (x := (nI (M.1 1))) (Or.inl hd1) hs1 (by omega) (by omega) (by rw [e1.1 1 (by decide)]; exact congrArg nI hc1) dX7_set_82 ?_
        refine n_icmp_gt C (pc := 83) (tgt := 124) (by omega) (by omega) dX7_set_83 (by decide) (fun c_83 => ?_) (fun c_83 => ?_)
        · refine r_iload C (pc := 124) rfl dX7_set_124 ?_
          exact r_iret C (pc := 126) rfl (rfl) dX7_set_126 ⟨rfl, rfl, hfin v' (by rw [show q = M.1 1 by omega] at e1; exact e1) e2⟩
        · have next : ∀ w : zV, zwf (w (m + 1)) (c1, (fun r => if r < q + 1 then (M.2.1 r).drop ((M.2.1 r).length - c1 3) else M.2.1 r), M.2.2) → fA u w m → VV p l e ({ frames := 2, cells := 0, slots := 0, locals := 32 * 2 }) s mi args below meth c 0 0 (zQ below (fun r sh1 v1 N1 => sh1 = sh ∧ N1 = N ∧ (r = some (.int (oSet a b (M, h)).1) ∧ zwf (v1 (m + 1)) (oSet a b (M, h)).2.1 ∧ zmh v1 m (oSet a b (M, h)).2.2 ∧ zfr v v1 m 9)) G args s 0 0) G 6 sh w N 118 [some (.ref m), none, none, none, some (.int ret), some (.int (nI (q + 1)))] [] := fun w x1 x2 => by
            refine r_iinc C (pc := 118) (lv2 := [some (.ref m), none, none, none, some (.int ret), some (.int (nI (q + 1 + 1)))]) (y := (nI (q + 1 + 1))) rfl (nI_inc _ _) (Nat.le_of_ble_eq_true rfl) rfl rfl dX7_set_118 ?_
            refine r_goto C (pc := 121) (tgt := 75) dX7_set_121 (by decide) ?_
            exact ih (q + 1) w (by omega) (by omega) x1 x2
          have inner : ∀ (n d : Nat) (v' : zV), (M.2.1 q).length - d < n → d ≤ (M.2.1 q).length - c1 3 → zwf (v' (m + 1)) ((c1, upl (fun r => if r < q then (M.2.1 r).drop ((M.2.1 r).length - c1 3) else M.2.1 r) q ((M.2.1 q).drop d), M.2.2) : zMS) → fA u v' m → VV p l e ({ frames := 2, cells := 0, slots := 0, locals := 32 * 2 }) s mi args below meth c 0 0 (zQ below (fun r sh1 v1 N1 => sh1 = sh ∧ N1 = N ∧ (r = some (.int (oSet a b (M, h)).1) ∧ zwf (v1 (m + 1)) (oSet a b (M, h)).2.1 ∧ zmh v1 m (oSet a b (M, h)).2.2 ∧ zfr v v1 m 9)) G args s 0 0) G 6 sh v' N 86 [some (.ref m), none, none, none, some (.int ret), some (.int (nI (q + 1)))] [] := by
            intro n
            induction n with
            | zero => intro d v' hm; omega
            | succ n ih =>
              intro d v' hm hd e1 e2
              have hlq : zla (v' (m + 1)) (lb q) (cp q) ((M.2.1 q).drop d) := by
                have z := e1.2.1 q (by omega)
                dsimp only at z
                rw [upl_s] at z
                exact z
              have hcap := hlq.2.1
              have htq := lb_top q (by omega)
              have hcp : cp q = 4 := cp_s (by omega)
              have hdl : ((M.2.1 q).drop d).length = (M.2.1 q).length - d := List.length_drop
              have hl4 := hL4 q (by omega)
              refine r_aload_n C (pc := 86) rfl rfl dX7_set_86 ?_
              refine r_get C (pc := 87) (ci := 7) (k := 0) (w := .ref (m + 1)) rfl (by decide) inX7 (by decide) q_654 (Or.inl hd0) hs0 (zl_ref _ _) dX7_set_87 ?_
              refine r_iload C (pc := 90) rfl dX7_set_90 ?_
              refine r_callS C (pc := 92) (st := [.ref (m + 1)]) (m_X7_storeOf l G sh v' N (r0 := q + 1) (by omega) (by omega)) kyX7_storeOf q_736 rfl rfl (Nat.le_of_ble_eq_true rfl) ⟨Nat.le_of_ble_eq_true rfl, Nat.le_of_ble_eq_true rfl⟩ ⟨Nat.le_of_ble_eq_true rfl, Nat.le_of_ble_eq_true rfl⟩ dX7_set_92 (fun r92 v92 hp92 => ?_)
              obtain ⟨rfl, ehp92⟩ := hp92
              refine VV.vq ehp92 ?_
              refine VV.eq (st2 := [.int (nI (lb q)), .ref (m + 1)]) rfl ?_
              refine r_iald C (pc := 95) (x := (nI ((M.2.1 q).length - d))) (Or.inl hd1) hs1 (by omega) (by omega) (by rw [hlq.1, hdl]) dX7_set_95 ?_
              refine r_aload_n C (pc := 96) rfl rfl dX7_set_96 ?_
              refine r_get C (pc := 97) (ci := 7) (k := 0) (w := .ref (m + 1)) rfl (by decide) inX7 (by decide) q_654 (Or.inl hd0) hs0 (zl_ref _ _) dX7_set_97 ?_
              refine r_iconst C (pc := 100) (x := (nI 3)) (by decide) dX7_set_100 ?_
              refine r_iald C (pc := 101) (x := (nI (c1 3))) (Or.inl hd1) hs1 (by omega) (by omega) (e1.1 3 (by decide)) dX7_set_101 ?_
              refine n_icmp_le C (pc := 102) (tgt := 118) (by omega) (by omega) dX7_set_102 (by decide) (fun c_102 => ?_) (fun c_102 => ?_)
              · refine next v' ?_ e2
                have ed : d = (M.2.1 q).length - c1 3 := by omega
                have el : upl (fun r => if r < q then (M.2.1 r).drop ((M.2.1 r).length - c1 3) else M.2.1 r) q ((M.2.1 q).drop d) = (fun r => if r < q + 1 then (M.2.1 r).drop ((M.2.1 r).length - c1 3) else M.2.1 r) := by
                  funext r
                  by_cases hr : r = q
                  · subst hr; rw [upl_s, if_pos (Nat.lt_succ_self r), ed]
                  · rw [upl_n hr]
                    by_cases hr2 : r < q
                    · rw [if_pos hr2, if_pos (by omega)]
                    · rw [if_neg hr2, if_neg (by omega)]
                rw [el] at e1
                exact e1
              · refine r_aload_n C (pc := 105) rfl rfl dX7_set_105 ?_
                refine r_iload C (pc := 106) rfl dX7_set_106 ?_
                refine r_callS C (pc := 108) (st := [.ref m]) (m_X7_storeOf l G sh v' N (r0 := q + 1) (by omega) (by omega)) kyX7_storeOf q_736 rfl rfl (Nat.le_of_ble_eq_true rfl) ⟨Nat.le_of_ble_eq_true rfl, Nat.le_of_ble_eq_true rfl⟩ ⟨Nat.le_of_ble_eq_true rfl, Nat.le_of_ble_eq_true rfl⟩ dX7_set_108 (fun r108 v108 hp108 => ?_)
                obtain ⟨rfl, ehp108⟩ := hp108
                refine VV.vq ehp108 ?_
                refine VV.eq (st2 := [.int (nI (lb q)), .ref m]) rfl ?_
                refine r_iconst C (pc := 111) (x := (nI 0)) (by decide) dX7_set_111 ?_
                refine r_callV C (pc := 112) (st := []) (m_X7_drop l G sh v' N (r0 := q) (k := 0) hp e1 (by omega) (by dsimp only; rw [upl_s, hdl]; omega)) kyX7_drop q_739 rfl (Or.inl hd0) hs0 (by decide) rfl rfl rfl (Nat.le_of_ble_eq_true rfl) ⟨Nat.le_of_ble_eq_true rfl, Nat.le_of_ble_eq_true rfl⟩ ⟨Nat.le_of_ble_eq_true rfl, Nat.le_of_ble_eq_true rfl⟩ dX7_set_112 (fun r112 v112 hp112 => ?_)
                obtain ⟨rfl, g1, g2⟩ := hp112
                refine VV.eq (st2 := []) rfl ?_
                dsimp only at g1
                rw [upl_s, upl_upl, drop_tail] at g1
                refine r_goto C (pc := 115) (tgt := 86) dX7_set_115 (by decide) ?_
                exact ih (d + 1) v112 (by omega) (by omega) g1 (e2.tr g2)
          exact inner ((M.2.1 q).length + 1) 0 v' (by omega) (by omega) (by
            have el : upl (fun r => if r < q then (M.2.1 r).drop ((M.2.1 r).length - c1 3) else M.2.1 r) q ((M.2.1 q).drop 0) = (fun r => if r < q then (M.2.1 r).drop ((M.2.1 r).length - c1 3) else M.2.1 r) := by
              have e := upl_id (fun r => if r < q then (M.2.1 r).drop ((M.2.1 r).length - c1 3) else M.2.1 r) q
              rw [if_neg (Nat.lt_irrefl q)] at e
              exact e
            rw [el]; exact e1) e2
    refine r_iconst C (pc := 72) (x := (nI 1)) (by decide) dX7_set_72 ?_
    refine r_istore C (pc := 73) (lv2 := [some (.ref m), none, none, none, some (.int ret), some (.int (nI 1))]) (Nat.le_of_ble_eq_true rfl) rfl rfl dX7_set_73 ?_
    exact outer (M.1 1 + 1) 0 u (by omega) (by omega) (by show zwf _ (c1, (fun r => if r < 0 then _ else M.2.1 r), M.2.2); exact x1) fA.rf
  refine r_iload_n C (pc := 0) rfl rfl dX7_set_0 ?_
  refine r_if_ne C (pc := 1) (tgt := 13) dX7_set_1 (by decide) (fun c_1 => ?_) (fun c_1 => ?_)
  · refine r_iload_n C (pc := 13) rfl rfl dX7_set_13 ?_
    refine r_iconst C (pc := 14) (x := (nI 1)) (by decide) dX7_set_14 ?_
    refine r_icmp_ne C (pc := 15) (tgt := 27) dX7_set_15 (by decide) (fun c_15 => ?_) (fun c_15 => ?_)
    · refine r_iload_n C (pc := 27) rfl rfl dX7_set_27 ?_
      refine r_iconst C (pc := 28) (x := (nI 2)) (by decide) dX7_set_28 ?_
      refine r_icmp_ne C (pc := 29) (tgt := 41) dX7_set_29 (by decide) (fun c_29 => ?_) (fun c_29 => ?_)
      · refine r_iload_n C (pc := 41) rfl rfl dX7_set_41 ?_
        refine r_iconst C (pc := 42) (x := (nI 3)) (by decide) dX7_set_42 ?_
        refine r_icmp_ne C (pc := 43) (tgt := 54) dX7_set_43 (by decide) (fun c_43 => ?_) (fun c_43 => ?_)
        · refine r_iconst C (pc := 54) (x := (nI 0)) (by decide) dX7_set_54 ?_
          refine r_istore_n C (pc := 55) (lv2 := [some (.ref m), some (.int a), some (.int b), some (.int (nI 0)), none, none]) rfl (Nat.le_of_ble_eq_true rfl) rfl rfl dX7_set_55 ?_
          refine r_iload_n C (pc := 56) rfl rfl dX7_set_56 ?_
          refine n_if_ne C (pc := 57) (tgt := 62) (by omega) dX7_set_57 (by decide) (fun c_57 => by exfalso; omega) (fun c_57 => ?_)
          refine r_iconst C (pc := 60) (x := (-1)) (by decide) dX7_set_60 ?_
          exact r_iret C (pc := 61) rfl (rfl) dX7_set_61 ⟨rfl, rfl, (by have ho : oSet a b (M, h) = (-1, (M, h)) := (if_neg (fun z => c_1 (z.1.trans nI_0))).trans ((if_neg (fun z => c_15 z.1)).trans ((if_neg (fun z => c_29 z.1)).trans (if_neg (fun z => c_43 z.1)))); rw [ho]; exact ⟨rfl, hv, hh, zfr.rf⟩)⟩
        · refine r_iload_n C (pc := 46) rfl rfl dX7_set_46 ?_
          refine r_if_lt C (pc := 47) (tgt := 54) dX7_set_47 (by decide) (fun c_47 => ?_) (fun c_47 => ?_)
          · refine r_iconst C (pc := 54) (x := (nI 0)) (by decide) dX7_set_54 ?_
            refine r_istore_n C (pc := 55) (lv2 := [some (.ref m), some (.int a), some (.int b), some (.int (nI 0)), none, none]) rfl (Nat.le_of_ble_eq_true rfl) rfl rfl dX7_set_55 ?_
            refine r_iload_n C (pc := 56) rfl rfl dX7_set_56 ?_
            refine n_if_ne C (pc := 57) (tgt := 62) (by omega) dX7_set_57 (by decide) (fun c_57 => by exfalso; omega) (fun c_57 => ?_)
            refine r_iconst C (pc := 60) (x := (-1)) (by decide) dX7_set_60 ?_
            exact r_iret C (pc := 61) rfl (rfl) dX7_set_61 ⟨rfl, rfl, (by have ho : oSet a b (M, h) = (-1, (M, h)) := (if_neg (fun z => c_1 (z.1.trans nI_0))).trans ((if_neg (fun z => c_15 z.1)).trans ((if_neg (fun z => c_29 z.1)).trans (if_neg (fun z => absurd (Int32.not_le.mpr c_47) (fun y => y (nI_0 ▸ z.2)))))); rw [ho]; exact ⟨rfl, hv, hh, zfr.rf⟩)⟩
          · refine r_iconst C (pc := 50) (x := (nI 1)) (by decide) dX7_set_50 ?_
            refine r_goto C (pc := 51) (tgt := 55) dX7_set_51 (by decide) ?_
            refine r_istore_n C (pc := 55) (lv2 := [some (.ref m), some (.int a), some (.int b), some (.int (nI 1)), none, none]) rfl (Nat.le_of_ble_eq_true rfl) rfl rfl dX7_set_55 ?_
            refine r_iload_n C (pc := 56) rfl rfl dX7_set_56 ?_
            refine n_if_ne C (pc := 57) (tgt := 62) (by omega) dX7_set_57 (by decide) (fun c_57 => ?_) (fun c_57 => by exfalso; omega)
            have ea : a = nI 3 := c_43
            have hc : nI 0 ≤ b := nI_0 ▸ Int32.not_lt.mp c_47
            obtain ⟨eb, hx2⟩ := I_nn hc
            generalize nn b = x at eb hx2
            subst eb
            subst ea
            refine r_aload_n C (pc := 62) rfl rfl dX7_set_62 ?_
            refine r_iconst C (pc := 63) (x := (nI 3)) (by decide) dX7_set_63 ?_
            refine r_iload_n C (pc := 64) rfl rfl dX7_set_64 ?_
            refine r_iadd C (pc := 65) (z := (nI (3 + 3))) (nI_add _ _) dX7_set_65 ?_
            refine r_iload_n C (pc := 66) rfl rfl dX7_set_66 ?_
            refine r_callV C (pc := 67) (st := []) (m_X7_put l G sh v N (a := 3 + 3) (x := x) hp hv hh (by decide)) kyX7_put q_716 rfl (Or.inl hd0) hs0 (by decide) rfl rfl rfl (Nat.le_of_ble_eq_true rfl) ⟨Nat.le_of_ble_eq_true rfl, Nat.le_of_ble_eq_true rfl⟩ ⟨Nat.le_of_ble_eq_true rfl, Nat.le_of_ble_eq_true rfl⟩ dX7_set_67 (fun r67 v67 hp67 => ?_)
            obtain ⟨rfl, g1, g2, g3⟩ := hp67
            refine VV.eq (st2 := [.int (v (m + 1) (3 + 3))]) rfl ?_
            refine r_istore C (pc := 70) (lv2 := [some (.ref m), some (.int (nI 3)), some (.int (nI x)), some (.int (nI 1)), some (.int (v (m + 1) (3 + 3))), none]) (Nat.le_of_ble_eq_true rfl) rfl rfl dX7_set_70 ?_
            have hrow0 : zwf (v67 (m + 1)) (upc M.1 (3 + 3) x, M.2) := zwf_c hv (by decide) (by decide) (by rw [g2]; exact if_pos rfl) (fun j hj => by rw [g2]; exact if_neg hj)
            refine VV.fg 1 (lv2 := [some (.ref m), none, some (.int (nI x)), some (.int (nI 1)), some (.int (v (m + 1) (3 + 3))), none]) rfl ?_
            refine VV.fg 2 (lv2 := [some (.ref m), none, none, some (.int (nI 1)), some (.int (v (m + 1) (3 + 3))), none]) rfl ?_
            refine VV.fg 3 (lv2 := [some (.ref m), none, none, none, some (.int (v (m + 1) (3 + 3))), none]) rfl ?_
            refine trim (upc M.1 6 x) (v (m + 1) (3 + 3)) v67 hrow0 (upc_n (by decide)) (by rw [upc_n (by decide)]; exact Nat.lt_trans (Nat.lt_succ_of_le hk.1.2.2.2.2.1) (by decide)) (fun w hw hf => ?_)
            have ho : oSet (nI 3) (nI x) (M, h) = (nI (M.1 6), ((upc M.1 6 x, M.2), remH M h)) := (if_neg (fun z => absurd z.1 (by decide))).trans ((if_neg (fun z => absurd z.1 (by decide))).trans ((if_neg (fun z => absurd z.1 (by decide))).trans ((if_pos ⟨rfl, hc⟩).trans (by rw [nn_I (by omega)]))))
            rw [ho]
            refine ⟨congrArg _ (congrArg _ (hv.1 6 (by decide))), ?_, zmh_T g1 hf.B.T, g3.tr hf.B.T.fr⟩
            have el : ((upc M.1 6 x, (fun r => if r < M.1 1 then (M.2.1 r).drop ((M.2.1 r).length - upc M.1 6 x 3) else M.2.1 r), M.2.2) : zMS) = (upc M.1 6 x, M.2) := by
                rw [upc_n (by decide)]
                have e : (fun r => if r < M.1 1 then (M.2.1 r).drop ((M.2.1 r).length - M.1 3) else M.2.1 r) = M.2.1 := by
                  funext r
                  split
                  · rw [Nat.sub_eq_zero_of_le (hI.1.2.2 r (by omega))]; rfl
                  · rfl
                rw [e]
            rw [el] at hw
            exact hw
      · refine r_iload_n C (pc := 32) rfl rfl dX7_set_32 ?_
        refine r_iconst C (pc := 33) (x := (nI 0)) (by decide) dX7_set_33 ?_
        refine r_iconst C (pc := 34) (x := (nI 1)) (by decide) dX7_set_34 ?_
        refine r_callS C (pc := 35) (st := []) (m_X7_isIn l G sh v N (x := b) (lo := (nI 0)) (hi := (nI 1))) kyX7_isIn q_701 rfl rfl (Nat.le_of_ble_eq_true rfl) ⟨Nat.le_of_ble_eq_true rfl, Nat.le_of_ble_eq_true rfl⟩ ⟨Nat.le_of_ble_eq_true rfl, Nat.le_of_ble_eq_true rfl⟩ dX7_set_35 (fun r35 v35 hp35 => ?_)
        obtain ⟨rfl, ehp35⟩ := hp35
        refine VV.vq ehp35 ?_
        refine VV.eq (st2 := [.int (zb (decide ((nI 0) ≤ b ∧ b ≤ (nI 1))))]) rfl ?_
        refine r_goto C (pc := 38) (tgt := 55) dX7_set_38 (by decide) ?_
        refine r_istore_n C (pc := 55) (lv2 := [some (.ref m), some (.int a), some (.int b), some (.int (zb (decide ((nI 0) ≤ b ∧ b ≤ (nI 1))))), none, none]) rfl (Nat.le_of_ble_eq_true rfl) rfl rfl dX7_set_55 ?_
        refine r_iload_n C (pc := 56) rfl rfl dX7_set_56 ?_
        refine n_ifb_ne C (pc := 57) (tgt := 62) dX7_set_57 (by decide) (fun c_57 => ?_) (fun c_57 => ?_)
        · have ea : a = nI 2 := c_29
          have hc := (of_decide_eq_true c_57)
          obtain ⟨x, hx1, hx2, eb⟩ := inR hc (by decide) (by decide)
          subst eb
          subst ea
          refine r_aload_n C (pc := 62) rfl rfl dX7_set_62 ?_
          refine r_iconst C (pc := 63) (x := (nI 3)) (by decide) dX7_set_63 ?_
          refine r_iload_n C (pc := 64) rfl rfl dX7_set_64 ?_
          refine r_iadd C (pc := 65) (z := (nI (3 + 2))) (nI_add _ _) dX7_set_65 ?_
          refine r_iload_n C (pc := 66) rfl rfl dX7_set_66 ?_
          refine r_callV C (pc := 67) (st := []) (m_X7_put l G sh v N (a := 3 + 2) (x := x) hp hv hh (by decide)) kyX7_put q_716 rfl (Or.inl hd0) hs0 (by decide) rfl rfl rfl (Nat.le_of_ble_eq_true rfl) ⟨Nat.le_of_ble_eq_true rfl, Nat.le_of_ble_eq_true rfl⟩ ⟨Nat.le_of_ble_eq_true rfl, Nat.le_of_ble_eq_true rfl⟩ dX7_set_67 (fun r67' v67' hp67' => ?_)
          obtain ⟨rfl, g1, g2, g3⟩ := hp67'
          refine VV.eq (st2 := [.int (v (m + 1) (3 + 2))]) rfl ?_
          refine r_istore C (pc := 70) (lv2 := [some (.ref m), some (.int (nI 2)), some (.int (nI x)), some (.int (zb (decide ((nI 0) ≤ (nI x) ∧ (nI x) ≤ (nI 1))))), some (.int (v (m + 1) (3 + 2))), none]) (Nat.le_of_ble_eq_true rfl) rfl rfl dX7_set_70 ?_
          have hrow0 : zwf (v67' (m + 1)) (upc M.1 (3 + 2) x, M.2) := zwf_c hv (by decide) (by decide) (by rw [g2]; exact if_pos rfl) (fun j hj => by rw [g2]; exact if_neg hj)
          refine VV.fg 1 (lv2 := [some (.ref m), none, some (.int (nI x)), some (.int (zb (decide ((nI 0) ≤ (nI x) ∧ (nI x) ≤ (nI 1))))), some (.int (v (m + 1) (3 + 2))), none]) rfl ?_
          refine VV.fg 2 (lv2 := [some (.ref m), none, none, some (.int (zb (decide ((nI 0) ≤ (nI x) ∧ (nI x) ≤ (nI 1))))), some (.int (v (m + 1) (3 + 2))), none]) rfl ?_
          refine VV.fg 3 (lv2 := [some (.ref m), none, none, none, some (.int (v (m + 1) (3 + 2))), none]) rfl ?_
          refine trim (upc M.1 5 x) (v (m + 1) (3 + 2)) v67' hrow0 (upc_n (by decide)) (by rw [upc_n (by decide)]; exact Nat.lt_trans (Nat.lt_succ_of_le hk.1.2.2.2.2.1) (by decide)) (fun w hw hf => ?_)
          have ho : oSet (nI 2) (nI x) (M, h) = (nI (M.1 5), ((upc M.1 5 x, M.2), remH M h)) := (if_neg (fun z => absurd z.1 (by decide))).trans ((if_neg (fun z => absurd z.1 (by decide))).trans ((if_pos ⟨rfl, hc⟩).trans (by rw [nn_I (by omega)])))
          rw [ho]
          refine ⟨congrArg _ (congrArg _ (hv.1 5 (by decide))), ?_, zmh_T g1 hf.B.T, g3.tr hf.B.T.fr⟩
          have el : ((upc M.1 5 x, (fun r => if r < M.1 1 then (M.2.1 r).drop ((M.2.1 r).length - upc M.1 5 x 3) else M.2.1 r), M.2.2) : zMS) = (upc M.1 5 x, M.2) := by
              rw [upc_n (by decide)]
              have e : (fun r => if r < M.1 1 then (M.2.1 r).drop ((M.2.1 r).length - M.1 3) else M.2.1 r) = M.2.1 := by
                funext r
                split
                · rw [Nat.sub_eq_zero_of_le (hI.1.2.2 r (by omega))]; rfl
                · rfl
              rw [e]
          rw [el] at hw
          exact hw
        · refine r_iconst C (pc := 60) (x := (-1)) (by decide) dX7_set_60 ?_
          exact r_iret C (pc := 61) rfl (rfl) dX7_set_61 ⟨rfl, rfl, (by have ho : oSet a b (M, h) = (-1, (M, h)) := (if_neg (fun z => c_1 (z.1.trans nI_0))).trans ((if_neg (fun z => c_15 z.1)).trans ((if_neg (fun z => (of_decide_eq_false c_57) z.2)).trans (if_neg (fun z => absurd (c_29.symm.trans z.1) (by decide))))); rw [ho]; exact ⟨rfl, hv, hh, zfr.rf⟩)⟩
    · refine r_iload_n C (pc := 18) rfl rfl dX7_set_18 ?_
      refine r_iconst C (pc := 19) (x := (nI 0)) (by decide) dX7_set_19 ?_
      refine r_iconst C (pc := 20) (x := (nI 3)) (by decide) dX7_set_20 ?_
      refine r_callS C (pc := 21) (st := []) (m_X7_isIn l G sh v N (x := b) (lo := (nI 0)) (hi := (nI 3))) kyX7_isIn q_701 rfl rfl (Nat.le_of_ble_eq_true rfl) ⟨Nat.le_of_ble_eq_true rfl, Nat.le_of_ble_eq_true rfl⟩ ⟨Nat.le_of_ble_eq_true rfl, Nat.le_of_ble_eq_true rfl⟩ dX7_set_21 (fun r21 v21 hp21 => ?_)
      obtain ⟨rfl, ehp21⟩ := hp21
      refine VV.vq ehp21 ?_
      refine VV.eq (st2 := [.int (zb (decide ((nI 0) ≤ b ∧ b ≤ (nI 3))))]) rfl ?_
      refine r_goto C (pc := 24) (tgt := 55) dX7_set_24 (by decide) ?_
      refine r_istore_n C (pc := 55) (lv2 := [some (.ref m), some (.int a), some (.int b), some (.int (zb (decide ((nI 0) ≤ b ∧ b ≤ (nI 3))))), none, none]) rfl (Nat.le_of_ble_eq_true rfl) rfl rfl dX7_set_55 ?_
      refine r_iload_n C (pc := 56) rfl rfl dX7_set_56 ?_
      refine n_ifb_ne C (pc := 57) (tgt := 62) dX7_set_57 (by decide) (fun c_57 => ?_) (fun c_57 => ?_)
      · have ea : a = nI 1 := c_15
        have hc := (of_decide_eq_true c_57)
        obtain ⟨x, hx1, hx2, eb⟩ := inR hc (by decide) (by decide)
        subst eb
        subst ea
        refine r_aload_n C (pc := 62) rfl rfl dX7_set_62 ?_
        refine r_iconst C (pc := 63) (x := (nI 3)) (by decide) dX7_set_63 ?_
        refine r_iload_n C (pc := 64) rfl rfl dX7_set_64 ?_
        refine r_iadd C (pc := 65) (z := (nI (3 + 1))) (nI_add _ _) dX7_set_65 ?_
        refine r_iload_n C (pc := 66) rfl rfl dX7_set_66 ?_
        refine r_callV C (pc := 67) (st := []) (m_X7_put l G sh v N (a := 3 + 1) (x := x) hp hv hh (by decide)) kyX7_put q_716 rfl (Or.inl hd0) hs0 (by decide) rfl rfl rfl (Nat.le_of_ble_eq_true rfl) ⟨Nat.le_of_ble_eq_true rfl, Nat.le_of_ble_eq_true rfl⟩ ⟨Nat.le_of_ble_eq_true rfl, Nat.le_of_ble_eq_true rfl⟩ dX7_set_67 (fun r67'' v67'' hp67'' => ?_)
        obtain ⟨rfl, g1, g2, g3⟩ := hp67''
        refine VV.eq (st2 := [.int (v (m + 1) (3 + 1))]) rfl ?_
        refine r_istore C (pc := 70) (lv2 := [some (.ref m), some (.int (nI 1)), some (.int (nI x)), some (.int (zb (decide ((nI 0) ≤ (nI x) ∧ (nI x) ≤ (nI 3))))), some (.int (v (m + 1) (3 + 1))), none]) (Nat.le_of_ble_eq_true rfl) rfl rfl dX7_set_70 ?_
        have hrow0 : zwf (v67'' (m + 1)) (upc M.1 (3 + 1) x, M.2) := zwf_c hv (by decide) (by decide) (by rw [g2]; exact if_pos rfl) (fun j hj => by rw [g2]; exact if_neg hj)
        refine VV.fg 1 (lv2 := [some (.ref m), none, some (.int (nI x)), some (.int (zb (decide ((nI 0) ≤ (nI x) ∧ (nI x) ≤ (nI 3))))), some (.int (v (m + 1) (3 + 1))), none]) rfl ?_
        refine VV.fg 2 (lv2 := [some (.ref m), none, none, some (.int (zb (decide ((nI 0) ≤ (nI x) ∧ (nI x) ≤ (nI 3))))), some (.int (v (m + 1) (3 + 1))), none]) rfl ?_
        refine VV.fg 3 (lv2 := [some (.ref m), none, none, none, some (.int (v (m + 1) (3 + 1))), none]) rfl ?_
        refine trim (upc M.1 4 x) (v (m + 1) (3 + 1)) v67'' hrow0 (upc_n (by decide)) (by rw [upc_n (by decide)]; exact Nat.lt_trans (Nat.lt_succ_of_le hk.1.2.2.2.2.1) (by decide)) (fun w hw hf => ?_)
        have ho : oSet (nI 1) (nI x) (M, h) = (nI (M.1 4), ((upc M.1 4 x, M.2), remH M h)) := (if_neg (fun z => absurd z.1 (by decide))).trans ((if_pos ⟨rfl, hc⟩).trans (by rw [nn_I (by omega)]))
        rw [ho]
        refine ⟨congrArg _ (congrArg _ (hv.1 4 (by decide))), ?_, zmh_T g1 hf.B.T, g3.tr hf.B.T.fr⟩
        have el : ((upc M.1 4 x, (fun r => if r < M.1 1 then (M.2.1 r).drop ((M.2.1 r).length - upc M.1 4 x 3) else M.2.1 r), M.2.2) : zMS) = (upc M.1 4 x, M.2) := by
            rw [upc_n (by decide)]
            have e : (fun r => if r < M.1 1 then (M.2.1 r).drop ((M.2.1 r).length - M.1 3) else M.2.1 r) = M.2.1 := by
              funext r
              split
              · rw [Nat.sub_eq_zero_of_le (hI.1.2.2 r (by omega))]; rfl
              · rfl
            rw [e]
        rw [el] at hw
        exact hw
      · refine r_iconst C (pc := 60) (x := (-1)) (by decide) dX7_set_60 ?_
        exact r_iret C (pc := 61) rfl (rfl) dX7_set_61 ⟨rfl, rfl, (by have ho : oSet a b (M, h) = (-1, (M, h)) := (if_neg (fun z => c_1 (z.1.trans nI_0))).trans ((if_neg (fun z => (of_decide_eq_false c_57) z.2)).trans ((if_neg (fun z => absurd (c_15.symm.trans z.1) (by decide))).trans (if_neg (fun z => absurd (c_15.symm.trans z.1) (by decide))))); rw [ho]; exact ⟨rfl, hv, hh, zfr.rf⟩)⟩
  · refine r_iload_n C (pc := 4) rfl rfl dX7_set_4 ?_
    refine r_iconst C (pc := 5) (x := (nI 1)) (by decide) dX7_set_5 ?_
    refine r_iconst C (pc := 6) (x := (nI 4)) (by decide) dX7_set_6 ?_
    refine r_callS C (pc := 7) (st := []) (m_X7_isIn l G sh v N (x := b) (lo := (nI 1)) (hi := (nI 4))) kyX7_isIn q_701 rfl rfl (Nat.le_of_ble_eq_true rfl) ⟨Nat.le_of_ble_eq_true rfl, Nat.le_of_ble_eq_true rfl⟩ ⟨Nat.le_of_ble_eq_true rfl, Nat.le_of_ble_eq_true rfl⟩ dX7_set_7 (fun r7 v7 hp7 => ?_)
    obtain ⟨rfl, ehp7⟩ := hp7
    refine VV.vq ehp7 ?_
    refine VV.eq (st2 := [.int (zb (decide ((nI 1) ≤ b ∧ b ≤ (nI 4))))]) rfl ?_
    refine r_goto C (pc := 10) (tgt := 55) dX7_set_10 (by decide) ?_
    refine r_istore_n C (pc := 55) (lv2 := [some (.ref m), some (.int a), some (.int b), some (.int (zb (decide ((nI 1) ≤ b ∧ b ≤ (nI 4))))), none, none]) rfl (Nat.le_of_ble_eq_true rfl) rfl rfl dX7_set_55 ?_
    refine r_iload_n C (pc := 56) rfl rfl dX7_set_56 ?_
    refine n_ifb_ne C (pc := 57) (tgt := 62) dX7_set_57 (by decide) (fun c_57 => ?_) (fun c_57 => ?_)
    · have ea : a = nI 0 := a0 c_1
      have hc := (of_decide_eq_true c_57)
      obtain ⟨x, hx1, hx2, eb⟩ := inR hc (by decide) (by decide)
      subst eb
      subst ea
      refine r_aload_n C (pc := 62) rfl rfl dX7_set_62 ?_
      refine r_iconst C (pc := 63) (x := (nI 3)) (by decide) dX7_set_63 ?_
      refine r_iload_n C (pc := 64) rfl rfl dX7_set_64 ?_
      refine r_iadd C (pc := 65) (z := (nI (3 + 0))) (nI_add _ _) dX7_set_65 ?_
      refine r_iload_n C (pc := 66) rfl rfl dX7_set_66 ?_
      refine r_callV C (pc := 67) (st := []) (m_X7_put l G sh v N (a := 3 + 0) (x := x) hp hv hh (by decide)) kyX7_put q_716 rfl (Or.inl hd0) hs0 (by decide) rfl rfl rfl (Nat.le_of_ble_eq_true rfl) ⟨Nat.le_of_ble_eq_true rfl, Nat.le_of_ble_eq_true rfl⟩ ⟨Nat.le_of_ble_eq_true rfl, Nat.le_of_ble_eq_true rfl⟩ dX7_set_67 (fun r67''' v67''' hp67''' => ?_)
      obtain ⟨rfl, g1, g2, g3⟩ := hp67'''
      refine VV.eq (st2 := [.int (v (m + 1) (3 + 0))]) rfl ?_
      refine r_istore C (pc := 70) (lv2 := [some (.ref m), some (.int (nI 0)), some (.int (nI x)), some (.int (zb (decide ((nI 1) ≤ (nI x) ∧ (nI x) ≤ (nI 4))))), some (.int (v (m + 1) (3 + 0))), none]) (Nat.le_of_ble_eq_true rfl) rfl rfl dX7_set_70 ?_
      have hrow0 : zwf (v67''' (m + 1)) (upc M.1 (3 + 0) x, M.2) := zwf_c hv (by decide) (by decide) (by rw [g2]; exact if_pos rfl) (fun j hj => by rw [g2]; exact if_neg hj)
      refine VV.fg 1 (lv2 := [some (.ref m), none, some (.int (nI x)), some (.int (zb (decide ((nI 1) ≤ (nI x) ∧ (nI x) ≤ (nI 4))))), some (.int (v (m + 1) (3 + 0))), none]) rfl ?_
      refine VV.fg 2 (lv2 := [some (.ref m), none, none, some (.int (zb (decide ((nI 1) ≤ (nI x) ∧ (nI x) ≤ (nI 4))))), some (.int (v (m + 1) (3 + 0))), none]) rfl ?_
      refine VV.fg 3 (lv2 := [some (.ref m), none, none, none, some (.int (v (m + 1) (3 + 0))), none]) rfl ?_
      refine trim (upc M.1 3 x) (v (m + 1) (3 + 0)) v67''' hrow0 (upc_n (by decide)) (by rw [upc_s]; omega) (fun w hw hf => ?_)
      have ho : oSet (nI 0) (nI x) (M, h) = (nI (M.1 3), (trm M x, remH M h)) := (if_pos ⟨rfl, hc⟩).trans (by rw [nn_I (by omega)])
      rw [ho]
      refine ⟨congrArg _ (congrArg _ (hv.1 3 (by decide))), ?_, zmh_T g1 hf.B.T, g3.tr hf.B.T.fr⟩
      have el : ((upc M.1 3 x, (fun r => if r < M.1 1 then (M.2.1 r).drop ((M.2.1 r).length - upc M.1 3 x 3) else M.2.1 r), M.2.2) : zMS) = trm M x := by
          unfold trm
          rw [upc_s]
          congr 2
          funext r
          by_cases hr3 : r < 3
          · by_cases hr : r < M.1 1
            · rw [if_pos hr, if_pos hr3]
            · rw [if_neg hr, if_pos hr3, hE.2.2.2.2.2.2.1 r hr3 (by omega)]
              exact List.drop_nil.symm
          · rw [if_neg (by omega), if_neg hr3]
      rw [el] at hw
      exact hw
    · refine r_iconst C (pc := 60) (x := (-1)) (by decide) dX7_set_60 ?_
      exact r_iret C (pc := 61) rfl (rfl) dX7_set_61 ⟨rfl, rfl, (by have ho : oSet a b (M, h) = (-1, (M, h)) := (if_neg (fun z => (of_decide_eq_false c_57) z.2)).trans ((if_neg (fun z => absurd ((a0 c_1).symm.trans z.1) (by decide))).trans ((if_neg (fun z => absurd ((a0 c_1).symm.trans z.1) (by decide))).trans (if_neg (fun z => absurd ((a0 c_1).symm.trans z.1) (by decide))))); rw [ho]; exact ⟨rfl, hv, hh, zfr.rf⟩)⟩
set_option maxRecDepth 100000 in
set_option maxHeartbeats 4000000 in
theorem m_X7_run (l : Launch) (G : zG) (sh : zH) (v : zV) (N : Nat) {m : Nat} {M : zMS} {h : zHs} {T : Nat} {a : Int32} (hp : zMD G sh N m) (hv : zwf (v (m + 1)) M) (hh : zmh v m h) (hI : zI T (M, h)) (hT : T + 1000 < 2 ^ 30) : zm l G yX7_run cX7_run 3 (some .int) 6 [.ref m, .int a] sh v N (fun r v1 => r = some (.int (oRun a (M, h)).1) ∧ zwf (v1 (m + 1)) (oRun a (M, h)).2.1 ∧ zmh v1 m (oRun a (M, h)).2.2 ∧ zfr v v1 m 9) := by
  refine zM.of (by decide) rfl (Nat.le_of_ble_eq_true rfl) ?_
  intro p e s mi args below meth c C
  obtain ⟨hB, hN, hs0, hs1, hs2, hs3, hs4, hs5, hs6, hs7, hs8⟩ := id hp
  have hd0 : G.2.2.1 ≤ m ∧ m < N := ⟨hB, by omega⟩
  have hd1 : G.2.2.1 ≤ m + 1 ∧ m + 1 < N := ⟨by omega, by omega⟩
  have hd2 : G.2.2.1 ≤ m + 2 ∧ m + 2 < N := ⟨by omega, by omega⟩
  have hd3 : G.2.2.1 ≤ m + 3 ∧ m + 3 < N := ⟨by omega, by omega⟩
  have hd4 : G.2.2.1 ≤ m + 4 ∧ m + 4 < N := ⟨by omega, by omega⟩
  have hd5 : G.2.2.1 ≤ m + 5 ∧ m + 5 < N := ⟨by omega, by omega⟩
  have hd6 : G.2.2.1 ≤ m + 6 ∧ m + 6 < N := ⟨by omega, by omega⟩
  have hd7 : G.2.2.1 ≤ m + 7 ∧ m + 7 < N := ⟨by omega, by omega⟩
  have hd8 : G.2.2.1 ≤ m + 8 ∧ m + 8 < N := ⟨by omega, by omega⟩
  have hE : zE M := hI.1.1
  have hk : mOK M := hE.1
  have hK2 := hk.1.1
  have hK12 := hk.1.2.1
  have hR3 := hk.1.2.2.1
  refine r_iload_n C (pc := 0) rfl rfl dX7_run_0 ?_
  refine r_iconst C (pc := 1) (x := (nI 1)) (by decide) dX7_run_1 ?_
  refine r_bipush C (pc := 2) (x := (nI 100)) (by decide) dX7_run_2 ?_
  refine r_callS C (pc := 4) (st := []) (m_X7_isIn l G sh v N (x := a) (lo := (nI 1)) (hi := (nI 100))) kyX7_isIn q_701 rfl rfl (Nat.le_of_ble_eq_true rfl) ⟨Nat.le_of_ble_eq_true rfl, Nat.le_of_ble_eq_true rfl⟩ ⟨Nat.le_of_ble_eq_true rfl, Nat.le_of_ble_eq_true rfl⟩ dX7_run_4 (fun r4 v4 hp4 => ?_)
  obtain ⟨rfl, ehp4⟩ := hp4
  refine VV.vq ehp4 ?_
  refine VV.eq (st2 := [.int (zb (decide ((nI 1) ≤ a ∧ a ≤ (nI 100))))]) rfl ?_
  refine n_ifb_ne C (pc := 7) (tgt := 12) dX7_run_7 (by decide) (fun c_7 => ?_) (fun c_7 => ?_)
  · have hc1 := (of_decide_eq_true c_7)
    obtain ⟨x, hx1, hx2, rfl⟩ := inR (of_decide_eq_true c_7) (by omega) (by omega)
    refine r_aload_n C (pc := 12) rfl rfl dX7_run_12 ?_
    refine r_callV C (pc := 13) (st := []) (m_X7_remember l G sh v N hp hv hh) kyX7_remember q_704 rfl (Or.inl hd0) hs0 (by decide) rfl rfl rfl (Nat.le_of_ble_eq_true rfl) ⟨Nat.le_of_ble_eq_true rfl, Nat.le_of_ble_eq_true rfl⟩ ⟨Nat.le_of_ble_eq_true rfl, Nat.le_of_ble_eq_true rfl⟩ dX7_run_13 (fun r13 v13 hp13 => ?_)
    obtain ⟨rfl, g1, g2, g3⟩ := hp13
    refine VV.eq (st2 := []) rfl ?_
    refine r_iconst C (pc := 16) (x := (nI 0)) (by decide) dX7_run_16 ?_
    refine r_istore_n C (pc := 17) (lv2 := [some (.ref m), some (.int (nI x)), some (.int (nI 0))]) rfl (Nat.le_of_ble_eq_true rfl) rfl rfl dX7_run_17 ?_
    have loop : ∀ (n k : Nat) (v' : zV), x - k < n → k ≤ x → zwf (v' (m + 1)) (itk k M) → zmh v' m (remH M h) → zfr v v' m 9 → VV p l e ({ frames := 6, cells := 0, slots := 0, locals := 32 * 6 }) s mi args below meth c 0 0 (zQ below (fun r sh1 v1 N1 => sh1 = sh ∧ N1 = N ∧ (r = some (.int (oRun (nI x) (M, h)).1) ∧ zwf (v1 (m + 1)) (oRun (nI x) (M, h)).2.1 ∧ zmh v1 m (oRun (nI x) (M, h)).2.2 ∧ zfr v v1 m 9)) G args s 0 0) G 3 sh v' N 18 [some (.ref m), some (.int (nI x)), some (.int (nI k))] [] := by
      intro n
      induction n with
      | zero => intro k v' hm; omega
      | succ n ih =>
        intro k v' hm hk e1 e2 e3
        refine r_iload_n C (pc := 18) rfl rfl dX7_run_18 ?_
        refine r_iload_n C (pc := 19) rfl rfl dX7_run_19 ?_
        refine n_icmp_ge C (pc := 20) (tgt := 33) (by omega) (by omega) dX7_run_20 (by decide) (fun c_20 => ?_) (fun c_20 => ?_)
        · refine r_aload_n C (pc := 33) rfl rfl dX7_run_33 ?_
          refine r_get C (pc := 34) (ci := 7) (k := 0) (w := .ref (m + 1)) rfl (by decide) inX7 (by decide) q_654 (Or.inl hd0) hs0 (zl_ref _ _) dX7_run_34 ?_
          refine r_bipush C (pc := 37) (x := (nI 61)) (by decide) dX7_run_37 ?_
          refine r_iald C (pc := 39) (x := (nI (((itk x M).2.1 3).length))) (Or.inl hd1) hs1 (by omega) (by omega) (by have hkx : k = x := (by omega); rw [hkx] at e1; exact (e1.2.1 3 (by decide)).1) dX7_run_39 ?_
          exact r_iret C (pc := 40) rfl (rfl) dX7_run_40 ⟨rfl, rfl, (by have ho : oRun (nI x) (M, h) = (nI ((itk x M).2.1 3).length, (itk x M, remH M h)) := (if_pos hc1).trans (by rw [nn_I (by omega)]); rw [ho]; have hkx : k = x := (by omega); rw [hkx] at e1; exact ⟨rfl, e1, e2, e3⟩)⟩
        · refine r_aload_n C (pc := 23) rfl rfl dX7_run_23 ?_
          refine r_callV C (pc := 24) (st := []) (m_X7_tick l G sh v' N (T := T + k) hp e1 (itk_G hI.1 k).1 (itk_G hI.1 k).2.1 (by omega)) kyX7_tick q_750 rfl (Or.inl hd0) hs0 (by decide) rfl rfl rfl (Nat.le_of_ble_eq_true rfl) ⟨Nat.le_of_ble_eq_true rfl, Nat.le_of_ble_eq_true rfl⟩ ⟨Nat.le_of_ble_eq_true rfl, Nat.le_of_ble_eq_true rfl⟩ dX7_run_24 (fun r24 v24 hp24 => ?_)
          obtain ⟨rfl, g4, g5⟩ := hp24
          refine VV.eq (st2 := []) rfl ?_
          refine r_iinc C (pc := 27) (lv2 := [some (.ref m), some (.int (nI x)), some (.int (nI (k + 1)))]) (y := (nI (k + 1))) rfl (nI_inc _ _) (Nat.le_of_ble_eq_true rfl) rfl rfl dX7_run_27 ?_
          refine r_goto C (pc := 30) (tgt := 18) dX7_run_30 (by decide) ?_
          exact ih (k + 1) v24 (by omega) (by omega) g4 (zmh_T e2 g5) (e3.tr g5.fr)
    exact loop (x + 1) 0 v13 (by omega) (by omega) (by rw [g2]; exact hv) g1 g3
  · refine r_iconst C (pc := 10) (x := (-1)) (by decide) dX7_run_10 ?_
    exact r_iret C (pc := 11) rfl (rfl) dX7_run_11 ⟨rfl, rfl, (by have ho : oRun a (M, h) = (-1, (M, h)) := if_neg (fun z => (of_decide_eq_false c_7) z); rw [ho]; exact ⟨rfl, hv, hh, zfr.rf⟩)⟩
set_option maxRecDepth 100000 in
set_option maxHeartbeats 4000000 in
theorem m_X7_inject (l : Launch) (G : zG) (sh : zH) (v : zV) (N : Nat) {m : Nat} {M : zMS} {h : zHs} {T : Nat} {a : Int32} (hp : zMD G sh N m) (hv : zwf (v (m + 1)) M) (hh : zmh v m h) (hI : zI T (M, h)) (hT : T + 1000 < 2 ^ 30) : zm l G yX7_inject cX7_inject 3 (some .int) 5 [.ref m, .int a] sh v N (fun r v1 => r = some (.int (oInject a (M, h)).1) ∧ zwf (v1 (m + 1)) (oInject a (M, h)).2.1 ∧ zmh v1 m (oInject a (M, h)).2.2 ∧ zfr v v1 m 9) := by
  refine zM.of (by decide) rfl (Nat.le_of_ble_eq_true rfl) ?_
  intro p e s mi args below meth c C
  obtain ⟨hB, hN, hs0, hs1, hs2, hs3, hs4, hs5, hs6, hs7, hs8⟩ := id hp
  have hd0 : G.2.2.1 ≤ m ∧ m < N := ⟨hB, by omega⟩
  have hd1 : G.2.2.1 ≤ m + 1 ∧ m + 1 < N := ⟨by omega, by omega⟩
  have hd2 : G.2.2.1 ≤ m + 2 ∧ m + 2 < N := ⟨by omega, by omega⟩
  have hd3 : G.2.2.1 ≤ m + 3 ∧ m + 3 < N := ⟨by omega, by omega⟩
  have hd4 : G.2.2.1 ≤ m + 4 ∧ m + 4 < N := ⟨by omega, by omega⟩
  have hd5 : G.2.2.1 ≤ m + 5 ∧ m + 5 < N := ⟨by omega, by omega⟩
  have hd6 : G.2.2.1 ≤ m + 6 ∧ m + 6 < N := ⟨by omega, by omega⟩
  have hd7 : G.2.2.1 ≤ m + 7 ∧ m + 7 < N := ⟨by omega, by omega⟩
  have hd8 : G.2.2.1 ≤ m + 8 ∧ m + 8 < N := ⟨by omega, by omega⟩
  have hE : zE M := hI.1.1
  have hk : mOK M := hE.1
  have hK2 := hk.1.1
  have hK12 := hk.1.2.1
  have hR3 := hk.1.2.2.1
  refine r_aload_n C (pc := 0) rfl rfl dX7_inject_0 ?_
  refine r_iload_n C (pc := 1) rfl rfl dX7_inject_1 ?_
  refine r_callV C (pc := 2) (st := []) (m_X7_isSet l G sh v N (a := a) hp hv hK12) kyX7_isSet q_836 rfl (Or.inl hd0) hs0 (by decide) rfl rfl rfl (Nat.le_of_ble_eq_true rfl) ⟨Nat.le_of_ble_eq_true rfl, Nat.le_of_ble_eq_true rfl⟩ ⟨Nat.le_of_ble_eq_true rfl, Nat.le_of_ble_eq_true rfl⟩ dX7_inject_2 (fun r2 v2 hp2 => ?_)
  obtain ⟨rfl, ehp2⟩ := hp2
  refine VV.vq ehp2 ?_
  refine VV.eq (st2 := [.int (zb (decide ((nI 1) ≤ a ∧ a ≤ (nI (2 ^ M.1 0 - 1)))))]) rfl ?_
  refine n_ifb_ne C (pc := 5) (tgt := 10) dX7_inject_5 (by decide) (fun c_5 => ?_) (fun c_5 => ?_)
  · have hc1 := (of_decide_eq_true c_5)
    have hp12 : 2 ^ M.1 0 ≤ 2 ^ 12 := Nat.pow_le_pow_right (by decide) hK12
    obtain ⟨x, hx1, hx2, rfl⟩ := inR (of_decide_eq_true c_5) (by decide) (by omega)
    obtain ⟨hpc, hpb⟩ := pkS_ok hE x
    have hpd : (pkS M x) / 256 = x := (pkn_div (mOK_V hk) _ hK12).trans (Nat.mod_eq_of_lt (by omega))
    have hpm : (pkS M x) % 256 = vln (zVl M) x (M.1 0) := pkn_mod (mOK_V hk) _ hK12
    refine r_aload_n C (pc := 10) rfl rfl dX7_inject_10 ?_
    refine r_callV C (pc := 11) (st := []) (m_X7_remember l G sh v N hp hv hh) kyX7_remember q_704 rfl (Or.inl hd0) hs0 (by decide) rfl rfl rfl (Nat.le_of_ble_eq_true rfl) ⟨Nat.le_of_ble_eq_true rfl, Nat.le_of_ble_eq_true rfl⟩ ⟨Nat.le_of_ble_eq_true rfl, Nat.le_of_ble_eq_true rfl⟩ dX7_inject_11 (fun r11 v11 hp11 => ?_)
    obtain ⟨rfl, g1, g2, g3⟩ := hp11
    refine VV.eq (st2 := []) rfl ?_
    refine r_aload_n C (pc := 14) rfl rfl dX7_inject_14 ?_
    refine r_iload_n C (pc := 15) rfl rfl dX7_inject_15 ?_
    refine r_aload_n C (pc := 16) rfl rfl dX7_inject_16 ?_
    refine r_iload_n C (pc := 17) rfl rfl dX7_inject_17 ?_
    refine r_callV C (pc := 18) (st := [.int (nI x), .ref m]) (m_X7_valueOf l G sh v11 N (x := x) hp (by rw [g2]; exact hv) (by omega) hK12) kyX7_valueOf q_766 rfl (Or.inl hd0) hs0 (by decide) rfl rfl rfl (Nat.le_of_ble_eq_true rfl) ⟨Nat.le_of_ble_eq_true rfl, Nat.le_of_ble_eq_true rfl⟩ ⟨Nat.le_of_ble_eq_true rfl, Nat.le_of_ble_eq_true rfl⟩ dX7_inject_18 (fun r18 v18 hp18 => ?_)
    obtain ⟨rfl, ehp18⟩ := hp18
    refine VV.vq ehp18 ?_
    refine VV.eq (st2 := [.int (nI (vln (zVl M) x (M.1 0))), .int (nI x), .ref m]) rfl ?_
    refine r_callV C (pc := 21) (st := []) ((by have hz := m_X7_arriveAtReceiver l G sh v11 N (x := (pkS M x)) (T := T) hp (by rw [g2]; exact hv) hk hpc hpb (hE.2.1 3 (by decide)) hE.2.2.2.2.1 hI.1.2.1 (by omega); rw [hpd, hpm] at hz; exact hz)) kyX7_arriveAtReceiver q_805 rfl (Or.inl hd0) hs0 (by decide) rfl rfl rfl (Nat.le_of_ble_eq_true rfl) ⟨Nat.le_of_ble_eq_true rfl, Nat.le_of_ble_eq_true rfl⟩ ⟨Nat.le_of_ble_eq_true rfl, Nat.le_of_ble_eq_true rfl⟩ dX7_inject_21 (fun r21 v21 hp21 => ?_)
    obtain ⟨rfl, g4, g5⟩ := hp21
    refine VV.eq (st2 := [.int (nI (if tkb (spo (M.2.1 3)) (pkS M x) then 1 else 0))]) rfl ?_
    refine r_istore_n C (pc := 24) (lv2 := [some (.ref m), some (.int (nI x)), some (.int (nI (if tkb (spo (M.2.1 3)) (pkS M x) then 1 else 0)))]) rfl (Nat.le_of_ble_eq_true rfl) rfl rfl dX7_inject_24 ?_
    refine r_aload_n C (pc := 25) rfl rfl dX7_inject_25 ?_
    refine r_callV C (pc := 26) (st := []) (m_X7_note l G sh v21 N hp g4 (by dsimp only [mAcc0]; rw [upc_n (by decide), upc_n (by decide)]; have := hk.2.2.2.2.2; omega)) kyX7_note q_828 rfl (Or.inl hd0) hs0 (by decide) rfl rfl rfl (Nat.le_of_ble_eq_true rfl) ⟨Nat.le_of_ble_eq_true rfl, Nat.le_of_ble_eq_true rfl⟩ ⟨Nat.le_of_ble_eq_true rfl, Nat.le_of_ble_eq_true rfl⟩ dX7_inject_26 (fun r26 v26 hp26 => ?_)
    obtain ⟨rfl, g6, g7⟩ := hp26
    refine VV.eq (st2 := []) rfl ?_
    refine r_iload_n C (pc := 29) rfl rfl dX7_inject_29 ?_
    exact r_iret C (pc := 30) rfl (rfl) dX7_inject_30 ⟨rfl, rfl, (by have ho : oInject (nI x) (M, h) = (nI (if tkb (spo (M.2.1 3)) (pkS M x) then 1 else 0), (mAcc M (pkS M x), remH M h)) := (if_pos hc1).trans (by rw [nn_I (by omega)]); rw [ho]; exact ⟨rfl, (by rw [← mAcc_note]; exact g6), zmh_T (zmh_T g1 g5.T) g7.B.T, (g3.tr g5.T.fr).tr g7.B.T.fr⟩)⟩
  · refine r_iconst C (pc := 8) (x := (-1)) (by decide) dX7_inject_8 ?_
    exact r_iret C (pc := 9) rfl (rfl) dX7_inject_9 ⟨rfl, rfl, (by have ho : oInject a (M, h) = (-1, (M, h)) := if_neg (fun z => (of_decide_eq_false c_5) z); rw [ho]; exact ⟨rfl, hv, hh, zfr.rf⟩)⟩
