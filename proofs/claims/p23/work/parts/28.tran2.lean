theorem zt_work {v v1 : zV} {t : Nat} {M : zMS} (h : zt v t M) (f : zfr v v1 (t + 20) 2) : zt v1 t M := h.kept (fun b h1 h2 h3 h4 h5 => f b (by omega))
theorem zt_onl {v v1 : zV} {t : Nat} {M : zMS} (h : zt v t M) (f : zfr v v1 (t + 19) 1) : zt v1 t M := h.kept (fun b h1 h2 h3 h4 h5 => f b (by omega))
theorem con_nz {V : Nat → Nat} {p : Nat} (h : con V p) : p = 0 ↔ p / 256 = 0 := by
  constructor
  · intro e; rw [e]
  · intro e
    have h2 := h.2
    rw [e, vln_0] at h2
    have := Nat.div_add_mod p 256
    omega
theorem fr_on {v v1 : zV} {a n b : Nat} (f : zfr v v1 a n) (h : b < a ∨ a + n ≤ b) : v1 b = v b := f b h
theorem fdg_29 (c : Nat → Nat) (y x : Nat) : ∀ n d, d + n ≤ 6 → fdg (upc c 29 y) x n d = fdg c x n d
  | 0, _, _ => rfl
  | n + 1, d, h => by
    show (if _ then _ else _) = (if _ then _ else _)
    rw [fdg_29 c y x n (d + 1) (by omega), wsn_of (fun i h1 h2 => upc_n (by omega)) d (by omega)]
theorem deg_29 (c : Nat → Nat) (y x : Nat) : deg (upc c 29 y) x = deg c x := by
  unfold deg
  rw [fdg_29 c y x 5 1 (by decide), upc_n (show (0 : Nat) ≠ 29 by decide)]
theorem pkn_29 (c : Nat → Nat) (y x : Nat) : ∀ n, n ≤ 12 → pkn (upc c 29 y) x n = pkn c x n
  | 0, _ => rfl
  | n + 1, h => by
    show (if _ then _ else _) = (if _ then _ else _)
    rw [pkn_29 c y x n (by omega), upc_n (show 17 + n ≠ 29 by omega)]
set_option maxRecDepth 100000 in
set_option maxHeartbeats 4000000 in
theorem m_X5_make (l : Launch) (G : zG) (sh : zH) (v : zV) (N : Nat) {t : Nat} {M : zMS} {n : Nat} (hp : zTR G sh N t) (hv : zt v t M) (hk : mOK M) (hn : n ≤ M.1 1) : zm l G yX5_make cX5_make 3 (some .int) 4 [.ref t, .int (nI n)] sh v N (fun r v1 => r = some (.int (nI (mMk M n).1)) ∧ zt v1 t (mMk M n).2 ∧ v1 (t + 19) = v (t + 19) ∧ zfr v v1 t 28) := by
  refine zM.of (by decide) rfl (Nat.le_of_ble_eq_true rfl) ?_
  intro p e s m args below meth c C
  obtain ⟨tB, tN, hs0, tse, hs5, trc, hs19, tsp, tst⟩ := id hp
  have hd0 : G.2.2.1 ≤ t ∧ t < N := ⟨by omega, by omega⟩
  have hd1 : G.2.2.1 ≤ t + 1 ∧ t + 1 < N := ⟨by omega, by omega⟩
  have hd5 : G.2.2.1 ≤ t + 5 ∧ t + 5 < N := ⟨by omega, by omega⟩
  have hd6 : G.2.2.1 ≤ t + 6 ∧ t + 6 < N := ⟨by omega, by omega⟩
  have hd19 : G.2.2.1 ≤ t + 19 ∧ t + 19 < N := ⟨by omega, by omega⟩
  have hd20 : G.2.2.1 ≤ t + 20 ∧ t + 20 < N := ⟨by omega, by omega⟩
  have hd61 : G.2.2.1 ≤ t + 6 + 1 ∧ t + 6 + 1 < N := ⟨by omega, by omega⟩
  have hd65 : G.2.2.1 ≤ t + 6 + 5 ∧ t + 6 + 5 < N := ⟨by omega, by omega⟩
  have hd610 : G.2.2.1 ≤ t + 6 + 10 ∧ t + 6 + 10 < N := ⟨by omega, by omega⟩
  have hd68 : G.2.2.1 ≤ t + 6 + 8 ∧ t + 6 + 8 < N := ⟨by omega, by omega⟩
  have hs1 := tse.2.2.1
  have hs6 := trc.2.2.1
  have hs20 := tsp.2.2.1
  have hs61 := trc.2.2.2.1.2.2.2.1
  have hs65 := trc.2.2.2.2.2.1.2.2.1
  have hs68 := trc.2.2.2.2.2.2.1.2.2.2.1
  have hs610 := trc.2.2.2.2.2.2.2.2.2.1
  have hR := hk.1.2.2.1
  refine r_iload_n C (pc := 0) rfl rfl dX5_make_0 ?_
  refine n_if_ne C (pc := 1) (tgt := 22) (by omega) dX5_make_1 (by decide) (fun c_1 => ?_) (fun c_1 => ?_)
  · have hi : n - 1 < 3 := by omega
    have hpa := tst (n - 1) hi
    have hva := hv.2.2.2.2.1 (n - 1) hi
    have hda : G.2.2.1 ≤ t + 22 + 2 * (n - 1) ∧ t + 22 + 2 * (n - 1) < N := ⟨hpa.1, by have := hpa.2.1; omega⟩
    have ha0 := hpa.2.2.2.1
    have hl4 : (M.2.1 (n - 1)).length ≤ 4 := hva.2.1
    have hmk : mMk M n = mRel M (n - 1) := if_neg (by omega)
    refine r_aload_n C (pc := 22) rfl rfl dX5_make_22 ?_
    refine r_iload_n C (pc := 23) rfl rfl dX5_make_23 ?_
    refine r_callV C (pc := 24) (st := []) (m_X5_listOf l G sh v N hp hv hk (n := n) (by omega)) kyX5_listOf q_515 rfl (Or.inl hd0) hs0 (by decide) rfl rfl rfl (Nat.le_of_ble_eq_true rfl) ⟨Nat.le_of_ble_eq_true rfl, Nat.le_of_ble_eq_true rfl⟩ ⟨Nat.le_of_ble_eq_true rfl, Nat.le_of_ble_eq_true rfl⟩ dX5_make_24 (fun r24 v24 hp24 => ?_)
    obtain ⟨rfl, ehp24⟩ := hp24
    refine VV.vq ehp24 ?_
    rw [if_neg (by omega), if_pos (by omega)]
    refine VV.eq (st2 := [.ref (t + 22 + 2 * (n - 1))]) rfl ?_
    refine r_astore_n C (pc := 27) (lv2 := [some (.ref t), some (.int (nI n)), some (.ref (t + 22 + 2 * (n - 1)))]) rfl (Nat.le_of_ble_eq_true rfl) rfl rfl dX5_make_27 ?_
    refine r_aload_n C (pc := 28) rfl rfl dX5_make_28 ?_
    refine r_ifnull C (pc := 29) dX5_make_29 ?_
    refine r_aload_n C (pc := 32) rfl rfl dX5_make_32 ?_
    refine r_getN C (pc := 33) (ci := 1) (k := 1) (w := .int (nI ((M.2.1 (n - 1)).length))) rfl (by decide) inX1 (by decide) q_122 (Or.inl hda) ha0 (zl_i (hva.1)) dX5_make_33 ?_
    refine n_if_ne C (pc := 36) (tgt := 41) (by omega) dX5_make_36 (by decide) (fun c_36 => ?_) (fun c_36 => ?_)
    · refine r_aload_n C (pc := 41) rfl rfl dX5_make_41 ?_
      refine r_get C (pc := 42) (ci := 5) (k := 0) (w := .ref (t + 1)) rfl (by decide) inX5 (by decide) q_200 (Or.inl hd0) hs0 (zl_ref _ _) dX5_make_42 ?_
      refine r_getN C (pc := 45) (ci := 3) (k := 7) (w := .int (nI (M.1 5))) rfl (by decide) inX3 (by decide) q_78 (Or.inl hd1) hs1 (zl_i (hv.2.2.2.1.2.2.2.2.1)) dX5_make_45 ?_
      refine r_iconst C (pc := 48) (x := (nI 1)) (by decide) dX5_make_48 ?_
      refine n_icmp_ne C (pc := 49) (tgt := 60) (by have := hk.1.2.2.2.2.2.2.1; omega) (by decide) dX5_make_49 (by decide) (fun c_49 => ?_) (fun c_49 => ?_)
      · refine r_aload_n C (pc := 60) rfl rfl dX5_make_60 ?_
        refine r_aload_n C (pc := 61) rfl rfl dX5_make_61 ?_
        refine r_callV C (pc := 62) (st := []) (m_X5_forward l G sh v N hp hv hk hi (by omega)) kyX5_forward q_526 rfl (Or.inl hd0) hs0 (by decide) rfl rfl rfl (Nat.le_of_ble_eq_true rfl) ⟨Nat.le_of_ble_eq_true rfl, Nat.le_of_ble_eq_true rfl⟩ ⟨Nat.le_of_ble_eq_true rfl, Nat.le_of_ble_eq_true rfl⟩ dX5_make_62 (fun r62 v62 hp62 => ?_)
        obtain ⟨rfl, g1, g2⟩ := hp62
        refine VV.eq (st2 := [.int (nI ((M.2.1 (n - 1)).getD 0 0))]) rfl ?_
        exact r_iret C (pc := 65) rfl (rfl) dX5_make_65 ⟨rfl, rfl, (by rw [hmk, show mRel M (n - 1) = _ from (if_neg (by omega)).trans (if_neg c_49)]), (by rw [hmk, show mRel M (n - 1) = _ from (if_neg (by omega)).trans (if_neg c_49)]; exact g1), (g2 _ (by omega)), g2.wide (by omega) (by omega)⟩
      · refine r_aload_n C (pc := 52) rfl rfl dX5_make_52 ?_
        refine r_aload_n C (pc := 53) rfl rfl dX5_make_53 ?_
        refine r_callV C (pc := 54) (st := []) (m_X5_recode l G sh v N hp hv hk hi (by omega)) kyX5_recode q_519 rfl (Or.inl hd0) hs0 (by decide) rfl rfl rfl (Nat.le_of_ble_eq_true rfl) ⟨Nat.le_of_ble_eq_true rfl, Nat.le_of_ble_eq_true rfl⟩ ⟨Nat.le_of_ble_eq_true rfl, Nat.le_of_ble_eq_true rfl⟩ dX5_make_54 (fun r54 v54 hp54 => ?_)
        obtain ⟨rfl, g1, g2⟩ := hp54
        refine VV.eq (st2 := [.int (nI (rcp (M.2.1 (n - 1)) (rcs (M.2.1 (n - 1)) (M.1 6) (M.2.1 (n - 1)).length)))]) rfl ?_
        refine r_goto C (pc := 57) (tgt := 65) dX5_make_57 (by decide) ?_
        exact r_iret C (pc := 65) rfl (rfl) dX5_make_65 ⟨rfl, rfl, (by rw [hmk, show mRel M (n - 1) = _ from (if_neg (by omega)).trans (if_pos c_49)]), (by rw [hmk, show mRel M (n - 1) = _ from (if_neg (by omega)).trans (if_pos c_49)]; exact g1), (g2 _ (by omega)), g2.wide (by omega) (by omega)⟩
    · refine r_iconst C (pc := 39) (x := (nI 0)) (by decide) dX5_make_39 ?_
      exact r_iret C (pc := 40) rfl (rfl) dX5_make_40 ⟨rfl, rfl, (by rw [hmk, show mRel M (n - 1) = (0, M) from if_pos (by omega)]), (by rw [hmk, show mRel M (n - 1) = (0, M) from if_pos (by omega)]; exact hv), rfl, zfr.rf⟩
  · have hmk : mMk M n = mSrc M := if_pos c_1
    have hc0 : (upc M.1 29 (M.1 29 + 1)) 0 = M.1 0 := upc_n (by decide)
    have hc6 : (upc M.1 29 (M.1 29 + 1)) 6 = M.1 6 := upc_n (by decide)
    have hws : wsn (upc M.1 29 (M.1 29 + 1)) 6 = wsn M.1 6 := wsn_of (fun i h1 h2 => upc_n (by omega)) 6 (Nat.le_refl 6)
    have hdg : deg (upc M.1 29 (M.1 29 + 1)) (drw (M.1 6) (wsn M.1 6)) = deg M.1 (drw (M.1 6) (wsn M.1 6)) := deg_29 _ _ _
    have hpk : (mMk M n).1 = pkn (upc M.1 29 (M.1 29 + 1)) (dsn ((upc M.1 29 (M.1 29 + 1)) 0) (dseed ((upc M.1 29 (M.1 29 + 1)) 6), deg (upc M.1 29 (M.1 29 + 1)) (drw ((upc M.1 29 (M.1 29 + 1)) 6) (wsn (upc M.1 29 (M.1 29 + 1)) 6)), 0) ((upc M.1 29 (M.1 29 + 1)) 0)).2.2 ((upc M.1 29 (M.1 29 + 1)) 0) := by
      rw [hmk, hc0, hc6, hws, hdg, pkn_29 _ _ _ _ hk.1.2.1]
      rfl
    refine r_aload_n C (pc := 4) rfl rfl dX5_make_4 ?_
    refine r_dup C (pc := 5) rfl dX5_make_5 ?_
    refine r_get C (pc := 6) (ci := 5) (k := 4) (w := .int (nI (M.1 29))) rfl (by decide) inX5 (by decide) q_207 (Or.inl hd0) hs0 (zl_i (hv.2.1)) dX5_make_6 ?_
    refine r_iconst C (pc := 9) (x := (nI 1)) (by decide) dX5_make_9 ?_
    refine r_iadd C (pc := 10) (z := (nI ((M.1 29) + 1))) (nI_add _ _) dX5_make_10 ?_
    refine r_put C (pc := 11) (ci := 5) (k := 4) rfl (by decide) inX5 tyX5_ok nmX5 (by decide) rfl pfI rfl q_207 hd0 hs0 dX5_make_11 ?_
    refine VV.gn (fun w11 ew11 => ?_)
    have e1 : zt w11 t ((upc M.1 29 (M.1 29 + 1)), M.2) := by rw [ew11]; exact zt_f hv (Or.inr (Or.inl ⟨rfl, rfl⟩))
    refine r_aload_n C (pc := 14) rfl rfl dX5_make_14 ?_
    refine r_get C (pc := 15) (ci := 5) (k := 0) (w := .ref (t + 1)) rfl (by decide) inX5 (by decide) q_200 (Or.inl hd0) hs0 (zl_ref _ _) dX5_make_15 ?_
    refine r_callV C (pc := 18) (st := []) (m_X3_drawPacket l G sh w11 N tse e1.2.2.2.1 (sOK_of hk.1 (by dsimp only; rw [upc_n (by decide)]; exact hk.1.2.2.2.2.2.2.2.1) (fun i h1 h2 h3 => upc_n (by omega))) (by rw [wsn_of (fun i h1 h2 => upc_n (by omega)) 6 (Nat.le_refl 6)]; exact hk.2.1)) kyX3_drawPacket q_496 rfl (Or.inl hd1) hs1 (by decide) rfl rfl rfl (Nat.le_of_ble_eq_true rfl) ⟨Nat.le_of_ble_eq_true rfl, Nat.le_of_ble_eq_true rfl⟩ ⟨Nat.le_of_ble_eq_true rfl, Nat.le_of_ble_eq_true rfl⟩ dX5_make_18 (fun r18 v18 hp18 => ?_)
    obtain ⟨rfl, g1, g2⟩ := hp18
    refine VV.eq (st2 := [.int (nI (pkn (upc M.1 29 (M.1 29 + 1)) (dsn ((upc M.1 29 (M.1 29 + 1)) 0) (dseed ((upc M.1 29 (M.1 29 + 1)) 6), deg (upc M.1 29 (M.1 29 + 1)) (drw ((upc M.1 29 (M.1 29 + 1)) 6) (wsn (upc M.1 29 (M.1 29 + 1)) 6)), 0) ((upc M.1 29 (M.1 29 + 1)) 0)).2.2 ((upc M.1 29 (M.1 29 + 1)) 0)))]) rfl ?_
    rw [← hpk]
    exact r_iret C (pc := 21) rfl (rfl) dX5_make_21 ⟨rfl, rfl, rfl, (by
        have g3 := zt_set e1 g1 g2 (fun j hj => upc_n (by omega))
        rw [hmk]
        dsimp only at g3
        rw [hc0, hc6, hws, hdg] at g3
        exact g3), (by rw [g2 _ (by omega), ew11, z2_addr (by omega)]), (fun b hb => by rw [g2 b (by omega), ew11, z2_addr (by omega)])⟩
set_option maxRecDepth 100000 in
set_option maxHeartbeats 4000000 in
theorem m_X5_store (l : Launch) (G : zG) (sh : zH) (v : zV) (N : Nat) {t i x : Nat} {M : zMS} (hp : zTR G sh N t) (hv : zt v t M) (hk : mOK M) (hi : i < 3) (hx : con (zVl M) x) : zm l G yX5_store cX5_store 4 none 4 [.ref t, .ref (t + 22 + 2 * i), .int (nI x)] sh v N (fun r v1 => r = none ∧ zt v1 t (mSto M i x) ∧ v1 (t + 19) = v (t + 19) ∧ zfr v v1 t 28) := by
  refine zM.of (by decide) rfl (Nat.le_of_ble_eq_true rfl) ?_
  intro p e s m args below meth c C
  obtain ⟨tB, tN, hs0, tse, hs5, trc, hs19, tsp, tst⟩ := id hp
  have hd0 : G.2.2.1 ≤ t ∧ t < N := ⟨by omega, by omega⟩
  have hd1 : G.2.2.1 ≤ t + 1 ∧ t + 1 < N := ⟨by omega, by omega⟩
  have hd5 : G.2.2.1 ≤ t + 5 ∧ t + 5 < N := ⟨by omega, by omega⟩
  have hd6 : G.2.2.1 ≤ t + 6 ∧ t + 6 < N := ⟨by omega, by omega⟩
  have hd19 : G.2.2.1 ≤ t + 19 ∧ t + 19 < N := ⟨by omega, by omega⟩
  have hd20 : G.2.2.1 ≤ t + 20 ∧ t + 20 < N := ⟨by omega, by omega⟩
  have hd61 : G.2.2.1 ≤ t + 6 + 1 ∧ t + 6 + 1 < N := ⟨by omega, by omega⟩
  have hd65 : G.2.2.1 ≤ t + 6 + 5 ∧ t + 6 + 5 < N := ⟨by omega, by omega⟩
  have hd610 : G.2.2.1 ≤ t + 6 + 10 ∧ t + 6 + 10 < N := ⟨by omega, by omega⟩
  have hd68 : G.2.2.1 ≤ t + 6 + 8 ∧ t + 6 + 8 < N := ⟨by omega, by omega⟩
  have hs1 := tse.2.2.1
  have hs6 := trc.2.2.1
  have hs20 := tsp.2.2.1
  have hs61 := trc.2.2.2.1.2.2.2.1
  have hs65 := trc.2.2.2.2.2.1.2.2.1
  have hs68 := trc.2.2.2.2.2.2.1.2.2.2.1
  have hs610 := trc.2.2.2.2.2.2.2.2.2.1
  have hpa := hp.2.2.2.2.2.2.2.2 i hi
  have hva := hv.2.2.2.2.1 i hi
  have hda : G.2.2.1 ≤ t + 22 + 2 * i ∧ t + 22 + 2 * i < N := ⟨hpa.1, by have := hpa.2.1; omega⟩
  have ha0 := hpa.2.2.2.1
  have hl4 : (M.2.1 i).length ≤ 4 := hva.2.1
  have hcl := hk.2.2.1 i (by omega)
  have hps : ∀ q ∈ M.2.1 i, q < 2 ^ 20 := fun q hq => (hcl q hq).1
  have hro := hk.1.2.2.2.1
  have hro2 := hk.1.2.2.2.2.1
  have hpo := hk.1.2.2.2.2.2.1
  refine r_aload_n C (pc := 0) rfl rfl dX5_store_0 ?_
  refine r_ifnull C (pc := 1) dX5_store_1 ?_
  refine r_aload_n C (pc := 4) rfl rfl dX5_store_4 ?_
  refine r_get C (pc := 5) (ci := 5) (k := 0) (w := .ref (t + 1)) rfl (by decide) inX5 (by decide) q_200 (Or.inl hd0) hs0 (zl_ref _ _) dX5_store_5 ?_
  refine r_getN C (pc := 8) (ci := 3) (k := 6) (w := .int (nI (M.1 4))) rfl (by decide) inX3 (by decide) q_76 (Or.inl hd1) hs1 (zl_i (hv.2.2.2.1.2.2.2.1)) dX5_store_8 ?_
  refine r_iconst C (pc := 11) (x := (nI 2)) (by decide) dX5_store_11 ?_
  refine n_icmp_ne C (pc := 12) (tgt := 25) (by omega) (by decide) dX5_store_12 (by decide) (fun c_12 => ?_) (fun c_12 => ?_)
  · refine r_aload_n C (pc := 25) rfl rfl dX5_store_25 ?_
    refine r_getN C (pc := 26) (ci := 1) (k := 1) (w := .int (nI ((M.2.1 i).length))) rfl (by decide) inX1 (by decide) q_122 (Or.inl hda) ha0 (zl_i ((hv.2.2.2.2.1 i hi).1)) dX5_store_26 ?_
    refine r_aload_n C (pc := 29) rfl rfl dX5_store_29 ?_
    refine r_get C (pc := 30) (ci := 5) (k := 0) (w := .ref (t + 1)) rfl (by decide) inX5 (by decide) q_200 (Or.inl hd0) hs0 (zl_ref _ _) dX5_store_30 ?_
    refine r_getN C (pc := 33) (ci := 3) (k := 5) (w := .int (nI (M.1 3))) rfl (by decide) inX3 (by decide) q_72 (Or.inl hd1) hs1 (zl_i (hv.2.2.2.1.2.2.1)) dX5_store_33 ?_
    refine n_icmp_ge C (pc := 36) (tgt := 45) (by omega) (by omega) dX5_store_36 (by decide) (fun c_36 => ?_) (fun c_36 => ?_)
    · refine r_aload_n C (pc := 45) rfl rfl dX5_store_45 ?_
      refine r_get C (pc := 46) (ci := 5) (k := 0) (w := .ref (t + 1)) rfl (by decide) inX5 (by decide) q_200 (Or.inl hd0) hs0 (zl_ref _ _) dX5_store_46 ?_
      refine r_getN C (pc := 49) (ci := 3) (k := 6) (w := .int (nI (M.1 4))) rfl (by decide) inX3 (by decide) q_76 (Or.inl hd1) hs1 (zl_i (hv.2.2.2.1.2.2.2.1)) dX5_store_49 ?_
      rcases (show M.1 4 = 0 ∨ M.1 4 = 1 ∨ M.1 4 = 2 ∨ M.1 4 = 3 by omega) with h4 | h4 | h4 | h4
      · refine r_tableOut C (pc := 52) (tgt := 118) dX5_store_52 (Or.inl (by rw [h4]; decide)) (by decide) ?_
        refine r_aload_n C (pc := 118) rfl rfl dX5_store_118 ?_
        refine r_iconst C (pc := 119) (x := (nI 0)) (by decide) dX5_store_119 ?_
        refine r_callV C (pc := 120) (st := []) (m_X1_removeAt l G sh v N (k := 0) hpa (hv.2.2.2.2.1 i hi) (by omega)) kyX1_removeAt q_530 rfl (Or.inl hda) ha0 (by decide) rfl rfl rfl (Nat.le_of_ble_eq_true rfl) ⟨Nat.le_of_ble_eq_true rfl, Nat.le_of_ble_eq_true rfl⟩ ⟨Nat.le_of_ble_eq_true rfl, Nat.le_of_ble_eq_true rfl⟩ dX5_store_120 (fun r120 v120 hp120 => ?_)
        obtain ⟨rfl, g3, g4⟩ := hp120
        refine VV.eq (st2 := [.int (nI ((M.2.1 i).getD 0 0))]) rfl ?_
        refine r_pop C (pc := 123) rfl dX5_store_123 ?_
        refine r_aload_n C (pc := 124) rfl rfl dX5_store_124 ?_
        refine r_iload_n C (pc := 125) rfl rfl dX5_store_125 ?_
        refine r_callV C (pc := 126) (st := []) (m_X1_append l G sh v120 N (q := x) hpa g3 (by rw [List.length_eraseIdx_of_lt (by omega)]; omega)) kyX1_append q_531 rfl (Or.inl hda) ha0 (by decide) rfl rfl rfl (Nat.le_of_ble_eq_true rfl) ⟨Nat.le_of_ble_eq_true rfl, Nat.le_of_ble_eq_true rfl⟩ ⟨Nat.le_of_ble_eq_true rfl, Nat.le_of_ble_eq_true rfl⟩ dX5_store_126 (fun r126 v126 hp126 => ?_)
        obtain ⟨rfl, g5, g6⟩ := hp126
        refine VV.eq (st2 := []) rfl ?_
        exact r_vret C (pc := 129) rfl dX5_store_129 ⟨rfl, rfl, rfl, (by rw [show mSto M i x = _ from (if_neg (fun z => c_12 z.1)).trans ((if_neg (by omega)).trans ((if_neg (by omega)).trans ((if_neg (by omega)).trans (if_neg (by omega)))))]; exact zt_st hv hi g5 (g4.tr g6)), ((g4.tr g6) _ (by omega)), (g4.tr g6).wide (b := t) (m := 28) (by omega) (by omega)⟩
      · refine r_tableIn C (pc := 52) (off := 28) (tgt := 80) dX5_store_52 (by rw [h4]; decide) (by rw [h4]; decide) (by rw [h4]; rfl) (by decide) ?_
        exact r_vret C (pc := 80) rfl dX5_store_80 ⟨rfl, rfl, rfl, (by rw [show mSto M i x = _ from (if_neg (fun z => c_12 z.1)).trans ((if_neg (by omega)).trans (if_pos (by omega)))]; exact hv), rfl, zfr.rf⟩
      · exact absurd h4 c_12
      · refine r_tableIn C (pc := 52) (off := 45) (tgt := 97) dX5_store_52 (by rw [h4]; decide) (by rw [h4]; decide) (by rw [h4]; rfl) (by decide) ?_
        refine r_aload_n C (pc := 97) rfl rfl dX5_store_97 ?_
        refine r_iconst C (pc := 98) (x := (nI 0)) (by decide) dX5_store_98 ?_
        refine r_callV C (pc := 99) (st := []) (m_X1_removeAt l G sh v N (k := 0) hpa (hv.2.2.2.2.1 i hi) (by omega)) kyX1_removeAt q_530 rfl (Or.inl hda) ha0 (by decide) rfl rfl rfl (Nat.le_of_ble_eq_true rfl) ⟨Nat.le_of_ble_eq_true rfl, Nat.le_of_ble_eq_true rfl⟩ ⟨Nat.le_of_ble_eq_true rfl, Nat.le_of_ble_eq_true rfl⟩ dX5_store_99 (fun r99 v99 hp99 => ?_)
        obtain ⟨rfl, g3, g4⟩ := hp99
        refine VV.eq (st2 := [.int (nI ((M.2.1 i).getD 0 0))]) rfl ?_
        refine r_iload_n C (pc := 102) rfl rfl dX5_store_102 ?_
        refine r_ixor C (pc := 103) (z := (nI ((M.2.1 i).getD 0 0 ^^^ x))) (nx_xor _ _) dX5_store_103 ?_
        have hcx : con (zVl M) ((M.2.1 i).getD 0 0 ^^^ x) := con_xor (con_gd hcl) hx
        have hcx1 := hcx.1
        refine r_istore_n C (pc := 104) (lv2 := [some (.ref t), some (.ref (t + 22 + 2 * i)), some (.int (nI x)), some (.int (nI ((M.2.1 i).getD 0 0 ^^^ x)))]) rfl (Nat.le_of_ble_eq_true rfl) rfl rfl dX5_store_104 ?_
        refine r_iload_n C (pc := 105) rfl rfl dX5_store_105 ?_
        refine r_callSN C (pc := 106) (st := []) (m_X6_setIn l G sh v99 N (q := (M.2.1 i).getD 0 0 ^^^ x) (by omega)) kyX6_setIn q_525 rfl rfl (Nat.le_of_ble_eq_true rfl) ⟨Nat.le_of_ble_eq_true rfl, Nat.le_of_ble_eq_true rfl⟩ ⟨Nat.le_of_ble_eq_true rfl, Nat.le_of_ble_eq_true rfl⟩ dX5_store_106 (fun r106 v106 hp106 => ?_)
        obtain ⟨rfl, ehp106⟩ := hp106
        refine VV.vq ehp106 ?_
        refine VV.eq (st2 := [.int (nI (((M.2.1 i).getD 0 0 ^^^ x) / 256))]) rfl ?_
        refine n_if_eq C (pc := 109) (tgt := 117) (by omega) dX5_store_109 (by decide) (fun c_109 => ?_) (fun c_109 => ?_)
        · exact r_vret C (pc := 117) rfl dX5_store_117 ⟨rfl, rfl, rfl, (by rw [show mSto M i x = _ from (if_neg (fun z => c_12 z.1)).trans ((if_neg (by omega)).trans ((if_neg (by omega)).trans ((if_neg (by omega)).trans (if_pos (by omega)))))]; rw [if_pos c_109]; exact zt_st hv hi g3 g4), (g4 _ (by omega)), g4.wide (b := t) (m := 28) (by omega) (by omega)⟩
        · refine r_aload_n C (pc := 112) rfl rfl dX5_store_112 ?_
          refine r_iload_n C (pc := 113) rfl rfl dX5_store_113 ?_
          refine r_callV C (pc := 114) (st := []) (m_X1_append l G sh v99 N (q := (M.2.1 i).getD 0 0 ^^^ x) hpa g3 (by rw [List.length_eraseIdx_of_lt (by omega)]; omega)) kyX1_append q_531 rfl (Or.inl hda) ha0 (by decide) rfl rfl rfl (Nat.le_of_ble_eq_true rfl) ⟨Nat.le_of_ble_eq_true rfl, Nat.le_of_ble_eq_true rfl⟩ ⟨Nat.le_of_ble_eq_true rfl, Nat.le_of_ble_eq_true rfl⟩ dX5_store_114 (fun r114 v114 hp114 => ?_)
          obtain ⟨rfl, g5, g6⟩ := hp114
          refine VV.eq (st2 := []) rfl ?_
          exact r_vret C (pc := 117) rfl dX5_store_117 ⟨rfl, rfl, rfl, (by rw [show mSto M i x = _ from (if_neg (fun z => c_12 z.1)).trans ((if_neg (by omega)).trans ((if_neg (by omega)).trans ((if_neg (by omega)).trans (if_pos (by omega)))))]; rw [if_neg (by omega)]; exact zt_st hv hi g5 (g4.tr g6)), ((g4.tr g6) _ (by omega)), (g4.tr g6).wide (b := t) (m := 28) (by omega) (by omega)⟩
    · refine r_aload_n C (pc := 39) rfl rfl dX5_store_39 ?_
      refine r_iload_n C (pc := 40) rfl rfl dX5_store_40 ?_
      refine r_callV C (pc := 41) (st := []) (m_X1_append l G sh v N (q := x) hpa (hv.2.2.2.2.1 i hi) (by omega)) kyX1_append q_531 rfl (Or.inl hda) ha0 (by decide) rfl rfl rfl (Nat.le_of_ble_eq_true rfl) ⟨Nat.le_of_ble_eq_true rfl, Nat.le_of_ble_eq_true rfl⟩ ⟨Nat.le_of_ble_eq_true rfl, Nat.le_of_ble_eq_true rfl⟩ dX5_store_41 (fun r41 v41 hp41 => ?_)
      obtain ⟨rfl, g3, g4⟩ := hp41
      refine VV.eq (st2 := []) rfl ?_
      exact r_vret C (pc := 44) rfl dX5_store_44 ⟨rfl, rfl, rfl, (by rw [show mSto M i x = _ from (if_neg (fun z => c_12 z.1)).trans (if_pos c_36)]; exact zt_st hv hi g3 g4), (g4 _ (by omega)), g4.wide (b := t) (m := 28) (by omega) (by omega)⟩
  · refine r_aload_n C (pc := 15) rfl rfl dX5_store_15 ?_
    refine r_aload_n C (pc := 16) rfl rfl dX5_store_16 ?_
    refine r_iload_n C (pc := 17) rfl rfl dX5_store_17 ?_
    refine r_callV C (pc := 18) (st := []) (m_X5_isNovelFor l G sh v N hp hpa hva (by omega) hps hx.1) kyX5_isNovelFor q_541 rfl (Or.inl hd0) hs0 (by decide) rfl rfl rfl (Nat.le_of_ble_eq_true rfl) ⟨Nat.le_of_ble_eq_true rfl, Nat.le_of_ble_eq_true rfl⟩ ⟨Nat.le_of_ble_eq_true rfl, Nat.le_of_ble_eq_true rfl⟩ dX5_store_18 (fun r18 v18 hp18 => ?_)
    obtain ⟨rfl, g2⟩ := hp18
    refine VV.eq (st2 := [.int (zb (nov (M.2.1 i) x))]) rfl ?_
    have hv2 := zt_work hv g2
    refine n_ifb_ne C (pc := 21) (tgt := 25) dX5_store_21 (by decide) (fun c_21 => ?_) (fun c_21 => ?_)
    · refine r_aload_n C (pc := 25) rfl rfl dX5_store_25 ?_
      refine r_getN C (pc := 26) (ci := 1) (k := 1) (w := .int (nI ((M.2.1 i).length))) rfl (by decide) inX1 (by decide) q_122 (Or.inl hda) ha0 (zl_i ((hv2.2.2.2.2.1 i hi).1)) dX5_store_26 ?_
      refine r_aload_n C (pc := 29) rfl rfl dX5_store_29 ?_
      refine r_get C (pc := 30) (ci := 5) (k := 0) (w := .ref (t + 1)) rfl (by decide) inX5 (by decide) q_200 (Or.inl hd0) hs0 (zl_ref _ _) dX5_store_30 ?_
      refine r_getN C (pc := 33) (ci := 3) (k := 5) (w := .int (nI (M.1 3))) rfl (by decide) inX3 (by decide) q_72 (Or.inl hd1) hs1 (zl_i (hv2.2.2.2.1.2.2.1)) dX5_store_33 ?_
      refine n_icmp_ge C (pc := 36) (tgt := 45) (by omega) (by omega) dX5_store_36 (by decide) (fun c_36 => ?_) (fun c_36 => ?_)
      · refine r_aload_n C (pc := 45) rfl rfl dX5_store_45 ?_
        refine r_get C (pc := 46) (ci := 5) (k := 0) (w := .ref (t + 1)) rfl (by decide) inX5 (by decide) q_200 (Or.inl hd0) hs0 (zl_ref _ _) dX5_store_46 ?_
        refine r_getN C (pc := 49) (ci := 3) (k := 6) (w := .int (nI (M.1 4))) rfl (by decide) inX3 (by decide) q_76 (Or.inl hd1) hs1 (zl_i (hv2.2.2.2.1.2.2.2.1)) dX5_store_49 ?_
        rcases (show M.1 4 = 0 ∨ M.1 4 = 1 ∨ M.1 4 = 2 ∨ M.1 4 = 3 by omega) with h4 | h4 | h4 | h4
        · refine r_tableOut C (pc := 52) (tgt := 118) dX5_store_52 (Or.inl (by rw [h4]; decide)) (by decide) ?_
          refine r_aload_n C (pc := 118) rfl rfl dX5_store_118 ?_
          refine r_iconst C (pc := 119) (x := (nI 0)) (by decide) dX5_store_119 ?_
          refine r_callV C (pc := 120) (st := []) (m_X1_removeAt l G sh v18 N (k := 0) hpa (hv2.2.2.2.2.1 i hi) (by omega)) kyX1_removeAt q_530 rfl (Or.inl hda) ha0 (by decide) rfl rfl rfl (Nat.le_of_ble_eq_true rfl) ⟨Nat.le_of_ble_eq_true rfl, Nat.le_of_ble_eq_true rfl⟩ ⟨Nat.le_of_ble_eq_true rfl, Nat.le_of_ble_eq_true rfl⟩ dX5_store_120 (fun r120 v120 hp120 => ?_)
          obtain ⟨rfl, g3, g4⟩ := hp120
          refine VV.eq (st2 := [.int (nI ((M.2.1 i).getD 0 0))]) rfl ?_
          refine r_pop C (pc := 123) rfl dX5_store_123 ?_
          refine r_aload_n C (pc := 124) rfl rfl dX5_store_124 ?_
          refine r_iload_n C (pc := 125) rfl rfl dX5_store_125 ?_
          refine r_callV C (pc := 126) (st := []) (m_X1_append l G sh v120 N (q := x) hpa g3 (by rw [List.length_eraseIdx_of_lt (by omega)]; omega)) kyX1_append q_531 rfl (Or.inl hda) ha0 (by decide) rfl rfl rfl (Nat.le_of_ble_eq_true rfl) ⟨Nat.le_of_ble_eq_true rfl, Nat.le_of_ble_eq_true rfl⟩ ⟨Nat.le_of_ble_eq_true rfl, Nat.le_of_ble_eq_true rfl⟩ dX5_store_126 (fun r126 v126 hp126 => ?_)
          obtain ⟨rfl, g5, g6⟩ := hp126
          refine VV.eq (st2 := []) rfl ?_
          exact r_vret C (pc := 129) rfl dX5_store_129 ⟨rfl, rfl, rfl, (by rw [show mSto M i x = _ from (if_neg (fun z => by rw [c_21] at z; cases z.2)).trans ((if_neg (by omega)).trans ((if_neg (by omega)).trans ((if_neg (by omega)).trans (if_neg (by omega)))))]; exact zt_st hv2 hi g5 (g4.tr g6)), (((g4.tr g6) _ (by omega)).trans (g2 _ (by omega))), (g2.wide (by omega) (by omega)).tr ((g4.tr g6).wide (b := t) (m := 28) (by omega) (by omega))⟩
        · refine r_tableIn C (pc := 52) (off := 28) (tgt := 80) dX5_store_52 (by rw [h4]; decide) (by rw [h4]; decide) (by rw [h4]; rfl) (by decide) ?_
          exact r_vret C (pc := 80) rfl dX5_store_80 ⟨rfl, rfl, rfl, (by rw [show mSto M i x = _ from (if_neg (fun z => by rw [c_21] at z; cases z.2)).trans ((if_neg (by omega)).trans (if_pos (by omega)))]; exact hv2), (g2 _ (by omega)), g2.wide (by omega) (by omega)⟩
        · refine r_tableIn C (pc := 52) (off := 29) (tgt := 81) dX5_store_52 (by rw [h4]; decide) (by rw [h4]; decide) (by rw [h4]; rfl) (by decide) ?_
          refine r_aload_n C (pc := 81) rfl rfl dX5_store_81 ?_
          refine r_aload_n C (pc := 82) rfl rfl dX5_store_82 ?_
          refine r_iload_n C (pc := 83) rfl rfl dX5_store_83 ?_
          refine r_callV C (pc := 84) (st := [.ref (t + 22 + 2 * i)]) (m_X1_placeOfMostCommon l G sh v18 N (q := x) hpa (hv2.2.2.2.2.1 i hi) hx.1 hps) kyX1_placeOfMostCommon q_552 rfl (Or.inl hda) ha0 (by decide) rfl rfl rfl (Nat.le_of_ble_eq_true rfl) ⟨Nat.le_of_ble_eq_true rfl, Nat.le_of_ble_eq_true rfl⟩ ⟨Nat.le_of_ble_eq_true rfl, Nat.le_of_ble_eq_true rfl⟩ dX5_store_84 (fun r84 v84 hp84 => ?_)
          obtain ⟨rfl, ehp84⟩ := hp84
          refine VV.vq ehp84 ?_
          refine VV.eq (st2 := [.int (nI (mcb (mcc x (M.2.1 i)) (M.2.1 i).length)), .ref (t + 22 + 2 * i)]) rfl ?_
          refine r_callV C (pc := 87) (st := []) (m_X1_removeAt l G sh v18 N (k := mcb (mcc x (M.2.1 i)) (M.2.1 i).length) hpa (hv2.2.2.2.2.1 i hi) (mcb_lt _ _ (by omega))) kyX1_removeAt q_530 rfl (Or.inl hda) ha0 (by decide) rfl rfl rfl (Nat.le_of_ble_eq_true rfl) ⟨Nat.le_of_ble_eq_true rfl, Nat.le_of_ble_eq_true rfl⟩ ⟨Nat.le_of_ble_eq_true rfl, Nat.le_of_ble_eq_true rfl⟩ dX5_store_87 (fun r87 v87 hp87 => ?_)
          obtain ⟨rfl, g3, g4⟩ := hp87
          refine VV.eq (st2 := [.int (nI ((M.2.1 i).getD (mcb (mcc x (M.2.1 i)) (M.2.1 i).length) 0))]) rfl ?_
          refine r_pop C (pc := 90) rfl dX5_store_90 ?_
          refine r_aload_n C (pc := 91) rfl rfl dX5_store_91 ?_
          refine r_iload_n C (pc := 92) rfl rfl dX5_store_92 ?_
          refine r_callV C (pc := 93) (st := []) (m_X1_append l G sh v87 N (q := x) hpa g3 (by rw [List.length_eraseIdx_of_lt (mcb_lt _ _ (by omega))]; omega)) kyX1_append q_531 rfl (Or.inl hda) ha0 (by decide) rfl rfl rfl (Nat.le_of_ble_eq_true rfl) ⟨Nat.le_of_ble_eq_true rfl, Nat.le_of_ble_eq_true rfl⟩ ⟨Nat.le_of_ble_eq_true rfl, Nat.le_of_ble_eq_true rfl⟩ dX5_store_93 (fun r93 v93 hp93 => ?_)
          obtain ⟨rfl, g5, g6⟩ := hp93
          refine VV.eq (st2 := []) rfl ?_
          exact r_vret C (pc := 96) rfl dX5_store_96 ⟨rfl, rfl, rfl, (by rw [show mSto M i x = _ from (if_neg (fun z => by rw [c_21] at z; cases z.2)).trans ((if_neg (by omega)).trans ((if_neg (by omega)).trans (if_pos (by omega))))]; exact zt_st hv2 hi g5 (g4.tr g6)), (((g4.tr g6) _ (by omega)).trans (g2 _ (by omega))), (g2.wide (by omega) (by omega)).tr ((g4.tr g6).wide (b := t) (m := 28) (by omega) (by omega))⟩
        · refine r_tableIn C (pc := 52) (off := 45) (tgt := 97) dX5_store_52 (by rw [h4]; decide) (by rw [h4]; decide) (by rw [h4]; rfl) (by decide) ?_
          refine r_aload_n C (pc := 97) rfl rfl dX5_store_97 ?_
          refine r_iconst C (pc := 98) (x := (nI 0)) (by decide) dX5_store_98 ?_
          refine r_callV C (pc := 99) (st := []) (m_X1_removeAt l G sh v18 N (k := 0) hpa (hv2.2.2.2.2.1 i hi) (by omega)) kyX1_removeAt q_530 rfl (Or.inl hda) ha0 (by decide) rfl rfl rfl (Nat.le_of_ble_eq_true rfl) ⟨Nat.le_of_ble_eq_true rfl, Nat.le_of_ble_eq_true rfl⟩ ⟨Nat.le_of_ble_eq_true rfl, Nat.le_of_ble_eq_true rfl⟩ dX5_store_99 (fun r99 v99 hp99 => ?_)
          obtain ⟨rfl, g3, g4⟩ := hp99
          refine VV.eq (st2 := [.int (nI ((M.2.1 i).getD 0 0))]) rfl ?_
          refine r_iload_n C (pc := 102) rfl rfl dX5_store_102 ?_
          refine r_ixor C (pc := 103) (z := (nI ((M.2.1 i).getD 0 0 ^^^ x))) (nx_xor _ _) dX5_store_103 ?_
          have hcx : con (zVl M) ((M.2.1 i).getD 0 0 ^^^ x) := con_xor (con_gd hcl) hx
          have hcx1 := hcx.1
          refine r_istore_n C (pc := 104) (lv2 := [some (.ref t), some (.ref (t + 22 + 2 * i)), some (.int (nI x)), some (.int (nI ((M.2.1 i).getD 0 0 ^^^ x)))]) rfl (Nat.le_of_ble_eq_true rfl) rfl rfl dX5_store_104 ?_
          refine r_iload_n C (pc := 105) rfl rfl dX5_store_105 ?_
          refine r_callSN C (pc := 106) (st := []) (m_X6_setIn l G sh v99 N (q := (M.2.1 i).getD 0 0 ^^^ x) (by omega)) kyX6_setIn q_525 rfl rfl (Nat.le_of_ble_eq_true rfl) ⟨Nat.le_of_ble_eq_true rfl, Nat.le_of_ble_eq_true rfl⟩ ⟨Nat.le_of_ble_eq_true rfl, Nat.le_of_ble_eq_true rfl⟩ dX5_store_106 (fun r106 v106 hp106 => ?_)
          obtain ⟨rfl, ehp106⟩ := hp106
          refine VV.vq ehp106 ?_
          refine VV.eq (st2 := [.int (nI (((M.2.1 i).getD 0 0 ^^^ x) / 256))]) rfl ?_
          refine n_if_eq C (pc := 109) (tgt := 117) (by omega) dX5_store_109 (by decide) (fun c_109 => ?_) (fun c_109 => ?_)
          · exact r_vret C (pc := 117) rfl dX5_store_117 ⟨rfl, rfl, rfl, (by rw [show mSto M i x = _ from (if_neg (fun z => by rw [c_21] at z; cases z.2)).trans ((if_neg (by omega)).trans ((if_neg (by omega)).trans ((if_neg (by omega)).trans (if_pos (by omega)))))]; rw [if_pos c_109]; exact zt_st hv2 hi g3 g4), ((g4 _ (by omega)).trans (g2 _ (by omega))), (g2.wide (by omega) (by omega)).tr (g4.wide (b := t) (m := 28) (by omega) (by omega))⟩
          · refine r_aload_n C (pc := 112) rfl rfl dX5_store_112 ?_
            refine r_iload_n C (pc := 113) rfl rfl dX5_store_113 ?_
            refine r_callV C (pc := 114) (st := []) (m_X1_append l G sh v99 N (q := (M.2.1 i).getD 0 0 ^^^ x) hpa g3 (by rw [List.length_eraseIdx_of_lt (by omega)]; omega)) kyX1_append q_531 rfl (Or.inl hda) ha0 (by decide) rfl rfl rfl (Nat.le_of_ble_eq_true rfl) ⟨Nat.le_of_ble_eq_true rfl, Nat.le_of_ble_eq_true rfl⟩ ⟨Nat.le_of_ble_eq_true rfl, Nat.le_of_ble_eq_true rfl⟩ dX5_store_114 (fun r114 v114 hp114 => ?_)
            obtain ⟨rfl, g5, g6⟩ := hp114
            refine VV.eq (st2 := []) rfl ?_
            exact r_vret C (pc := 117) rfl dX5_store_117 ⟨rfl, rfl, rfl, (by rw [show mSto M i x = _ from (if_neg (fun z => by rw [c_21] at z; cases z.2)).trans ((if_neg (by omega)).trans ((if_neg (by omega)).trans ((if_neg (by omega)).trans (if_pos (by omega)))))]; rw [if_neg (by omega)]; exact zt_st hv2 hi g5 (g4.tr g6)), (((g4.tr g6) _ (by omega)).trans (g2 _ (by omega))), (g2.wide (by omega) (by omega)).tr ((g4.tr g6).wide (b := t) (m := 28) (by omega) (by omega))⟩
      · refine r_aload_n C (pc := 39) rfl rfl dX5_store_39 ?_
        refine r_iload_n C (pc := 40) rfl rfl dX5_store_40 ?_
        refine r_callV C (pc := 41) (st := []) (m_X1_append l G sh v18 N (q := x) hpa (hv2.2.2.2.2.1 i hi) (by omega)) kyX1_append q_531 rfl (Or.inl hda) ha0 (by decide) rfl rfl rfl (Nat.le_of_ble_eq_true rfl) ⟨Nat.le_of_ble_eq_true rfl, Nat.le_of_ble_eq_true rfl⟩ ⟨Nat.le_of_ble_eq_true rfl, Nat.le_of_ble_eq_true rfl⟩ dX5_store_41 (fun r41 v41 hp41 => ?_)
        obtain ⟨rfl, g3, g4⟩ := hp41
        refine VV.eq (st2 := []) rfl ?_
        exact r_vret C (pc := 44) rfl dX5_store_44 ⟨rfl, rfl, rfl, (by rw [show mSto M i x = _ from (if_neg (fun z => by rw [c_21] at z; cases z.2)).trans (if_pos c_36)]; exact zt_st hv2 hi g3 g4), ((g4 _ (by omega)).trans (g2 _ (by omega))), (g2.wide (by omega) (by omega)).tr (g4.wide (b := t) (m := 28) (by omega) (by omega))⟩
    · exact r_vret C (pc := 24) rfl dX5_store_24 ⟨rfl, rfl, rfl, (by rw [show mSto M i x = M from if_pos ⟨c_12, c_21⟩]; exact hv2), (g2 _ (by omega)), g2.wide (by omega) (by omega)⟩
set_option maxRecDepth 100000 in
set_option maxHeartbeats 4000000 in
theorem m_X5_isComplete0 (l : Launch) (G : zG) (sh : zH) (v : zV) (N : Nat) {t : Nat} {M : zMS} (hp : zTR G sh N t) (hv : zt v t M) (hk : mOK M) : zm l G yX5_isComplete cX5_isComplete 3 (some .boolean) 0 [.ref t, .int (nI 0)] sh v N (fun r v1 => r = some (.int (zb (decide (cnt M.2.2.2 = M.1 0)))) ∧ v1 = v) := by
  refine zM.of (by decide) rfl (Nat.le_of_ble_eq_true rfl) ?_
  intro p e s m args below meth c C
  obtain ⟨tB, tN, hs0, tse, hs5, trc, hs19, tsp, tst⟩ := id hp
  have hd0 : G.2.2.1 ≤ t ∧ t < N := ⟨by omega, by omega⟩
  have hd1 : G.2.2.1 ≤ t + 1 ∧ t + 1 < N := ⟨by omega, by omega⟩
  have hd5 : G.2.2.1 ≤ t + 5 ∧ t + 5 < N := ⟨by omega, by omega⟩
  have hd6 : G.2.2.1 ≤ t + 6 ∧ t + 6 < N := ⟨by omega, by omega⟩
  have hd19 : G.2.2.1 ≤ t + 19 ∧ t + 19 < N := ⟨by omega, by omega⟩
  have hd20 : G.2.2.1 ≤ t + 20 ∧ t + 20 < N := ⟨by omega, by omega⟩
  have hd61 : G.2.2.1 ≤ t + 6 + 1 ∧ t + 6 + 1 < N := ⟨by omega, by omega⟩
  have hd65 : G.2.2.1 ≤ t + 6 + 5 ∧ t + 6 + 5 < N := ⟨by omega, by omega⟩
  have hd610 : G.2.2.1 ≤ t + 6 + 10 ∧ t + 6 + 10 < N := ⟨by omega, by omega⟩
  have hd68 : G.2.2.1 ≤ t + 6 + 8 ∧ t + 6 + 8 < N := ⟨by omega, by omega⟩
  have hs1 := tse.2.2.1
  have hs6 := trc.2.2.1
  have hs20 := tsp.2.2.1
  have hs61 := trc.2.2.2.1.2.2.2.1
  have hs65 := trc.2.2.2.2.2.1.2.2.1
  have hs68 := trc.2.2.2.2.2.2.1.2.2.2.1
  have hs610 := trc.2.2.2.2.2.2.2.2.2.1
  refine r_iload_n C (pc := 0) rfl rfl dX5_isComplete_0 ?_
  refine n_if_ne C (pc := 1) (tgt := 14) (by omega) dX5_isComplete_1 (by decide) (fun c_1 => by exfalso; omega) (fun c_1 => ?_)
  refine r_aload_n C (pc := 4) rfl rfl dX5_isComplete_4 ?_
  refine r_get C (pc := 5) (ci := 5) (k := 2) (w := .ref (t + 6)) rfl (by decide) inX5 (by decide) q_203 (Or.inl hd0) hs0 (zl_ref _ _) dX5_isComplete_5 ?_
  refine r_getN C (pc := 8) (ci := 2) (k := 4) (w := .ref (t + 6 + 10)) rfl (by decide) inX2 (by decide) q_172 (Or.inl hd6) hs6 (zl_ref _ _) dX5_isComplete_8 ?_
  refine r_goto C (pc := 11) (tgt := 21) dX5_isComplete_11 (by decide) ?_
  refine r_astore_n C (pc := 21) (lv2 := [some (.ref t), some (.int (nI 0)), some (.ref (t + 6 + 10))]) rfl (Nat.le_of_ble_eq_true rfl) rfl rfl dX5_isComplete_21 ?_
  refine r_aload_n C (pc := 22) rfl rfl dX5_isComplete_22 ?_
  refine r_getN C (pc := 23) (ci := 0) (k := 2) (w := .int (nI (cnt M.2.2.2))) rfl (by decide) inX0 (by decide) q_153 (Or.inl hd610) hs610 (zl_i (hv.2.2.2.2.2.2.2.2.2.2.2.2.1)) dX5_isComplete_23 ?_
  refine r_aload_n C (pc := 26) rfl rfl dX5_isComplete_26 ?_
  refine r_get C (pc := 27) (ci := 5) (k := 0) (w := .ref (t + 1)) rfl (by decide) inX5 (by decide) q_200 (Or.inl hd0) hs0 (zl_ref _ _) dX5_isComplete_27 ?_
  refine r_getN C (pc := 30) (ci := 3) (k := 3) (w := .int (nI (M.1 0))) rfl (by decide) inX3 (by decide) q_66 (Or.inl hd1) hs1 (zl_i (hv.2.2.2.1.1)) dX5_isComplete_30 ?_
  refine n_icmp_ne C (pc := 33) (tgt := 40) (by have : cnt (M.2.2.2) ≤ 12 := cntn_le (M.2.2.2) 12; omega) (by have := hk.1.2.1; omega) dX5_isComplete_33 (by decide) (fun c_33 => ?_) (fun c_33 => ?_)
  · refine r_iconst C (pc := 40) (x := (nI 0)) (by decide) dX5_isComplete_40 ?_
    exact r_iret C (pc := 41) rfl (rfl) dX5_isComplete_41 ⟨rfl, rfl, by rw [decide_eq_false c_33]; rfl, rfl⟩
  · refine r_iconst C (pc := 36) (x := (nI 1)) (by decide) dX5_isComplete_36 ?_
    refine r_goto C (pc := 37) (tgt := 41) dX5_isComplete_37 (by decide) ?_
    exact r_iret C (pc := 41) rfl (rfl) dX5_isComplete_41 ⟨rfl, rfl, by rw [decide_eq_true c_33]; rfl, rfl⟩
set_option maxRecDepth 100000 in
set_option maxHeartbeats 4000000 in
theorem m_X5_isComplete1 (l : Launch) (G : zG) (sh : zH) (v : zV) (N : Nat) {t : Nat} {M : zMS} (hp : zTR G sh N t) (hv : zt v t M) (hk : mOK M) : zm l G yX5_isComplete cX5_isComplete 3 (some .boolean) 0 [.ref t, .int (nI 1)] sh v N (fun r v1 => r = some (.int (zb (decide (cnt M.2.2.1 = M.1 0)))) ∧ v1 = v) := by
  refine zM.of (by decide) rfl (Nat.le_of_ble_eq_true rfl) ?_
  intro p e s m args below meth c C
  obtain ⟨tB, tN, hs0, tse, hs5, trc, hs19, tsp, tst⟩ := id hp
  have hd0 : G.2.2.1 ≤ t ∧ t < N := ⟨by omega, by omega⟩
  have hd1 : G.2.2.1 ≤ t + 1 ∧ t + 1 < N := ⟨by omega, by omega⟩
  have hd5 : G.2.2.1 ≤ t + 5 ∧ t + 5 < N := ⟨by omega, by omega⟩
  have hd6 : G.2.2.1 ≤ t + 6 ∧ t + 6 < N := ⟨by omega, by omega⟩
  have hd19 : G.2.2.1 ≤ t + 19 ∧ t + 19 < N := ⟨by omega, by omega⟩
  have hd20 : G.2.2.1 ≤ t + 20 ∧ t + 20 < N := ⟨by omega, by omega⟩
  have hd61 : G.2.2.1 ≤ t + 6 + 1 ∧ t + 6 + 1 < N := ⟨by omega, by omega⟩
  have hd65 : G.2.2.1 ≤ t + 6 + 5 ∧ t + 6 + 5 < N := ⟨by omega, by omega⟩
  have hd610 : G.2.2.1 ≤ t + 6 + 10 ∧ t + 6 + 10 < N := ⟨by omega, by omega⟩
  have hd68 : G.2.2.1 ≤ t + 6 + 8 ∧ t + 6 + 8 < N := ⟨by omega, by omega⟩
  have hs1 := tse.2.2.1
  have hs6 := trc.2.2.1
  have hs20 := tsp.2.2.1
  have hs61 := trc.2.2.2.1.2.2.2.1
  have hs65 := trc.2.2.2.2.2.1.2.2.1
  have hs68 := trc.2.2.2.2.2.2.1.2.2.2.1
  have hs610 := trc.2.2.2.2.2.2.2.2.2.1
  refine r_iload_n C (pc := 0) rfl rfl dX5_isComplete_0 ?_
  refine n_if_ne C (pc := 1) (tgt := 14) (by omega) dX5_isComplete_1 (by decide) (fun c_1 => ?_) (fun c_1 => by exfalso; omega)
  refine r_aload_n C (pc := 14) rfl rfl dX5_isComplete_14 ?_
  refine r_get C (pc := 15) (ci := 5) (k := 2) (w := .ref (t + 6)) rfl (by decide) inX5 (by decide) q_203 (Or.inl hd0) hs0 (zl_ref _ _) dX5_isComplete_15 ?_
  refine r_getN C (pc := 18) (ci := 2) (k := 2) (w := .ref (t + 6 + 5)) rfl (by decide) inX2 (by decide) q_167 (Or.inl hd6) hs6 (zl_ref _ _) dX5_isComplete_18 ?_
  refine r_astore_n C (pc := 21) (lv2 := [some (.ref t), some (.int (nI 1)), some (.ref (t + 6 + 5))]) rfl (Nat.le_of_ble_eq_true rfl) rfl rfl dX5_isComplete_21 ?_
  refine r_aload_n C (pc := 22) rfl rfl dX5_isComplete_22 ?_
  refine r_getN C (pc := 23) (ci := 0) (k := 2) (w := .int (nI (cnt M.2.2.1))) rfl (by decide) inX0 (by decide) q_153 (Or.inl hd65) hs65 (zl_i (hv.2.2.2.2.2.2.2.2.2.2.1.1)) dX5_isComplete_23 ?_
  refine r_aload_n C (pc := 26) rfl rfl dX5_isComplete_26 ?_
  refine r_get C (pc := 27) (ci := 5) (k := 0) (w := .ref (t + 1)) rfl (by decide) inX5 (by decide) q_200 (Or.inl hd0) hs0 (zl_ref _ _) dX5_isComplete_27 ?_
  refine r_getN C (pc := 30) (ci := 3) (k := 3) (w := .int (nI (M.1 0))) rfl (by decide) inX3 (by decide) q_66 (Or.inl hd1) hs1 (zl_i (hv.2.2.2.1.1)) dX5_isComplete_30 ?_
  refine n_icmp_ne C (pc := 33) (tgt := 40) (by have : cnt (M.2.2.1) ≤ 12 := cntn_le (M.2.2.1) 12; omega) (by have := hk.1.2.1; omega) dX5_isComplete_33 (by decide) (fun c_33 => ?_) (fun c_33 => ?_)
  · refine r_iconst C (pc := 40) (x := (nI 0)) (by decide) dX5_isComplete_40 ?_
    exact r_iret C (pc := 41) rfl (rfl) dX5_isComplete_41 ⟨rfl, rfl, by rw [decide_eq_false c_33]; rfl, rfl⟩
  · refine r_iconst C (pc := 36) (x := (nI 1)) (by decide) dX5_isComplete_36 ?_
    refine r_goto C (pc := 37) (tgt := 41) dX5_isComplete_37 (by decide) ?_
    exact r_iret C (pc := 41) rfl (rfl) dX5_isComplete_41 ⟨rfl, rfl, by rw [decide_eq_true c_33]; rfl, rfl⟩
