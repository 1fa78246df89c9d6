/-! forecasts come true -/
/-- what undo() gives back -/
def uH (N M : zMS) (hR h : zHs) : Prop := ∃ k, (oUndo (N, hR)).1 = nI k ∧ k ≤ 7 ∧ (oUndo (N, hR)).2.1 = M ∧ (oUndo (N, hR)).2.2.2.2 = h.2.2
theorem c_runN (l : Launch) (G : zG) (sh : zH) (v : zV) (N : Nat) {v0 : zV} {x : Nat} {q : Nat → Nat} {M : zMS} {h : zHs} {T : Nat} {n : Nat} (hX : zXR G sh N x q) (hb : zB v0 v x q M h) (hI : zI T (M, h)) (hT : T + 1000 < 2 ^ 30) (h1 : 1 ≤ n) (h2 : n ≤ 100) : zM l G yX6_run cX6_run 3 (some .int) 6 0 0 [.ref x, .int (nI n)] sh v N (fun r sh1 v1 N1 => N = N1 ∧ ∃ q1 hR, zXR G sh1 N x q1 ∧ (∀ b, b ≠ x + 57 → sh1 b = sh b) ∧ r = some (.int (nI ((itk n M).2.1 3).length)) ∧ zB v0 v1 x q1 (itk n M) hR ∧ zI (T + 200) (itk n M, hR) ∧ uH (itk n M) M hR h) :=
  zM_imp (c_run l G sh v N (a := nI n) hX hb hI hT) (fun r sh1 v1 N1 hp => by
    obtain ⟨e, q1, X1, X2, X3, X4⟩ := hp
    obtain ⟨u1, u2, k, u3, u4, u5, u6⟩ := undo_run (S := (M, h)) h1 h2 hI.2.1
    have hI2 := oRun_I (a := nI n) hI
    have e2 : (oRun (nI n) (M, h)).2 = (itk n M, (oRun (nI n) (M, h)).2.2) := Prod.ext u2 rfl
    rw [u1] at X3
    rw [u2] at X4
    rw [e2] at u3 u5 u6 hI2
    exact ⟨e, q1, (oRun (nI n) (M, h)).2.2, X1, X2, X3, X4, hI2, k, u3, u4, u5, u6⟩)
theorem c_undoN (l : Launch) (G : zG) (sh : zH) (v : zV) (N : Nat) {v0 : zV} {x : Nat} {q : Nat → Nat} {M : zMS} {h : zHs} {T : Nat} {M0_ : zMS} {h0_ : zHs} (hX : zXR G sh N x q) (hb : zB v0 v x q M h) (hI : zI T (M, h)) (hT : T + 1000 < 2 ^ 30) (hu : uH M M0_ h h0_) : zM l G yX6_undo cX6_undo 1 (some .int) 5 0 0 [.ref x] sh v N (fun r sh1 v1 N1 => N = N1 ∧ ∃ q1 h1 k, zXR G sh1 N x q1 ∧ (∀ b, b ≠ x + 57 → sh1 b = sh b) ∧ k ≤ 7 ∧ r = some (.int (nI k)) ∧ zB v0 v1 x q1 M0_ h1 ∧ zI (T + 200) (M0_, h1) ∧ h1.2.2 = h0_.2.2) :=
  zM_imp (c_undo l G sh v N hX hb hI hT) (fun r sh1 v1 N1 hp => by
    obtain ⟨e, q1, X1, X2, X3, X4⟩ := hp
    obtain ⟨k, u3, u4, u5, u6⟩ := hu
    have hI2 := oUndo_I hI
    have e2 : (oUndo (M, h)).2 = (M0_, (oUndo (M, h)).2.2) := Prod.ext u5 rfl
    rw [u3] at X3
    rw [u5] at X4
    rw [e2] at hI2
    exact ⟨e, q1, (oUndo (M, h)).2.2, k, X1, X2, u4, X3, X4, hI2, u6⟩)
set_option maxRecDepth 100000 in
set_option maxHeartbeats 4000000 in
theorem m_L_isForetold0 (l : Launch) (G : zG) (sh : zH) (v : zV) (N : Nat) {v0 : zV} {x : Nat} {q : Nat → Nat} {M : zMS} {h : zHs} {T : Nat} (hX : zXR G sh N x q) (hb : zB v0 v x q M h) (hI : zI T (M, h)) (hT : T + 1000 < 2 ^ 30) (hT2 : T < 2 ^ 28) (hF : zF M) : zM l G yL_isForetold cL_isForetold 6 (some .boolean) 8 0 0 [.ref x, .int (nI 0)] sh v N (fun r sh1 v1 N1 => N = N1 ∧ (∃ q1 h1, zXR G sh1 N x q1 ∧ (∀ b, b ≠ x + 57 → sh1 b = sh b) ∧ r = some (.int (nI 1)) ∧ zB v0 v1 x q1 M h1 ∧ zI (T + 800) (M, h1) ∧ h1.2.2 = h.2.2)) := by
  refine zM.of (by decide) rfl (Nat.le_of_ble_eq_true rfl) ?_
  intro p e s m args below meth c C
  have hd6 : G.2.2.1 ≤ x ∧ x < N := ⟨hX.1, by have := hX.2.1; omega⟩
  have hK12 : M.1 0 ≤ 12 := hI.1.1.1.1.2.1
  have hK2 : 2 ≤ M.1 0 := hI.1.1.1.1.1
  have hV : ∀ b, b < 12 → M.1 (17 + b) < 256 := mOK_V hI.1.1.1
  have hE : zE M := hI.1.1
  have hw : ∀ n, wtv 0 (itk n M) ≤ M.1 0 ∧ dn 0 (itk n M) = decide (wtv 0 (itk n M) = M.1 0) ∧ (itk n M).1 0 = M.1 0 ∧ ((itk n M).2.1 3).length ≤ M.1 0 ∧ wtv 0 (itk n M) = cntn (itk n M).2.2.2 12 := fun n => by
    obtain ⟨k1, k2, k3, -⟩ := itk_F hE hF n
    have e1 := wtv_le (how := 0) k1
    have e2 := wtv_dn (how := 0) k1
    have e3 := kept_le k1
    rw [k3] at e1 e2 e3
    exact ⟨e1, e2, k3, e3, rfl⟩
  rcases tkI_all (how := 0) (k := 300) M with ej | ⟨j, hj, ej, hd, hnd⟩
  · have hq := ej
    refine r_aload_n C (pc := 0) rfl rfl dL_isForetold_0 ?_
    refine r_iload_n C (pc := 1) rfl rfl dL_isForetold_1 ?_
    refine r_callV C (pc := 2) (st := []) (t_forecast l G sh v N (k := 0) hX hb hI hT (by decide) (z := -9) (ej)) kyX6_forecast q_615 rfl (Or.inl hd6) hX.2.2.1 (by decide) rfl rfl rfl (Nat.le_of_ble_eq_true rfl) ⟨Nat.le_of_ble_eq_true rfl, Nat.le_of_ble_eq_true rfl⟩ ⟨Nat.le_of_ble_eq_true rfl, Nat.le_of_ble_eq_true rfl⟩ dL_isForetold_2 (fun r2 v2 hp2 => ?_)
    obtain ⟨rfl, hb2⟩ := hp2
    refine VV.eq (st2 := [.int (-9)]) rfl ?_
    refine r_istore_n C (pc := 5) (lv2 := [some (.ref x), some (.int (nI 0)), some (.int (-9)), none, none, none]) rfl (Nat.le_of_ble_eq_true rfl) rfl rfl dL_isForetold_5 ?_
    refine r_iload_n C (pc := 6) rfl rfl dL_isForetold_6 ?_
    refine n_if_ne C (pc := 7) (tgt := 15) (by omega) dL_isForetold_7 (by decide) (fun c_7 => by exfalso; omega) (fun c_7 => ?_)
    refine r_bipush C (pc := 10) (x := (nI 12)) (by decide) dL_isForetold_10 ?_
    refine r_goto C (pc := 12) (tgt := 17) dL_isForetold_12 (by decide) ?_
    refine r_istore_n C (pc := 17) (lv2 := [some (.ref x), some (.int (nI 0)), some (.int (-9)), some (.int (nI 12)), none, none]) rfl (Nat.le_of_ble_eq_true rfl) rfl rfl dL_isForetold_17 ?_
    refine r_iload_n C (pc := 18) rfl rfl dL_isForetold_18 ?_
    refine r_if_lt C (pc := 19) (tgt := 28) dL_isForetold_19 (by decide) (fun c_19 => ?_) (fun c_19 => by exfalso; exact c_19 (by decide))
    refine r_iload_n C (pc := 28) rfl rfl dL_isForetold_28 ?_
    refine r_bipush C (pc := 29) (x := (-9)) (by decide) dL_isForetold_29 ?_
    refine r_icmp_eq C (pc := 31) (tgt := 41) dL_isForetold_31 (by decide) (fun c_31 => ?_) (fun c_31 => by exfalso; exact c_31 rfl)
    refine r_iconst C (pc := 41) (x := (nI 1)) (by decide) dL_isForetold_41 ?_
    refine r_goto C (pc := 42) (tgt := 46) dL_isForetold_42 (by decide) ?_
    exact r_iret C (pc := 46) rfl (rfl) dL_isForetold_46 ⟨rfl, _, _, hX, (fun _ _ => rfl), rfl, hb2, zI_mono hI (by omega), rfl⟩
  · have hwj := hw j
    rw [hd] at hwj
    have hwK : wtv 0 (itk j M) = M.1 0 := of_decide_eq_true hwj.2.1.symm
    rw [hwj.2.2.2.2] at hwK
    have hKj := hwj.2.2.1
    have hlj := hwj.2.2.2.1
    rcases (show 100 < j ∨ j = 0 ∨ (1 ≤ j ∧ j ≤ 100) by omega) with hj1 | hj1 | hj1
    · have hq := ej
      refine r_aload_n C (pc := 0) rfl rfl dL_isForetold_0 ?_
      refine r_iload_n C (pc := 1) rfl rfl dL_isForetold_1 ?_
      refine r_callV C (pc := 2) (st := []) (t_forecast l G sh v N (k := 0) hX hb hI hT (by decide) (z := nI j) (ej)) kyX6_forecast q_615 rfl (Or.inl hd6) hX.2.2.1 (by decide) rfl rfl rfl (Nat.le_of_ble_eq_true rfl) ⟨Nat.le_of_ble_eq_true rfl, Nat.le_of_ble_eq_true rfl⟩ ⟨Nat.le_of_ble_eq_true rfl, Nat.le_of_ble_eq_true rfl⟩ dL_isForetold_2 (fun r2 v2 hp2 => ?_)
      obtain ⟨rfl, hb2⟩ := hp2
      refine VV.eq (st2 := [.int (nI j)]) rfl ?_
      refine r_istore_n C (pc := 5) (lv2 := [some (.ref x), some (.int (nI 0)), some (.int (nI j)), none, none, none]) rfl (Nat.le_of_ble_eq_true rfl) rfl rfl dL_isForetold_5 ?_
      refine r_iload_n C (pc := 6) rfl rfl dL_isForetold_6 ?_
      refine n_if_ne C (pc := 7) (tgt := 15) (by omega) dL_isForetold_7 (by decide) (fun c_7 => by exfalso; omega) (fun c_7 => ?_)
      refine r_bipush C (pc := 10) (x := (nI 12)) (by decide) dL_isForetold_10 ?_
      refine r_goto C (pc := 12) (tgt := 17) dL_isForetold_12 (by decide) ?_
      refine r_istore_n C (pc := 17) (lv2 := [some (.ref x), some (.int (nI 0)), some (.int (nI j)), some (.int (nI 12)), none, none]) rfl (Nat.le_of_ble_eq_true rfl) rfl rfl dL_isForetold_17 ?_
      refine r_iload_n C (pc := 18) rfl rfl dL_isForetold_18 ?_
      refine n_if_lt C (pc := 19) (by omega) dL_isForetold_19 ?_
      refine r_iload_n C (pc := 22) rfl rfl dL_isForetold_22 ?_
      refine r_bipush C (pc := 23) (x := (nI 100)) (by decide) dL_isForetold_23 ?_
      refine n_icmp_le C (pc := 25) (tgt := 47) (by omega) (by omega) dL_isForetold_25 (by decide) (fun c_25 => by exfalso; omega) (fun c_25 => ?_)
      refine r_iload_n C (pc := 28) rfl rfl dL_isForetold_28 ?_
      refine r_bipush C (pc := 29) (x := (-9)) (by decide) dL_isForetold_29 ?_
      refine r_icmp_eq C (pc := 31) (tgt := 41) dL_isForetold_31 (by decide) (fun c_31 => by exfalso; exact n9 (by omega) c_31) (fun c_31 => ?_)
      refine r_iload_n C (pc := 34) rfl rfl dL_isForetold_34 ?_
      refine r_sipush C (pc := 35) (x := (nI 300)) (by decide) dL_isForetold_35 ?_
      refine n_icmp_gt C (pc := 38) (tgt := 45) (by omega) (by omega) dL_isForetold_38 (by decide) (fun c_38 => by exfalso; omega) (fun c_38 => ?_)
      refine r_iconst C (pc := 41) (x := (nI 1)) (by decide) dL_isForetold_41 ?_
      refine r_goto C (pc := 42) (tgt := 46) dL_isForetold_42 (by decide) ?_
      exact r_iret C (pc := 46) rfl (rfl) dL_isForetold_46 ⟨rfl, _, _, hX, (fun _ _ => rfl), rfl, hb2, zI_mono hI (by omega), rfl⟩
    · subst hj1
      have hwK0 : cntn M.2.2.2 12 = M.1 0 := hwK
      refine r_aload_n C (pc := 0) rfl rfl dL_isForetold_0 ?_
      refine r_iload_n C (pc := 1) rfl rfl dL_isForetold_1 ?_
      refine r_callV C (pc := 2) (st := []) (t_forecast l G sh v N (k := 0) hX hb hI hT (by decide) (z := nI 0) (ej)) kyX6_forecast q_615 rfl (Or.inl hd6) hX.2.2.1 (by decide) rfl rfl rfl (Nat.le_of_ble_eq_true rfl) ⟨Nat.le_of_ble_eq_true rfl, Nat.le_of_ble_eq_true rfl⟩ ⟨Nat.le_of_ble_eq_true rfl, Nat.le_of_ble_eq_true rfl⟩ dL_isForetold_2 (fun r2 v2 hp2 => ?_)
      obtain ⟨rfl, hb2⟩ := hp2
      refine VV.eq (st2 := [.int (nI 0)]) rfl ?_
      refine r_istore_n C (pc := 5) (lv2 := [some (.ref x), some (.int (nI 0)), some (.int (nI 0)), none, none, none]) rfl (Nat.le_of_ble_eq_true rfl) rfl rfl dL_isForetold_5 ?_
      refine r_iload_n C (pc := 6) rfl rfl dL_isForetold_6 ?_
      refine n_if_ne C (pc := 7) (tgt := 15) (by omega) dL_isForetold_7 (by decide) (fun c_7 => by exfalso; omega) (fun c_7 => ?_)
      refine r_bipush C (pc := 10) (x := (nI 12)) (by decide) dL_isForetold_10 ?_
      refine r_goto C (pc := 12) (tgt := 17) dL_isForetold_12 (by decide) ?_
      refine r_istore_n C (pc := 17) (lv2 := [some (.ref x), some (.int (nI 0)), some (.int (nI 0)), some (.int (nI 12)), none, none]) rfl (Nat.le_of_ble_eq_true rfl) rfl rfl dL_isForetold_17 ?_
      refine r_iload_n C (pc := 18) rfl rfl dL_isForetold_18 ?_
      refine n_if_lt C (pc := 19) (by omega) dL_isForetold_19 ?_
      refine r_iload_n C (pc := 22) rfl rfl dL_isForetold_22 ?_
      refine r_bipush C (pc := 23) (x := (nI 100)) (by decide) dL_isForetold_23 ?_
      refine n_icmp_le C (pc := 25) (tgt := 47) (by omega) (by omega) dL_isForetold_25 (by decide) (fun c_25 => ?_) (fun c_25 => by exfalso; omega)
      refine r_iload_n C (pc := 47) rfl rfl dL_isForetold_47 ?_
      refine n_if_ne C (pc := 48) (tgt := 70) (by omega) dL_isForetold_48 (by decide) (fun c_48 => by exfalso; omega) (fun c_48 => ?_)
      refine r_aload_n C (pc := 51) rfl rfl dL_isForetold_51 ?_
      refine r_iload_n C (pc := 52) rfl rfl dL_isForetold_52 ?_
      refine r_callV C (pc := 53) (st := []) (t_told l G sh v2 N (k := 12) hX hb2 hI hT (by decide) (z := nI (cntn M.2.2.2 12)) (rfl)) kyX6_told q_251 rfl (Or.inl hd6) hX.2.2.1 (by decide) rfl rfl rfl (Nat.le_of_ble_eq_true rfl) ⟨Nat.le_of_ble_eq_true rfl, Nat.le_of_ble_eq_true rfl⟩ ⟨Nat.le_of_ble_eq_true rfl, Nat.le_of_ble_eq_true rfl⟩ dL_isForetold_53 (fun r53 v53 hp53 => ?_)
      obtain ⟨rfl, hb53⟩ := hp53
      refine VV.eq (st2 := [.int (nI (cntn M.2.2.2 12))]) rfl ?_
      refine r_aload_n C (pc := 56) rfl rfl dL_isForetold_56 ?_
      refine r_iconst C (pc := 57) (x := (nI 0)) (by decide) dL_isForetold_57 ?_
      refine r_callV C (pc := 58) (st := [.int (nI (cntn M.2.2.2 12))]) (t_told l G sh v53 N (k := 0) hX hb53 hI hT (by decide) (z := nI (M.1 0)) (rfl)) kyX6_told q_251 rfl (Or.inl hd6) hX.2.2.1 (by decide) rfl rfl rfl (Nat.le_of_ble_eq_true rfl) ⟨Nat.le_of_ble_eq_true rfl, Nat.le_of_ble_eq_true rfl⟩ ⟨Nat.le_of_ble_eq_true rfl, Nat.le_of_ble_eq_true rfl⟩ dL_isForetold_58 (fun r58 v58 hp58 => ?_)
      obtain ⟨rfl, hb58⟩ := hp58
      refine VV.eq (st2 := [.int (nI (M.1 0)), .int (nI (cntn M.2.2.2 12))]) rfl ?_
      refine n_icmp_ne C (pc := 61) (tgt := 68) (by omega) (by omega) dL_isForetold_61 (by decide) (fun c_61 => by exfalso; omega) (fun c_61 => ?_)
      refine r_iconst C (pc := 64) (x := (nI 1)) (by decide) dL_isForetold_64 ?_
      refine r_goto C (pc := 65) (tgt := 69) dL_isForetold_65 (by decide) ?_
      exact r_iret C (pc := 69) rfl (rfl) dL_isForetold_69 ⟨rfl, _, _, hX, (fun _ _ => rfl), rfl, hb58, zI_mono hI (by omega), rfl⟩
    · have fin : ∀ (sh' : zH) (v' : zV) (q' : Nat → Nat) (h' : zHs), zXR G sh' N x q' → (∀ b, b ≠ x + 57 → sh' b = sh b) → zB v0 v' x q' M h' → zI (T + 400) (M, h') → h'.2.2 = h.2.2 → VV p l e ({ frames := 8, cells := 0, slots := 0, locals := 32 * 8 }) s m args below meth c 0 0 (zQ below (fun r sh1 v1 N1 => N = N1 ∧ (∃ q1 h1, zXR G sh1 N x q1 ∧ (∀ b, b ≠ x + 57 → sh1 b = sh b) ∧ r = some (.int (nI 1)) ∧ zB v0 v1 x q1 M h1 ∧ zI (T + 800) (M, h1) ∧ h1.2.2 = h.2.2)) G args s 0 0) G 6 sh' v' N 114 [some (.ref x), some (.int (nI 0)), some (.int (nI j)), some (.int (nI 12)), some (.int (nI 1)), none] [] := by
        intro sh' v' q' h' hX' hs' hb' hI' he'
        refine r_aload_n C (pc := 114) rfl rfl dL_isForetold_114 ?_
        refine r_iload_n C (pc := 115) rfl rfl dL_isForetold_115 ?_
        refine r_callVM C (pc := 116) (st := []) (c_runN l G sh' v' N (n := j) hX' hb' hI' (by omega) hj1.1 hj1.2) kyX6_run q_484 rfl (Or.inl hd6) hX'.2.2.1 (by decide) rfl rfl rfl (Nat.le_of_ble_eq_true rfl) ⟨Nat.le_of_ble_eq_true rfl, Nat.le_of_ble_eq_true rfl⟩ ⟨Nat.le_of_ble_eq_true rfl, Nat.le_of_ble_eq_true rfl⟩ dL_isForetold_116 (fun r116 sh v116 N' hp116 => ?_)
        obtain ⟨hN, q116, hR116, X116, F116, rfl, hb116, I116, U116⟩ := hp116
        subst hN
        refine VV.c0 ?_
        refine VV.eq (st2 := [.int (nI (((itk j M).2.1 3).length))]) rfl ?_
        refine r_istore C (pc := 119) (lv2 := [some (.ref x), some (.int (nI 0)), some (.int (nI j)), some (.int (nI 12)), some (.int (nI 1)), some (.int (nI (((itk j M).2.1 3).length)))]) (Nat.le_of_ble_eq_true rfl) rfl rfl dL_isForetold_119 ?_
        refine r_iload C (pc := 121) rfl dL_isForetold_121 ?_
        refine n_if_eq C (pc := 123) (tgt := 160) (by omega) dL_isForetold_123 (by decide) (fun c_123 => by exfalso; omega) (fun c_123 => ?_)
        refine r_aload_n C (pc := 126) rfl rfl dL_isForetold_126 ?_
        refine r_iload_n C (pc := 127) rfl rfl dL_isForetold_127 ?_
        refine r_callV C (pc := 128) (st := []) (t_told l G sh v116 N (k := 12) X116 hb116 I116 (by omega) (by decide) (z := nI (cntn (itk j M).2.2.2 12)) (rfl)) kyX6_told q_251 rfl (Or.inl hd6) X116.2.2.1 (by decide) rfl rfl rfl (Nat.le_of_ble_eq_true rfl) ⟨Nat.le_of_ble_eq_true rfl, Nat.le_of_ble_eq_true rfl⟩ ⟨Nat.le_of_ble_eq_true rfl, Nat.le_of_ble_eq_true rfl⟩ dL_isForetold_128 (fun r128 v128 hp128 => ?_)
        obtain ⟨rfl, hb128⟩ := hp128
        refine VV.eq (st2 := [.int (nI (cntn (itk j M).2.2.2 12))]) rfl ?_
        refine r_aload_n C (pc := 131) rfl rfl dL_isForetold_131 ?_
        refine r_iconst C (pc := 132) (x := (nI 0)) (by decide) dL_isForetold_132 ?_
        refine r_callV C (pc := 133) (st := [.int (nI (cntn (itk j M).2.2.2 12))]) (t_told l G sh v128 N (k := 0) X116 hb128 I116 (by omega) (by decide) (z := nI (M.1 0)) (congrArg nI hKj)) kyX6_told q_251 rfl (Or.inl hd6) X116.2.2.1 (by decide) rfl rfl rfl (Nat.le_of_ble_eq_true rfl) ⟨Nat.le_of_ble_eq_true rfl, Nat.le_of_ble_eq_true rfl⟩ ⟨Nat.le_of_ble_eq_true rfl, Nat.le_of_ble_eq_true rfl⟩ dL_isForetold_133 (fun r133 v133 hp133 => ?_)
        obtain ⟨rfl, hb133⟩ := hp133
        refine VV.eq (st2 := [.int (nI (M.1 0)), .int (nI (cntn (itk j M).2.2.2 12))]) rfl ?_
        refine n_icmp_ne C (pc := 136) (tgt := 160) (by omega) (by omega) dL_isForetold_136 (by decide) (fun c_136 => by exfalso; omega) (fun c_136 => ?_)
        refine r_aload_n C (pc := 139) rfl rfl dL_isForetold_139 ?_
        refine r_callVM C (pc := 140) (st := []) (c_undoN l G sh v133 N X116 hb133 I116 (by omega) U116) kyX6_undo q_472 rfl (Or.inl hd6) X116.2.2.1 (by decide) rfl rfl rfl (Nat.le_of_ble_eq_true rfl) ⟨Nat.le_of_ble_eq_true rfl, Nat.le_of_ble_eq_true rfl⟩ ⟨Nat.le_of_ble_eq_true rfl, Nat.le_of_ble_eq_true rfl⟩ dL_isForetold_140 (fun r140 sh v140 N' hp140 => ?_)
        obtain ⟨hN, q140, h140, k140, X140, F140, K140, rfl, hb140, I140, E140⟩ := hp140
        subst hN
        refine VV.c0 ?_
        refine VV.eq (st2 := [.int (nI k140)]) rfl ?_
        refine n_if_lt C (pc := 143) (by omega) dL_isForetold_143 ?_
        refine r_iload C (pc := 146) rfl dL_isForetold_146 ?_
        refine r_aload_n C (pc := 148) rfl rfl dL_isForetold_148 ?_
        refine r_iconst C (pc := 149) (x := (nI 0)) (by decide) dL_isForetold_149 ?_
        refine r_callV C (pc := 150) (st := [.int (nI (((itk j M).2.1 3).length))]) (t_told l G sh v140 N (k := 0) X140 hb140 I140 (by omega) (by decide) (z := nI (M.1 0)) (rfl)) kyX6_told q_251 rfl (Or.inl hd6) X140.2.2.1 (by decide) rfl rfl rfl (Nat.le_of_ble_eq_true rfl) ⟨Nat.le_of_ble_eq_true rfl, Nat.le_of_ble_eq_true rfl⟩ ⟨Nat.le_of_ble_eq_true rfl, Nat.le_of_ble_eq_true rfl⟩ dL_isForetold_150 (fun r150 v150 hp150 => ?_)
        obtain ⟨rfl, hb150⟩ := hp150
        refine VV.eq (st2 := [.int (nI (M.1 0)), .int (nI (((itk j M).2.1 3).length))]) rfl ?_
        refine n_icmp_gt C (pc := 153) (tgt := 160) (by omega) (by omega) dL_isForetold_153 (by decide) (fun c_153 => by exfalso; omega) (fun c_153 => ?_)
        refine r_iconst C (pc := 156) (x := (nI 1)) (by decide) dL_isForetold_156 ?_
        refine r_goto C (pc := 157) (tgt := 161) dL_isForetold_157 (by decide) ?_
        exact r_iret C (pc := 161) rfl (rfl) dL_isForetold_161 ⟨rfl, _, _, X140, (fun b hb => (F140 b hb).trans ((F116 b hb).trans (hs' b hb))), rfl, hb150, zI_mono I140 (by omega), E140.trans he'⟩
      refine r_aload_n C (pc := 0) rfl rfl dL_isForetold_0 ?_
      refine r_iload_n C (pc := 1) rfl rfl dL_isForetold_1 ?_
      refine r_callV C (pc := 2) (st := []) (t_forecast l G sh v N (k := 0) hX hb hI hT (by decide) (z := nI j) (ej)) kyX6_forecast q_615 rfl (Or.inl hd6) hX.2.2.1 (by decide) rfl rfl rfl (Nat.le_of_ble_eq_true rfl) ⟨Nat.le_of_ble_eq_true rfl, Nat.le_of_ble_eq_true rfl⟩ ⟨Nat.le_of_ble_eq_true rfl, Nat.le_of_ble_eq_true rfl⟩ dL_isForetold_2 (fun r2 v2 hp2 => ?_)
      obtain ⟨rfl, hb2⟩ := hp2
      refine VV.eq (st2 := [.int (nI j)]) rfl ?_
      refine r_istore_n C (pc := 5) (lv2 := [some (.ref x), some (.int (nI 0)), some (.int (nI j)), none, none, none]) rfl (Nat.le_of_ble_eq_true rfl) rfl rfl dL_isForetold_5 ?_
      refine r_iload_n C (pc := 6) rfl rfl dL_isForetold_6 ?_
      refine n_if_ne C (pc := 7) (tgt := 15) (by omega) dL_isForetold_7 (by decide) (fun c_7 => by exfalso; omega) (fun c_7 => ?_)
      refine r_bipush C (pc := 10) (x := (nI 12)) (by decide) dL_isForetold_10 ?_
      refine r_goto C (pc := 12) (tgt := 17) dL_isForetold_12 (by decide) ?_
      refine r_istore_n C (pc := 17) (lv2 := [some (.ref x), some (.int (nI 0)), some (.int (nI j)), some (.int (nI 12)), none, none]) rfl (Nat.le_of_ble_eq_true rfl) rfl rfl dL_isForetold_17 ?_
      refine r_iload_n C (pc := 18) rfl rfl dL_isForetold_18 ?_
      refine n_if_lt C (pc := 19) (by omega) dL_isForetold_19 ?_
      refine r_iload_n C (pc := 22) rfl rfl dL_isForetold_22 ?_
      refine r_bipush C (pc := 23) (x := (nI 100)) (by decide) dL_isForetold_23 ?_
      refine n_icmp_le C (pc := 25) (tgt := 47) (by omega) (by omega) dL_isForetold_25 (by decide) (fun c_25 => ?_) (fun c_25 => by exfalso; omega)
      refine r_iload_n C (pc := 47) rfl rfl dL_isForetold_47 ?_
      refine n_if_ne C (pc := 48) (tgt := 70) (by omega) dL_isForetold_48 (by decide) (fun c_48 => ?_) (fun c_48 => by exfalso; omega)
      refine r_iconst C (pc := 70) (x := (nI 1)) (by decide) dL_isForetold_70 ?_
      refine r_istore C (pc := 71) (lv2 := [some (.ref x), some (.int (nI 0)), some (.int (nI j)), some (.int (nI 12)), some (.int (nI 1)), none]) (Nat.le_of_ble_eq_true rfl) rfl rfl dL_isForetold_71 ?_
      refine r_iload_n C (pc := 73) rfl rfl dL_isForetold_73 ?_
      refine r_iconst C (pc := 74) (x := (nI 1)) (by decide) dL_isForetold_74 ?_
      refine n_icmp_le C (pc := 75) (tgt := 114) (by omega) (by omega) dL_isForetold_75 (by decide) (fun c_75 => ?_) (fun c_75 => ?_)
      · exact fin sh v2 q h hX (fun _ _ => rfl) hb2 (zI_mono hI (by omega)) rfl
      · have hw1 := hw (j - 1)
        rw [hnd (j - 1) (by omega)] at hw1
        have hwn : ¬ wtv 0 (itk (j - 1) M) = M.1 0 := of_decide_eq_false hw1.2.1.symm
        have hwl := hw1.1
        rw [hw1.2.2.2.2] at hwn hwl
        refine r_aload_n C (pc := 78) rfl rfl dL_isForetold_78 ?_
        refine r_iload_n C (pc := 79) rfl rfl dL_isForetold_79 ?_
        refine r_iconst C (pc := 80) (x := (nI 1)) (by decide) dL_isForetold_80 ?_
        refine r_isub C (pc := 81) (z := (nI (j - 1))) (pk_sub (by omega)) dL_isForetold_81 ?_
        refine r_callVM C (pc := 82) (st := []) (c_runN l G sh v2 N (n := j - 1) hX hb2 hI (by omega) (by omega) (by omega)) kyX6_run q_484 rfl (Or.inl hd6) hX.2.2.1 (by decide) rfl rfl rfl (Nat.le_of_ble_eq_true rfl) ⟨Nat.le_of_ble_eq_true rfl, Nat.le_of_ble_eq_true rfl⟩ ⟨Nat.le_of_ble_eq_true rfl, Nat.le_of_ble_eq_true rfl⟩ dL_isForetold_82 (fun r82 sh v82 N' hp82 => ?_)
        obtain ⟨hN, q82, hR82, X82, F82, rfl, hb82, I82, U82⟩ := hp82
        subst hN
        refine VV.c0 ?_
        refine VV.eq (st2 := [.int (nI (((itk (j - 1) M).2.1 3).length))]) rfl ?_
        refine r_istore C (pc := 85) (lv2 := [some (.ref x), some (.int (nI 0)), some (.int (nI j)), some (.int (nI 12)), some (.int (nI 1)), some (.int (nI (((itk (j - 1) M).2.1 3).length)))]) (Nat.le_of_ble_eq_true rfl) rfl rfl dL_isForetold_85 ?_
        refine r_aload_n C (pc := 87) rfl rfl dL_isForetold_87 ?_
        refine r_iload_n C (pc := 88) rfl rfl dL_isForetold_88 ?_
        refine r_callV C (pc := 89) (st := []) (t_told l G sh v82 N (k := 12) X82 hb82 I82 (by omega) (by decide) (z := nI (cntn (itk (j - 1) M).2.2.2 12)) (rfl)) kyX6_told q_251 rfl (Or.inl hd6) X82.2.2.1 (by decide) rfl rfl rfl (Nat.le_of_ble_eq_true rfl) ⟨Nat.le_of_ble_eq_true rfl, Nat.le_of_ble_eq_true rfl⟩ ⟨Nat.le_of_ble_eq_true rfl, Nat.le_of_ble_eq_true rfl⟩ dL_isForetold_89 (fun r89 v89 hp89 => ?_)
        obtain ⟨rfl, hb89⟩ := hp89
        refine VV.eq (st2 := [.int (nI (cntn (itk (j - 1) M).2.2.2 12))]) rfl ?_
        refine r_aload_n C (pc := 92) rfl rfl dL_isForetold_92 ?_
        refine r_iconst C (pc := 93) (x := (nI 0)) (by decide) dL_isForetold_93 ?_
        refine r_callV C (pc := 94) (st := [.int (nI (cntn (itk (j - 1) M).2.2.2 12))]) (t_told l G sh v89 N (k := 0) X82 hb89 I82 (by omega) (by decide) (z := nI (M.1 0)) (congrArg nI hw1.2.2.1)) kyX6_told q_251 rfl (Or.inl hd6) X82.2.2.1 (by decide) rfl rfl rfl (Nat.le_of_ble_eq_true rfl) ⟨Nat.le_of_ble_eq_true rfl, Nat.le_of_ble_eq_true rfl⟩ ⟨Nat.le_of_ble_eq_true rfl, Nat.le_of_ble_eq_true rfl⟩ dL_isForetold_94 (fun r94 v94 hp94 => ?_)
        obtain ⟨rfl, hb94⟩ := hp94
        refine VV.eq (st2 := [.int (nI (M.1 0)), .int (nI (cntn (itk (j - 1) M).2.2.2 12))]) rfl ?_
        refine n_icmp_ge C (pc := 97) (tgt := 111) (by omega) (by omega) dL_isForetold_97 (by decide) (fun c_97 => by exfalso; omega) (fun c_97 => ?_)
        refine r_aload_n C (pc := 100) rfl rfl dL_isForetold_100 ?_
        refine r_callVM C (pc := 101) (st := []) (c_undoN l G sh v94 N X82 hb94 I82 (by omega) U82) kyX6_undo q_472 rfl (Or.inl hd6) X82.2.2.1 (by decide) rfl rfl rfl (Nat.le_of_ble_eq_true rfl) ⟨Nat.le_of_ble_eq_true rfl, Nat.le_of_ble_eq_true rfl⟩ ⟨Nat.le_of_ble_eq_true rfl, Nat.le_of_ble_eq_true rfl⟩ dL_isForetold_101 (fun r101 sh v101 N' hp101 => ?_)
        obtain ⟨hN, q101, h101, k101, X101, F101, K101, rfl, hb101, I101, E101⟩ := hp101
        subst hN
        refine VV.c0 ?_
        refine VV.eq (st2 := [.int (nI k101)]) rfl ?_
        refine n_if_lt C (pc := 104) (by omega) dL_isForetold_104 ?_
        refine r_iconst C (pc := 107) (x := (nI 1)) (by decide) dL_isForetold_107 ?_
        refine r_goto C (pc := 108) (tgt := 112) dL_isForetold_108 (by decide) ?_
        refine r_istore C (pc := 112) (lv2 := [some (.ref x), some (.int (nI 0)), some (.int (nI j)), some (.int (nI 12)), some (.int (nI 1)), some (.int (nI (((itk (j - 1) M).2.1 3).length)))]) (Nat.le_of_ble_eq_true rfl) rfl rfl dL_isForetold_112 ?_
        refine VV.fg 5 (lv2 := [some (.ref x), some (.int (nI 0)), some (.int (nI j)), some (.int (nI 12)), some (.int (nI 1)), none]) rfl ?_
        exact fin _ v101 _ _ X101 (fun b hb => (F101 b hb).trans (F82 b hb)) hb101 (zI_mono I101 (by omega)) E101
set_option maxRecDepth 100000 in
set_option maxHeartbeats 4000000 in
theorem m_L_isForetold1 (l : Launch) (G : zG) (sh : zH) (v : zV) (N : Nat) {v0 : zV} {x : Nat} {q : Nat → Nat} {M : zMS} {h : zHs} {T : Nat} (hX : zXR G sh N x q) (hb : zB v0 v x q M h) (hI : zI T (M, h)) (hT : T + 1000 < 2 ^ 30) (hT2 : T < 2 ^ 28) (hF : zF M) : zM l G yL_isForetold cL_isForetold 6 (some .boolean) 8 0 0 [.ref x, .int (nI 1)] sh v N (fun r sh1 v1 N1 => N = N1 ∧ (∃ q1 h1, zXR G sh1 N x q1 ∧ (∀ b, b ≠ x + 57 → sh1 b = sh b) ∧ r = some (.int (nI 1)) ∧ zB v0 v1 x q1 M h1 ∧ zI (T + 800) (M, h1) ∧ h1.2.2 = h.2.2)) := by
  refine zM.of (by decide) rfl (Nat.le_of_ble_eq_true rfl) ?_
  intro p e s m args below meth c C
  have hd6 : G.2.2.1 ≤ x ∧ x < N := ⟨hX.1, by have := hX.2.1; omega⟩
  have hK12 : M.1 0 ≤ 12 := hI.1.1.1.1.2.1
  have hK2 : 2 ≤ M.1 0 := hI.1.1.1.1.1
  have hV : ∀ b, b < 12 → M.1 (17 + b) < 256 := mOK_V hI.1.1.1
  have hE : zE M := hI.1.1
  have hw : ∀ n, wtv 1 (itk n M) ≤ M.1 0 ∧ dn 1 (itk n M) = decide (wtv 1 (itk n M) = M.1 0) ∧ (itk n M).1 0 = M.1 0 ∧ ((itk n M).2.1 3).length ≤ M.1 0 ∧ wtv 1 (itk n M) = ((itk n M).2.1 3).length := fun n => by
    obtain ⟨k1, k2, k3, -⟩ := itk_F hE hF n
    have e1 := wtv_le (how := 1) k1
    have e2 := wtv_dn (how := 1) k1
    have e3 := kept_le k1
    rw [k3] at e1 e2 e3
    exact ⟨e1, e2, k3, e3, rfl⟩
  rcases tkI_all (how := 1) (k := 300) M with ej | ⟨j, hj, ej, hd, hnd⟩
  · have hq := ej
    refine r_aload_n C (pc := 0) rfl rfl dL_isForetold_0 ?_
    refine r_iload_n C (pc := 1) rfl rfl dL_isForetold_1 ?_
    refine r_callV C (pc := 2) (st := []) (t_forecast l G sh v N (k := 1) hX hb hI hT (by decide) (z := -9) (ej)) kyX6_forecast q_615 rfl (Or.inl hd6) hX.2.2.1 (by decide) rfl rfl rfl (Nat.le_of_ble_eq_true rfl) ⟨Nat.le_of_ble_eq_true rfl, Nat.le_of_ble_eq_true rfl⟩ ⟨Nat.le_of_ble_eq_true rfl, Nat.le_of_ble_eq_true rfl⟩ dL_isForetold_2 (fun r2 v2 hp2 => ?_)
    obtain ⟨rfl, hb2⟩ := hp2
    refine VV.eq (st2 := [.int (-9)]) rfl ?_
    refine r_istore_n C (pc := 5) (lv2 := [some (.ref x), some (.int (nI 1)), some (.int (-9)), none, none, none]) rfl (Nat.le_of_ble_eq_true rfl) rfl rfl dL_isForetold_5 ?_
    refine r_iload_n C (pc := 6) rfl rfl dL_isForetold_6 ?_
    refine n_if_ne C (pc := 7) (tgt := 15) (by omega) dL_isForetold_7 (by decide) (fun c_7 => ?_) (fun c_7 => by exfalso; omega)
    refine r_bipush C (pc := 15) (x := (nI 11)) (by decide) dL_isForetold_15 ?_
    refine r_istore_n C (pc := 17) (lv2 := [some (.ref x), some (.int (nI 1)), some (.int (-9)), some (.int (nI 11)), none, none]) rfl (Nat.le_of_ble_eq_true rfl) rfl rfl dL_isForetold_17 ?_
    refine r_iload_n C (pc := 18) rfl rfl dL_isForetold_18 ?_
    refine r_if_lt C (pc := 19) (tgt := 28) dL_isForetold_19 (by decide) (fun c_19 => ?_) (fun c_19 => by exfalso; exact c_19 (by decide))
    refine r_iload_n C (pc := 28) rfl rfl dL_isForetold_28 ?_
    refine r_bipush C (pc := 29) (x := (-9)) (by decide) dL_isForetold_29 ?_
    refine r_icmp_eq C (pc := 31) (tgt := 41) dL_isForetold_31 (by decide) (fun c_31 => ?_) (fun c_31 => by exfalso; exact c_31 rfl)
    refine r_iconst C (pc := 41) (x := (nI 1)) (by decide) dL_isForetold_41 ?_
    refine r_goto C (pc := 42) (tgt := 46) dL_isForetold_42 (by decide) ?_
    exact r_iret C (pc := 46) rfl (rfl) dL_isForetold_46 ⟨rfl, _, _, hX, (fun _ _ => rfl), rfl, hb2, zI_mono hI (by omega), rfl⟩
  · have hwj := hw j
    rw [hd] at hwj
    have hwK : wtv 1 (itk j M) = M.1 0 := of_decide_eq_true hwj.2.1.symm
    rw [hwj.2.2.2.2] at hwK
    have hKj := hwj.2.2.1
    have hlj := hwj.2.2.2.1
    rcases (show 100 < j ∨ j = 0 ∨ (1 ≤ j ∧ j ≤ 100) by omega) with hj1 | hj1 | hj1
    · have hq := ej
      refine r_aload_n C (pc := 0) rfl rfl dL_isForetold_0 ?_
      refine r_iload_n C (pc := 1) rfl rfl dL_isForetold_1 ?_
      refine r_callV C (pc := 2) (st := []) (t_forecast l G sh v N (k := 1) hX hb hI hT (by decide) (z := nI j) (ej)) kyX6_forecast q_615 rfl (Or.inl hd6) hX.2.2.1 (by decide) rfl rfl rfl (Nat.le_of_ble_eq_true rfl) ⟨Nat.le_of_ble_eq_true rfl, Nat.le_of_ble_eq_true rfl⟩ ⟨Nat.le_of_ble_eq_true rfl, Nat.le_of_ble_eq_true rfl⟩ dL_isForetold_2 (fun r2 v2 hp2 => ?_)
      obtain ⟨rfl, hb2⟩ := hp2
      refine VV.eq (st2 := [.int (nI j)]) rfl ?_
      refine r_istore_n C (pc := 5) (lv2 := [some (.ref x), some (.int (nI 1)), some (.int (nI j)), none, none, none]) rfl (Nat.le_of_ble_eq_true rfl) rfl rfl dL_isForetold_5 ?_
      refine r_iload_n C (pc := 6) rfl rfl dL_isForetold_6 ?_
      refine n_if_ne C (pc := 7) (tgt := 15) (by omega) dL_isForetold_7 (by decide) (fun c_7 => ?_) (fun c_7 => by exfalso; omega)
      refine r_bipush C (pc := 15) (x := (nI 11)) (by decide) dL_isForetold_15 ?_
      refine r_istore_n C (pc := 17) (lv2 := [some (.ref x), some (.int (nI 1)), some (.int (nI j)), some (.int (nI 11)), none, none]) rfl (Nat.le_of_ble_eq_true rfl) rfl rfl dL_isForetold_17 ?_
      refine r_iload_n C (pc := 18) rfl rfl dL_isForetold_18 ?_
      refine n_if_lt C (pc := 19) (by omega) dL_isForetold_19 ?_
      refine r_iload_n C (pc := 22) rfl rfl dL_isForetold_22 ?_
      refine r_bipush C (pc := 23) (x := (nI 100)) (by decide) dL_isForetold_23 ?_
      refine n_icmp_le C (pc := 25) (tgt := 47) (by omega) (by omega) dL_isForetold_25 (by decide) (fun c_25 => by exfalso; omega) (fun c_25 => ?_)
      refine r_iload_n C (pc := 28) rfl rfl dL_isForetold_28 ?_
      refine r_bipush C (pc := 29) (x := (-9)) (by decide) dL_isForetold_29 ?_
      refine r_icmp_eq C (pc := 31) (tgt := 41) dL_isForetold_31 (by decide) (fun c_31 => by exfalso; exact n9 (by omega) c_31) (fun c_31 => ?_)
      refine r_iload_n C (pc := 34) rfl rfl dL_isForetold_34 ?_
      refine r_sipush C (pc := 35) (x := (nI 300)) (by decide) dL_isForetold_35 ?_
      refine n_icmp_gt C (pc := 38) (tgt := 45) (by omega) (by omega) dL_isForetold_38 (by decide) (fun c_38 => by exfalso; omega) (fun c_38 => ?_)
      refine r_iconst C (pc := 41) (x := (nI 1)) (by decide) dL_isForetold_41 ?_
      refine r_goto C (pc := 42) (tgt := 46) dL_isForetold_42 (by decide) ?_
      exact r_iret C (pc := 46) rfl (rfl) dL_isForetold_46 ⟨rfl, _, _, hX, (fun _ _ => rfl), rfl, hb2, zI_mono hI (by omega), rfl⟩
    · subst hj1
      have hwK0 : (M.2.1 3).length = M.1 0 := hwK
      refine r_aload_n C (pc := 0) rfl rfl dL_isForetold_0 ?_
      refine r_iload_n C (pc := 1) rfl rfl dL_isForetold_1 ?_
      refine r_callV C (pc := 2) (st := []) (t_forecast l G sh v N (k := 1) hX hb hI hT (by decide) (z := nI 0) (ej)) kyX6_forecast q_615 rfl (Or.inl hd6) hX.2.2.1 (by decide) rfl rfl rfl (Nat.le_of_ble_eq_true rfl) ⟨Nat.le_of_ble_eq_true rfl, Nat.le_of_ble_eq_true rfl⟩ ⟨Nat.le_of_ble_eq_true rfl, Nat.le_of_ble_eq_true rfl⟩ dL_isForetold_2 (fun r2 v2 hp2 => ?_)
      obtain ⟨rfl, hb2⟩ := hp2
      refine VV.eq (st2 := [.int (nI 0)]) rfl ?_
      refine r_istore_n C (pc := 5) (lv2 := [some (.ref x), some (.int (nI 1)), some (.int (nI 0)), none, none, none]) rfl (Nat.le_of_ble_eq_true rfl) rfl rfl dL_isForetold_5 ?_
      refine r_iload_n C (pc := 6) rfl rfl dL_isForetold_6 ?_
      refine n_if_ne C (pc := 7) (tgt := 15) (by omega) dL_isForetold_7 (by decide) (fun c_7 => ?_) (fun c_7 => by exfalso; omega)
      refine r_bipush C (pc := 15) (x := (nI 11)) (by decide) dL_isForetold_15 ?_
      refine r_istore_n C (pc := 17) (lv2 := [some (.ref x), some (.int (nI 1)), some (.int (nI 0)), some (.int (nI 11)), none, none]) rfl (Nat.le_of_ble_eq_true rfl) rfl rfl dL_isForetold_17 ?_
      refine r_iload_n C (pc := 18) rfl rfl dL_isForetold_18 ?_
      refine n_if_lt C (pc := 19) (by omega) dL_isForetold_19 ?_
      refine r_iload_n C (pc := 22) rfl rfl dL_isForetold_22 ?_
      refine r_bipush C (pc := 23) (x := (nI 100)) (by decide) dL_isForetold_23 ?_
      refine n_icmp_le C (pc := 25) (tgt := 47) (by omega) (by omega) dL_isForetold_25 (by decide) (fun c_25 => ?_) (fun c_25 => by exfalso; omega)
      refine r_iload_n C (pc := 47) rfl rfl dL_isForetold_47 ?_
      refine n_if_ne C (pc := 48) (tgt := 70) (by omega) dL_isForetold_48 (by decide) (fun c_48 => by exfalso; omega) (fun c_48 => ?_)
      refine r_aload_n C (pc := 51) rfl rfl dL_isForetold_51 ?_
      refine r_iload_n C (pc := 52) rfl rfl dL_isForetold_52 ?_
      refine r_callV C (pc := 53) (st := []) (t_told l G sh v2 N (k := 11) hX hb2 hI hT (by decide) (z := nI ((M.2.1 3).length)) (rfl)) kyX6_told q_251 rfl (Or.inl hd6) hX.2.2.1 (by decide) rfl rfl rfl (Nat.le_of_ble_eq_true rfl) ⟨Nat.le_of_ble_eq_true rfl, Nat.le_of_ble_eq_true rfl⟩ ⟨Nat.le_of_ble_eq_true rfl, Nat.le_of_ble_eq_true rfl⟩ dL_isForetold_53 (fun r53 v53 hp53 => ?_)
      obtain ⟨rfl, hb53⟩ := hp53
      refine VV.eq (st2 := [.int (nI ((M.2.1 3).length))]) rfl ?_
      refine r_aload_n C (pc := 56) rfl rfl dL_isForetold_56 ?_
      refine r_iconst C (pc := 57) (x := (nI 0)) (by decide) dL_isForetold_57 ?_
      refine r_callV C (pc := 58) (st := [.int (nI ((M.2.1 3).length))]) (t_told l G sh v53 N (k := 0) hX hb53 hI hT (by decide) (z := nI (M.1 0)) (rfl)) kyX6_told q_251 rfl (Or.inl hd6) hX.2.2.1 (by decide) rfl rfl rfl (Nat.le_of_ble_eq_true rfl) ⟨Nat.le_of_ble_eq_true rfl, Nat.le_of_ble_eq_true rfl⟩ ⟨Nat.le_of_ble_eq_true rfl, Nat.le_of_ble_eq_true rfl⟩ dL_isForetold_58 (fun r58 v58 hp58 => ?_)
      obtain ⟨rfl, hb58⟩ := hp58
      refine VV.eq (st2 := [.int (nI (M.1 0)), .int (nI ((M.2.1 3).length))]) rfl ?_
      refine n_icmp_ne C (pc := 61) (tgt := 68) (by omega) (by omega) dL_isForetold_61 (by decide) (fun c_61 => by exfalso; omega) (fun c_61 => ?_)
      refine r_iconst C (pc := 64) (x := (nI 1)) (by decide) dL_isForetold_64 ?_
      refine r_goto C (pc := 65) (tgt := 69) dL_isForetold_65 (by decide) ?_
      exact r_iret C (pc := 69) rfl (rfl) dL_isForetold_69 ⟨rfl, _, _, hX, (fun _ _ => rfl), rfl, hb58, zI_mono hI (by omega), rfl⟩
    · have fin : ∀ (sh' : zH) (v' : zV) (q' : Nat → Nat) (h' : zHs), zXR G sh' N x q' → (∀ b, b ≠ x + 57 → sh' b = sh b) → zB v0 v' x q' M h' → zI (T + 400) (M, h') → h'.2.2 = h.2.2 → VV p l e ({ frames := 8, cells := 0, slots := 0, locals := 32 * 8 }) s m args below meth c 0 0 (zQ below (fun r sh1 v1 N1 => N = N1 ∧ (∃ q1 h1, zXR G sh1 N x q1 ∧ (∀ b, b ≠ x + 57 → sh1 b = sh b) ∧ r = some (.int (nI 1)) ∧ zB v0 v1 x q1 M h1 ∧ zI (T + 800) (M, h1) ∧ h1.2.2 = h.2.2)) G args s 0 0) G 6 sh' v' N 114 [some (.ref x), some (.int (nI 1)), some (.int (nI j)), some (.int (nI 11)), some (.int (nI 1)), none] [] := by
        intro sh' v' q' h' hX' hs' hb' hI' he'
        refine r_aload_n C (pc := 114) rfl rfl dL_isForetold_114 ?_
        refine r_iload_n C (pc := 115) rfl rfl dL_isForetold_115 ?_
        refine r_callVM C (pc := 116) (st := []) (c_runN l G sh' v' N (n := j) hX' hb' hI' (by omega) hj1.1 hj1.2) kyX6_run q_484 rfl (Or.inl hd6) hX'.2.2.1 (by decide) rfl rfl rfl (Nat.le_of_ble_eq_true rfl) ⟨Nat.le_of_ble_eq_true rfl, Nat.le_of_ble_eq_true rfl⟩ ⟨Nat.le_of_ble_eq_true rfl, Nat.le_of_ble_eq_true rfl⟩ dL_isForetold_116 (fun r116 sh v116 N' hp116 => ?_)
        obtain ⟨hN, q116, hR116, X116, F116, rfl, hb116, I116, U116⟩ := hp116
        subst hN
        refine VV.c0 ?_
        refine VV.eq (st2 := [.int (nI (((itk j M).2.1 3).length))]) rfl ?_
        refine r_istore C (pc := 119) (lv2 := [some (.ref x), some (.int (nI 1)), some (.int (nI j)), some (.int (nI 11)), some (.int (nI 1)), some (.int (nI (((itk j M).2.1 3).length)))]) (Nat.le_of_ble_eq_true rfl) rfl rfl dL_isForetold_119 ?_
        refine r_iload C (pc := 121) rfl dL_isForetold_121 ?_
        refine n_if_eq C (pc := 123) (tgt := 160) (by omega) dL_isForetold_123 (by decide) (fun c_123 => by exfalso; omega) (fun c_123 => ?_)
        refine r_aload_n C (pc := 126) rfl rfl dL_isForetold_126 ?_
        refine r_iload_n C (pc := 127) rfl rfl dL_isForetold_127 ?_
        refine r_callV C (pc := 128) (st := []) (t_told l G sh v116 N (k := 11) X116 hb116 I116 (by omega) (by decide) (z := nI (((itk j M).2.1 3).length)) (rfl)) kyX6_told q_251 rfl (Or.inl hd6) X116.2.2.1 (by decide) rfl rfl rfl (Nat.le_of_ble_eq_true rfl) ⟨Nat.le_of_ble_eq_true rfl, Nat.le_of_ble_eq_true rfl⟩ ⟨Nat.le_of_ble_eq_true rfl, Nat.le_of_ble_eq_true rfl⟩ dL_isForetold_128 (fun r128 v128 hp128 => ?_)
        obtain ⟨rfl, hb128⟩ := hp128
        refine VV.eq (st2 := [.int (nI (((itk j M).2.1 3).length))]) rfl ?_
        refine r_aload_n C (pc := 131) rfl rfl dL_isForetold_131 ?_
        refine r_iconst C (pc := 132) (x := (nI 0)) (by decide) dL_isForetold_132 ?_
        refine r_callV C (pc := 133) (st := [.int (nI (((itk j M).2.1 3).length))]) (t_told l G sh v128 N (k := 0) X116 hb128 I116 (by omega) (by decide) (z := nI (M.1 0)) (congrArg nI hKj)) kyX6_told q_251 rfl (Or.inl hd6) X116.2.2.1 (by decide) rfl rfl rfl (Nat.le_of_ble_eq_true rfl) ⟨Nat.le_of_ble_eq_true rfl, Nat.le_of_ble_eq_true rfl⟩ ⟨Nat.le_of_ble_eq_true rfl, Nat.le_of_ble_eq_true rfl⟩ dL_isForetold_133 (fun r133 v133 hp133 => ?_)
        obtain ⟨rfl, hb133⟩ := hp133
        refine VV.eq (st2 := [.int (nI (M.1 0)), .int (nI (((itk j M).2.1 3).length))]) rfl ?_
        refine n_icmp_ne C (pc := 136) (tgt := 160) (by omega) (by omega) dL_isForetold_136 (by decide) (fun c_136 => by exfalso; omega) (fun c_136 => ?_)
        refine r_aload_n C (pc := 139) rfl rfl dL_isForetold_139 ?_
        refine r_callVM C (pc := 140) (st := []) (c_undoN l G sh v133 N X116 hb133 I116 (by omega) U116) kyX6_undo q_472 rfl (Or.inl hd6) X116.2.2.1 (by decide) rfl rfl rfl (Nat.le_of_ble_eq_true rfl) ⟨Nat.le_of_ble_eq_true rfl, Nat.le_of_ble_eq_true rfl⟩ ⟨Nat.le_of_ble_eq_true rfl, Nat.le_of_ble_eq_true rfl⟩ dL_isForetold_140 (fun r140 sh v140 N' hp140 => ?_)
        obtain ⟨hN, q140, h140, k140, X140, F140, K140, rfl, hb140, I140, E140⟩ := hp140
        subst hN
        refine VV.c0 ?_
        refine VV.eq (st2 := [.int (nI k140)]) rfl ?_
        refine n_if_lt C (pc := 143) (by omega) dL_isForetold_143 ?_
        refine r_iload C (pc := 146) rfl dL_isForetold_146 ?_
        refine r_aload_n C (pc := 148) rfl rfl dL_isForetold_148 ?_
        refine r_iconst C (pc := 149) (x := (nI 0)) (by decide) dL_isForetold_149 ?_
        refine r_callV C (pc := 150) (st := [.int (nI (((itk j M).2.1 3).length))]) (t_told l G sh v140 N (k := 0) X140 hb140 I140 (by omega) (by decide) (z := nI (M.1 0)) (rfl)) kyX6_told q_251 rfl (Or.inl hd6) X140.2.2.1 (by decide) rfl rfl rfl (Nat.le_of_ble_eq_true rfl) ⟨Nat.le_of_ble_eq_true rfl, Nat.le_of_ble_eq_true rfl⟩ ⟨Nat.le_of_ble_eq_true rfl, Nat.le_of_ble_eq_true rfl⟩ dL_isForetold_150 (fun r150 v150 hp150 => ?_)
        obtain ⟨rfl, hb150⟩ := hp150
        refine VV.eq (st2 := [.int (nI (M.1 0)), .int (nI (((itk j M).2.1 3).length))]) rfl ?_
        refine n_icmp_gt C (pc := 153) (tgt := 160) (by omega) (by omega) dL_isForetold_153 (by decide) (fun c_153 => by exfalso; omega) (fun c_153 => ?_)
        refine r_iconst C (pc := 156) (x := (nI 1)) (by decide) dL_isForetold_156 ?_
        refine r_goto C (pc := 157) (tgt := 161) dL_isForetold_157 (by decide) ?_
        exact r_iret C (pc := 161) rfl (rfl) dL_isForetold_161 ⟨rfl, _, _, X140, (fun b hb => (F140 b hb).trans ((F116 b hb).trans (hs' b hb))), rfl, hb150, zI_mono I140 (by omega), E140.trans he'⟩
      refine r_aload_n C (pc := 0) rfl rfl dL_isForetold_0 ?_
      refine r_iload_n C (pc := 1) rfl rfl dL_isForetold_1 ?_
      refine r_callV C (pc := 2) (st := []) (t_forecast l G sh v N (k := 1) hX hb hI hT (by decide) (z := nI j) (ej)) kyX6_forecast q_615 rfl (Or.inl hd6) hX.2.2.1 (by decide) rfl rfl rfl (Nat.le_of_ble_eq_true rfl) ⟨Nat.le_of_ble_eq_true rfl, Nat.le_of_ble_eq_true rfl⟩ ⟨Nat.le_of_ble_eq_true rfl, Nat.le_of_ble_eq_true rfl⟩ dL_isForetold_2 (fun r2 v2 hp2 => ?_)
      obtain ⟨rfl, hb2⟩ := hp2
      refine VV.eq (st2 := [.int (nI j)]) rfl ?_
      refine r_istore_n C (pc := 5) (lv2 := [some (.ref x), some (.int (nI 1)), some (.int (nI j)), none, none, none]) rfl (Nat.le_of_ble_eq_true rfl) rfl rfl dL_isForetold_5 ?_
      refine r_iload_n C (pc := 6) rfl rfl dL_isForetold_6 ?_
      refine n_if_ne C (pc := 7) (tgt := 15) (by omega) dL_isForetold_7 (by decide) (fun c_7 => ?_) (fun c_7 => by exfalso; omega)
      refine r_bipush C (pc := 15) (x := (nI 11)) (by decide) dL_isForetold_15 ?_
      refine r_istore_n C (pc := 17) (lv2 := [some (.ref x), some (.int (nI 1)), some (.int (nI j)), some (.int (nI 11)), none, none]) rfl (Nat.le_of_ble_eq_true rfl) rfl rfl dL_isForetold_17 ?_
      refine r_iload_n C (pc := 18) rfl rfl dL_isForetold_18 ?_
      refine n_if_lt C (pc := 19) (by omega) dL_isForetold_19 ?_
      refine r_iload_n C (pc := 22) rfl rfl dL_isForetold_22 ?_
      refine r_bipush C (pc := 23) (x := (nI 100)) (by decide) dL_isForetold_23 ?_
      refine n_icmp_le C (pc := 25) (tgt := 47) (by omega) (by omega) dL_isForetold_25 (by decide) (fun c_25 => ?_) (fun c_25 => by exfalso; omega)
      refine r_iload_n C (pc := 47) rfl rfl dL_isForetold_47 ?_
      refine n_if_ne C (pc := 48) (tgt := 70) (by omega) dL_isForetold_48 (by decide) (fun c_48 => ?_) (fun c_48 => by exfalso; omega)
      refine r_iconst C (pc := 70) (x := (nI 1)) (by decide) dL_isForetold_70 ?_
      refine r_istore C (pc := 71) (lv2 := [some (.ref x), some (.int (nI 1)), some (.int (nI j)), some (.int (nI 11)), some (.int (nI 1)), none]) (Nat.le_of_ble_eq_true rfl) rfl rfl dL_isForetold_71 ?_
      refine r_iload_n C (pc := 73) rfl rfl dL_isForetold_73 ?_
      refine r_iconst C (pc := 74) (x := (nI 1)) (by decide) dL_isForetold_74 ?_
      refine n_icmp_le C (pc := 75) (tgt := 114) (by omega) (by omega) dL_isForetold_75 (by decide) (fun c_75 => ?_) (fun c_75 => ?_)
      · exact fin sh v2 q h hX (fun _ _ => rfl) hb2 (zI_mono hI (by omega)) rfl
      · have hw1 := hw (j - 1)
        rw [hnd (j - 1) (by omega)] at hw1
        have hwn : ¬ wtv 1 (itk (j - 1) M) = M.1 0 := of_decide_eq_false hw1.2.1.symm
        have hwl := hw1.1
        rw [hw1.2.2.2.2] at hwn hwl
        refine r_aload_n C (pc := 78) rfl rfl dL_isForetold_78 ?_
        refine r_iload_n C (pc := 79) rfl rfl dL_isForetold_79 ?_
        refine r_iconst C (pc := 80) (x := (nI 1)) (by decide) dL_isForetold_80 ?_
        refine r_isub C (pc := 81) (z := (nI (j - 1))) (pk_sub (by omega)) dL_isForetold_81 ?_
        refine r_callVM C (pc := 82) (st := []) (c_runN l G sh v2 N (n := j - 1) hX hb2 hI (by omega) (by omega) (by omega)) kyX6_run q_484 rfl (Or.inl hd6) hX.2.2.1 (by decide) rfl rfl rfl (Nat.le_of_ble_eq_true rfl) ⟨Nat.le_of_ble_eq_true rfl, Nat.le_of_ble_eq_true rfl⟩ ⟨Nat.le_of_ble_eq_true rfl, Nat.le_of_ble_eq_true rfl⟩ dL_isForetold_82 (fun r82 sh v82 N' hp82 => ?_)
        obtain ⟨hN, q82, hR82, X82, F82, rfl, hb82, I82, U82⟩ := hp82
        subst hN
        refine VV.c0 ?_
        refine VV.eq (st2 := [.int (nI (((itk (j - 1) M).2.1 3).length))]) rfl ?_
        refine r_istore C (pc := 85) (lv2 := [some (.ref x), some (.int (nI 1)), some (.int (nI j)), some (.int (nI 11)), some (.int (nI 1)), some (.int (nI (((itk (j - 1) M).2.1 3).length)))]) (Nat.le_of_ble_eq_true rfl) rfl rfl dL_isForetold_85 ?_
        refine r_aload_n C (pc := 87) rfl rfl dL_isForetold_87 ?_
        refine r_iload_n C (pc := 88) rfl rfl dL_isForetold_88 ?_
        refine r_callV C (pc := 89) (st := []) (t_told l G sh v82 N (k := 11) X82 hb82 I82 (by omega) (by decide) (z := nI (((itk (j - 1) M).2.1 3).length)) (rfl)) kyX6_told q_251 rfl (Or.inl hd6) X82.2.2.1 (by decide) rfl rfl rfl (Nat.le_of_ble_eq_true rfl) ⟨Nat.le_of_ble_eq_true rfl, Nat.le_of_ble_eq_true rfl⟩ ⟨Nat.le_of_ble_eq_true rfl, Nat.le_of_ble_eq_true rfl⟩ dL_isForetold_89 (fun r89 v89 hp89 => ?_)
        obtain ⟨rfl, hb89⟩ := hp89
        refine VV.eq (st2 := [.int (nI (((itk (j - 1) M).2.1 3).length))]) rfl ?_
        refine r_aload_n C (pc := 92) rfl rfl dL_isForetold_92 ?_
        refine r_iconst C (pc := 93) (x := (nI 0)) (by decide) dL_isForetold_93 ?_
        refine r_callV C (pc := 94) (st := [.int (nI (((itk (j - 1) M).2.1 3).length))]) (t_told l G sh v89 N (k := 0) X82 hb89 I82 (by omega) (by decide) (z := nI (M.1 0)) (congrArg nI hw1.2.2.1)) kyX6_told q_251 rfl (Or.inl hd6) X82.2.2.1 (by decide) rfl rfl rfl (Nat.le_of_ble_eq_true rfl) ⟨Nat.le_of_ble_eq_true rfl, Nat.le_of_ble_eq_true rfl⟩ ⟨Nat.le_of_ble_eq_true rfl, Nat.le_of_ble_eq_true rfl⟩ dL_isForetold_94 (fun r94 v94 hp94 => ?_)
        obtain ⟨rfl, hb94⟩ := hp94
        refine VV.eq (st2 := [.int (nI (M.1 0)), .int (nI (((itk (j - 1) M).2.1 3).length))]) rfl ?_
        refine n_icmp_ge C (pc := 97) (tgt := 111) (by omega) (by omega) dL_isForetold_97 (by decide) (fun c_97 => by exfalso; omega) (fun c_97 => ?_)
        refine r_aload_n C (pc := 100) rfl rfl dL_isForetold_100 ?_
        refine r_callVM C (pc := 101) (st := []) (c_undoN l G sh v94 N X82 hb94 I82 (by omega) U82) kyX6_undo q_472 rfl (Or.inl hd6) X82.2.2.1 (by decide) rfl rfl rfl (Nat.le_of_ble_eq_true rfl) ⟨Nat.le_of_ble_eq_true rfl, Nat.le_of_ble_eq_true rfl⟩ ⟨Nat.le_of_ble_eq_true rfl, Nat.le_of_ble_eq_true rfl⟩ dL_isForetold_101 (fun r101 sh v101 N' hp101 => ?_)
        obtain ⟨hN, q101, h101, k101, X101, F101, K101, rfl, hb101, I101, E101⟩ := hp101
        subst hN
        refine VV.c0 ?_
        refine VV.eq (st2 := [.int (nI k101)]) rfl ?_
        refine n_if_lt C (pc := 104) (by omega) dL_isForetold_104 ?_
        refine r_iconst C (pc := 107) (x := (nI 1)) (by decide) dL_isForetold_107 ?_
        refine r_goto C (pc := 108) (tgt := 112) dL_isForetold_108 (by decide) ?_
        refine r_istore C (pc := 112) (lv2 := [some (.ref x), some (.int (nI 1)), some (.int (nI j)), some (.int (nI 11)), some (.int (nI 1)), some (.int (nI (((itk (j - 1) M).2.1 3).length)))]) (Nat.le_of_ble_eq_true rfl) rfl rfl dL_isForetold_112 ?_
        refine VV.fg 5 (lv2 := [some (.ref x), some (.int (nI 1)), some (.int (nI j)), some (.int (nI 11)), some (.int (nI 1)), none]) rfl ?_
        exact fin _ v101 _ _ X101 (fun b hb => (F101 b hb).trans (F82 b hb)) hb101 (zI_mono I101 (by omega)) E101
/-- two objects, side by side -/
def zBB (v : zV) (x : Nat) (q : Nat → Nat) (M : zMS) (h : zHs) (y : Nat) (p : Nat → Nat) (L : zMS) (g : zHs) : Prop := (zt v (x + 1) M ∧ zxh v x q h) ∧ zt v (y + 1) L ∧ zxh v y p g
theorem zBB.x {v : zV} {x : Nat} {q : Nat → Nat} {M : zMS} {h : zHs} {y : Nat} {p : Nat → Nat} {L : zMS} {g : zHs} (k : zBB v x q M h y p L g) : zB v v x q M h := ⟨k.1.1, k.1.2, zfr.rf⟩
theorem zBB.y {v : zV} {x : Nat} {q : Nat → Nat} {M : zMS} {h : zHs} {y : Nat} {p : Nat → Nat} {L : zMS} {g : zHs} (k : zBB v x q M h y p L g) : zB v v y p L g := ⟨k.2.1, k.2.2, zfr.rf⟩
theorem zB_out {v v1 : zV} {x y : Nat} {p : Nat → Nat} {L : zMS} {g : zHs} (hp : pq p) (ho : x + 340 ≤ y ∨ y + 340 ≤ x) (f : zfr v v1 x 340) (a : zt v (y + 1) L ∧ zxh v y p g) : zt v1 (y + 1) L ∧ zxh v1 y p g := ⟨zt_all a.1 (fun b h1 h2 => f b (by omega)), a.2.kept hp (congrFun (f y (by omega)) 5) (f _ (by omega)) (fun b h1 h2 => f b (by omega))⟩
theorem zBB.gx {v v1 : zV} {x : Nat} {q q1 : Nat → Nat} {M M1 : zMS} {h h1 : zHs} {y : Nat} {p : Nat → Nat} {L : zMS} {g : zHs} (k : zBB v x q M h y p L g) (hp : pq p) (ho : x + 340 ≤ y) (b : zB v v1 x q1 M1 h1) : zBB v1 x q1 M1 h1 y p L g := ⟨⟨b.1, b.2.1⟩, zB_out hp (Or.inl ho) b.2.2 k.2⟩
theorem zBB.gy {v v1 : zV} {x : Nat} {q : Nat → Nat} {M : zMS} {h : zHs} {y : Nat} {p p1 : Nat → Nat} {L L1 : zMS} {g g1 : zHs} (k : zBB v x q M h y p L g) (hq : pq q) (ho : x + 340 ≤ y) (b : zB v v1 y p1 L1 g1) : zBB v1 x q M h y p1 L1 g1 := ⟨zB_out hq (Or.inr ho) b.2.2 k.1, b.1, b.2.1⟩
theorem tlf_h {M : zMS} {h g : zHs} {k : Nat} (hk : k < 16) : tlf (M, h) k = tlf (M, g) k := by
  unfold tlf
  dsimp only
  repeat' split
  all_goals first | rfl | (exfalso; omega)
set_option maxRecDepth 100000 in
set_option maxHeartbeats 4000000 in
theorem m_L_areAlike (l : Launch) (G : zG) (sh : zH) (v : zV) (N : Nat) {x y : Nat} {q p_ : Nat → Nat} {M : zMS} {h g : zHs} {T : Nat} (hX : zXR G sh N x q) (hY : zXR G sh N y p_) (ho : x + 340 ≤ y) (hb : zBB v x q M h y p_ M g) (hI : zI T (M, h)) (hJ : zI T (M, g)) (hT : T + 1000 < 2 ^ 30) : zm l G yL_areAlike cL_areAlike 5 (some .boolean) 5 [.ref x, .ref y] sh v N (fun r v1 => r = some (.int (nI 1))) := by
  refine zM.of (by decide) rfl (Nat.le_of_ble_eq_true rfl) ?_
  intro p e s m args below meth c C
  have hd6 : G.2.2.1 ≤ x ∧ x < N := ⟨hX.1, by have := hX.2.1; omega⟩
  have hd7 : G.2.2.1 ≤ y ∧ y < N := ⟨hY.1, by have := hY.2.1; omega⟩
  have hqx := hX.2.2.2.2.2.2.2.2.2.2
  have hqy := hY.2.2.2.2.2.2.2.2.2.2
  have hK12 : M.1 0 ≤ 12 := hI.1.1.1.1.2.1
  have hR3 : M.1 1 ≤ 3 := hI.1.1.1.1.2.2.1
  have hC4 : M.1 3 ≤ 4 := hI.1.1.1.1.2.2.2.2.1
  have hlen : ∀ n, 1 ≤ n → n ≤ M.1 1 + 1 → (lsO M n).length ≤ 12 := fun n h1 hn => by
    have hG : zGd T M := hI.1
    obtain ⟨hl1, hl2⟩ := isl_l hG h1 hn
    by_cases hl : n = M.1 1 + 1
    · have := (hl1 hl).2; omega
    · have := hl2 hl; omega
  have packets : ∀ (n : Nat) (h1 : 1 ≤ n) (hn : n ≤ M.1 1 + 1), (∀ v' : zV, zBB v' x q M h y p_ M g → VV p l e ({ frames := 5, cells := 0, slots := 0, locals := 32 * 5 }) s m args below meth c 0 0 (zQ below (fun r sh1 v1 N1 => sh1 = sh ∧ N1 = N ∧ (r = some (.int (nI 1)))) G args s 0 0) G 5 sh v' N 101 [some (.ref x), some (.ref y), some (.int (nI 1)), some (.int (nI n)), none] []) → ∀ v' : zV, zBB v' x q M h y p_ M g → VV p l e ({ frames := 5, cells := 0, slots := 0, locals := 32 * 5 }) s m args below meth c 0 0 (zQ below (fun r sh1 v1 N1 => sh1 = sh ∧ N1 = N ∧ (r = some (.int (nI 1)))) G args s 0 0) G 5 sh v' N 52 [some (.ref x), some (.ref y), some (.int (nI 1)), some (.int (nI n)), none] [] := by
    intro n h1 hn kk
    have hln := hlen n h1 hn
    have loop : ∀ (n' k : Nat) (v' : zV), (lsO M n).length - k < n' → k ≤ (lsO M n).length → zBB v' x q M h y p_ M g → VV p l e ({ frames := 5, cells := 0, slots := 0, locals := 32 * 5 }) s m args below meth c 0 0 (zQ below (fun r sh1 v1 N1 => sh1 = sh ∧ N1 = N ∧ (r = some (.int (nI 1)))) G args s 0 0) G 5 sh v' N 55 [some (.ref x), some (.ref y), some (.int (nI 1)), some (.int (nI n)), some (.int (nI k))] [] := by
      intro n'
      induction n' with
      | zero => intro k v' hm; omega
      | succ n' ih =>
        intro k v' hm hkl hb'
        refine r_iload C (pc := 55) rfl dL_areAlike_55 ?_
        refine r_aload_n C (pc := 57) rfl rfl dL_areAlike_57 ?_
        refine r_iload_n C (pc := 58) rfl rfl dL_areAlike_58 ?_
        refine r_iconst C (pc := 59) (x := (nI 0)) (by decide) dL_areAlike_59 ?_
        refine r_callV C (pc := 60) (st := [.int (nI k)]) (t_node0 l G sh v' N (n := n) hX hb'.x hI hT h1 hn (z := nI (lsO M n).length) (rfl)) kyX6_node q_560 rfl (Or.inl hd6) hX.2.2.1 (by decide) rfl rfl rfl (Nat.le_of_ble_eq_true rfl) ⟨Nat.le_of_ble_eq_true rfl, Nat.le_of_ble_eq_true rfl⟩ ⟨Nat.le_of_ble_eq_true rfl, Nat.le_of_ble_eq_true rfl⟩ dL_areAlike_60 (fun r60 v60 hp60 => ?_)
        obtain ⟨rfl, qhb60⟩ := hp60
        refine VV.eq (st2 := [.int (nI ((lsO M n).length)), .int (nI k)]) rfl ?_
        have hb60 := hb'.gx hqy ho qhb60
        refine n_icmp_ge C (pc := 63) (tgt := 101) (by omega) (by omega) dL_areAlike_63 (by decide) (fun c_63 => ?_) (fun c_63 => ?_)
        · refine VV.fg 4 (lv2 := [some (.ref x), some (.ref y), some (.int (nI 1)), some (.int (nI n)), none]) rfl ?_
          exact kk v60 hb60
        · refine r_iload_n C (pc := 66) rfl rfl dL_areAlike_66 ?_
          refine n_if_eq C (pc := 67) (tgt := 93) (by omega) dL_areAlike_67 (by decide) (fun c_67 => by exfalso; omega) (fun c_67 => ?_)
          refine r_aload_n C (pc := 70) rfl rfl dL_areAlike_70 ?_
          refine r_iload_n C (pc := 71) rfl rfl dL_areAlike_71 ?_
          refine r_iload C (pc := 72) rfl dL_areAlike_72 ?_
          refine r_iconst C (pc := 74) (x := (nI 0)) (by decide) dL_areAlike_74 ?_
          refine r_callV C (pc := 75) (st := []) (t_packet l G sh v60 N (n := n) (k := k) (w := 0) hX hb60.x hI hT h1 hn (by omega) (by decide) (z := nI ((lsO M n).getD k 0 / 256)) (ptI0 c_63)) kyX6_packet q_566 rfl (Or.inl hd6) hX.2.2.1 (by decide) rfl rfl rfl (Nat.le_of_ble_eq_true rfl) ⟨Nat.le_of_ble_eq_true rfl, Nat.le_of_ble_eq_true rfl⟩ ⟨Nat.le_of_ble_eq_true rfl, Nat.le_of_ble_eq_true rfl⟩ dL_areAlike_75 (fun r75 v75 hp75 => ?_)
          obtain ⟨rfl, qhb75⟩ := hp75
          refine VV.eq (st2 := [.int (nI ((lsO M n).getD k 0 / 256))]) rfl ?_
          have hb75 := hb60.gx hqy ho qhb75
          refine r_aload_n C (pc := 78) rfl rfl dL_areAlike_78 ?_
          refine r_iload_n C (pc := 79) rfl rfl dL_areAlike_79 ?_
          refine r_iload C (pc := 80) rfl dL_areAlike_80 ?_
          refine r_iconst C (pc := 82) (x := (nI 0)) (by decide) dL_areAlike_82 ?_
          refine r_callV C (pc := 83) (st := [.int (nI ((lsO M n).getD k 0 / 256))]) (t_packet l G sh v75 N (n := n) (k := k) (w := 0) hY hb75.y hJ hT h1 hn (by omega) (by decide) (z := nI ((lsO M n).getD k 0 / 256)) (ptI0 c_63)) kyX6_packet q_566 rfl (Or.inl hd7) hY.2.2.1 (by decide) rfl rfl rfl (Nat.le_of_ble_eq_true rfl) ⟨Nat.le_of_ble_eq_true rfl, Nat.le_of_ble_eq_true rfl⟩ ⟨Nat.le_of_ble_eq_true rfl, Nat.le_of_ble_eq_true rfl⟩ dL_areAlike_83 (fun r83 v83 hp83 => ?_)
          obtain ⟨rfl, qhb83⟩ := hp83
          refine VV.eq (st2 := [.int (nI ((lsO M n).getD k 0 / 256)), .int (nI ((lsO M n).getD k 0 / 256))]) rfl ?_
          have hb83 := hb75.gy hqx ho qhb83
          refine r_icmp_ne C (pc := 86) (tgt := 93) dL_areAlike_86 (by decide) (fun c_86 => by exfalso; exact c_86 rfl) (fun c_86 => ?_)
          refine r_iconst C (pc := 89) (x := (nI 1)) (by decide) dL_areAlike_89 ?_
          refine r_goto C (pc := 90) (tgt := 94) dL_areAlike_90 (by decide) ?_
          refine r_istore_n C (pc := 94) (lv2 := [some (.ref x), some (.ref y), some (.int (nI 1)), some (.int (nI n)), some (.int (nI k))]) rfl (Nat.le_of_ble_eq_true rfl) rfl rfl dL_areAlike_94 ?_
          refine r_iinc C (pc := 95) (lv2 := [some (.ref x), some (.ref y), some (.int (nI 1)), some (.int (nI n)), some (.int (nI (k + 1)))]) (y := (nI (k + 1))) rfl (nI_inc _ _) (Nat.le_of_ble_eq_true rfl) rfl rfl dL_areAlike_95 ?_
          refine r_goto C (pc := 98) (tgt := 55) dL_areAlike_98 (by decide) ?_
          exact ih (k + 1) v83 (by omega) (by omega) hb83
    intro v' hb'
    refine r_iconst C (pc := 52) (x := (nI 0)) (by decide) dL_areAlike_52 ?_
    refine r_istore C (pc := 53) (lv2 := [some (.ref x), some (.ref y), some (.int (nI 1)), some (.int (nI n)), some (.int (nI 0))]) (Nat.le_of_ble_eq_true rfl) rfl rfl dL_areAlike_53 ?_
    exact loop ((lsO M n).length + 1) 0 v' (by omega) (Nat.zero_le _) hb'
  have nodes : ∀ (n' n : Nat) (v' : zV), M.1 1 + 2 - n < n' → 1 ≤ n → n ≤ M.1 1 + 2 → zBB v' x q M h y p_ M g → VV p l e ({ frames := 5, cells := 0, slots := 0, locals := 32 * 5 }) s m args below meth c 0 0 (zQ below (fun r sh1 v1 N1 => sh1 = sh ∧ N1 = N ∧ (r = some (.int (nI 1)))) G args s 0 0) G 5 sh v' N 41 [some (.ref x), some (.ref y), some (.int (nI 1)), some (.int (nI n)), none] [] := by
    intro n'
    induction n' with
    | zero => intro n v' hm; omega
    | succ n' ih =>
      intro n v' hm h1 hn2 hb'
      refine r_iload_n C (pc := 41) rfl rfl dL_areAlike_41 ?_
      refine r_aload_n C (pc := 42) rfl rfl dL_areAlike_42 ?_
      refine r_iconst C (pc := 43) (x := (nI 1)) (by decide) dL_areAlike_43 ?_
      refine r_callV C (pc := 44) (st := [.int (nI n)]) (t_told l G sh v' N (k := 1) hX hb'.x hI hT (by decide) (z := nI (M.1 1)) (rfl)) kyX6_told q_251 rfl (Or.inl hd6) hX.2.2.1 (by decide) rfl rfl rfl (Nat.le_of_ble_eq_true rfl) ⟨Nat.le_of_ble_eq_true rfl, Nat.le_of_ble_eq_true rfl⟩ ⟨Nat.le_of_ble_eq_true rfl, Nat.le_of_ble_eq_true rfl⟩ dL_areAlike_44 (fun r44 v44 hp44 => ?_)
      obtain ⟨rfl, qhb44⟩ := hp44
      refine VV.eq (st2 := [.int (nI (M.1 1)), .int (nI n)]) rfl ?_
      have hb44 := hb'.gx hqy ho qhb44
      refine r_iconst C (pc := 47) (x := (nI 1)) (by decide) dL_areAlike_47 ?_
      refine r_iadd C (pc := 48) (z := (nI ((M.1 1) + 1))) (nI_add _ _) dL_areAlike_48 ?_
      refine n_icmp_gt C (pc := 49) (tgt := 107) (by omega) (by omega) dL_areAlike_49 (by decide) (fun c_49 => ?_) (fun c_49 => ?_)
      · refine r_iload_n C (pc := 107) rfl rfl dL_areAlike_107 ?_
        exact r_iret C (pc := 108) rfl (rfl) dL_areAlike_108 ⟨rfl, rfl, rfl⟩
      · refine packets n h1 (by omega) (fun v'' hb'' => ?_) v44 hb44
        refine r_iinc C (pc := 101) (lv2 := [some (.ref x), some (.ref y), some (.int (nI 1)), some (.int (nI (n + 1))), none]) (y := (nI (n + 1))) rfl (nI_inc _ _) (Nat.le_of_ble_eq_true rfl) rfl rfl dL_areAlike_101 ?_
        refine r_goto C (pc := 104) (tgt := 41) dL_areAlike_104 (by decide) ?_
        exact ih (n + 1) v'' (by omega) (by omega) (by omega) hb''
  have what : ∀ (n' k : Nat) (v' : zV), 16 - k < n' → k ≤ 16 → zBB v' x q M h y p_ M g → VV p l e ({ frames := 5, cells := 0, slots := 0, locals := 32 * 5 }) s m args below meth c 0 0 (zQ below (fun r sh1 v1 N1 => sh1 = sh ∧ N1 = N ∧ (r = some (.int (nI 1)))) G args s 0 0) G 5 sh v' N 4 [some (.ref x), some (.ref y), some (.int (nI 1)), some (.int (nI k)), none] [] := by
    intro n'
    induction n' with
    | zero => intro k v' hm; omega
    | succ n' ih =>
      intro k v' hm hkl hb'
      refine r_iload_n C (pc := 4) rfl rfl dL_areAlike_4 ?_
      refine r_bipush C (pc := 5) (x := (nI 16)) (by decide) dL_areAlike_5 ?_
      refine n_icmp_ge C (pc := 7) (tgt := 39) (by omega) (by omega) dL_areAlike_7 (by decide) (fun c_7 => ?_) (fun c_7 => ?_)
      · refine r_iconst C (pc := 39) (x := (nI 1)) (by decide) dL_areAlike_39 ?_
        refine r_istore_n C (pc := 40) (lv2 := [some (.ref x), some (.ref y), some (.int (nI 1)), some (.int (nI 1)), none]) rfl (Nat.le_of_ble_eq_true rfl) rfl rfl dL_areAlike_40 ?_
        exact nodes (M.1 1 + 3) 1 v' (by omega) (Nat.le_refl _) (by omega) hb'
      · refine r_iload_n C (pc := 10) rfl rfl dL_areAlike_10 ?_
        refine n_if_eq C (pc := 11) (tgt := 31) (by omega) dL_areAlike_11 (by decide) (fun c_11 => by exfalso; omega) (fun c_11 => ?_)
        refine r_aload_n C (pc := 14) rfl rfl dL_areAlike_14 ?_
        refine r_iload_n C (pc := 15) rfl rfl dL_areAlike_15 ?_
        refine r_callV C (pc := 16) (st := []) (t_told l G sh v' N (k := k) hX hb'.x hI hT (by omega) (z := nI (tlf (M, h) k)) (rfl)) kyX6_told q_251 rfl (Or.inl hd6) hX.2.2.1 (by decide) rfl rfl rfl (Nat.le_of_ble_eq_true rfl) ⟨Nat.le_of_ble_eq_true rfl, Nat.le_of_ble_eq_true rfl⟩ ⟨Nat.le_of_ble_eq_true rfl, Nat.le_of_ble_eq_true rfl⟩ dL_areAlike_16 (fun r16 v16 hp16 => ?_)
        obtain ⟨rfl, qhb16⟩ := hp16
        refine VV.eq (st2 := [.int (nI (tlf (M, h) k))]) rfl ?_
        have hb16 := hb'.gx hqy ho qhb16
        refine r_aload_n C (pc := 19) rfl rfl dL_areAlike_19 ?_
        refine r_iload_n C (pc := 20) rfl rfl dL_areAlike_20 ?_
        refine r_callV C (pc := 21) (st := [.int (nI (tlf (M, h) k))]) (t_told l G sh v16 N (k := k) hY hb16.y hJ hT (by omega) (z := nI (tlf (M, h) k)) (by rw [tlf_h (g := h) (by omega)])) kyX6_told q_251 rfl (Or.inl hd7) hY.2.2.1 (by decide) rfl rfl rfl (Nat.le_of_ble_eq_true rfl) ⟨Nat.le_of_ble_eq_true rfl, Nat.le_of_ble_eq_true rfl⟩ ⟨Nat.le_of_ble_eq_true rfl, Nat.le_of_ble_eq_true rfl⟩ dL_areAlike_21 (fun r21 v21 hp21 => ?_)
        obtain ⟨rfl, qhb21⟩ := hp21
        refine VV.eq (st2 := [.int (nI (tlf (M, h) k)), .int (nI (tlf (M, h) k))]) rfl ?_
        have hb21 := hb16.gy hqx ho qhb21
        refine r_icmp_ne C (pc := 24) (tgt := 31) dL_areAlike_24 (by decide) (fun c_24 => by exfalso; exact c_24 rfl) (fun c_24 => ?_)
        refine r_iconst C (pc := 27) (x := (nI 1)) (by decide) dL_areAlike_27 ?_
        refine r_goto C (pc := 28) (tgt := 32) dL_areAlike_28 (by decide) ?_
        refine r_istore_n C (pc := 32) (lv2 := [some (.ref x), some (.ref y), some (.int (nI 1)), some (.int (nI k)), none]) rfl (Nat.le_of_ble_eq_true rfl) rfl rfl dL_areAlike_32 ?_
        refine r_iinc C (pc := 33) (lv2 := [some (.ref x), some (.ref y), some (.int (nI 1)), some (.int (nI (k + 1))), none]) (y := (nI (k + 1))) rfl (nI_inc _ _) (Nat.le_of_ble_eq_true rfl) rfl rfl dL_areAlike_33 ?_
        refine r_goto C (pc := 36) (tgt := 4) dL_areAlike_36 (by decide) ?_
        exact ih (k + 1) v21 (by omega) (by omega) hb21
  refine r_iconst C (pc := 0) (x := (nI 1)) (by decide) dL_areAlike_0 ?_
  refine r_istore_n C (pc := 1) (lv2 := [some (.ref x), some (.ref y), some (.int (nI 1)), none, none]) rfl (Nat.le_of_ble_eq_true rfl) rfl rfl dL_areAlike_1 ?_
  refine r_iconst C (pc := 2) (x := (nI 0)) (by decide) dL_areAlike_2 ?_
  refine r_istore_n C (pc := 3) (lv2 := [some (.ref x), some (.ref y), some (.int (nI 1)), some (.int (nI 0)), none]) rfl (Nat.le_of_ble_eq_true rfl) rfl rfl dL_areAlike_3 ?_
  exact what 17 0 v (by omega) (by omega) hb

