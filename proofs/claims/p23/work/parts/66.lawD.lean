/-! the law's change of one object -/
theorem c_begin (l : Launch) (G : zG) (sh : zH) (v : zV) (N : Nat) {v0 : zV} {x : Nat} {q : Nat → Nat} {M : zMS} {h : zHs} {T : Nat} {a b : Int32} (hX : zXR G sh N x q) (hb : zB v0 v x q M h) (hI : zI T (M, h)) (hT : T + 1000 < 2 ^ 30) : zM l G yX6_begin cX6_begin 4 (some .int) 6 0 0 [.ref x, .int a, .int b] sh v N (fun r sh1 v1 N1 => N = N1 ∧ (∃ q1, zXR G sh1 N x q1 ∧ (∀ b, b ≠ x + 57 → sh1 b = sh b) ∧ r = some (.int (oBegin a b (M, h)).1) ∧ zB v0 v1 x q1 (oBegin a b (M, h)).2.1 (oBegin a b (M, h)).2.2)) :=
  zM_imp (m_X6_begin l G sh v N (a := a) (b := b) hX hb.1 hb.2.1 hI hT) (fun r sh1 v1 N1 hp => by
    obtain ⟨e, q1, X1, X2, X3, X4, X5, X6⟩ := hp
    exact ⟨e, q1, X1, X2, X3, hb.go ⟨X4, X5, X6⟩⟩)
theorem c_setBlock (l : Launch) (G : zG) (sh : zH) (v : zV) (N : Nat) {v0 : zV} {x : Nat} {q : Nat → Nat} {M : zMS} {h : zHs} {T : Nat} {a b : Int32} (hX : zXR G sh N x q) (hb : zB v0 v x q M h) (hI : zI T (M, h)) (hT : T + 1000 < 2 ^ 30) : zM l G yX6_setBlock cX6_setBlock 4 (some .int) 6 0 0 [.ref x, .int a, .int b] sh v N (fun r sh1 v1 N1 => N = N1 ∧ (∃ q1, zXR G sh1 N x q1 ∧ (∀ b, b ≠ x + 57 → sh1 b = sh b) ∧ r = some (.int (oSetBlock a b (M, h)).1) ∧ zB v0 v1 x q1 (oSetBlock a b (M, h)).2.1 (oSetBlock a b (M, h)).2.2)) :=
  zM_imp (m_X6_setBlock l G sh v N (a := a) (b := b) hX hb.1 hb.2.1 hI hT) (fun r sh1 v1 N1 hp => by
    obtain ⟨e, q1, X1, X2, X3, X4, X5, X6⟩ := hp
    exact ⟨e, q1, X1, X2, X3, hb.go ⟨X4, X5, X6⟩⟩)
theorem c_setLoss (l : Launch) (G : zG) (sh : zH) (v : zV) (N : Nat) {v0 : zV} {x : Nat} {q : Nat → Nat} {M : zMS} {h : zHs} {T : Nat} {a b : Int32} (hX : zXR G sh N x q) (hb : zB v0 v x q M h) (hI : zI T (M, h)) (hT : T + 1000 < 2 ^ 30) : zM l G yX6_setLoss cX6_setLoss 4 (some .int) 6 0 0 [.ref x, .int a, .int b] sh v N (fun r sh1 v1 N1 => N = N1 ∧ (∃ q1, zXR G sh1 N x q1 ∧ (∀ b, b ≠ x + 57 → sh1 b = sh b) ∧ r = some (.int (oSetLoss a b (M, h)).1) ∧ zB v0 v1 x q1 (oSetLoss a b (M, h)).2.1 (oSetLoss a b (M, h)).2.2)) :=
  zM_imp (m_X6_setLoss l G sh v N (a := a) (b := b) hX hb.1 hb.2.1 hI hT) (fun r sh1 v1 N1 hp => by
    obtain ⟨e, q1, X1, X2, X3, X4, X5, X6⟩ := hp
    exact ⟨e, q1, X1, X2, X3, hb.go ⟨X4, X5, X6⟩⟩)
theorem c_setWeight (l : Launch) (G : zG) (sh : zH) (v : zV) (N : Nat) {v0 : zV} {x : Nat} {q : Nat → Nat} {M : zMS} {h : zHs} {T : Nat} {a b : Int32} (hX : zXR G sh N x q) (hb : zB v0 v x q M h) (hI : zI T (M, h)) (hT : T + 1000 < 2 ^ 30) : zM l G yX6_setWeight cX6_setWeight 4 (some .int) 6 0 0 [.ref x, .int a, .int b] sh v N (fun r sh1 v1 N1 => N = N1 ∧ (∃ q1, zXR G sh1 N x q1 ∧ (∀ b, b ≠ x + 57 → sh1 b = sh b) ∧ r = some (.int (oSetWeight a b (M, h)).1) ∧ zB v0 v1 x q1 (oSetWeight a b (M, h)).2.1 (oSetWeight a b (M, h)).2.2)) :=
  zM_imp (m_X6_setWeight l G sh v N (a := a) (b := b) hX hb.1 hb.2.1 hI hT) (fun r sh1 v1 N1 hp => by
    obtain ⟨e, q1, X1, X2, X3, X4, X5, X6⟩ := hp
    exact ⟨e, q1, X1, X2, X3, hb.go ⟨X4, X5, X6⟩⟩)
theorem c_set (l : Launch) (G : zG) (sh : zH) (v : zV) (N : Nat) {v0 : zV} {x : Nat} {q : Nat → Nat} {M : zMS} {h : zHs} {T : Nat} {a b : Int32} (hX : zXR G sh N x q) (hb : zB v0 v x q M h) (hI : zI T (M, h)) (hT : T + 1000 < 2 ^ 30) : zM l G yX6_set cX6_set 3 (some .int) 6 0 0 [.ref x, .int a, .int b] sh v N (fun r sh1 v1 N1 => N = N1 ∧ (∃ q1, zXR G sh1 N x q1 ∧ (∀ b, b ≠ x + 57 → sh1 b = sh b) ∧ r = some (.int (oSet a b (M, h)).1) ∧ zB v0 v1 x q1 (oSet a b (M, h)).2.1 (oSet a b (M, h)).2.2)) :=
  zM_imp (m_X6_set l G sh v N (a := a) (b := b) hX hb.1 hb.2.1 hI hT) (fun r sh1 v1 N1 hp => by
    obtain ⟨e, q1, X1, X2, X3, X4, X5, X6⟩ := hp
    exact ⟨e, q1, X1, X2, X3, hb.go ⟨X4, X5, X6⟩⟩)
theorem c_run (l : Launch) (G : zG) (sh : zH) (v : zV) (N : Nat) {v0 : zV} {x : Nat} {q : Nat → Nat} {M : zMS} {h : zHs} {T : Nat} {a : Int32} (hX : zXR G sh N x q) (hb : zB v0 v x q M h) (hI : zI T (M, h)) (hT : T + 1000 < 2 ^ 30) : zM l G yX6_run cX6_run 3 (some .int) 6 0 0 [.ref x, .int a] sh v N (fun r sh1 v1 N1 => N = N1 ∧ (∃ q1, zXR G sh1 N x q1 ∧ (∀ b, b ≠ x + 57 → sh1 b = sh b) ∧ r = some (.int (oRun a (M, h)).1) ∧ zB v0 v1 x q1 (oRun a (M, h)).2.1 (oRun a (M, h)).2.2)) :=
  zM_imp (m_X6_run l G sh v N (a := a) hX hb.1 hb.2.1 hI hT) (fun r sh1 v1 N1 hp => by
    obtain ⟨e, q1, X1, X2, X3, X4, X5, X6⟩ := hp
    exact ⟨e, q1, X1, X2, X3, hb.go ⟨X4, X5, X6⟩⟩)
theorem c_inject (l : Launch) (G : zG) (sh : zH) (v : zV) (N : Nat) {v0 : zV} {x : Nat} {q : Nat → Nat} {M : zMS} {h : zHs} {T : Nat} {a : Int32} (hX : zXR G sh N x q) (hb : zB v0 v x q M h) (hI : zI T (M, h)) (hT : T + 1000 < 2 ^ 30) : zM l G yX6_inject cX6_inject 2 (some .int) 6 0 0 [.ref x, .int a] sh v N (fun r sh1 v1 N1 => N = N1 ∧ (∃ q1, zXR G sh1 N x q1 ∧ (∀ b, b ≠ x + 57 → sh1 b = sh b) ∧ r = some (.int (oInject a (M, h)).1) ∧ zB v0 v1 x q1 (oInject a (M, h)).2.1 (oInject a (M, h)).2.2)) :=
  zM_imp (m_X6_inject l G sh v N (a := a) hX hb.1 hb.2.1 hI hT) (fun r sh1 v1 N1 hp => by
    obtain ⟨e, q1, X1, X2, X3, X4, X5, X6⟩ := hp
    exact ⟨e, q1, X1, X2, X3, hb.go ⟨X4, X5, X6⟩⟩)
theorem c_undo (l : Launch) (G : zG) (sh : zH) (v : zV) (N : Nat) {v0 : zV} {x : Nat} {q : Nat → Nat} {M : zMS} {h : zHs} {T : Nat}  (hX : zXR G sh N x q) (hb : zB v0 v x q M h) (hI : zI T (M, h)) (hT : T + 1000 < 2 ^ 30) : zM l G yX6_undo cX6_undo 1 (some .int) 5 0 0 [.ref x] sh v N (fun r sh1 v1 N1 => N = N1 ∧ (∃ q1, zXR G sh1 N x q1 ∧ (∀ b, b ≠ x + 57 → sh1 b = sh b) ∧ r = some (.int (oUndo (M, h)).1) ∧ zB v0 v1 x q1 (oUndo (M, h)).2.1 (oUndo (M, h)).2.2)) :=
  zM_imp (m_X6_undo l G sh v N  hX hb.1 hb.2.1 hI hT) (fun r sh1 v1 N1 hp => by
    obtain ⟨e, q1, X1, X2, X3, X4, X5, X6⟩ := hp
    exact ⟨e, q1, X1, X2, X3, hb.go ⟨X4, X5, X6⟩⟩)
theorem c_keep (l : Launch) (G : zG) (sh : zH) (v : zV) (N : Nat) {v0 : zV} {x : Nat} {q : Nat → Nat} {M : zMS} {h : zHs} {T : Nat} {a : Int32} (hX : zXR G sh N x q) (hb : zB v0 v x q M h) (hI : zI T (M, h)) (hT : T + 1000 < 2 ^ 30) : zM l G yX6_keep cX6_keep 2 (some .int) 5 0 0 [.ref x, .int a] sh v N (fun r sh1 v1 N1 => N = N1 ∧ (∃ q1, zXR G sh1 N x q1 ∧ (∀ b, b ≠ x + 57 → sh1 b = sh b) ∧ r = some (.int (oKeep a (M, h)).1) ∧ zB v0 v1 x q1 (oKeep a (M, h)).2.1 (oKeep a (M, h)).2.2)) :=
  zM_imp (m_X6_keep l G sh v N (a := a) hX hb.1 hb.2.1 hI hT) (fun r sh1 v1 N1 hp => by
    obtain ⟨e, q1, X1, X2, X3, X4, X5, X6⟩ := hp
    exact ⟨e, q1, X1, X2, X3, hb.go ⟨X4, X5, X6⟩⟩)
theorem c_back (l : Launch) (G : zG) (sh : zH) (v : zV) (N : Nat) {v0 : zV} {x : Nat} {q : Nat → Nat} {M : zMS} {h : zHs} {T : Nat} {a : Int32} (hX : zXR G sh N x q) (hb : zB v0 v x q M h) (hI : zI T (M, h)) (hT : T + 1000 < 2 ^ 30) : zM l G yX6_back cX6_back 2 (some .int) 6 0 0 [.ref x, .int a] sh v N (fun r sh1 v1 N1 => N = N1 ∧ (∃ q1, zXR G sh1 N x q1 ∧ (∀ b, b ≠ x + 57 → sh1 b = sh b) ∧ r = some (.int (oBack a (M, h)).1) ∧ zB v0 v1 x q1 (oBack a (M, h)).2.1 (oBack a (M, h)).2.2)) :=
  zM_imp (m_X6_back l G sh v N (a := a) hX hb.1 hb.2.1 hI hT) (fun r sh1 v1 N1 hp => by
    obtain ⟨e, q1, X1, X2, X3, X4, X5, X6⟩ := hp
    exact ⟨e, q1, X1, X2, X3, hb.go ⟨X4, X5, X6⟩⟩)
set_option maxRecDepth 100000 in
set_option maxHeartbeats 4000000 in
theorem m_L_change (l : Launch) (G : zG) (sh : zH) (v : zV) (N : Nat) {v0 : zV} {x : Nat} {q : Nat → Nat} {M : zMS} {h : zHs} {T : Nat} {w mo : Int32} (hX : zXR G sh N x q) (hb : zB v0 v x q M h) (hI : zI T (M, h)) (hT : T + 1000 < 2 ^ 30) (hw : lo_ w 18 ≠ 10) : zM l G yL_change cL_change 4 (some .int) 7 0 0 [.ref x, .int w, .int mo] sh v N (fun r sh1 v1 N1 => N = N1 ∧ (∃ q1, zXR G sh1 N x q1 ∧ (∀ b, b ≠ x + 57 → sh1 b = sh b) ∧ r = some (.int (chg w mo (M, h)).1) ∧ zB v0 v1 x q1 (chg w mo (M, h)).2.1 (chg w mo (M, h)).2.2)) := by
  refine zM.of (by decide) rfl (Nat.le_of_ble_eq_true rfl) ?_
  intro p e s m args below meth c C
  have hd6 : G.2.2.1 ≤ x ∧ x < N := ⟨hX.1, by have := hX.2.1; omega⟩
  have hK12 : M.1 0 ≤ 12 := hI.1.1.1.1.2.1
  have hK2 : 2 ≤ M.1 0 := hI.1.1.1.1.1
  have hV : ∀ b, b < 12 → M.1 (17 + b) < 256 := mOK_V hI.1.1.1
  have h2K := pK hI
  have h4K : 2 ^ 2 ≤ 2 ^ M.1 0 := Nat.pow_le_pow_right (by decide) hK2
  refine r_aload_n C (pc := 0) rfl rfl dL_change_0 ?_
  refine r_iconst C (pc := 1) (x := (nI 0)) (by decide) dL_change_1 ?_
  refine r_callV C (pc := 2) (st := []) (t_told l G sh v N (k := 0) hX hb hI hT (by decide) (z := nI (M.1 0)) (rfl)) kyX6_told q_251 rfl (Or.inl hd6) hX.2.2.1 (by decide) rfl rfl rfl (Nat.le_of_ble_eq_true rfl) ⟨Nat.le_of_ble_eq_true rfl, Nat.le_of_ble_eq_true rfl⟩ ⟨Nat.le_of_ble_eq_true rfl, Nat.le_of_ble_eq_true rfl⟩ dL_change_2 (fun r2 v2 hp2 => ?_)
  obtain ⟨rfl, hb2⟩ := hp2
  refine VV.eq (st2 := [.int (nI (M.1 0))]) rfl ?_
  refine r_istore_n C (pc := 5) (lv2 := [some (.ref x), some (.int w), some (.int mo), some (.int (nI (M.1 0)))]) rfl (Nat.le_of_ble_eq_true rfl) rfl rfl dL_change_5 ?_
  refine r_iload_n C (pc := 6) rfl rfl dL_change_6 ?_
  refine r_bipush C (pc := 7) (x := (nI 18)) (by decide) dL_change_7 ?_
  refine r_callS C (pc := 9) (st := []) (m_L_low l G sh v2 N (w := w) (n := 18) (by decide) (by decide)) kyL_low q_259 rfl rfl (Nat.le_of_ble_eq_true rfl) ⟨Nat.le_of_ble_eq_true rfl, Nat.le_of_ble_eq_true rfl⟩ ⟨Nat.le_of_ble_eq_true rfl, Nat.le_of_ble_eq_true rfl⟩ dL_change_9 (fun r9 v9 hp9 => ?_)
  obtain ⟨rfl, ehp9⟩ := hp9
  refine VV.vq ehp9 ?_
  refine VV.eq (st2 := [.int (nI (lo_ w 18))]) rfl ?_
  have hlt := lo_lt w (show 0 < 18 by decide)
  rcases (show lo_ w 18 = 0 ∨ lo_ w 18 = 1 ∨ lo_ w 18 = 2 ∨ lo_ w 18 = 3 ∨ lo_ w 18 = 4 ∨ lo_ w 18 = 5 ∨ lo_ w 18 = 6 ∨ lo_ w 18 = 7 ∨ lo_ w 18 = 8 ∨ lo_ w 18 = 9 ∨ lo_ w 18 = 11 ∨ 11 < lo_ w 18 by omega) with hj | hj | hj | hj | hj | hj | hj | hj | hj | hj | hj | hj
  · rw [hj]
    refine r_tableIn C (pc := 12) (off := 64) (tgt := 76) dL_change_12 (by decide) (by decide) rfl (by decide) ?_
    refine r_iload_n C (pc := 76) rfl rfl dL_change_76 ?_
    refine r_iconst C (pc := 77) (x := (nI 3)) (by decide) dL_change_77 ?_
    refine r_callS C (pc := 78) (st := []) (m_L_low l G sh v2 N (w := mo) (n := 3) (by decide) (by decide)) kyL_low q_259 rfl rfl (Nat.le_of_ble_eq_true rfl) ⟨Nat.le_of_ble_eq_true rfl, Nat.le_of_ble_eq_true rfl⟩ ⟨Nat.le_of_ble_eq_true rfl, Nat.le_of_ble_eq_true rfl⟩ dL_change_78 (fun r78 v78 hp78 => ?_)
    obtain ⟨rfl, ehp78⟩ := hp78
    refine VV.vq ehp78 ?_
    refine VV.eq (st2 := [.int (nI (lo_ mo 3))]) rfl ?_
    refine n_if_ne C (pc := 81) (tgt := 109) (Nat.lt_trans (lo_lt mo (show 0 < 3 by decide)) (by decide)) dL_change_81 (by decide) (fun c_81 => ?_) (fun c_81 => ?_)
    · refine r_aload_n C (pc := 109) rfl rfl dL_change_109 ?_
      refine r_iload_n C (pc := 110) rfl rfl dL_change_110 ?_
      refine r_iload_n C (pc := 111) rfl rfl dL_change_111 ?_
      refine r_callS C (pc := 112) (st := [.ref x]) (m_L_low l G sh v2 N (w := mo) (n := (M.1 0)) (by omega) (by omega)) kyL_low q_259 rfl rfl (Nat.le_of_ble_eq_true rfl) ⟨Nat.le_of_ble_eq_true rfl, Nat.le_of_ble_eq_true rfl⟩ ⟨Nat.le_of_ble_eq_true rfl, Nat.le_of_ble_eq_true rfl⟩ dL_change_112 (fun r112 v112 hp112 => ?_)
      obtain ⟨rfl, ehp112⟩ := hp112
      refine VV.vq ehp112 ?_
      refine VV.eq (st2 := [.int (nI (lo_ mo (M.1 0))), .ref x]) rfl ?_
      refine r_iload_n C (pc := 115) rfl rfl dL_change_115 ?_
      refine r_iconst C (pc := 116) (x := (nI 4)) (by decide) dL_change_116 ?_
      refine r_ishr C (pc := 117) (z := (sr_ mo 4)) (rfl) dL_change_117 ?_
      refine r_sipush C (pc := 118) (x := (nI 256)) (by decide) dL_change_118 ?_
      refine r_callS C (pc := 121) (st := [.int (nI (lo_ mo (M.1 0))), .ref x]) (m_L_low l G sh v2 N (w := (sr_ mo 4)) (n := 256) (by decide) (by decide)) kyL_low q_259 rfl rfl (Nat.le_of_ble_eq_true rfl) ⟨Nat.le_of_ble_eq_true rfl, Nat.le_of_ble_eq_true rfl⟩ ⟨Nat.le_of_ble_eq_true rfl, Nat.le_of_ble_eq_true rfl⟩ dL_change_121 (fun r121 v121 hp121 => ?_)
      obtain ⟨rfl, ehp121⟩ := hp121
      refine VV.vq ehp121 ?_
      refine VV.eq (st2 := [.int (nI (lo_ (sr_ mo 4) 256)), .int (nI (lo_ mo (M.1 0))), .ref x]) rfl ?_
      refine r_callVM C (pc := 124) (st := []) (c_setBlock l G sh v2 N (a := (nI (lo_ mo (M.1 0)))) (b := (nI (lo_ (sr_ mo 4) 256))) hX hb2 hI hT) kyX6_setBlock q_335 rfl (Or.inl hd6) hX.2.2.1 (by decide) rfl rfl rfl (Nat.le_of_ble_eq_true rfl) ⟨Nat.le_of_ble_eq_true rfl, Nat.le_of_ble_eq_true rfl⟩ ⟨Nat.le_of_ble_eq_true rfl, Nat.le_of_ble_eq_true rfl⟩ dL_change_124 (fun r124 sh v124 N' hp124 => ?_)
      obtain ⟨hN, q1, X1, X2, rfl, hbz⟩ := hp124
      subst hN
      refine VV.c0 ?_
      refine VV.eq (st2 := [.int ((oSetBlock (nI (lo_ mo (M.1 0))) (nI (lo_ (sr_ mo 4) 256)) (M, h)).1)]) rfl ?_
      exact r_iret C (pc := 127) rfl (rfl) dL_change_127 ⟨rfl, q1, X1, X2, (by rw [chg_0b hj (by omega)]), (by rw [chg_0b hj (by omega)]; exact hbz)⟩
    · refine r_aload_n C (pc := 84) rfl rfl dL_change_84 ?_
      refine r_iconst C (pc := 85) (x := (nI 2)) (by decide) dL_change_85 ?_
      refine r_iload_n C (pc := 86) rfl rfl dL_change_86 ?_
      refine r_iconst C (pc := 87) (x := (nI 2)) (by decide) dL_change_87 ?_
      refine r_ishr C (pc := 88) (z := (sr_ mo 2)) (rfl) dL_change_88 ?_
      refine r_bipush C (pc := 89) (x := (nI 11)) (by decide) dL_change_89 ?_
      refine r_callS C (pc := 91) (st := [.int (nI 2), .ref x]) (m_L_low l G sh v2 N (w := (sr_ mo 2)) (n := 11) (by decide) (by decide)) kyL_low q_259 rfl rfl (Nat.le_of_ble_eq_true rfl) ⟨Nat.le_of_ble_eq_true rfl, Nat.le_of_ble_eq_true rfl⟩ ⟨Nat.le_of_ble_eq_true rfl, Nat.le_of_ble_eq_true rfl⟩ dL_change_91 (fun r91 v91 hp91 => ?_)
      obtain ⟨rfl, ehp91⟩ := hp91
      refine VV.vq ehp91 ?_
      refine VV.eq (st2 := [.int (nI (lo_ (sr_ mo 2) 11)), .int (nI 2), .ref x]) rfl ?_
      refine r_iadd C (pc := 94) (z := (nI (2 + (lo_ (sr_ mo 2) 11)))) (nI_add _ _) dL_change_94 ?_
      refine r_iload_n C (pc := 95) rfl rfl dL_change_95 ?_
      refine r_bipush C (pc := 96) (x := (nI 6)) (by decide) dL_change_96 ?_
      refine r_ishr C (pc := 98) (z := (sr_ mo 6)) (rfl) dL_change_98 ?_
      refine r_iconst C (pc := 99) (x := (nI 4)) (by decide) dL_change_99 ?_
      refine r_callS C (pc := 100) (st := [.int (nI (2 + (lo_ (sr_ mo 2) 11))), .ref x]) (m_L_low l G sh v2 N (w := (sr_ mo 6)) (n := 4) (by decide) (by decide)) kyL_low q_259 rfl rfl (Nat.le_of_ble_eq_true rfl) ⟨Nat.le_of_ble_eq_true rfl, Nat.le_of_ble_eq_true rfl⟩ ⟨Nat.le_of_ble_eq_true rfl, Nat.le_of_ble_eq_true rfl⟩ dL_change_100 (fun r100 v100 hp100 => ?_)
      obtain ⟨rfl, ehp100⟩ := hp100
      refine VV.vq ehp100 ?_
      refine VV.eq (st2 := [.int (nI (lo_ (sr_ mo 6) 4)), .int (nI (2 + (lo_ (sr_ mo 2) 11))), .ref x]) rfl ?_
      refine r_callVM C (pc := 103) (st := []) (c_begin l G sh v2 N (a := (nI (2 + (lo_ (sr_ mo 2) 11)))) (b := (nI (lo_ (sr_ mo 6) 4))) hX hb2 hI hT) kyX6_begin q_266 rfl (Or.inl hd6) hX.2.2.1 (by decide) rfl rfl rfl (Nat.le_of_ble_eq_true rfl) ⟨Nat.le_of_ble_eq_true rfl, Nat.le_of_ble_eq_true rfl⟩ ⟨Nat.le_of_ble_eq_true rfl, Nat.le_of_ble_eq_true rfl⟩ dL_change_103 (fun r103 sh v103 N' hp103 => ?_)
      obtain ⟨hN, q1, X1, X2, rfl, hbz⟩ := hp103
      subst hN
      refine VV.c0 ?_
      refine VV.eq (st2 := [.int ((oBegin (nI (2 + (lo_ (sr_ mo 2) 11))) (nI (lo_ (sr_ mo 6) 4)) (M, h)).1)]) rfl ?_
      refine r_goto C (pc := 106) (tgt := 127) dL_change_106 (by decide) ?_
      exact r_iret C (pc := 127) rfl (rfl) dL_change_127 ⟨rfl, q1, X1, X2, (by rw [chg_0a hj c_81]), (by rw [chg_0a hj c_81]; exact hbz)⟩
  · rw [hj]
    refine r_tableIn C (pc := 12) (off := 116) (tgt := 128) dL_change_12 (by decide) (by decide) rfl (by decide) ?_
    refine r_aload_n C (pc := 128) rfl rfl dL_change_128 ?_
    refine r_iload_n C (pc := 129) rfl rfl dL_change_129 ?_
    refine r_iconst C (pc := 130) (x := (nI 4)) (by decide) dL_change_130 ?_
    refine r_callS C (pc := 131) (st := [.ref x]) (m_L_low l G sh v2 N (w := mo) (n := 4) (by decide) (by decide)) kyL_low q_259 rfl rfl (Nat.le_of_ble_eq_true rfl) ⟨Nat.le_of_ble_eq_true rfl, Nat.le_of_ble_eq_true rfl⟩ ⟨Nat.le_of_ble_eq_true rfl, Nat.le_of_ble_eq_true rfl⟩ dL_change_131 (fun r131 v131 hp131 => ?_)
    obtain ⟨rfl, ehp131⟩ := hp131
    refine VV.vq ehp131 ?_
    refine VV.eq (st2 := [.int (nI (lo_ mo 4)), .ref x]) rfl ?_
    refine r_iload_n C (pc := 134) rfl rfl dL_change_134 ?_
    refine r_iconst C (pc := 135) (x := (nI 2)) (by decide) dL_change_135 ?_
    refine r_ishr C (pc := 136) (z := (sr_ mo 2)) (rfl) dL_change_136 ?_
    refine r_bipush C (pc := 137) (x := (nI 100)) (by decide) dL_change_137 ?_
    refine r_callS C (pc := 139) (st := [.int (nI (lo_ mo 4)), .ref x]) (m_L_low l G sh v2 N (w := (sr_ mo 2)) (n := 100) (by decide) (by decide)) kyL_low q_259 rfl rfl (Nat.le_of_ble_eq_true rfl) ⟨Nat.le_of_ble_eq_true rfl, Nat.le_of_ble_eq_true rfl⟩ ⟨Nat.le_of_ble_eq_true rfl, Nat.le_of_ble_eq_true rfl⟩ dL_change_139 (fun r139 v139 hp139 => ?_)
    obtain ⟨rfl, ehp139⟩ := hp139
    refine VV.vq ehp139 ?_
    refine VV.eq (st2 := [.int (nI (lo_ (sr_ mo 2) 100)), .int (nI (lo_ mo 4)), .ref x]) rfl ?_
    refine r_callVM C (pc := 142) (st := []) (c_setLoss l G sh v2 N (a := (nI (lo_ mo 4))) (b := (nI (lo_ (sr_ mo 2) 100))) hX hb2 hI hT) kyX6_setLoss q_343 rfl (Or.inl hd6) hX.2.2.1 (by decide) rfl rfl rfl (Nat.le_of_ble_eq_true rfl) ⟨Nat.le_of_ble_eq_true rfl, Nat.le_of_ble_eq_true rfl⟩ ⟨Nat.le_of_ble_eq_true rfl, Nat.le_of_ble_eq_true rfl⟩ dL_change_142 (fun r142 sh v142 N' hp142 => ?_)
    obtain ⟨hN, q1, X1, X2, rfl, hbz⟩ := hp142
    subst hN
    refine VV.c0 ?_
    refine VV.eq (st2 := [.int ((oSetLoss (nI (lo_ mo 4)) (nI (lo_ (sr_ mo 2) 100)) (M, h)).1)]) rfl ?_
    exact r_iret C (pc := 145) rfl (rfl) dL_change_145 ⟨rfl, q1, X1, X2, (by rw [chg_1 hj]), (by rw [chg_1 hj]; exact hbz)⟩
  · rw [hj]
    refine r_tableIn C (pc := 12) (off := 134) (tgt := 146) dL_change_12 (by decide) (by decide) rfl (by decide) ?_
    refine r_aload_n C (pc := 146) rfl rfl dL_change_146 ?_
    refine r_iconst C (pc := 147) (x := (nI 1)) (by decide) dL_change_147 ?_
    refine r_iload_n C (pc := 148) rfl rfl dL_change_148 ?_
    refine r_bipush C (pc := 149) (x := (nI 6)) (by decide) dL_change_149 ?_
    refine r_callS C (pc := 151) (st := [.int (nI 1), .ref x]) (m_L_low l G sh v2 N (w := mo) (n := 6) (by decide) (by decide)) kyL_low q_259 rfl rfl (Nat.le_of_ble_eq_true rfl) ⟨Nat.le_of_ble_eq_true rfl, Nat.le_of_ble_eq_true rfl⟩ ⟨Nat.le_of_ble_eq_true rfl, Nat.le_of_ble_eq_true rfl⟩ dL_change_151 (fun r151 v151 hp151 => ?_)
    obtain ⟨rfl, ehp151⟩ := hp151
    refine VV.vq ehp151 ?_
    refine VV.eq (st2 := [.int (nI (lo_ mo 6)), .int (nI 1), .ref x]) rfl ?_
    refine r_iadd C (pc := 154) (z := (nI (1 + (lo_ mo 6)))) (nI_add _ _) dL_change_154 ?_
    refine r_iload_n C (pc := 155) rfl rfl dL_change_155 ?_
    refine r_iconst C (pc := 156) (x := (nI 3)) (by decide) dL_change_156 ?_
    refine r_ishr C (pc := 157) (z := (sr_ mo 3)) (rfl) dL_change_157 ?_
    refine r_bipush C (pc := 158) (x := (nI 10)) (by decide) dL_change_158 ?_
    refine r_callS C (pc := 160) (st := [.int (nI (1 + (lo_ mo 6))), .ref x]) (m_L_low l G sh v2 N (w := (sr_ mo 3)) (n := 10) (by decide) (by decide)) kyL_low q_259 rfl rfl (Nat.le_of_ble_eq_true rfl) ⟨Nat.le_of_ble_eq_true rfl, Nat.le_of_ble_eq_true rfl⟩ ⟨Nat.le_of_ble_eq_true rfl, Nat.le_of_ble_eq_true rfl⟩ dL_change_160 (fun r160 v160 hp160 => ?_)
    obtain ⟨rfl, ehp160⟩ := hp160
    refine VV.vq ehp160 ?_
    refine VV.eq (st2 := [.int (nI (lo_ (sr_ mo 3) 10)), .int (nI (1 + (lo_ mo 6))), .ref x]) rfl ?_
    refine r_callVM C (pc := 163) (st := []) (c_setWeight l G sh v2 N (a := (nI (1 + (lo_ mo 6)))) (b := (nI (lo_ (sr_ mo 3) 10))) hX hb2 hI hT) kyX6_setWeight q_351 rfl (Or.inl hd6) hX.2.2.1 (by decide) rfl rfl rfl (Nat.le_of_ble_eq_true rfl) ⟨Nat.le_of_ble_eq_true rfl, Nat.le_of_ble_eq_true rfl⟩ ⟨Nat.le_of_ble_eq_true rfl, Nat.le_of_ble_eq_true rfl⟩ dL_change_163 (fun r163 sh v163 N' hp163 => ?_)
    obtain ⟨hN, q1, X1, X2, rfl, hbz⟩ := hp163
    subst hN
    refine VV.c0 ?_
    refine VV.eq (st2 := [.int ((oSetWeight (nI (1 + (lo_ mo 6))) (nI (lo_ (sr_ mo 3) 10)) (M, h)).1)]) rfl ?_
    exact r_iret C (pc := 166) rfl (rfl) dL_change_166 ⟨rfl, q1, X1, X2, (by rw [chg_2 hj]), (by rw [chg_2 hj]; exact hbz)⟩
  · rw [hj]
    refine r_tableIn C (pc := 12) (off := 155) (tgt := 167) dL_change_12 (by decide) (by decide) rfl (by decide) ?_
    refine r_aload_n C (pc := 167) rfl rfl dL_change_167 ?_
    refine r_iconst C (pc := 168) (x := (nI 0)) (by decide) dL_change_168 ?_
    refine r_iconst C (pc := 169) (x := (nI 1)) (by decide) dL_change_169 ?_
    refine r_iload_n C (pc := 170) rfl rfl dL_change_170 ?_
    refine r_iconst C (pc := 171) (x := (nI 4)) (by decide) dL_change_171 ?_
    refine r_callS C (pc := 172) (st := [.int (nI 1), .int (nI 0), .ref x]) (m_L_low l G sh v2 N (w := mo) (n := 4) (by decide) (by decide)) kyL_low q_259 rfl rfl (Nat.le_of_ble_eq_true rfl) ⟨Nat.le_of_ble_eq_true rfl, Nat.le_of_ble_eq_true rfl⟩ ⟨Nat.le_of_ble_eq_true rfl, Nat.le_of_ble_eq_true rfl⟩ dL_change_172 (fun r172 v172 hp172 => ?_)
    obtain ⟨rfl, ehp172⟩ := hp172
    refine VV.vq ehp172 ?_
    refine VV.eq (st2 := [.int (nI (lo_ mo 4)), .int (nI 1), .int (nI 0), .ref x]) rfl ?_
    refine r_iadd C (pc := 175) (z := (nI (1 + (lo_ mo 4)))) (nI_add _ _) dL_change_175 ?_
    refine r_callVM C (pc := 176) (st := []) (c_set l G sh v2 N (a := (nI 0)) (b := (nI (1 + (lo_ mo 4)))) hX hb2 hI hT) kyX6_set q_359 rfl (Or.inl hd6) hX.2.2.1 (by decide) rfl rfl rfl (Nat.le_of_ble_eq_true rfl) ⟨Nat.le_of_ble_eq_true rfl, Nat.le_of_ble_eq_true rfl⟩ ⟨Nat.le_of_ble_eq_true rfl, Nat.le_of_ble_eq_true rfl⟩ dL_change_176 (fun r176 sh v176 N' hp176 => ?_)
    obtain ⟨hN, q1, X1, X2, rfl, hbz⟩ := hp176
    subst hN
    refine VV.c0 ?_
    refine VV.eq (st2 := [.int ((oSet (nI 0) (nI (1 + (lo_ mo 4))) (M, h)).1)]) rfl ?_
    exact r_iret C (pc := 179) rfl (rfl) dL_change_179 ⟨rfl, q1, X1, X2, (by rw [chg_3 hj]), (by rw [chg_3 hj]; exact hbz)⟩
  · rw [hj]
    refine r_tableIn C (pc := 12) (off := 168) (tgt := 180) dL_change_12 (by decide) (by decide) rfl (by decide) ?_
    refine r_aload_n C (pc := 180) rfl rfl dL_change_180 ?_
    refine r_iconst C (pc := 181) (x := (nI 1)) (by decide) dL_change_181 ?_
    refine r_iload_n C (pc := 182) rfl rfl dL_change_182 ?_
    refine r_iconst C (pc := 183) (x := (nI 4)) (by decide) dL_change_183 ?_
    refine r_callS C (pc := 184) (st := [.int (nI 1), .ref x]) (m_L_low l G sh v2 N (w := mo) (n := 4) (by decide) (by decide)) kyL_low q_259 rfl rfl (Nat.le_of_ble_eq_true rfl) ⟨Nat.le_of_ble_eq_true rfl, Nat.le_of_ble_eq_true rfl⟩ ⟨Nat.le_of_ble_eq_true rfl, Nat.le_of_ble_eq_true rfl⟩ dL_change_184 (fun r184 v184 hp184 => ?_)
    obtain ⟨rfl, ehp184⟩ := hp184
    refine VV.vq ehp184 ?_
    refine VV.eq (st2 := [.int (nI (lo_ mo 4)), .int (nI 1), .ref x]) rfl ?_
    refine r_callVM C (pc := 187) (st := []) (c_set l G sh v2 N (a := (nI 1)) (b := (nI (lo_ mo 4))) hX hb2 hI hT) kyX6_set q_359 rfl (Or.inl hd6) hX.2.2.1 (by decide) rfl rfl rfl (Nat.le_of_ble_eq_true rfl) ⟨Nat.le_of_ble_eq_true rfl, Nat.le_of_ble_eq_true rfl⟩ ⟨Nat.le_of_ble_eq_true rfl, Nat.le_of_ble_eq_true rfl⟩ dL_change_187 (fun r187 sh v187 N' hp187 => ?_)
    obtain ⟨hN, q1, X1, X2, rfl, hbz⟩ := hp187
    subst hN
    refine VV.c0 ?_
    refine VV.eq (st2 := [.int ((oSet (nI 1) (nI (lo_ mo 4)) (M, h)).1)]) rfl ?_
    exact r_iret C (pc := 190) rfl (rfl) dL_change_190 ⟨rfl, q1, X1, X2, (by rw [chg_4 hj]), (by rw [chg_4 hj]; exact hbz)⟩
  · rw [hj]
    refine r_tableIn C (pc := 12) (off := 179) (tgt := 191) dL_change_12 (by decide) (by decide) rfl (by decide) ?_
    refine r_aload_n C (pc := 191) rfl rfl dL_change_191 ?_
    refine r_iconst C (pc := 192) (x := (nI 2)) (by decide) dL_change_192 ?_
    refine r_iload_n C (pc := 193) rfl rfl dL_change_193 ?_
    refine r_iconst C (pc := 194) (x := (nI 2)) (by decide) dL_change_194 ?_
    refine r_callS C (pc := 195) (st := [.int (nI 2), .ref x]) (m_L_low l G sh v2 N (w := mo) (n := 2) (by decide) (by decide)) kyL_low q_259 rfl rfl (Nat.le_of_ble_eq_true rfl) ⟨Nat.le_of_ble_eq_true rfl, Nat.le_of_ble_eq_true rfl⟩ ⟨Nat.le_of_ble_eq_true rfl, Nat.le_of_ble_eq_true rfl⟩ dL_change_195 (fun r195 v195 hp195 => ?_)
    obtain ⟨rfl, ehp195⟩ := hp195
    refine VV.vq ehp195 ?_
    refine VV.eq (st2 := [.int (nI (lo_ mo 2)), .int (nI 2), .ref x]) rfl ?_
    refine r_callVM C (pc := 198) (st := []) (c_set l G sh v2 N (a := (nI 2)) (b := (nI (lo_ mo 2))) hX hb2 hI hT) kyX6_set q_359 rfl (Or.inl hd6) hX.2.2.1 (by decide) rfl rfl rfl (Nat.le_of_ble_eq_true rfl) ⟨Nat.le_of_ble_eq_true rfl, Nat.le_of_ble_eq_true rfl⟩ ⟨Nat.le_of_ble_eq_true rfl, Nat.le_of_ble_eq_true rfl⟩ dL_change_198 (fun r198 sh v198 N' hp198 => ?_)
    obtain ⟨hN, q1, X1, X2, rfl, hbz⟩ := hp198
    subst hN
    refine VV.c0 ?_
    refine VV.eq (st2 := [.int ((oSet (nI 2) (nI (lo_ mo 2)) (M, h)).1)]) rfl ?_
    exact r_iret C (pc := 201) rfl (rfl) dL_change_201 ⟨rfl, q1, X1, X2, (by rw [chg_5 hj]), (by rw [chg_5 hj]; exact hbz)⟩
  · rw [hj]
    refine r_tableIn C (pc := 12) (off := 190) (tgt := 202) dL_change_12 (by decide) (by decide) rfl (by decide) ?_
    refine r_aload_n C (pc := 202) rfl rfl dL_change_202 ?_
    refine r_iconst C (pc := 203) (x := (nI 3)) (by decide) dL_change_203 ?_
    refine r_iload_n C (pc := 204) rfl rfl dL_change_204 ?_
    refine r_ldc C (pc := 205) (x := nI 2147483647) q_262 dL_change_205 ?_
    refine r_iand C (pc := 207) (z := (nI (lwN mo))) ((lwN_I mo).1) dL_change_207 ?_
    refine r_callVM C (pc := 208) (st := []) (c_set l G sh v2 N (a := (nI 3)) (b := (nI (lwN mo))) hX hb2 hI hT) kyX6_set q_359 rfl (Or.inl hd6) hX.2.2.1 (by decide) rfl rfl rfl (Nat.le_of_ble_eq_true rfl) ⟨Nat.le_of_ble_eq_true rfl, Nat.le_of_ble_eq_true rfl⟩ ⟨Nat.le_of_ble_eq_true rfl, Nat.le_of_ble_eq_true rfl⟩ dL_change_208 (fun r208 sh v208 N' hp208 => ?_)
    obtain ⟨hN, q1, X1, X2, rfl, hbz⟩ := hp208
    subst hN
    refine VV.c0 ?_
    refine VV.eq (st2 := [.int ((oSet (nI 3) (nI (lwN mo)) (M, h)).1)]) rfl ?_
    exact r_iret C (pc := 211) rfl (rfl) dL_change_211 ⟨rfl, q1, X1, X2, (by rw [chg_6 hj]), (by rw [chg_6 hj]; exact hbz)⟩
  · rw [hj]
    refine r_tableIn C (pc := 12) (off := 200) (tgt := 212) dL_change_12 (by decide) (by decide) rfl (by decide) ?_
    refine r_aload_n C (pc := 212) rfl rfl dL_change_212 ?_
    refine r_iconst C (pc := 213) (x := (nI 1)) (by decide) dL_change_213 ?_
    refine r_iload_n C (pc := 214) rfl rfl dL_change_214 ?_
    refine r_iconst C (pc := 215) (x := (nI 1)) (by decide) dL_change_215 ?_
    refine r_iload_n C (pc := 216) rfl rfl dL_change_216 ?_
    refine r_ishl C (pc := 217) (z := (nI (2 ^ M.1 0))) (nI_shl1 (by omega)) dL_change_217 ?_
    refine r_iconst C (pc := 218) (x := (nI 1)) (by decide) dL_change_218 ?_
    refine r_isub C (pc := 219) (z := (nI (2 ^ M.1 0 - 1))) (pk_sub (by omega)) dL_change_219 ?_
    refine r_callS C (pc := 220) (st := [.int (nI 1), .ref x]) (m_L_low l G sh v2 N (w := mo) (n := (2 ^ M.1 0 - 1)) (by omega) (by omega)) kyL_low q_259 rfl rfl (Nat.le_of_ble_eq_true rfl) ⟨Nat.le_of_ble_eq_true rfl, Nat.le_of_ble_eq_true rfl⟩ ⟨Nat.le_of_ble_eq_true rfl, Nat.le_of_ble_eq_true rfl⟩ dL_change_220 (fun r220 v220 hp220 => ?_)
    obtain ⟨rfl, ehp220⟩ := hp220
    refine VV.vq ehp220 ?_
    refine VV.eq (st2 := [.int (nI (lo_ mo (2 ^ M.1 0 - 1))), .int (nI 1), .ref x]) rfl ?_
    refine r_iadd C (pc := 223) (z := (nI (1 + (lo_ mo (2 ^ M.1 0 - 1))))) (nI_add _ _) dL_change_223 ?_
    refine r_callVM C (pc := 224) (st := []) (c_inject l G sh v2 N (a := (nI (1 + (lo_ mo (2 ^ M.1 0 - 1))))) hX hb2 hI hT) kyX6_inject q_390 rfl (Or.inl hd6) hX.2.2.1 (by decide) rfl rfl rfl (Nat.le_of_ble_eq_true rfl) ⟨Nat.le_of_ble_eq_true rfl, Nat.le_of_ble_eq_true rfl⟩ ⟨Nat.le_of_ble_eq_true rfl, Nat.le_of_ble_eq_true rfl⟩ dL_change_224 (fun r224 sh v224 N' hp224 => ?_)
    obtain ⟨hN, q1, X1, X2, rfl, hbz⟩ := hp224
    subst hN
    refine VV.c0 ?_
    refine VV.eq (st2 := [.int ((oInject (nI (1 + (lo_ mo (2 ^ M.1 0 - 1)))) (M, h)).1)]) rfl ?_
    exact r_iret C (pc := 227) rfl (rfl) dL_change_227 ⟨rfl, q1, X1, X2, (by rw [chg_7 (by omega)]), (by rw [chg_7 (by omega)]; exact hbz)⟩
  · rw [hj]
    refine r_tableIn C (pc := 12) (off := 200) (tgt := 212) dL_change_12 (by decide) (by decide) rfl (by decide) ?_
    refine r_aload_n C (pc := 212) rfl rfl dL_change_212 ?_
    refine r_iconst C (pc := 213) (x := (nI 1)) (by decide) dL_change_213 ?_
    refine r_iload_n C (pc := 214) rfl rfl dL_change_214 ?_
    refine r_iconst C (pc := 215) (x := (nI 1)) (by decide) dL_change_215 ?_
    refine r_iload_n C (pc := 216) rfl rfl dL_change_216 ?_
    refine r_ishl C (pc := 217) (z := (nI (2 ^ M.1 0))) (nI_shl1 (by omega)) dL_change_217 ?_
    refine r_iconst C (pc := 218) (x := (nI 1)) (by decide) dL_change_218 ?_
    refine r_isub C (pc := 219) (z := (nI (2 ^ M.1 0 - 1))) (pk_sub (by omega)) dL_change_219 ?_
    refine r_callS C (pc := 220) (st := [.int (nI 1), .ref x]) (m_L_low l G sh v2 N (w := mo) (n := (2 ^ M.1 0 - 1)) (by omega) (by omega)) kyL_low q_259 rfl rfl (Nat.le_of_ble_eq_true rfl) ⟨Nat.le_of_ble_eq_true rfl, Nat.le_of_ble_eq_true rfl⟩ ⟨Nat.le_of_ble_eq_true rfl, Nat.le_of_ble_eq_true rfl⟩ dL_change_220 (fun r220 v220 hp220 => ?_)
    obtain ⟨rfl, ehp220⟩ := hp220
    refine VV.vq ehp220 ?_
    refine VV.eq (st2 := [.int (nI (lo_ mo (2 ^ M.1 0 - 1))), .int (nI 1), .ref x]) rfl ?_
    refine r_iadd C (pc := 223) (z := (nI (1 + (lo_ mo (2 ^ M.1 0 - 1))))) (nI_add _ _) dL_change_223 ?_
    refine r_callVM C (pc := 224) (st := []) (c_inject l G sh v2 N (a := (nI (1 + (lo_ mo (2 ^ M.1 0 - 1))))) hX hb2 hI hT) kyX6_inject q_390 rfl (Or.inl hd6) hX.2.2.1 (by decide) rfl rfl rfl (Nat.le_of_ble_eq_true rfl) ⟨Nat.le_of_ble_eq_true rfl, Nat.le_of_ble_eq_true rfl⟩ ⟨Nat.le_of_ble_eq_true rfl, Nat.le_of_ble_eq_true rfl⟩ dL_change_224 (fun r224 sh v224 N' hp224 => ?_)
    obtain ⟨hN, q1, X1, X2, rfl, hbz⟩ := hp224
    subst hN
    refine VV.c0 ?_
    refine VV.eq (st2 := [.int ((oInject (nI (1 + (lo_ mo (2 ^ M.1 0 - 1)))) (M, h)).1)]) rfl ?_
    exact r_iret C (pc := 227) rfl (rfl) dL_change_227 ⟨rfl, q1, X1, X2, (by rw [chg_7 (by omega)]), (by rw [chg_7 (by omega)]; exact hbz)⟩
  · rw [hj]
    refine r_tableIn C (pc := 12) (off := 200) (tgt := 212) dL_change_12 (by decide) (by decide) rfl (by decide) ?_
    refine r_aload_n C (pc := 212) rfl rfl dL_change_212 ?_
    refine r_iconst C (pc := 213) (x := (nI 1)) (by decide) dL_change_213 ?_
    refine r_iload_n C (pc := 214) rfl rfl dL_change_214 ?_
    refine r_iconst C (pc := 215) (x := (nI 1)) (by decide) dL_change_215 ?_
    refine r_iload_n C (pc := 216) rfl rfl dL_change_216 ?_
    refine r_ishl C (pc := 217) (z := (nI (2 ^ M.1 0))) (nI_shl1 (by omega)) dL_change_217 ?_
    refine r_iconst C (pc := 218) (x := (nI 1)) (by decide) dL_change_218 ?_
    refine r_isub C (pc := 219) (z := (nI (2 ^ M.1 0 - 1))) (pk_sub (by omega)) dL_change_219 ?_
    refine r_callS C (pc := 220) (st := [.int (nI 1), .ref x]) (m_L_low l G sh v2 N (w := mo) (n := (2 ^ M.1 0 - 1)) (by omega) (by omega)) kyL_low q_259 rfl rfl (Nat.le_of_ble_eq_true rfl) ⟨Nat.le_of_ble_eq_true rfl, Nat.le_of_ble_eq_true rfl⟩ ⟨Nat.le_of_ble_eq_true rfl, Nat.le_of_ble_eq_true rfl⟩ dL_change_220 (fun r220 v220 hp220 => ?_)
    obtain ⟨rfl, ehp220⟩ := hp220
    refine VV.vq ehp220 ?_
    refine VV.eq (st2 := [.int (nI (lo_ mo (2 ^ M.1 0 - 1))), .int (nI 1), .ref x]) rfl ?_
    refine r_iadd C (pc := 223) (z := (nI (1 + (lo_ mo (2 ^ M.1 0 - 1))))) (nI_add _ _) dL_change_223 ?_
    refine r_callVM C (pc := 224) (st := []) (c_inject l G sh v2 N (a := (nI (1 + (lo_ mo (2 ^ M.1 0 - 1))))) hX hb2 hI hT) kyX6_inject q_390 rfl (Or.inl hd6) hX.2.2.1 (by decide) rfl rfl rfl (Nat.le_of_ble_eq_true rfl) ⟨Nat.le_of_ble_eq_true rfl, Nat.le_of_ble_eq_true rfl⟩ ⟨Nat.le_of_ble_eq_true rfl, Nat.le_of_ble_eq_true rfl⟩ dL_change_224 (fun r224 sh v224 N' hp224 => ?_)
    obtain ⟨hN, q1, X1, X2, rfl, hbz⟩ := hp224
    subst hN
    refine VV.c0 ?_
    refine VV.eq (st2 := [.int ((oInject (nI (1 + (lo_ mo (2 ^ M.1 0 - 1)))) (M, h)).1)]) rfl ?_
    exact r_iret C (pc := 227) rfl (rfl) dL_change_227 ⟨rfl, q1, X1, X2, (by rw [chg_7 (by omega)]), (by rw [chg_7 (by omega)]; exact hbz)⟩
  · rw [hj]
    refine r_tableIn C (pc := 12) (off := 221) (tgt := 233) dL_change_12 (by decide) (by decide) rfl (by decide) ?_
    refine r_iload_n C (pc := 233) rfl rfl dL_change_233 ?_
    refine r_iconst C (pc := 234) (x := (nI 2)) (by decide) dL_change_234 ?_
    refine r_callS C (pc := 235) (st := []) (m_L_low l G sh v2 N (w := mo) (n := 2) (by decide) (by decide)) kyL_low q_259 rfl rfl (Nat.le_of_ble_eq_true rfl) ⟨Nat.le_of_ble_eq_true rfl, Nat.le_of_ble_eq_true rfl⟩ ⟨Nat.le_of_ble_eq_true rfl, Nat.le_of_ble_eq_true rfl⟩ dL_change_235 (fun r235 v235 hp235 => ?_)
    obtain ⟨rfl, ehp235⟩ := hp235
    refine VV.vq ehp235 ?_
    refine VV.eq (st2 := [.int (nI (lo_ mo 2))]) rfl ?_
    refine n_if_ne C (pc := 238) (tgt := 255) (Nat.lt_trans (lo_lt mo (show 0 < 2 by decide)) (by decide)) dL_change_238 (by decide) (fun c_238 => ?_) (fun c_238 => ?_)
    · refine r_aload_n C (pc := 255) rfl rfl dL_change_255 ?_
      refine r_iload_n C (pc := 256) rfl rfl dL_change_256 ?_
      refine r_iconst C (pc := 257) (x := (nI 1)) (by decide) dL_change_257 ?_
      refine r_ishr C (pc := 258) (z := (sr_ mo 1)) (rfl) dL_change_258 ?_
      refine r_iconst C (pc := 259) (x := (nI 2)) (by decide) dL_change_259 ?_
      refine r_callS C (pc := 260) (st := [.ref x]) (m_L_low l G sh v2 N (w := (sr_ mo 1)) (n := 2) (by decide) (by decide)) kyL_low q_259 rfl rfl (Nat.le_of_ble_eq_true rfl) ⟨Nat.le_of_ble_eq_true rfl, Nat.le_of_ble_eq_true rfl⟩ ⟨Nat.le_of_ble_eq_true rfl, Nat.le_of_ble_eq_true rfl⟩ dL_change_260 (fun r260 v260 hp260 => ?_)
      obtain ⟨rfl, ehp260⟩ := hp260
      refine VV.vq ehp260 ?_
      refine VV.eq (st2 := [.int (nI (lo_ (sr_ mo 1) 2)), .ref x]) rfl ?_
      refine r_callVM C (pc := 263) (st := []) (c_back l G sh v2 N (a := (nI (lo_ (sr_ mo 1) 2))) hX hb2 hI hT) kyX6_back q_480 rfl (Or.inl hd6) hX.2.2.1 (by decide) rfl rfl rfl (Nat.le_of_ble_eq_true rfl) ⟨Nat.le_of_ble_eq_true rfl, Nat.le_of_ble_eq_true rfl⟩ ⟨Nat.le_of_ble_eq_true rfl, Nat.le_of_ble_eq_true rfl⟩ dL_change_263 (fun r263 sh v263 N' hp263 => ?_)
      obtain ⟨hN, q1, X1, X2, rfl, hbz⟩ := hp263
      subst hN
      refine VV.c0 ?_
      refine VV.eq (st2 := [.int ((oBack (nI (lo_ (sr_ mo 1) 2)) (M, h)).1)]) rfl ?_
      exact r_iret C (pc := 266) rfl (rfl) dL_change_266 ⟨rfl, q1, X1, X2, (by rw [chg_11b hj (by omega)]), (by rw [chg_11b hj (by omega)]; exact hbz)⟩
    · refine r_aload_n C (pc := 241) rfl rfl dL_change_241 ?_
      refine r_iload_n C (pc := 242) rfl rfl dL_change_242 ?_
      refine r_iconst C (pc := 243) (x := (nI 1)) (by decide) dL_change_243 ?_
      refine r_ishr C (pc := 244) (z := (sr_ mo 1)) (rfl) dL_change_244 ?_
      refine r_iconst C (pc := 245) (x := (nI 2)) (by decide) dL_change_245 ?_
      refine r_callS C (pc := 246) (st := [.ref x]) (m_L_low l G sh v2 N (w := (sr_ mo 1)) (n := 2) (by decide) (by decide)) kyL_low q_259 rfl rfl (Nat.le_of_ble_eq_true rfl) ⟨Nat.le_of_ble_eq_true rfl, Nat.le_of_ble_eq_true rfl⟩ ⟨Nat.le_of_ble_eq_true rfl, Nat.le_of_ble_eq_true rfl⟩ dL_change_246 (fun r246 v246 hp246 => ?_)
      obtain ⟨rfl, ehp246⟩ := hp246
      refine VV.vq ehp246 ?_
      refine VV.eq (st2 := [.int (nI (lo_ (sr_ mo 1) 2)), .ref x]) rfl ?_
      refine r_callVM C (pc := 249) (st := []) (c_keep l G sh v2 N (a := (nI (lo_ (sr_ mo 1) 2))) hX hb2 hI hT) kyX6_keep q_476 rfl (Or.inl hd6) hX.2.2.1 (by decide) rfl rfl rfl (Nat.le_of_ble_eq_true rfl) ⟨Nat.le_of_ble_eq_true rfl, Nat.le_of_ble_eq_true rfl⟩ ⟨Nat.le_of_ble_eq_true rfl, Nat.le_of_ble_eq_true rfl⟩ dL_change_249 (fun r249 sh v249 N' hp249 => ?_)
      obtain ⟨hN, q1, X1, X2, rfl, hbz⟩ := hp249
      subst hN
      refine VV.c0 ?_
      refine VV.eq (st2 := [.int ((oKeep (nI (lo_ (sr_ mo 1) 2)) (M, h)).1)]) rfl ?_
      refine r_goto C (pc := 252) (tgt := 266) dL_change_252 (by decide) ?_
      exact r_iret C (pc := 266) rfl (rfl) dL_change_266 ⟨rfl, q1, X1, X2, (by rw [chg_11a hj c_238]), (by rw [chg_11a hj c_238]; exact hbz)⟩
  · refine r_tableOut C (pc := 12) (tgt := 267) dL_change_12 (Or.inr (by rw [nI_toInt (by omega)]; omega)) (by decide) ?_
    refine r_aload_n C (pc := 267) rfl rfl dL_change_267 ?_
    refine r_iconst C (pc := 268) (x := (nI 1)) (by decide) dL_change_268 ?_
    refine r_iload_n C (pc := 269) rfl rfl dL_change_269 ?_
    refine r_iload_n C (pc := 270) rfl rfl dL_change_270 ?_
    refine r_bipush C (pc := 271) (x := (nI 6)) (by decide) dL_change_271 ?_
    refine r_ishr C (pc := 273) (z := (sr_ mo 6)) (rfl) dL_change_273 ?_
    refine r_iconst C (pc := 274) (x := (nI 3)) (by decide) dL_change_274 ?_
    refine r_callS C (pc := 275) (st := [.int mo, .int (nI 1), .ref x]) (m_L_low l G sh v2 N (w := (sr_ mo 6)) (n := 3) (by decide) (by decide)) kyL_low q_259 rfl rfl (Nat.le_of_ble_eq_true rfl) ⟨Nat.le_of_ble_eq_true rfl, Nat.le_of_ble_eq_true rfl⟩ ⟨Nat.le_of_ble_eq_true rfl, Nat.le_of_ble_eq_true rfl⟩ dL_change_275 (fun r275 v275 hp275 => ?_)
    obtain ⟨rfl, ehp275⟩ := hp275
    refine VV.vq ehp275 ?_
    refine VV.eq (st2 := [.int (nI (lo_ (sr_ mo 6) 3)), .int mo, .int (nI 1), .ref x]) rfl ?_
    refine n_if_ne C (pc := 278) (tgt := 286) (Nat.lt_trans (lo_lt (sr_ mo 6) (show 0 < 3 by decide)) (by decide)) dL_change_278 (by decide) (fun c_278 => ?_) (fun c_278 => ?_)
    · refine r_bipush C (pc := 286) (x := (nI 6)) (by decide) dL_change_286 ?_
      refine r_callS C (pc := 288) (st := [.int (nI 1), .ref x]) (m_L_low l G sh v2 N (w := mo) (n := 6) (by decide) (by decide)) kyL_low q_259 rfl rfl (Nat.le_of_ble_eq_true rfl) ⟨Nat.le_of_ble_eq_true rfl, Nat.le_of_ble_eq_true rfl⟩ ⟨Nat.le_of_ble_eq_true rfl, Nat.le_of_ble_eq_true rfl⟩ dL_change_288 (fun r288 v288 hp288 => ?_)
      obtain ⟨rfl, ehp288⟩ := hp288
      refine VV.vq ehp288 ?_
      refine VV.eq (st2 := [.int (nI (lo_ mo 6)), .int (nI 1), .ref x]) rfl ?_
      refine r_iadd C (pc := 291) (z := (nI (1 + (lo_ mo 6)))) (nI_add _ _) dL_change_291 ?_
      refine r_callVM C (pc := 292) (st := []) (c_run l G sh v2 N (a := (nI (1 + (lo_ mo 6)))) hX hb2 hI hT) kyX6_run q_484 rfl (Or.inl hd6) hX.2.2.1 (by decide) rfl rfl rfl (Nat.le_of_ble_eq_true rfl) ⟨Nat.le_of_ble_eq_true rfl, Nat.le_of_ble_eq_true rfl⟩ ⟨Nat.le_of_ble_eq_true rfl, Nat.le_of_ble_eq_true rfl⟩ dL_change_292 (fun r292 sh v292 N' hp292 => ?_)
      obtain ⟨hN, q1, X1, X2, rfl, hbz⟩ := hp292
      subst hN
      refine VV.c0 ?_
      refine VV.eq (st2 := [.int ((oRun (nI (1 + (lo_ mo 6))) (M, h)).1)]) rfl ?_
      exact r_iret C (pc := 295) rfl (rfl) dL_change_295 ⟨rfl, q1, X1, X2, (by rw [chg_12 hj, if_neg (show ¬ lo_ (sr_ mo 6) 3 = 0 by omega)]), (by rw [chg_12 hj, if_neg (show ¬ lo_ (sr_ mo 6) 3 = 0 by omega)]; exact hbz)⟩
    · refine r_bipush C (pc := 281) (x := (nI 30)) (by decide) dL_change_281 ?_
      refine r_goto C (pc := 283) (tgt := 288) dL_change_283 (by decide) ?_
      refine r_callS C (pc := 288) (st := [.int (nI 1), .ref x]) (m_L_low l G sh v2 N (w := mo) (n := 30) (by decide) (by decide)) kyL_low q_259 rfl rfl (Nat.le_of_ble_eq_true rfl) ⟨Nat.le_of_ble_eq_true rfl, Nat.le_of_ble_eq_true rfl⟩ ⟨Nat.le_of_ble_eq_true rfl, Nat.le_of_ble_eq_true rfl⟩ dL_change_288 (fun r288' v288' hp288' => ?_)
      obtain ⟨rfl, ehp288'⟩ := hp288'
      refine VV.vq ehp288' ?_
      refine VV.eq (st2 := [.int (nI (lo_ mo 30)), .int (nI 1), .ref x]) rfl ?_
      refine r_iadd C (pc := 291) (z := (nI (1 + (lo_ mo 30)))) (nI_add _ _) dL_change_291 ?_
      refine r_callVM C (pc := 292) (st := []) (c_run l G sh v2 N (a := (nI (1 + (lo_ mo 30)))) hX hb2 hI hT) kyX6_run q_484 rfl (Or.inl hd6) hX.2.2.1 (by decide) rfl rfl rfl (Nat.le_of_ble_eq_true rfl) ⟨Nat.le_of_ble_eq_true rfl, Nat.le_of_ble_eq_true rfl⟩ ⟨Nat.le_of_ble_eq_true rfl, Nat.le_of_ble_eq_true rfl⟩ dL_change_292 (fun r292' sh v292' N' hp292' => ?_)
      obtain ⟨hN, q1, X1, X2, rfl, hbz⟩ := hp292'
      subst hN
      refine VV.c0 ?_
      refine VV.eq (st2 := [.int ((oRun (nI (1 + (lo_ mo 30))) (M, h)).1)]) rfl ?_
      exact r_iret C (pc := 295) rfl (rfl) dL_change_295 ⟨rfl, q1, X1, X2, (by rw [chg_12 hj, if_pos c_278]), (by rw [chg_12 hj, if_pos c_278]; exact hbz)⟩

