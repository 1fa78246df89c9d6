theorem zI_same {T : Nat} {S : zSt} (h : zI T S) : zI (T + 200) S := zI_mono h (by omega)
theorem oBegin_I {T : Nat} {a b : Int32} {S : zSt} (h : zI T S) : zI (T + 200) (oBegin a b S).2 := by
  unfold oBegin
  split
  · rename_i hc
    obtain ⟨K, hK1, hK2, ea⟩ := inR hc.1 (by decide) (by decide)
    obtain ⟨R, hR1, hR2, eb⟩ := inR hc.2 (by decide) (by decide)
    have e1 : nn a = K := by rw [ea, nn_I (by omega)]
    have e2 : nn b = R := by rw [eb, nn_I (by omega)]
    rw [e1, e2]
    exact zI_rem h (by omega) (zG_mono (layM_G h.1 hK1 hK2 hR2) (by omega))
  · exact zI_same h
theorem oSetBlock_I {T : Nat} {a b : Int32} {S : zSt} (h : zI T S) : zI (T + 200) (oSetBlock a b S).2 := by
  unfold oSetBlock
  have hK := h.1.1.1.1.2.1
  have hK2 := h.1.1.1.1.1
  split
  · rename_i hc
    obtain ⟨B, hB1, hB2, ea⟩ := inR hc.1 (by decide) (by omega)
    obtain ⟨y, hy1, hy2, eb⟩ := inR hc.2 (by decide) (by decide)
    have e1 : nn a = B := by rw [ea, nn_I (by omega)]
    have e2 : nn b = y := by rw [eb, nn_I (by omega)]
    split
    · exact zI_same h
    · rename_i hz
      rw [e1, e2]
      exact zI_rem h (by omega) (zG_mono (setb_G h.1 (by omega) (by omega) (Nat.eq_zero_of_not_pos (fun z => hz (Or.inl z))) (Nat.eq_zero_of_not_pos (fun z => hz (Or.inr z)))) (by omega))
  · exact zI_same h
theorem oSetLoss_I {T : Nat} {a b : Int32} {S : zSt} (h : zI T S) : zI (T + 200) (oSetLoss a b S).2 := by
  unfold oSetLoss
  have hR := h.1.1.1.1.2.2.1
  have hs := h.1.1.1.1
  have hw := h.1.1.1.2.1
  split
  · rename_i hc
    obtain ⟨B, hB1, hB2, ea⟩ := inR hc.1 (by decide) (by omega)
    obtain ⟨y, hy1, hy2, eb⟩ := inR hc.2 (by decide) (by decide)
    have e1 : nn a = B := by rw [ea, nn_I (by omega)]
    have e2 : nn b = y := by rw [eb, nn_I (by omega)]
    rw [e1, e2]
    exact zI_rem h (by omega) (zG_mono (zG_c h.1 (sOK_c hs (Or.inr (Or.inr (Or.inr (Or.inr (Or.inl ⟨by omega, by omega, by omega⟩)))))) (by rw [wsn_c (by omega)]; exact hw) (by omega) (by omega)) (by omega))
  · exact zI_same h
theorem oSetWeight_I {T : Nat} {a b : Int32} {S : zSt} (h : zI T S) : zI (T + 200) (oSetWeight a b S).2 := by
  unfold oSetWeight
  have hs := h.1.1.1.1
  split
  · rename_i hc
    obtain ⟨B, hB1, hB2, ea⟩ := inR hc.1 (by decide) (by decide)
    obtain ⟨y, hy1, hy2, eb⟩ := inR hc.2 (by decide) (by decide)
    have e1 : nn a = B := by rw [ea, nn_I (by omega)]
    have e2 : nn b = y := by rw [eb, nn_I (by omega)]
    rw [e1, e2]
    split
    · exact zI_same h
    · rename_i hz
      have hww := (wsn_w (c := S.1.1) (x := y) 6 (show B - 1 < 6 by omega)).1
      exact zI_rem h (by omega) (zG_mono (zG_c h.1 (sOK_c hs (Or.inr (Or.inr (Or.inr (Or.inr (Or.inr (Or.inl ⟨by omega, by omega, by omega⟩))))))) (by rw [hww]; exact Nat.pos_of_ne_zero hz) (by omega) (by omega)) (by omega))
  · exact zI_same h
theorem oSet_I {T : Nat} {a b : Int32} {S : zSt} (h : zI T S) : zI (T + 200) (oSet a b S).2 := by
  unfold oSet
  have hs := h.1.1.1.1
  have hw := h.1.1.1.2.1
  split
  · rename_i hc
    obtain ⟨y, hy1, hy2, eb⟩ := inR hc.2 (by decide) (by decide)
    have e2 : nn b = y := by rw [eb, nn_I (by omega)]
    rw [e2]
    exact zI_rem h (by omega) (zG_mono (trm_G h.1 hy1 hy2) (by omega))
  · split
    · rename_i hc
      obtain ⟨y, hy1, hy2, eb⟩ := inR hc.2 (by decide) (by decide)
      have e2 : nn b = y := by rw [eb, nn_I (by omega)]
      rw [e2]
      exact zI_rem h (by omega) (zG_mono (zG_c h.1 (sOK_c hs (Or.inr (Or.inl ⟨rfl, by omega⟩))) (by rw [wsn_c (by decide)]; exact hw) (by decide) (by decide)) (by omega))
    · split
      · rename_i hc
        obtain ⟨y, hy1, hy2, eb⟩ := inR hc.2 (by decide) (by decide)
        have e2 : nn b = y := by rw [eb, nn_I (by omega)]
        rw [e2]
        exact zI_rem h (by omega) (zG_mono (zG_c h.1 (sOK_c hs (Or.inr (Or.inr (Or.inl ⟨rfl, by omega⟩)))) (by rw [wsn_c (by decide)]; exact hw) (by decide) (by decide)) (by omega))
      · split
        · rename_i hc
          have hy := (I_nn hc.2).2
          exact zI_rem h (by omega) (zG_mono (zG_c h.1 (sOK_c hs (Or.inr (Or.inr (Or.inr (Or.inl ⟨rfl, hy⟩))))) (by rw [wsn_c (by decide)]; exact hw) (by decide) (by decide)) (by omega))
        · exact zI_same h
theorem oRun_I {T : Nat} {a : Int32} {S : zSt} (h : zI T S) : zI (T + 200) (oRun a S).2 := by
  unfold oRun
  split
  · rename_i hc
    obtain ⟨y, hy1, hy2, ea⟩ := inR hc (by decide) (by decide)
    have e1 : nn a = y := by rw [ea, nn_I (by omega)]
    rw [e1]
    exact zI_rem h (by omega) (zG_mono (itk_G h.1 y) (by omega))
  · exact zI_same h
theorem oInject_I {T : Nat} {a : Int32} {S : zSt} (h : zI T S) : zI (T + 200) (oInject a S).2 := by
  unfold oInject
  split
  · obtain ⟨h1, h2⟩ := pkS_ok h.1.1 (nn a)
    exact zI_rem h (by omega) (zG_mono (mAcc_G h.1 h1 h2) (by omega))
  · exact zI_same h
theorem oUndo_I {T : Nat} {S : zSt} (h : zI T S) : zI (T + 200) (oUndo S).2 := by
  unfold oUndo
  split
  · exact zI_same h
  · rename_i hz
    obtain ⟨h1, h2, h3, h4⟩ := zI_same h
    exact ⟨h3 _ (by omega), (by show S.2.1 - 1 ≤ 8; omega), fun i hi => h3 i (by have hi2 : i < S.2.1 - 1 := hi; omega), h4⟩
theorem oKeep_I {T : Nat} {a : Int32} {S : zSt} (h : zI T S) : zI (T + 200) (oKeep a S).2 := by
  unfold oKeep
  split
  · obtain ⟨h1, h2, h3, h4⟩ := zI_same h
    refine ⟨h1, h2, h3, fun i hi he => ?_⟩
    show zGd (T + 200) (if i = nn a then S.1 else S.2.2.2.1 i)
    by_cases hia : i = nn a
    · rw [if_pos hia]; exact h1
    · rw [if_neg hia]
      have he2 : (if i = nn a then true else S.2.2.2.2 i) = true := he
      rw [if_neg hia] at he2
      exact h4 i hi he2
  · exact zI_same h
theorem oBack_I {T : Nat} {a : Int32} {S : zSt} (h : zI T S) : zI (T + 200) (oBack a S).2 := by
  unfold oBack
  split
  · rename_i hc
    obtain ⟨y, hy1, hy2, ea⟩ := inR hc (by decide) (by decide)
    have e1 : nn a = y := by rw [ea, nn_I (by omega)]
    rw [e1]
    split
    · rename_i hf
      exact zI_rem h (by omega) (zG_mono (h.2.2.2 y (by omega) hf) (by omega))
    · exact zI_same h
  · exact zI_same h
/-- both objects, one state -/
def zLW (G : zG) (sh : zH) (v : zV) (N x : Nat) (q : Nat → Nat) (S : zSt) : Prop := N = x + 349 ∧ zXR G sh N x q ∧ zMD G sh N (x + 340) ∧ zt v (x + 1) S.1 ∧ zxh v x q S.2 ∧ zwf (v (x + 340 + 1)) S.1 ∧ zmh v (x + 340) S.2
theorem zMD_sh {G : zG} {sh sh1 : zH} {N m : Nat} (h : zMD G sh N m) (k : ∀ b, m ≤ b → b < m + 9 → sh1 b = sh b) : zMD G sh1 N m := by
  obtain ⟨h1, h2, h3, h4, h5, h6, h7, h8, h9, h10, h11⟩ := h
  exact ⟨h1, h2, by rw [k _ (by omega) (by omega)]; exact h3, by rw [k _ (by omega) (by omega)]; exact h4, by rw [k _ (by omega) (by omega)]; exact h5, by rw [k _ (by omega) (by omega)]; exact h6, by rw [k _ (by omega) (by omega)]; exact h7, by rw [k _ (by omega) (by omega)]; exact h8, by rw [k _ (by omega) (by omega)]; exact h9, by rw [k _ (by omega) (by omega)]; exact h10, by rw [k _ (by omega) (by omega)]; exact h11⟩
/-- the class's object has changed, the check's not -/
theorem lw_m {v v1 : zV} {x : Nat} {M : zMS} {h : zHs} (g1 : zwf (v (x + 340 + 1)) M) (g2 : zmh v (x + 340) h) (f : zfr v v1 x 340) : zwf (v1 (x + 340 + 1)) M ∧ zmh v1 (x + 340) h := by
  refine ⟨by rw [f _ (by omega)]; exact g1, ?_⟩
  refine g2.kept ?_ ?_ ?_ ?_
  all_goals first | (rw [f _ (by omega)])
/-- the check's object has changed, the class's not -/
theorem lw_x {v v1 : zV} {x : Nat} {q : Nat → Nat} {M : zMS} {h : zHs} (hq : pq q) (g1 : zt v (x + 1) M) (g2 : zxh v x q h) (f : zfr v v1 (x + 340) 9) : zt v1 (x + 1) M ∧ zxh v1 x q h := ⟨zt_all g1 (fun b h1 h2 => f b (by omega)), g2.kept hq (congrFun (f x (by omega)) 5) (f _ (by omega)) (fun b h1 h2 => f b (by omega))⟩
theorem hd4 {L j : Nat} (hL : L ≤ 2048) (hj : j ≤ 2048) (h : ¬ nI L - nI 4 < nI j) : j + 4 ≤ L := by
  by_cases h4 : 4 ≤ L
  · rw [pk_sub h4] at h
    have : ¬ L - 4 < j := fun z => h ((nI_ltI (by omega) (by omega)).mpr z)
    omega
  · exfalso
    apply h
    have h0 : nI 0 ≤ nI j := (nI_leI (by decide) (by omega)).mpr (Nat.zero_le _)
    rcases (show L = 0 ∨ L = 1 ∨ L = 2 ∨ L = 3 by omega) with rfl | rfl | rfl | rfl
    · exact Int32.lt_of_lt_of_le (show nI 0 - nI 4 < nI 0 by decide) h0
    · exact Int32.lt_of_lt_of_le (show nI 1 - nI 4 < nI 0 by decide) h0
    · exact Int32.lt_of_lt_of_le (show nI 2 - nI 4 < nI 0 by decide) h0
    · exact Int32.lt_of_lt_of_le (show nI 3 - nI 4 < nI 0 by decide) h0
