def ixO (M : zMS) (n : Nat) : Nat := if n = M.1 1 + 1 then 3 else n - 1
theorem lsO_ix (M : zMS) (n : Nat) : lsO M n = M.2.1 (ixO M n) := by
  unfold lsO ixO
  split <;> rfl
theorem ixO_lt {M : zMS} {n : Nat} (hR : M.1 1 ≤ 3) (h2 : n ≤ M.1 1 + 1) : ixO M n < 5 := by
  unfold ixO
  split <;> omega
theorem solv_I {M : zMS} (h : zE M) {b : Nat} (hb : b < 12) : (if rdp (fpr (M.2.1 3) (M.2.1 3).length) 12 (2 ^ (8 + b)) / 256 = 0 then nI (rdp (fpr (M.2.1 3) (M.2.1 3).length) 12 (2 ^ (8 + b)) % 256) else -9) = knI (M.2.2.1 b) (M.1 (17 + b)) := by
  have h20 : ∀ q ∈ M.2.1 3, q < 2 ^ 20 := fun q hq => (h.1.2.2.1 3 (by decide) q hq).1
  rw [← (eqv_spr h20 (M.2.1 3).length).2.2.2]
  unfold knI
  rw [h.2.2.2.1 b hb]
  by_cases hd : rdp (spo (M.2.1 3)) 12 (2 ^ (8 + b)) / 256 = 0
  · rw [decide_eq_true hd, if_pos rfl, if_pos (show rdp (spr (M.2.1 3) (M.2.1 3).length) 12 (2 ^ (8 + b)) / 256 = 0 from hd)]
    exact congrArg nI (rd_val (V := zVl M) (spr_con (h.1.2.2.1 3 (by decide)) _) hb hd)
  · rw [decide_eq_false hd, if_neg (show ¬ rdp (spr (M.2.1 3) (M.2.1 3).length) 12 (2 ^ (8 + b)) / 256 = 0 from hd), if_neg (show ¬ (false = true) by decide)]
theorem zl_ls {M : zMS} (h : zE M) {r : Nat} (hr : r < 5) : ∀ q ∈ M.2.1 r, q < 2 ^ 20 := fun q hq => (h.1.2.2.1 r hr q hq).1
theorem neg_n0 {a : Int32} (h : a < 0) : ¬ nI 0 ≤ a := fun z => absurd (Int32.not_le.mpr h) (fun y => y (nI_0 ▸ z))
theorem nneg {a : Int32} (h : ¬ a < 0) : nI 0 ≤ a := nI_0 ▸ Int32.not_lt.mp h
theorem out_of {a : Int32} {hi : Nat} (hh : hi < 2 ^ 31) (h : ¬ (nI 0 ≤ a ∧ a ≤ nI hi)) : a.toInt < 0 ∨ (hi : Int) < a.toInt := by
  by_cases h0 : a.toInt < 0
  · exact Or.inl h0
  · by_cases h1 : (hi : Int) < a.toInt
    · exact Or.inr h1
    · exfalso
      apply h
      refine ⟨Int32.le_iff_toInt_le.mpr ?_, Int32.le_iff_toInt_le.mpr ?_⟩
      · rw [nI_toInt (by decide)]; omega
      · rw [nI_toInt hh]; omega
set_option maxRecDepth 100000 in
set_option maxHeartbeats 4000000 in
theorem m_X7_told (l : Launch) (G : zG) (sh : zH) (v : zV) (N : Nat) {m : Nat} {M : zMS} {h : zHs} {T : Nat} {a : Int32} (hp : zMD G sh N m) (hv : zwf (v (m + 1)) M) (hh : zmh v m h) (hI : zI T (M, h)) (hT : T + 1000 < 2 ^ 30) : zm l G yX7_told cX7_told 2 (some .int) 1 [.ref m, .int a] sh v N (fun r v1 => r = some (.int (qTold a (M, h))) ∧ zwf (v1 (m + 1)) M ∧ zmh v1 m h ∧ zfr v v1 m 9) := by
  refine zM.of (by decide) rfl (Nat.le_of_ble_eq_true rfl) ?_
  intro p e s mi args below meth c C
  obtain ⟨hB, hN, hs0, hs1, hs2, hs3, hs4, hs5, hs6, hs7, hs8⟩ := id hp
  have hd0 : G.2.2.1 ≤ m ∧ m < N := ⟨hB, by omega⟩
  have hd1 : G.2.2.1 ≤ m + 1 ∧ m + 1 < N := ⟨by omega, by omega⟩
  have hd2 : G.2.2.1 ≤ m + 2 ∧ m + 2 < N := ⟨by omega, by omega⟩
  have hd3 : G.2.2.1 ≤ m + 3 ∧ m + 3 < N := ⟨by omega, by omega⟩
  have hd4 : G.2.2.1 ≤ m + 4 ∧ m + 4 < N := ⟨by omega, by omega⟩
  have hd5 : G.2.2.1 ≤ m + 5 ∧ m + 5 < N := ⟨by omega, by omega⟩
  have hd6 : G.2.2.1 ≤ m + 6 ∧ m + 6 < N := ⟨by omega, by omega⟩
  have hd7 : G.2.2.1 ≤ m + 7 ∧ m + 7 < N := ⟨by omega, by omega⟩
  have hd8 : G.2.2.1 ≤ m + 8 ∧ m + 8 < N := ⟨by omega, by omega⟩
  have hE : zE M := hI.1.1
  have hk : mOK M := hE.1
  have hK2 := hk.1.1
  have hK12 := hk.1.2.1
  have hR3 := hk.1.2.2.1
  refine r_iload_n C (pc := 0) rfl rfl dX7_told_0 ?_
  by_cases hr : nI 0 ≤ a ∧ a ≤ nI 16
  · have hc := hr
    obtain ⟨n, hn1, hn2, rfl⟩ := inR hr (by decide) (by decide)
    rcases (show n = 0 ∨ n = 1 ∨ n = 2 ∨ n = 3 ∨ n = 4 ∨ n = 5 ∨ n = 6 ∨ n = 7 ∨ n = 8 ∨ n = 9 ∨ n = 10 ∨ n = 11 ∨ n = 12 ∨ n = 13 ∨ n = 14 ∨ n = 15 ∨ n = 16 by omega) with rfl | rfl | rfl | rfl | rfl | rfl | rfl | rfl | rfl | rfl | rfl | rfl | rfl | rfl | rfl | rfl | rfl
    · refine r_tableIn C (pc := 1) (off := 83) (tgt := 84) dX7_told_1 (by decide) (by decide) rfl (by decide) ?_
      refine r_aload_n C (pc := 84) rfl rfl dX7_told_84 ?_
      refine r_get C (pc := 85) (ci := 7) (k := 0) (w := .ref (m + 1)) rfl (by decide) inX7 (by decide) q_654 (Or.inl hd0) hs0 (zl_ref _ _) dX7_told_85 ?_
      refine r_iconst C (pc := 88) (x := (nI 0)) (by decide) dX7_told_88 ?_
      refine r_iald C (pc := 89) (x := (nI (M.1 0))) (Or.inl hd1) hs1 (by decide) (by omega) (hv.1 0 (by decide)) dX7_told_89 ?_
      exact r_iret C (pc := 90) rfl (rfl) dX7_told_90 ⟨rfl, rfl, (by have ho : qTold (nI 0) (M, h) = nI (M.1 0) := (if_pos hc).trans (by rw [nn_I (by decide)]; rfl); rw [ho]), hv, hh, zfr.rf⟩
    · refine r_tableIn C (pc := 1) (off := 90) (tgt := 91) dX7_told_1 (by decide) (by decide) rfl (by decide) ?_
      refine r_aload_n C (pc := 91) rfl rfl dX7_told_91 ?_
      refine r_get C (pc := 92) (ci := 7) (k := 0) (w := .ref (m + 1)) rfl (by decide) inX7 (by decide) q_654 (Or.inl hd0) hs0 (zl_ref _ _) dX7_told_92 ?_
      refine r_iconst C (pc := 95) (x := (nI 1)) (by decide) dX7_told_95 ?_
      refine r_iald C (pc := 96) (x := (nI (M.1 1))) (Or.inl hd1) hs1 (by decide) (by omega) (hv.1 1 (by decide)) dX7_told_96 ?_
      exact r_iret C (pc := 97) rfl (rfl) dX7_told_97 ⟨rfl, rfl, (by have ho : qTold (nI 1) (M, h) = nI (M.1 1) := (if_pos hc).trans (by rw [nn_I (by decide)]; rfl); rw [ho]), hv, hh, zfr.rf⟩
    · refine r_tableIn C (pc := 1) (off := 97) (tgt := 98) dX7_told_1 (by decide) (by decide) rfl (by decide) ?_
      refine r_aload_n C (pc := 98) rfl rfl dX7_told_98 ?_
      refine r_get C (pc := 99) (ci := 7) (k := 0) (w := .ref (m + 1)) rfl (by decide) inX7 (by decide) q_654 (Or.inl hd0) hs0 (zl_ref _ _) dX7_told_99 ?_
      refine r_iconst C (pc := 102) (x := (nI 2)) (by decide) dX7_told_102 ?_
      refine r_iald C (pc := 103) (x := (nI (M.1 2))) (Or.inl hd1) hs1 (by decide) (by omega) (hv.1 2 (by decide)) dX7_told_103 ?_
      exact r_iret C (pc := 104) rfl (rfl) dX7_told_104 ⟨rfl, rfl, (by have ho : qTold (nI 2) (M, h) = nI (M.1 2) := (if_pos hc).trans (by rw [nn_I (by decide)]; rfl); rw [ho]), hv, hh, zfr.rf⟩
    · refine r_tableIn C (pc := 1) (off := 104) (tgt := 105) dX7_told_1 (by decide) (by decide) rfl (by decide) ?_
      refine r_aload_n C (pc := 105) rfl rfl dX7_told_105 ?_
      refine r_get C (pc := 106) (ci := 7) (k := 0) (w := .ref (m + 1)) rfl (by decide) inX7 (by decide) q_654 (Or.inl hd0) hs0 (zl_ref _ _) dX7_told_106 ?_
      refine r_iconst C (pc := 109) (x := (nI 3)) (by decide) dX7_told_109 ?_
      refine r_iald C (pc := 110) (x := (nI (M.1 3))) (Or.inl hd1) hs1 (by decide) (by omega) (hv.1 3 (by decide)) dX7_told_110 ?_
      exact r_iret C (pc := 111) rfl (rfl) dX7_told_111 ⟨rfl, rfl, (by have ho : qTold (nI 3) (M, h) = nI (M.1 3) := (if_pos hc).trans (by rw [nn_I (by decide)]; rfl); rw [ho]), hv, hh, zfr.rf⟩
    · refine r_tableIn C (pc := 1) (off := 111) (tgt := 112) dX7_told_1 (by decide) (by decide) rfl (by decide) ?_
      refine r_aload_n C (pc := 112) rfl rfl dX7_told_112 ?_
      refine r_get C (pc := 113) (ci := 7) (k := 0) (w := .ref (m + 1)) rfl (by decide) inX7 (by decide) q_654 (Or.inl hd0) hs0 (zl_ref _ _) dX7_told_113 ?_
      refine r_iconst C (pc := 116) (x := (nI 4)) (by decide) dX7_told_116 ?_
      refine r_iald C (pc := 117) (x := (nI (M.1 4))) (Or.inl hd1) hs1 (by decide) (by omega) (hv.1 4 (by decide)) dX7_told_117 ?_
      exact r_iret C (pc := 118) rfl (rfl) dX7_told_118 ⟨rfl, rfl, (by have ho : qTold (nI 4) (M, h) = nI (M.1 4) := (if_pos hc).trans (by rw [nn_I (by decide)]; rfl); rw [ho]), hv, hh, zfr.rf⟩
    · refine r_tableIn C (pc := 1) (off := 118) (tgt := 119) dX7_told_1 (by decide) (by decide) rfl (by decide) ?_
      refine r_aload_n C (pc := 119) rfl rfl dX7_told_119 ?_
      refine r_get C (pc := 120) (ci := 7) (k := 0) (w := .ref (m + 1)) rfl (by decide) inX7 (by decide) q_654 (Or.inl hd0) hs0 (zl_ref _ _) dX7_told_120 ?_
      refine r_iconst C (pc := 123) (x := (nI 5)) (by decide) dX7_told_123 ?_
      refine r_iald C (pc := 124) (x := (nI (M.1 5))) (Or.inl hd1) hs1 (by decide) (by omega) (hv.1 5 (by decide)) dX7_told_124 ?_
      exact r_iret C (pc := 125) rfl (rfl) dX7_told_125 ⟨rfl, rfl, (by have ho : qTold (nI 5) (M, h) = nI (M.1 5) := (if_pos hc).trans (by rw [nn_I (by decide)]; rfl); rw [ho]), hv, hh, zfr.rf⟩
    · refine r_tableIn C (pc := 1) (off := 125) (tgt := 126) dX7_told_1 (by decide) (by decide) rfl (by decide) ?_
      refine r_aload_n C (pc := 126) rfl rfl dX7_told_126 ?_
      refine r_get C (pc := 127) (ci := 7) (k := 0) (w := .ref (m + 1)) rfl (by decide) inX7 (by decide) q_654 (Or.inl hd0) hs0 (zl_ref _ _) dX7_told_127 ?_
      refine r_bipush C (pc := 130) (x := (nI 6)) (by decide) dX7_told_130 ?_
      refine r_iald C (pc := 132) (x := (nI (M.1 6))) (Or.inl hd1) hs1 (by decide) (by omega) (hv.1 6 (by decide)) dX7_told_132 ?_
      exact r_iret C (pc := 133) rfl (rfl) dX7_told_133 ⟨rfl, rfl, (by have ho : qTold (nI 6) (M, h) = nI (M.1 6) := (if_pos hc).trans (by rw [nn_I (by decide)]; rfl); rw [ho]), hv, hh, zfr.rf⟩
    · refine r_tableIn C (pc := 1) (off := 133) (tgt := 134) dX7_told_1 (by decide) (by decide) rfl (by decide) ?_
      refine r_aload_n C (pc := 134) rfl rfl dX7_told_134 ?_
      refine r_get C (pc := 135) (ci := 7) (k := 0) (w := .ref (m + 1)) rfl (by decide) inX7 (by decide) q_654 (Or.inl hd0) hs0 (zl_ref _ _) dX7_told_135 ?_
      refine r_bipush C (pc := 138) (x := (nI 29)) (by decide) dX7_told_138 ?_
      refine r_iald C (pc := 140) (x := (nI (M.1 29))) (Or.inl hd1) hs1 (by decide) (by omega) (hv.1 29 (by decide)) dX7_told_140 ?_
      exact r_iret C (pc := 141) rfl (rfl) dX7_told_141 ⟨rfl, rfl, (by have ho : qTold (nI 7) (M, h) = nI (M.1 29) := (if_pos hc).trans (by rw [nn_I (by decide)]; rfl); rw [ho]), hv, hh, zfr.rf⟩
    · refine r_tableIn C (pc := 1) (off := 141) (tgt := 142) dX7_told_1 (by decide) (by decide) rfl (by decide) ?_
      refine r_aload_n C (pc := 142) rfl rfl dX7_told_142 ?_
      refine r_get C (pc := 143) (ci := 7) (k := 0) (w := .ref (m + 1)) rfl (by decide) inX7 (by decide) q_654 (Or.inl hd0) hs0 (zl_ref _ _) dX7_told_143 ?_
      refine r_bipush C (pc := 146) (x := (nI 30)) (by decide) dX7_told_146 ?_
      refine r_iald C (pc := 148) (x := (nI (M.1 30))) (Or.inl hd1) hs1 (by decide) (by omega) (hv.1 30 (by decide)) dX7_told_148 ?_
      exact r_iret C (pc := 149) rfl (rfl) dX7_told_149 ⟨rfl, rfl, (by have ho : qTold (nI 8) (M, h) = nI (M.1 30) := (if_pos hc).trans (by rw [nn_I (by decide)]; rfl); rw [ho]), hv, hh, zfr.rf⟩
    · refine r_tableIn C (pc := 1) (off := 149) (tgt := 150) dX7_told_1 (by decide) (by decide) rfl (by decide) ?_
      refine r_aload_n C (pc := 150) rfl rfl dX7_told_150 ?_
      refine r_get C (pc := 151) (ci := 7) (k := 0) (w := .ref (m + 1)) rfl (by decide) inX7 (by decide) q_654 (Or.inl hd0) hs0 (zl_ref _ _) dX7_told_151 ?_
      refine r_bipush C (pc := 154) (x := (nI 31)) (by decide) dX7_told_154 ?_
      refine r_iald C (pc := 156) (x := (nI (M.1 31))) (Or.inl hd1) hs1 (by decide) (by omega) (hv.1 31 (by decide)) dX7_told_156 ?_
      exact r_iret C (pc := 157) rfl (rfl) dX7_told_157 ⟨rfl, rfl, (by have ho : qTold (nI 9) (M, h) = nI (M.1 31) := (if_pos hc).trans (by rw [nn_I (by decide)]; rfl); rw [ho]), hv, hh, zfr.rf⟩
    · refine r_tableIn C (pc := 1) (off := 157) (tgt := 158) dX7_told_1 (by decide) (by decide) rfl (by decide) ?_
      refine r_aload_n C (pc := 158) rfl rfl dX7_told_158 ?_
      refine r_get C (pc := 159) (ci := 7) (k := 0) (w := .ref (m + 1)) rfl (by decide) inX7 (by decide) q_654 (Or.inl hd0) hs0 (zl_ref _ _) dX7_told_159 ?_
      refine r_bipush C (pc := 162) (x := (nI 32)) (by decide) dX7_told_162 ?_
      refine r_iald C (pc := 164) (x := (nI (M.1 32))) (Or.inl hd1) hs1 (by decide) (by omega) (hv.1 32 (by decide)) dX7_told_164 ?_
      exact r_iret C (pc := 165) rfl (rfl) dX7_told_165 ⟨rfl, rfl, (by have ho : qTold (nI 10) (M, h) = nI (M.1 32) := (if_pos hc).trans (by rw [nn_I (by decide)]; rfl); rw [ho]), hv, hh, zfr.rf⟩
    · refine r_tableIn C (pc := 1) (off := 165) (tgt := 166) dX7_told_1 (by decide) (by decide) rfl (by decide) ?_
      refine r_aload_n C (pc := 166) rfl rfl dX7_told_166 ?_
      refine r_get C (pc := 167) (ci := 7) (k := 0) (w := .ref (m + 1)) rfl (by decide) inX7 (by decide) q_654 (Or.inl hd0) hs0 (zl_ref _ _) dX7_told_167 ?_
      refine r_bipush C (pc := 170) (x := (nI 61)) (by decide) dX7_told_170 ?_
      refine r_iald C (pc := 172) (x := (nI ((M.2.1 3).length))) (Or.inl hd1) hs1 (by decide) (by omega) ((hv.2.1 3 (by decide)).1) dX7_told_172 ?_
      exact r_iret C (pc := 173) rfl (rfl) dX7_told_173 ⟨rfl, rfl, (by have ho : qTold (nI 11) (M, h) = nI ((M.2.1 3).length) := (if_pos hc).trans (by rw [nn_I (by decide)]; rfl); rw [ho]), hv, hh, zfr.rf⟩
    · refine r_tableIn C (pc := 1) (off := 173) (tgt := 174) dX7_told_1 (by decide) (by decide) rfl (by decide) ?_
      refine r_aload_n C (pc := 174) rfl rfl dX7_told_174 ?_
      refine r_callV C (pc := 175) (st := []) ((by have z := m_X7_known l G sh v N hp hv hK12 (mOK_V hk); rw [← cnt_kt hE] at z; exact z)) kyX7_known q_848 rfl (Or.inl hd0) hs0 (by decide) rfl rfl rfl (Nat.le_of_ble_eq_true rfl) ⟨Nat.le_of_ble_eq_true rfl, Nat.le_of_ble_eq_true rfl⟩ ⟨Nat.le_of_ble_eq_true rfl, Nat.le_of_ble_eq_true rfl⟩ dX7_told_175 (fun r175 v175 hp175 => ?_)
      obtain ⟨rfl, ehp175⟩ := hp175
      refine VV.vq ehp175 ?_
      refine VV.eq (st2 := [.int (nI (cntn M.2.2.2 12))]) rfl ?_
      exact r_iret C (pc := 178) rfl (rfl) dX7_told_178 ⟨rfl, rfl, (by have ho : qTold (nI 12) (M, h) = nI (cntn M.2.2.2 12) := (if_pos hc).trans (by rw [nn_I (by decide)]; rfl); rw [ho]), hv, hh, zfr.rf⟩
    · refine r_tableIn C (pc := 1) (off := 178) (tgt := 179) dX7_told_1 (by decide) (by decide) rfl (by decide) ?_
      refine r_aload_n C (pc := 179) rfl rfl dX7_told_179 ?_
      refine r_get C (pc := 180) (ci := 7) (k := 0) (w := .ref (m + 1)) rfl (by decide) inX7 (by decide) q_654 (Or.inl hd0) hs0 (zl_ref _ _) dX7_told_180 ?_
      refine r_bipush C (pc := 183) (x := (nI 122)) (by decide) dX7_told_183 ?_
      refine r_iald C (pc := 185) (x := (nI ((M.2.1 4).length))) (Or.inl hd1) hs1 (by decide) (by omega) ((hv.2.1 4 (by decide)).1) dX7_told_185 ?_
      exact r_iret C (pc := 186) rfl (rfl) dX7_told_186 ⟨rfl, rfl, (by have ho : qTold (nI 13) (M, h) = nI ((M.2.1 4).length) := (if_pos hc).trans (by rw [nn_I (by decide)]; rfl); rw [ho]), hv, hh, zfr.rf⟩
    · refine r_tableIn C (pc := 1) (off := 186) (tgt := 187) dX7_told_1 (by decide) (by decide) rfl (by decide) ?_
      refine r_aload_n C (pc := 187) rfl rfl dX7_told_187 ?_
      refine r_callV C (pc := 188) (st := []) ((by have z := m_X7_solvedBlocks l G sh v N hp hv hK12 (fun b t e => Nat.lt_of_le_of_lt (hI.1.2.1.2.2.1 b t e) (by omega)); rw [← cnt_so hE] at z; exact z)) kyX7_solvedBlocks q_852 rfl (Or.inl hd0) hs0 (by decide) rfl rfl rfl (Nat.le_of_ble_eq_true rfl) ⟨Nat.le_of_ble_eq_true rfl, Nat.le_of_ble_eq_true rfl⟩ ⟨Nat.le_of_ble_eq_true rfl, Nat.le_of_ble_eq_true rfl⟩ dX7_told_188 (fun r188 v188 hp188 => ?_)
      obtain ⟨rfl, ehp188⟩ := hp188
      refine VV.vq ehp188 ?_
      refine VV.eq (st2 := [.int (nI (cntn M.2.2.1 12))]) rfl ?_
      exact r_iret C (pc := 191) rfl (rfl) dX7_told_191 ⟨rfl, rfl, (by have ho : qTold (nI 14) (M, h) = nI (cntn M.2.2.1 12) := (if_pos hc).trans (by rw [nn_I (by decide)]; rfl); rw [ho]), hv, hh, zfr.rf⟩
    · refine r_tableIn C (pc := 1) (off := 191) (tgt := 192) dX7_told_1 (by decide) (by decide) rfl (by decide) ?_
      refine r_aload_n C (pc := 192) rfl rfl dX7_told_192 ?_
      refine r_get C (pc := 193) (ci := 7) (k := 0) (w := .ref (m + 1)) rfl (by decide) inX7 (by decide) q_654 (Or.inl hd0) hs0 (zl_ref _ _) dX7_told_193 ?_
      refine r_bipush C (pc := 196) (x := (nI 33)) (by decide) dX7_told_196 ?_
      refine r_iald C (pc := 198) (x := (nI (M.1 33))) (Or.inl hd1) hs1 (by decide) (by omega) (hv.1 33 (by decide)) dX7_told_198 ?_
      exact r_iret C (pc := 199) rfl (rfl) dX7_told_199 ⟨rfl, rfl, (by have ho : qTold (nI 15) (M, h) = nI (M.1 33) := (if_pos hc).trans (by rw [nn_I (by decide)]; rfl); rw [ho]), hv, hh, zfr.rf⟩
    · refine r_tableIn C (pc := 1) (off := 199) (tgt := 200) dX7_told_1 (by decide) (by decide) rfl (by decide) ?_
      refine r_aload_n C (pc := 200) rfl rfl dX7_told_200 ?_
      refine r_get C (pc := 201) (ci := 7) (k := 2) (w := .int (nI h.1)) rfl (by decide) inX7 (by decide) q_656 (Or.inl hd0) hs0 (zl_i (hh.1)) dX7_told_201 ?_
      exact r_iret C (pc := 204) rfl (rfl) dX7_told_204 ⟨rfl, rfl, (by have ho : qTold (nI 16) (M, h) = nI (h.1) := (if_pos hc).trans (by rw [nn_I (by decide)]; rfl); rw [ho]), hv, hh, zfr.rf⟩
  · refine r_tableOut C (pc := 1) (tgt := 205) dX7_told_1 (out_of (hi := 16) (by decide) hr) (by decide) ?_
    refine r_iconst C (pc := 205) (x := (-1)) (by decide) dX7_told_205 ?_
    exact r_iret C (pc := 206) rfl (rfl) dX7_told_206 ⟨rfl, rfl, (by have ho : qTold a (M, h) = -1 := if_neg hr; rw [ho]), hv, hh, zfr.rf⟩
set_option maxRecDepth 100000 in
set_option maxHeartbeats 4000000 in
theorem m_X7_block (l : Launch) (G : zG) (sh : zH) (v : zV) (N : Nat) {m : Nat} {M : zMS} {h : zHs} {T : Nat} {a b : Int32} (hp : zMD G sh N m) (hv : zwf (v (m + 1)) M) (hh : zmh v m h) (hI : zI T (M, h)) (hT : T + 1000 < 2 ^ 30) : zm l G yX7_block cX7_block 4 (some .int) 2 [.ref m, .int a, .int b] sh v N (fun r v1 => r = some (.int (qBlock a b (M, h))) ∧ zwf (v1 (m + 1)) M ∧ zmh v1 m h ∧ zfr v v1 m 9) := by
  refine zM.of (by decide) rfl (Nat.le_of_ble_eq_true rfl) ?_
  intro p e s mi args below meth c C
  obtain ⟨hB, hN, hs0, hs1, hs2, hs3, hs4, hs5, hs6, hs7, hs8⟩ := id hp
  have hd0 : G.2.2.1 ≤ m ∧ m < N := ⟨hB, by omega⟩
  have hd1 : G.2.2.1 ≤ m + 1 ∧ m + 1 < N := ⟨by omega, by omega⟩
  have hd2 : G.2.2.1 ≤ m + 2 ∧ m + 2 < N := ⟨by omega, by omega⟩
  have hd3 : G.2.2.1 ≤ m + 3 ∧ m + 3 < N := ⟨by omega, by omega⟩
  have hd4 : G.2.2.1 ≤ m + 4 ∧ m + 4 < N := ⟨by omega, by omega⟩
  have hd5 : G.2.2.1 ≤ m + 5 ∧ m + 5 < N := ⟨by omega, by omega⟩
  have hd6 : G.2.2.1 ≤ m + 6 ∧ m + 6 < N := ⟨by omega, by omega⟩
  have hd7 : G.2.2.1 ≤ m + 7 ∧ m + 7 < N := ⟨by omega, by omega⟩
  have hd8 : G.2.2.1 ≤ m + 8 ∧ m + 8 < N := ⟨by omega, by omega⟩
  have hE : zE M := hI.1.1
  have hk : mOK M := hE.1
  have hK2 := hk.1.1
  have hK12 := hk.1.2.1
  have hR3 := hk.1.2.2.1
  refine r_aload_n C (pc := 0) rfl rfl dX7_block_0 ?_
  refine r_iload_n C (pc := 1) rfl rfl dX7_block_1 ?_
  refine r_callV C (pc := 2) (st := []) (m_X7_isBlock l G sh v N (a := a) hp hv hK2) kyX7_isBlock q_712 rfl (Or.inl hd0) hs0 (by decide) rfl rfl rfl (Nat.le_of_ble_eq_true rfl) ⟨Nat.le_of_ble_eq_true rfl, Nat.le_of_ble_eq_true rfl⟩ ⟨Nat.le_of_ble_eq_true rfl, Nat.le_of_ble_eq_true rfl⟩ dX7_block_2 (fun r2 v2 hp2 => ?_)
  obtain ⟨rfl, ehp2⟩ := hp2
  refine VV.vq ehp2 ?_
  refine VV.eq (st2 := [.int (zb (decide ((nI 0) ≤ a ∧ a ≤ (nI (M.1 0 - 1)))))]) rfl ?_
  refine n_ifb_ne C (pc := 5) (tgt := 10) dX7_block_5 (by decide) (fun c_5 => ?_) (fun c_5 => ?_)
  · have hc1 := (of_decide_eq_true c_5)
    obtain ⟨B, hB1, hB2, rfl⟩ := inR (of_decide_eq_true c_5) (by omega) (by omega)
    have hB12 : B < 12 := by omega
    refine r_iload_n C (pc := 10) rfl rfl dX7_block_10 ?_
    by_cases hr : nI 0 ≤ b ∧ b ≤ nI 4
    · obtain ⟨n, hn1, hn2, rfl⟩ := inR hr (by decide) (by decide)
      rcases (show n = 0 ∨ n = 1 ∨ n = 2 ∨ n = 3 ∨ n = 4 by omega) with rfl | rfl | rfl | rfl | rfl
      · refine r_tableIn C (pc := 11) (off := 33) (tgt := 44) dX7_block_11 (by decide) (by decide) rfl (by decide) ?_
        refine r_aload_n C (pc := 44) rfl rfl dX7_block_44 ?_
        refine r_get C (pc := 45) (ci := 7) (k := 0) (w := .ref (m + 1)) rfl (by decide) inX7 (by decide) q_654 (Or.inl hd0) hs0 (zl_ref _ _) dX7_block_45 ?_
        refine r_bipush C (pc := 48) (x := (nI 17)) (by decide) dX7_block_48 ?_
        refine r_iload_n C (pc := 50) rfl rfl dX7_block_50 ?_
        refine r_iadd C (pc := 51) (z := (nI (17 + B))) (nI_add _ _) dX7_block_51 ?_
        refine r_iald C (pc := 52) (x := (nI (M.1 (17 + B)))) (Or.inl hd1) hs1 (by omega) (by omega) (hv.1 (17 + B) (by omega)) dX7_block_52 ?_
        exact r_iret C (pc := 53) rfl (rfl) dX7_block_53 ⟨rfl, rfl, (by have ho : qBlock (nI B) (nI 0) (M, h) = nI (M.1 (17 + B)) := ((if_pos hc1).trans (if_pos rfl)).trans (by rw [nn_I (by omega)]); rw [ho]), hv, hh, zfr.rf⟩
      · refine r_tableIn C (pc := 11) (off := 43) (tgt := 54) dX7_block_11 (by decide) (by decide) rfl (by decide) ?_
        refine r_aload_n C (pc := 54) rfl rfl dX7_block_54 ?_
        refine r_get C (pc := 55) (ci := 7) (k := 0) (w := .ref (m + 1)) rfl (by decide) inX7 (by decide) q_654 (Or.inl hd0) hs0 (zl_ref _ _) dX7_block_55 ?_
        refine r_bipush C (pc := 58) (x := (nI 86)) (by decide) dX7_block_58 ?_
        refine r_iload_n C (pc := 60) rfl rfl dX7_block_60 ?_
        refine r_iadd C (pc := 61) (z := (nI (86 + B))) (nI_add _ _) dX7_block_61 ?_
        refine r_iald C (pc := 62) (x := (knI (M.2.2.2 B) (M.1 (17 + B)))) (Or.inl hd1) hs1 (by omega) (by omega) (hv.2.2.1 B hB12) dX7_block_62 ?_
        exact r_iret C (pc := 63) rfl (rfl) dX7_block_63 ⟨rfl, rfl, (by have ho : qBlock (nI B) (nI 1) (M, h) = knI (M.2.2.2 B) (M.1 (17 + B)) := ((if_pos hc1).trans ((if_neg (by decide)).trans (if_pos rfl))).trans (by rw [nn_I (by omega)]); rw [ho]), hv, hh, zfr.rf⟩
      · refine r_tableIn C (pc := 11) (off := 53) (tgt := 64) dX7_block_11 (by decide) (by decide) rfl (by decide) ?_
        refine r_aload_n C (pc := 64) rfl rfl dX7_block_64 ?_
        refine r_bipush C (pc := 65) (x := (nI 61)) (by decide) dX7_block_65 ?_
        refine r_callV C (pc := 67) (st := []) (m_X7_layBase l G sh v N (r0 := 3) hp hv (by decide) (zl_ls hE (by decide))) kyX7_layBase q_786 rfl (Or.inl hd0) hs0 (by decide) rfl rfl rfl (Nat.le_of_ble_eq_true rfl) ⟨Nat.le_of_ble_eq_true rfl, Nat.le_of_ble_eq_true rfl⟩ ⟨Nat.le_of_ble_eq_true rfl, Nat.le_of_ble_eq_true rfl⟩ dX7_block_67 (fun r67 v67 hp67 => ?_)
        obtain ⟨rfl, g1, g2, g3⟩ := hp67
        refine VV.eq (st2 := [.int (nI (rnk (M.2.1 3)))]) rfl ?_
        refine r_istore_n C (pc := 70) (lv2 := [some (.ref m), some (.int (nI B)), some (.int (nI 2)), some (.int (nI (rnk (M.2.1 3))))]) rfl (Nat.le_of_ble_eq_true rfl) rfl rfl dX7_block_70 ?_
        refine r_aload_n C (pc := 71) rfl rfl dX7_block_71 ?_
        refine r_iload_n C (pc := 72) rfl rfl dX7_block_72 ?_
        refine r_callV C (pc := 73) (st := []) ((by have z := m_X7_solved l G sh v67 N (b := B) hp g2 (eqv_spr (zl_ls hE (by decide)) _).2.1 hB12; rw [solv_I hE hB12] at z; exact z)) kyX7_solved q_824 rfl (Or.inl hd0) hs0 (by decide) rfl rfl rfl (Nat.le_of_ble_eq_true rfl) ⟨Nat.le_of_ble_eq_true rfl, Nat.le_of_ble_eq_true rfl⟩ ⟨Nat.le_of_ble_eq_true rfl, Nat.le_of_ble_eq_true rfl⟩ dX7_block_73 (fun r73 v73 hp73 => ?_)
        obtain ⟨rfl, g4⟩ := hp73
        refine VV.eq (st2 := [.int (knI (M.2.2.1 B) (M.1 (17 + B)))]) rfl ?_
        exact r_iret C (pc := 76) rfl (rfl) dX7_block_76 ⟨rfl, rfl, (by have ho : qBlock (nI B) (nI 2) (M, h) = knI (M.2.2.1 B) (M.1 (17 + B)) := ((if_pos hc1).trans ((if_neg (by decide)).trans ((if_neg (by decide)).trans (if_pos rfl)))).trans (by rw [nn_I (by omega)]); rw [ho]), (by rw [g4.1 _ (by omega), g1]; exact hv), zmh_T (zmh_T hh g3.T) g4.B.T, (g3.T.fr).tr g4.B.T.fr⟩
      · refine r_tableIn C (pc := 11) (off := 66) (tgt := 77) dX7_block_11 (by decide) (by decide) rfl (by decide) ?_
        refine r_aload_n C (pc := 77) rfl rfl dX7_block_77 ?_
        refine r_get C (pc := 78) (ci := 7) (k := 0) (w := .ref (m + 1)) rfl (by decide) inX7 (by decide) q_654 (Or.inl hd0) hs0 (zl_ref _ _) dX7_block_78 ?_
        refine r_bipush C (pc := 81) (x := (nI 98)) (by decide) dX7_block_81 ?_
        refine r_iload_n C (pc := 83) rfl rfl dX7_block_83 ?_
        refine r_iadd C (pc := 84) (z := (nI (98 + B))) (nI_add _ _) dX7_block_84 ?_
        refine r_iald C (pc := 85) (x := (tmI (M.2.2.2 B))) (Or.inl hd1) hs1 (by omega) (by omega) (hv.2.2.2.1 B hB12) dX7_block_85 ?_
        exact r_iret C (pc := 86) rfl (rfl) dX7_block_86 ⟨rfl, rfl, (by have ho : qBlock (nI B) (nI 3) (M, h) = tmI (M.2.2.2 B) := ((if_pos hc1).trans ((if_neg (by decide)).trans ((if_neg (by decide)).trans ((if_neg (by decide)).trans (if_pos rfl))))).trans (by rw [nn_I (by omega)]); rw [ho]), hv, hh, zfr.rf⟩
      · refine r_tableIn C (pc := 11) (off := 76) (tgt := 87) dX7_block_11 (by decide) (by decide) rfl (by decide) ?_
        refine r_aload_n C (pc := 87) rfl rfl dX7_block_87 ?_
        refine r_get C (pc := 88) (ci := 7) (k := 0) (w := .ref (m + 1)) rfl (by decide) inX7 (by decide) q_654 (Or.inl hd0) hs0 (zl_ref _ _) dX7_block_88 ?_
        refine r_bipush C (pc := 91) (x := (nI 110)) (by decide) dX7_block_91 ?_
        refine r_iload_n C (pc := 93) rfl rfl dX7_block_93 ?_
        refine r_iadd C (pc := 94) (z := (nI (110 + B))) (nI_add _ _) dX7_block_94 ?_
        refine r_iald C (pc := 95) (x := (tmI (M.2.2.1 B))) (Or.inl hd1) hs1 (by omega) (by omega) (hv.2.2.2.2 B hB12) dX7_block_95 ?_
        exact r_iret C (pc := 96) rfl (rfl) dX7_block_96 ⟨rfl, rfl, (by have ho : qBlock (nI B) (nI 4) (M, h) = tmI (M.2.2.1 B) := ((if_pos hc1).trans ((if_neg (by decide)).trans ((if_neg (by decide)).trans ((if_neg (by decide)).trans ((if_neg (by decide)).trans (if_pos rfl)))))).trans (by rw [nn_I (by omega)]); rw [ho]), hv, hh, zfr.rf⟩
    · refine r_tableOut C (pc := 11) (tgt := 97) dX7_block_11 (out_of (hi := 4) (by decide) hr) (by decide) ?_
      refine r_iconst C (pc := 97) (x := (-1)) (by decide) dX7_block_97 ?_
      exact r_iret C (pc := 98) rfl (rfl) dX7_block_98 ⟨rfl, rfl, (by have ho : qBlock (nI B) b (M, h) = -1 := (if_pos hc1).trans ((if_neg (fun z => hr (by rw [z]; exact ⟨by decide, by decide⟩))).trans ((if_neg (fun z => hr (by rw [z]; exact ⟨by decide, by decide⟩))).trans ((if_neg (fun z => hr (by rw [z]; exact ⟨by decide, by decide⟩))).trans ((if_neg (fun z => hr (by rw [z]; exact ⟨by decide, by decide⟩))).trans (if_neg (fun z => hr (by rw [z]; exact ⟨by decide, by decide⟩))))))); rw [ho]), hv, hh, zfr.rf⟩
  · refine r_iconst C (pc := 8) (x := (-1)) (by decide) dX7_block_8 ?_
    exact r_iret C (pc := 9) rfl (rfl) dX7_block_9 ⟨rfl, rfl, (by have ho : qBlock a b (M, h) = -1 := if_neg (fun z => (of_decide_eq_false c_5) z); rw [ho]), hv, hh, zfr.rf⟩
set_option maxRecDepth 100000 in
set_option maxHeartbeats 4000000 in
theorem m_X7_listOf (l : Launch) (G : zG) (sh : zH) (v : zV) (N : Nat) {m : Nat} {M : zMS} {n : Nat} (hp : zMD G sh N m) (hv : zwf (v (m + 1)) M) (hR : M.1 1 ≤ 3) (h1 : 1 ≤ n) (h2 : n ≤ M.1 1 + 1) : zm l G yX7_listOf cX7_listOf 2 (some .int) 1 [.ref m, .int (nI n)] sh v N (fun r v1 => r = some (.int (nI (lb (ixO M n)))) ∧ v1 = v) := by
  refine zM.of (by decide) rfl (Nat.le_of_ble_eq_true rfl) ?_
  intro p e s mi args below meth c C
  obtain ⟨hB, hN, hs0, hs1, hs2, hs3, hs4, hs5, hs6, hs7, hs8⟩ := id hp
  have hd0 : G.2.2.1 ≤ m ∧ m < N := ⟨hB, by omega⟩
  have hd1 : G.2.2.1 ≤ m + 1 ∧ m + 1 < N := ⟨by omega, by omega⟩
  have hd2 : G.2.2.1 ≤ m + 2 ∧ m + 2 < N := ⟨by omega, by omega⟩
  have hd3 : G.2.2.1 ≤ m + 3 ∧ m + 3 < N := ⟨by omega, by omega⟩
  have hd4 : G.2.2.1 ≤ m + 4 ∧ m + 4 < N := ⟨by omega, by omega⟩
  have hd5 : G.2.2.1 ≤ m + 5 ∧ m + 5 < N := ⟨by omega, by omega⟩
  have hd6 : G.2.2.1 ≤ m + 6 ∧ m + 6 < N := ⟨by omega, by omega⟩
  have hd7 : G.2.2.1 ≤ m + 7 ∧ m + 7 < N := ⟨by omega, by omega⟩
  have hd8 : G.2.2.1 ≤ m + 8 ∧ m + 8 < N := ⟨by omega, by omega⟩
  refine r_iload_n C (pc := 0) rfl rfl dX7_listOf_0 ?_
  refine r_aload_n C (pc := 1) rfl rfl dX7_listOf_1 ?_
  refine r_get C (pc := 2) (ci := 7) (k := 0) (w := .ref (m + 1)) rfl (by decide) inX7 (by decide) q_654 (Or.inl hd0) hs0 (zl_ref _ _) dX7_listOf_2 ?_
  refine r_iconst C (pc := 5) (x := (nI 1)) (by decide) dX7_listOf_5 ?_
  refine r_iald C (pc := 6) (x := (nI (M.1 1))) (Or.inl hd1) hs1 (by omega) (by omega) (hv.1 1 (by decide)) dX7_listOf_6 ?_
  refine n_icmp_le C (pc := 7) (tgt := 15) (by omega) (by omega) dX7_listOf_7 (by decide) (fun c_7 => ?_) (fun c_7 => ?_)
  · refine r_iload_n C (pc := 15) rfl rfl dX7_listOf_15 ?_
    refine r_callS C (pc := 16) (st := []) (m_X7_storeOf l G sh v N (r0 := n) h1 (by omega)) kyX7_storeOf q_736 rfl rfl (Nat.le_of_ble_eq_true rfl) ⟨Nat.le_of_ble_eq_true rfl, Nat.le_of_ble_eq_true rfl⟩ ⟨Nat.le_of_ble_eq_true rfl, Nat.le_of_ble_eq_true rfl⟩ dX7_listOf_16 (fun r16 v16 hp16 => ?_)
    obtain ⟨rfl, ehp16⟩ := hp16
    refine VV.vq ehp16 ?_
    refine VV.eq (st2 := [.int (nI (lb (n - 1)))]) rfl ?_
    exact r_iret C (pc := 19) rfl (rfl) dX7_listOf_19 ⟨rfl, rfl, by rw [ixO, if_neg (by omega)], rfl⟩
  · refine r_bipush C (pc := 10) (x := (nI 61)) (by decide) dX7_listOf_10 ?_
    refine r_goto C (pc := 12) (tgt := 19) dX7_listOf_12 (by decide) ?_
    exact r_iret C (pc := 19) rfl (rfl) dX7_listOf_19 ⟨rfl, rfl, by rw [ixO, if_pos (by omega)]; rfl, rfl⟩
set_option maxRecDepth 100000 in
set_option maxHeartbeats 4000000 in
theorem m_X7_part (l : Launch) (G : zG) (sh : zH) (v : zV) (N : Nat) {m : Nat} {M : zMS} {r0 k x : Nat} (hp : zMD G sh N m) (hv : zwf (v (m + 1)) M) (hr : r0 < 5) (hl : ∀ q ∈ M.2.1 r0, q < 2 ^ 20) (hk : k < 2 ^ 31) (hx : x ≤ 2) : zm l G yX7_part cX7_part 5 (some .int) 1 [.ref m, .int (nI (lb r0)), .int (nI k), .int (nI x)] sh v N (fun r v1 => r = some (.int (ptI (M.2.1 r0) k x)) ∧ v1 = v) := by
  refine zM.of (by decide) rfl (Nat.le_of_ble_eq_true rfl) ?_
  intro p e s mi args below meth c C
  obtain ⟨hB, hN, hs0, hs1, hs2, hs3, hs4, hs5, hs6, hs7, hs8⟩ := id hp
  have hd0 : G.2.2.1 ≤ m ∧ m < N := ⟨hB, by omega⟩
  have hd1 : G.2.2.1 ≤ m + 1 ∧ m + 1 < N := ⟨by omega, by omega⟩
  have hd2 : G.2.2.1 ≤ m + 2 ∧ m + 2 < N := ⟨by omega, by omega⟩
  have hd3 : G.2.2.1 ≤ m + 3 ∧ m + 3 < N := ⟨by omega, by omega⟩
  have hd4 : G.2.2.1 ≤ m + 4 ∧ m + 4 < N := ⟨by omega, by omega⟩
  have hd5 : G.2.2.1 ≤ m + 5 ∧ m + 5 < N := ⟨by omega, by omega⟩
  have hd6 : G.2.2.1 ≤ m + 6 ∧ m + 6 < N := ⟨by omega, by omega⟩
  have hd7 : G.2.2.1 ≤ m + 7 ∧ m + 7 < N := ⟨by omega, by omega⟩
  have hd8 : G.2.2.1 ≤ m + 8 ∧ m + 8 < N := ⟨by omega, by omega⟩
  have ht := lb_top r0 hr
  have hla := hv.2.1 r0 hr
  have hla2 := hla.2.1
  refine r_iload_n C (pc := 0) rfl rfl dX7_part_0 ?_
  refine r_aload_n C (pc := 1) rfl rfl dX7_part_1 ?_
  refine r_get C (pc := 2) (ci := 7) (k := 0) (w := .ref (m + 1)) rfl (by decide) inX7 (by decide) q_654 (Or.inl hd0) hs0 (zl_ref _ _) dX7_part_2 ?_
  refine r_iload_n C (pc := 5) rfl rfl dX7_part_5 ?_
  refine r_iald C (pc := 6) (x := (nI ((M.2.1 r0).length))) (Or.inl hd1) hs1 (by omega) (by omega) (hla.1) dX7_part_6 ?_
  refine n_icmp_lt C (pc := 7) (tgt := 13) (by omega) (by omega) dX7_part_7 (by decide) (fun c_7 => ?_) (fun c_7 => ?_)
  · refine r_aload_n C (pc := 13) rfl rfl dX7_part_13 ?_
    refine r_get C (pc := 14) (ci := 7) (k := 0) (w := .ref (m + 1)) rfl (by decide) inX7 (by decide) q_654 (Or.inl hd0) hs0 (zl_ref _ _) dX7_part_14 ?_
    refine r_iload_n C (pc := 17) rfl rfl dX7_part_17 ?_
    refine r_iload_n C (pc := 18) rfl rfl dX7_part_18 ?_
    refine r_callS C (pc := 19) (st := [.ref (m + 1)]) (m_X7_setAt l G sh v N (a := lb r0) (k := k)) kyX7_setAt q_743 rfl rfl (Nat.le_of_ble_eq_true rfl) ⟨Nat.le_of_ble_eq_true rfl, Nat.le_of_ble_eq_true rfl⟩ ⟨Nat.le_of_ble_eq_true rfl, Nat.le_of_ble_eq_true rfl⟩ dX7_part_19 (fun r19 v19 hp19 => ?_)
    obtain ⟨rfl, ehp19⟩ := hp19
    refine VV.vq ehp19 ?_
    refine VV.eq (st2 := [.int (nI (lb r0 + 1 + 2 * k)), .ref (m + 1)]) rfl ?_
    refine r_iald C (pc := 22) (x := (nI (((M.2.1 r0).getD k 0) / 256))) (Or.inl hd1) hs1 (by omega) (by omega) ((hla.2.2 k (by omega)).1) dX7_part_22 ?_
    refine r_istore C (pc := 23) (lv2 := [some (.ref m), some (.int (nI (lb r0))), some (.int (nI k)), some (.int (nI x)), some (.int (nI (((M.2.1 r0).getD k 0) / 256)))]) (Nat.le_of_ble_eq_true rfl) rfl rfl dX7_part_23 ?_
    refine r_iload_n C (pc := 25) rfl rfl dX7_part_25 ?_
    refine n_if_ne C (pc := 26) (tgt := 34) (by omega) dX7_part_26 (by decide) (fun c_26 => ?_) (fun c_26 => ?_)
    · refine r_iload_n C (pc := 34) rfl rfl dX7_part_34 ?_
      refine r_iconst C (pc := 35) (x := (nI 1)) (by decide) dX7_part_35 ?_
      refine n_icmp_ne C (pc := 36) (tgt := 54) (by omega) (by decide) dX7_part_36 (by decide) (fun c_36 => ?_) (fun c_36 => ?_)
      · refine r_iload C (pc := 54) rfl dX7_part_54 ?_
        refine r_callS C (pc := 56) (st := []) (m_X7_size l G sh v N (x := ((M.2.1 r0).getD k 0) / 256) (by have := gd_lt20 (i := k) hl; omega)) kyX7_size q_802 rfl rfl (Nat.le_of_ble_eq_true rfl) ⟨Nat.le_of_ble_eq_true rfl, Nat.le_of_ble_eq_true rfl⟩ ⟨Nat.le_of_ble_eq_true rfl, Nat.le_of_ble_eq_true rfl⟩ dX7_part_56 (fun r56 v56 hp56 => ?_)
        obtain ⟨rfl, ehp56⟩ := hp56
        refine VV.vq ehp56 ?_
        refine VV.eq (st2 := [.int (nI (pop (((M.2.1 r0).getD k 0) / 256)))]) rfl ?_
        exact r_iret C (pc := 59) rfl (rfl) dX7_part_59 ⟨rfl, rfl, by rw [ptI, if_neg (by omega), if_neg (by omega), if_neg c_36], rfl⟩
      · refine r_aload_n C (pc := 39) rfl rfl dX7_part_39 ?_
        refine r_get C (pc := 40) (ci := 7) (k := 0) (w := .ref (m + 1)) rfl (by decide) inX7 (by decide) q_654 (Or.inl hd0) hs0 (zl_ref _ _) dX7_part_40 ?_
        refine r_iload_n C (pc := 43) rfl rfl dX7_part_43 ?_
        refine r_iload_n C (pc := 44) rfl rfl dX7_part_44 ?_
        refine r_callS C (pc := 45) (st := [.ref (m + 1)]) (m_X7_setAt l G sh v N (a := lb r0) (k := k)) kyX7_setAt q_743 rfl rfl (Nat.le_of_ble_eq_true rfl) ⟨Nat.le_of_ble_eq_true rfl, Nat.le_of_ble_eq_true rfl⟩ ⟨Nat.le_of_ble_eq_true rfl, Nat.le_of_ble_eq_true rfl⟩ dX7_part_45 (fun r45 v45 hp45 => ?_)
        obtain ⟨rfl, ehp45⟩ := hp45
        refine VV.vq ehp45 ?_
        refine VV.eq (st2 := [.int (nI (lb r0 + 1 + 2 * k)), .ref (m + 1)]) rfl ?_
        refine r_iconst C (pc := 48) (x := (nI 1)) (by decide) dX7_part_48 ?_
        refine r_iadd C (pc := 49) (z := (nI ((lb r0 + 1 + 2 * k) + 1))) (nI_add _ _) dX7_part_49 ?_
        refine r_iald C (pc := 50) (x := (nI (((M.2.1 r0).getD k 0) % 256))) (Or.inl hd1) hs1 (by omega) (by omega) ((hla.2.2 k (by omega)).2) dX7_part_50 ?_
        refine r_goto C (pc := 51) (tgt := 59) dX7_part_51 (by decide) ?_
        exact r_iret C (pc := 59) rfl (rfl) dX7_part_59 ⟨rfl, rfl, by rw [ptI, if_neg (by omega), if_neg (by omega), if_pos c_36], rfl⟩
    · refine r_iload C (pc := 29) rfl dX7_part_29 ?_
      refine r_goto C (pc := 31) (tgt := 59) dX7_part_31 (by decide) ?_
      exact r_iret C (pc := 59) rfl (rfl) dX7_part_59 ⟨rfl, rfl, by rw [ptI, if_neg (by omega), if_pos c_26], rfl⟩
  · refine r_bipush C (pc := 10) (x := (-9)) (by decide) dX7_part_10 ?_
    exact r_iret C (pc := 12) rfl (rfl) dX7_part_12 ⟨rfl, rfl, by rw [ptI, if_pos (by omega)], rfl⟩
set_option maxRecDepth 100000 in
set_option maxHeartbeats 4000000 in
theorem m_X7_packet (l : Launch) (G : zG) (sh : zH) (v : zV) (N : Nat) {m : Nat} {M : zMS} {h : zHs} {T : Nat} {a b c1 : Int32} (hp : zMD G sh N m) (hv : zwf (v (m + 1)) M) (hh : zmh v m h) (hI : zI T (M, h)) (hT : T + 1000 < 2 ^ 30) : zm l G yX7_packet cX7_packet 4 (some .int) 2 [.ref m, .int a, .int b, .int c1] sh v N (fun r v1 => r = some (.int (qPacket a b c1 (M, h))) ∧ zwf (v1 (m + 1)) M ∧ zmh v1 m h ∧ zfr v v1 m 9) := by
  refine zM.of (by decide) rfl (Nat.le_of_ble_eq_true rfl) ?_
  intro p e s mi args below meth c C
  obtain ⟨hB, hN, hs0, hs1, hs2, hs3, hs4, hs5, hs6, hs7, hs8⟩ := id hp
  have hd0 : G.2.2.1 ≤ m ∧ m < N := ⟨hB, by omega⟩
  have hd1 : G.2.2.1 ≤ m + 1 ∧ m + 1 < N := ⟨by omega, by omega⟩
  have hd2 : G.2.2.1 ≤ m + 2 ∧ m + 2 < N := ⟨by omega, by omega⟩
  have hd3 : G.2.2.1 ≤ m + 3 ∧ m + 3 < N := ⟨by omega, by omega⟩
  have hd4 : G.2.2.1 ≤ m + 4 ∧ m + 4 < N := ⟨by omega, by omega⟩
  have hd5 : G.2.2.1 ≤ m + 5 ∧ m + 5 < N := ⟨by omega, by omega⟩
  have hd6 : G.2.2.1 ≤ m + 6 ∧ m + 6 < N := ⟨by omega, by omega⟩
  have hd7 : G.2.2.1 ≤ m + 7 ∧ m + 7 < N := ⟨by omega, by omega⟩
  have hd8 : G.2.2.1 ≤ m + 8 ∧ m + 8 < N := ⟨by omega, by omega⟩
  have hE : zE M := hI.1.1
  have hk : mOK M := hE.1
  have hK2 := hk.1.1
  have hK12 := hk.1.2.1
  have hR3 := hk.1.2.2.1
  refine r_aload_n C (pc := 0) rfl rfl dX7_packet_0 ?_
  refine r_iload_n C (pc := 1) rfl rfl dX7_packet_1 ?_
  refine r_callV C (pc := 2) (st := []) (m_X7_hasList l G sh v N (a := a) hp hv) kyX7_hasList q_864 rfl (Or.inl hd0) hs0 (by decide) rfl rfl rfl (Nat.le_of_ble_eq_true rfl) ⟨Nat.le_of_ble_eq_true rfl, Nat.le_of_ble_eq_true rfl⟩ ⟨Nat.le_of_ble_eq_true rfl, Nat.le_of_ble_eq_true rfl⟩ dX7_packet_2 (fun r2 v2 hp2 => ?_)
  obtain ⟨rfl, ehp2⟩ := hp2
  refine VV.vq ehp2 ?_
  refine VV.eq (st2 := [.int (zb (decide ((nI 1) ≤ a ∧ a ≤ (nI (M.1 1 + 1)))))]) rfl ?_
  refine n_ifb_eq C (pc := 5) (tgt := 35) dX7_packet_5 (by decide) (fun c_5 => ?_) (fun c_5 => ?_)
  · refine r_iconst C (pc := 35) (x := (-1)) (by decide) dX7_packet_35 ?_
    exact r_iret C (pc := 36) rfl (rfl) dX7_packet_36 ⟨rfl, rfl, (by have ho : qPacket a b c1 (M, h) = -1 := if_neg (fun z => (of_decide_eq_false c_5) z.1); rw [ho]), hv, hh, zfr.rf⟩
  · refine r_iload_n C (pc := 8) rfl rfl dX7_packet_8 ?_
    refine r_if_lt C (pc := 9) (tgt := 35) dX7_packet_9 (by decide) (fun c_9 => ?_) (fun c_9 => ?_)
    · refine r_iconst C (pc := 35) (x := (-1)) (by decide) dX7_packet_35 ?_
      exact r_iret C (pc := 36) rfl (rfl) dX7_packet_36 ⟨rfl, rfl, (by have ho : qPacket a b c1 (M, h) = -1 := if_neg (fun z => neg_n0 c_9 z.2.1); rw [ho]), hv, hh, zfr.rf⟩
    · refine r_iload_n C (pc := 12) rfl rfl dX7_packet_12 ?_
      refine r_iconst C (pc := 13) (x := (nI 0)) (by decide) dX7_packet_13 ?_
      refine r_iconst C (pc := 14) (x := (nI 2)) (by decide) dX7_packet_14 ?_
      refine r_callS C (pc := 15) (st := []) (m_X7_isIn l G sh v N (x := c1) (lo := (nI 0)) (hi := (nI 2))) kyX7_isIn q_701 rfl rfl (Nat.le_of_ble_eq_true rfl) ⟨Nat.le_of_ble_eq_true rfl, Nat.le_of_ble_eq_true rfl⟩ ⟨Nat.le_of_ble_eq_true rfl, Nat.le_of_ble_eq_true rfl⟩ dX7_packet_15 (fun r15 v15 hp15 => ?_)
      obtain ⟨rfl, ehp15⟩ := hp15
      refine VV.vq ehp15 ?_
      refine VV.eq (st2 := [.int (zb (decide ((nI 0) ≤ c1 ∧ c1 ≤ (nI 2))))]) rfl ?_
      refine n_ifb_eq C (pc := 18) (tgt := 35) dX7_packet_18 (by decide) (fun c_18 => ?_) (fun c_18 => ?_)
      · refine r_iconst C (pc := 35) (x := (-1)) (by decide) dX7_packet_35 ?_
        exact r_iret C (pc := 36) rfl (rfl) dX7_packet_36 ⟨rfl, rfl, (by have ho : qPacket a b c1 (M, h) = -1 := if_neg (fun z => (of_decide_eq_false c_18) z.2.2); rw [ho]), hv, hh, zfr.rf⟩
      · have hc1 := (of_decide_eq_true c_5)
        have hc2 := nneg c_9
        have hc3 := (of_decide_eq_true c_18)
        obtain ⟨n, hn1, hn2, rfl⟩ := inR hc1 (by decide) (by omega)
        obtain ⟨eb, hk31⟩ := I_nn hc2
        generalize nn b = k at eb hk31
        subst eb
        obtain ⟨x, hx1, hx2, rfl⟩ := inR hc3 (by decide) (by decide)
        refine r_aload_n C (pc := 21) rfl rfl dX7_packet_21 ?_
        refine r_aload_n C (pc := 22) rfl rfl dX7_packet_22 ?_
        refine r_iload_n C (pc := 23) rfl rfl dX7_packet_23 ?_
        refine r_callV C (pc := 24) (st := [.ref m]) (m_X7_listOf l G sh v N (n := n) hp hv hR3 hn1 hn2) kyX7_listOf q_868 rfl (Or.inl hd0) hs0 (by decide) rfl rfl rfl (Nat.le_of_ble_eq_true rfl) ⟨Nat.le_of_ble_eq_true rfl, Nat.le_of_ble_eq_true rfl⟩ ⟨Nat.le_of_ble_eq_true rfl, Nat.le_of_ble_eq_true rfl⟩ dX7_packet_24 (fun r24 v24 hp24 => ?_)
        obtain ⟨rfl, ehp24⟩ := hp24
        refine VV.vq ehp24 ?_
        refine VV.eq (st2 := [.int (nI (lb (ixO M n))), .ref m]) rfl ?_
        refine r_iload_n C (pc := 27) rfl rfl dX7_packet_27 ?_
        refine r_iload_n C (pc := 28) rfl rfl dX7_packet_28 ?_
        refine r_callV C (pc := 29) (st := []) (m_X7_part l G sh v N (r0 := ixO M n) (k := k) (x := x) hp hv (ixO_lt hR3 hn2) (zl_ls hE (ixO_lt hR3 hn2)) hk31 hx2) kyX7_part q_872 rfl (Or.inl hd0) hs0 (by decide) rfl rfl rfl (Nat.le_of_ble_eq_true rfl) ⟨Nat.le_of_ble_eq_true rfl, Nat.le_of_ble_eq_true rfl⟩ ⟨Nat.le_of_ble_eq_true rfl, Nat.le_of_ble_eq_true rfl⟩ dX7_packet_29 (fun r29 v29 hp29 => ?_)
        obtain ⟨rfl, ehp29⟩ := hp29
        refine VV.vq ehp29 ?_
        refine VV.eq (st2 := [.int (ptI (M.2.1 (ixO M n)) k x)]) rfl ?_
        refine r_goto C (pc := 32) (tgt := 36) dX7_packet_32 (by decide) ?_
        exact r_iret C (pc := 36) rfl (rfl) dX7_packet_36 ⟨rfl, rfl, (by have ho : qPacket (nI n) (nI k) (nI x) (M, h) = ptI (lsO M n) k x := (if_pos ⟨hc1, hc2, hc3⟩).trans (by rw [nn_I (by omega), nn_I hk31, nn_I (by omega)]); rw [ho, lsO_ix]), hv, hh, zfr.rf⟩
set_option maxRecDepth 100000 in
set_option maxHeartbeats 4000000 in
theorem m_X7_waiting (l : Launch) (G : zG) (sh : zH) (v : zV) (N : Nat) {m : Nat} {M : zMS} {h : zHs} {T : Nat} {b c1 : Int32} (hp : zMD G sh N m) (hv : zwf (v (m + 1)) M) (hh : zmh v m h) (hI : zI T (M, h)) (hT : T + 1000 < 2 ^ 30) : zm l G yX7_waiting cX7_waiting 3 (some .int) 2 [.ref m, .int b, .int c1] sh v N (fun r v1 => r = some (.int (qWaiting b c1 (M, h))) ∧ zwf (v1 (m + 1)) M ∧ zmh v1 m h ∧ zfr v v1 m 9) := by
  refine zM.of (by decide) rfl (Nat.le_of_ble_eq_true rfl) ?_
  intro p e s mi args below meth c C
  obtain ⟨hB, hN, hs0, hs1, hs2, hs3, hs4, hs5, hs6, hs7, hs8⟩ := id hp
  have hd0 : G.2.2.1 ≤ m ∧ m < N := ⟨hB, by omega⟩
  have hd1 : G.2.2.1 ≤ m + 1 ∧ m + 1 < N := ⟨by omega, by omega⟩
  have hd2 : G.2.2.1 ≤ m + 2 ∧ m + 2 < N := ⟨by omega, by omega⟩
  have hd3 : G.2.2.1 ≤ m + 3 ∧ m + 3 < N := ⟨by omega, by omega⟩
  have hd4 : G.2.2.1 ≤ m + 4 ∧ m + 4 < N := ⟨by omega, by omega⟩
  have hd5 : G.2.2.1 ≤ m + 5 ∧ m + 5 < N := ⟨by omega, by omega⟩
  have hd6 : G.2.2.1 ≤ m + 6 ∧ m + 6 < N := ⟨by omega, by omega⟩
  have hd7 : G.2.2.1 ≤ m + 7 ∧ m + 7 < N := ⟨by omega, by omega⟩
  have hd8 : G.2.2.1 ≤ m + 8 ∧ m + 8 < N := ⟨by omega, by omega⟩
  have hE : zE M := hI.1.1
  have hk : mOK M := hE.1
  have hK2 := hk.1.1
  have hK12 := hk.1.2.1
  have hR3 := hk.1.2.2.1
  refine r_iload_n C (pc := 0) rfl rfl dX7_waiting_0 ?_
  refine r_if_lt C (pc := 1) (tgt := 24) dX7_waiting_1 (by decide) (fun c_1 => ?_) (fun c_1 => ?_)
  · refine r_iconst C (pc := 24) (x := (-1)) (by decide) dX7_waiting_24 ?_
    exact r_iret C (pc := 25) rfl (rfl) dX7_waiting_25 ⟨rfl, rfl, (by have ho : qWaiting b c1 (M, h) = -1 := if_neg (fun z => neg_n0 c_1 z.1); rw [ho]), hv, hh, zfr.rf⟩
  · refine r_iload_n C (pc := 4) rfl rfl dX7_waiting_4 ?_
    refine r_iconst C (pc := 5) (x := (nI 0)) (by decide) dX7_waiting_5 ?_
    refine r_iconst C (pc := 6) (x := (nI 2)) (by decide) dX7_waiting_6 ?_
    refine r_callS C (pc := 7) (st := []) (m_X7_isIn l G sh v N (x := c1) (lo := (nI 0)) (hi := (nI 2))) kyX7_isIn q_701 rfl rfl (Nat.le_of_ble_eq_true rfl) ⟨Nat.le_of_ble_eq_true rfl, Nat.le_of_ble_eq_true rfl⟩ ⟨Nat.le_of_ble_eq_true rfl, Nat.le_of_ble_eq_true rfl⟩ dX7_waiting_7 (fun r7 v7 hp7 => ?_)
    obtain ⟨rfl, ehp7⟩ := hp7
    refine VV.vq ehp7 ?_
    refine VV.eq (st2 := [.int (zb (decide ((nI 0) ≤ c1 ∧ c1 ≤ (nI 2))))]) rfl ?_
    refine n_ifb_eq C (pc := 10) (tgt := 24) dX7_waiting_10 (by decide) (fun c_10 => ?_) (fun c_10 => ?_)
    · refine r_iconst C (pc := 24) (x := (-1)) (by decide) dX7_waiting_24 ?_
      exact r_iret C (pc := 25) rfl (rfl) dX7_waiting_25 ⟨rfl, rfl, (by have ho : qWaiting b c1 (M, h) = -1 := if_neg (fun z => (of_decide_eq_false c_10) z.2); rw [ho]), hv, hh, zfr.rf⟩
    · have hc2 := nneg c_1
      have hc3 := (of_decide_eq_true c_10)
      obtain ⟨eb, hk31⟩ := I_nn hc2
      generalize nn b = k at eb hk31
      subst eb
      obtain ⟨x, hx1, hx2, rfl⟩ := inR hc3 (by decide) (by decide)
      refine r_aload_n C (pc := 13) rfl rfl dX7_waiting_13 ?_
      refine r_bipush C (pc := 14) (x := (nI 122)) (by decide) dX7_waiting_14 ?_
      refine r_iload_n C (pc := 16) rfl rfl dX7_waiting_16 ?_
      refine r_iload_n C (pc := 17) rfl rfl dX7_waiting_17 ?_
      refine r_callV C (pc := 18) (st := []) (m_X7_part l G sh v N (r0 := 4) (k := k) (x := x) hp hv (by decide) (zl_ls hE (by decide)) hk31 hx2) kyX7_part q_872 rfl (Or.inl hd0) hs0 (by decide) rfl rfl rfl (Nat.le_of_ble_eq_true rfl) ⟨Nat.le_of_ble_eq_true rfl, Nat.le_of_ble_eq_true rfl⟩ ⟨Nat.le_of_ble_eq_true rfl, Nat.le_of_ble_eq_true rfl⟩ dX7_waiting_18 (fun r18 v18 hp18 => ?_)
      obtain ⟨rfl, ehp18⟩ := hp18
      refine VV.vq ehp18 ?_
      refine VV.eq (st2 := [.int (ptI (M.2.1 4) k x)]) rfl ?_
      refine r_goto C (pc := 21) (tgt := 25) dX7_waiting_21 (by decide) ?_
      exact r_iret C (pc := 25) rfl (rfl) dX7_waiting_25 ⟨rfl, rfl, (by have ho : qWaiting (nI k) (nI x) (M, h) = ptI (M.2.1 4) k x := (if_pos ⟨hc2, hc3⟩).trans (by rw [nn_I hk31, nn_I (by omega)]); rw [ho]), hv, hh, zfr.rf⟩
set_option maxRecDepth 100000 in
set_option maxHeartbeats 4000000 in
theorem m_X7_node (l : Launch) (G : zG) (sh : zH) (v : zV) (N : Nat) {m : Nat} {M : zMS} {h : zHs} {T : Nat} {a c1 : Int32} (hp : zMD G sh N m) (hv : zwf (v (m + 1)) M) (hh : zmh v m h) (hI : zI T (M, h)) (hT : T + 1000 < 2 ^ 30) : zm l G yX7_node cX7_node 3 (some .int) 2 [.ref m, .int a, .int c1] sh v N (fun r v1 => r = some (.int (qNode a c1 (M, h))) ∧ zwf (v1 (m + 1)) M ∧ zmh v1 m h ∧ zfr v v1 m 9) := by
  refine zM.of (by decide) rfl (Nat.le_of_ble_eq_true rfl) ?_
  intro p e s mi args below meth c C
  obtain ⟨hB, hN, hs0, hs1, hs2, hs3, hs4, hs5, hs6, hs7, hs8⟩ := id hp
  have hd0 : G.2.2.1 ≤ m ∧ m < N := ⟨hB, by omega⟩
  have hd1 : G.2.2.1 ≤ m + 1 ∧ m + 1 < N := ⟨by omega, by omega⟩
  have hd2 : G.2.2.1 ≤ m + 2 ∧ m + 2 < N := ⟨by omega, by omega⟩
  have hd3 : G.2.2.1 ≤ m + 3 ∧ m + 3 < N := ⟨by omega, by omega⟩
  have hd4 : G.2.2.1 ≤ m + 4 ∧ m + 4 < N := ⟨by omega, by omega⟩
  have hd5 : G.2.2.1 ≤ m + 5 ∧ m + 5 < N := ⟨by omega, by omega⟩
  have hd6 : G.2.2.1 ≤ m + 6 ∧ m + 6 < N := ⟨by omega, by omega⟩
  have hd7 : G.2.2.1 ≤ m + 7 ∧ m + 7 < N := ⟨by omega, by omega⟩
  have hd8 : G.2.2.1 ≤ m + 8 ∧ m + 8 < N := ⟨by omega, by omega⟩
  have hE : zE M := hI.1.1
  have hk : mOK M := hE.1
  have hK2 := hk.1.1
  have hK12 := hk.1.2.1
  have hR3 := hk.1.2.2.1
  refine r_iload_n C (pc := 0) rfl rfl dX7_node_0 ?_
  refine r_iconst C (pc := 1) (x := (nI 0)) (by decide) dX7_node_1 ?_
  refine r_aload_n C (pc := 2) rfl rfl dX7_node_2 ?_
  refine r_get C (pc := 3) (ci := 7) (k := 0) (w := .ref (m + 1)) rfl (by decide) inX7 (by decide) q_654 (Or.inl hd0) hs0 (zl_ref _ _) dX7_node_3 ?_
  refine r_iconst C (pc := 6) (x := (nI 1)) (by decide) dX7_node_6 ?_
  refine r_iald C (pc := 7) (x := (nI (M.1 1))) (Or.inl hd1) hs1 (by omega) (by omega) (hv.1 1 (by decide)) dX7_node_7 ?_
  refine r_iconst C (pc := 8) (x := (nI 1)) (by decide) dX7_node_8 ?_
  refine r_iadd C (pc := 9) (z := (nI ((M.1 1) + 1))) (nI_add _ _) dX7_node_9 ?_
  refine r_callS C (pc := 10) (st := []) (m_X7_isIn l G sh v N (x := a) (lo := (nI 0)) (hi := (nI (M.1 1 + 1)))) kyX7_isIn q_701 rfl rfl (Nat.le_of_ble_eq_true rfl) ⟨Nat.le_of_ble_eq_true rfl, Nat.le_of_ble_eq_true rfl⟩ ⟨Nat.le_of_ble_eq_true rfl, Nat.le_of_ble_eq_true rfl⟩ dX7_node_10 (fun r10 v10 hp10 => ?_)
  obtain ⟨rfl, ehp10⟩ := hp10
  refine VV.vq ehp10 ?_
  refine VV.eq (st2 := [.int (zb (decide ((nI 0) ≤ a ∧ a ≤ (nI (M.1 1 + 1)))))]) rfl ?_
  refine n_ifb_eq C (pc := 13) (tgt := 25) dX7_node_13 (by decide) (fun c_13 => ?_) (fun c_13 => ?_)
  · refine r_iconst C (pc := 25) (x := (-1)) (by decide) dX7_node_25 ?_
    exact r_iret C (pc := 26) rfl (rfl) dX7_node_26 ⟨rfl, rfl, (by have ho : qNode a c1 (M, h) = -1 := if_neg (fun z => (of_decide_eq_false c_13) z.1); rw [ho]), hv, hh, zfr.rf⟩
  · refine r_iload_n C (pc := 16) rfl rfl dX7_node_16 ?_
    refine r_iconst C (pc := 17) (x := (nI 0)) (by decide) dX7_node_17 ?_
    refine r_iconst C (pc := 18) (x := (nI 2)) (by decide) dX7_node_18 ?_
    refine r_callS C (pc := 19) (st := []) (m_X7_isIn l G sh v N (x := c1) (lo := (nI 0)) (hi := (nI 2))) kyX7_isIn q_701 rfl rfl (Nat.le_of_ble_eq_true rfl) ⟨Nat.le_of_ble_eq_true rfl, Nat.le_of_ble_eq_true rfl⟩ ⟨Nat.le_of_ble_eq_true rfl, Nat.le_of_ble_eq_true rfl⟩ dX7_node_19 (fun r19 v19 hp19 => ?_)
    obtain ⟨rfl, ehp19⟩ := hp19
    refine VV.vq ehp19 ?_
    refine VV.eq (st2 := [.int (zb (decide ((nI 0) ≤ c1 ∧ c1 ≤ (nI 2))))]) rfl ?_
    refine n_ifb_ne C (pc := 22) (tgt := 27) dX7_node_22 (by decide) (fun c_22 => ?_) (fun c_22 => ?_)
    · have hc1 := (of_decide_eq_true c_13)
      have hc3 := (of_decide_eq_true c_22)
      obtain ⟨n, hn1, hn2, rfl⟩ := inR hc1 (by decide) (by omega)
      obtain ⟨x, hx1, hx2, rfl⟩ := inR hc3 (by decide) (by decide)
      refine r_iload_n C (pc := 27) rfl rfl dX7_node_27 ?_
      refine r_iconst C (pc := 28) (x := (nI 2)) (by decide) dX7_node_28 ?_
      refine n_icmp_ne C (pc := 29) (tgt := 57) (by omega) (by decide) dX7_node_29 (by decide) (fun c_29 => ?_) (fun c_29 => ?_)
      · refine r_iload_n C (pc := 57) rfl rfl dX7_node_57 ?_
        refine n_if_ne C (pc := 58) (tgt := 70) (by omega) dX7_node_58 (by decide) (fun c_58 => ?_) (fun c_58 => ?_)
        · refine r_iload_n C (pc := 70) rfl rfl dX7_node_70 ?_
          refine n_if_ne C (pc := 71) (tgt := 87) (by omega) dX7_node_71 (by decide) (fun c_71 => ?_) (fun c_71 => ?_)
          · refine r_aload_n C (pc := 87) rfl rfl dX7_node_87 ?_
            refine r_aload_n C (pc := 88) rfl rfl dX7_node_88 ?_
            refine r_iload_n C (pc := 89) rfl rfl dX7_node_89 ?_
            refine r_callV C (pc := 90) (st := [.ref m]) (m_X7_listOf l G sh v N (n := n) hp hv hR3 (by omega) hn2) kyX7_listOf q_868 rfl (Or.inl hd0) hs0 (by decide) rfl rfl rfl (Nat.le_of_ble_eq_true rfl) ⟨Nat.le_of_ble_eq_true rfl, Nat.le_of_ble_eq_true rfl⟩ ⟨Nat.le_of_ble_eq_true rfl, Nat.le_of_ble_eq_true rfl⟩ dX7_node_90 (fun r90 v90 hp90 => ?_)
            obtain ⟨rfl, ehp90⟩ := hp90
            refine VV.vq ehp90 ?_
            refine VV.eq (st2 := [.int (nI (lb (ixO M n))), .ref m]) rfl ?_
            refine r_callV C (pc := 93) (st := []) (m_X7_layBase l G sh v N (r0 := ixO M n) hp hv (ixO_lt hR3 hn2) (zl_ls hE (ixO_lt hR3 hn2))) kyX7_layBase q_786 rfl (Or.inl hd0) hs0 (by decide) rfl rfl rfl (Nat.le_of_ble_eq_true rfl) ⟨Nat.le_of_ble_eq_true rfl, Nat.le_of_ble_eq_true rfl⟩ ⟨Nat.le_of_ble_eq_true rfl, Nat.le_of_ble_eq_true rfl⟩ dX7_node_93 (fun r93 v93 hp93 => ?_)
            obtain ⟨rfl, g1, g2, g3⟩ := hp93
            refine VV.eq (st2 := [.int (nI (rnk (M.2.1 (ixO M n))))]) rfl ?_
            exact r_iret C (pc := 96) rfl (rfl) dX7_node_96 ⟨rfl, rfl, (by have ho : qNode (nI n) (nI x) (M, h) = nI (rnk (lsO M n)) := ((if_pos ⟨hc1, hc3⟩).trans (by rw [nn_I (by omega), nn_I (by omega)])).trans ((if_neg c_29).trans ((if_neg (by omega)).trans (if_neg (by omega)))); rw [ho, lsO_ix]), (by rw [g1]; exact hv), zmh_T hh g3.T, g3.T.fr⟩
          · refine r_aload_n C (pc := 74) rfl rfl dX7_node_74 ?_
            refine r_get C (pc := 75) (ci := 7) (k := 0) (w := .ref (m + 1)) rfl (by decide) inX7 (by decide) q_654 (Or.inl hd0) hs0 (zl_ref _ _) dX7_node_75 ?_
            refine r_aload_n C (pc := 78) rfl rfl dX7_node_78 ?_
            refine r_iload_n C (pc := 79) rfl rfl dX7_node_79 ?_
            refine r_callV C (pc := 80) (st := [.ref (m + 1)]) (m_X7_listOf l G sh v N (n := n) hp hv hR3 (by omega) hn2) kyX7_listOf q_868 rfl (Or.inl hd0) hs0 (by decide) rfl rfl rfl (Nat.le_of_ble_eq_true rfl) ⟨Nat.le_of_ble_eq_true rfl, Nat.le_of_ble_eq_true rfl⟩ ⟨Nat.le_of_ble_eq_true rfl, Nat.le_of_ble_eq_true rfl⟩ dX7_node_80 (fun r80 v80 hp80 => ?_)
            obtain ⟨rfl, ehp80⟩ := hp80
            refine VV.vq ehp80 ?_
            refine VV.eq (st2 := [.int (nI (lb (ixO M n))), .ref (m + 1)]) rfl ?_
            have hlt83 := lb_top (ixO M n) (ixO_lt hR3 hn2)
            refine r_iald C (pc := 83) (x := (nI ((M.2.1 (ixO M n)).length))) (Or.inl hd1) hs1 (by omega) (by omega) ((hv.2.1 (ixO M n) (ixO_lt hR3 hn2)).1) dX7_node_83 ?_
            refine r_goto C (pc := 84) (tgt := 96) dX7_node_84 (by decide) ?_
            exact r_iret C (pc := 96) rfl (rfl) dX7_node_96 ⟨rfl, rfl, (by have ho : qNode (nI n) (nI x) (M, h) = nI (lsO M n).length := ((if_pos ⟨hc1, hc3⟩).trans (by rw [nn_I (by omega), nn_I (by omega)])).trans ((if_neg c_29).trans ((if_neg (by omega)).trans (if_pos c_71))); rw [ho, lsO_ix]), hv, hh, zfr.rf⟩
        · refine r_aload_n C (pc := 61) rfl rfl dX7_node_61 ?_
          refine r_get C (pc := 62) (ci := 7) (k := 0) (w := .ref (m + 1)) rfl (by decide) inX7 (by decide) q_654 (Or.inl hd0) hs0 (zl_ref _ _) dX7_node_62 ?_
          refine r_iconst C (pc := 65) (x := (nI 0)) (by decide) dX7_node_65 ?_
          refine r_iald C (pc := 66) (x := (nI (M.1 0))) (Or.inl hd1) hs1 (by omega) (by omega) (hv.1 0 (by decide)) dX7_node_66 ?_
          refine r_goto C (pc := 67) (tgt := 96) dX7_node_67 (by decide) ?_
          exact r_iret C (pc := 96) rfl (rfl) dX7_node_96 ⟨rfl, rfl, (by have ho : qNode (nI n) (nI x) (M, h) = nI (M.1 0) := ((if_pos ⟨hc1, hc3⟩).trans (by rw [nn_I (by omega), nn_I (by omega)])).trans ((if_neg c_29).trans (if_pos c_58)); rw [ho]), hv, hh, zfr.rf⟩
      · refine r_iload_n C (pc := 32) rfl rfl dX7_node_32 ?_
        refine r_aload_n C (pc := 33) rfl rfl dX7_node_33 ?_
        refine r_get C (pc := 34) (ci := 7) (k := 0) (w := .ref (m + 1)) rfl (by decide) inX7 (by decide) q_654 (Or.inl hd0) hs0 (zl_ref _ _) dX7_node_34 ?_
        refine r_iconst C (pc := 37) (x := (nI 1)) (by decide) dX7_node_37 ?_
        refine r_iald C (pc := 38) (x := (nI (M.1 1))) (Or.inl hd1) hs1 (by omega) (by omega) (hv.1 1 (by decide)) dX7_node_38 ?_
        refine n_icmp_le C (pc := 39) (tgt := 47) (by omega) (by omega) dX7_node_39 (by decide) (fun c_39 => ?_) (fun c_39 => ?_)
        · refine r_aload_n C (pc := 47) rfl rfl dX7_node_47 ?_
          refine r_get C (pc := 48) (ci := 7) (k := 0) (w := .ref (m + 1)) rfl (by decide) inX7 (by decide) q_654 (Or.inl hd0) hs0 (zl_ref _ _) dX7_node_48 ?_
          refine r_bipush C (pc := 51) (x := (nI 7)) (by decide) dX7_node_51 ?_
          refine r_iload_n C (pc := 53) rfl rfl dX7_node_53 ?_
          refine r_iadd C (pc := 54) (z := (nI (7 + n))) (nI_add _ _) dX7_node_54 ?_
          refine r_iald C (pc := 55) (x := (nI (M.1 (7 + n)))) (Or.inl hd1) hs1 (by omega) (by omega) (hv.1 (7 + n) (by omega)) dX7_node_55 ?_
          exact r_iret C (pc := 56) rfl (rfl) dX7_node_56 ⟨rfl, rfl, (by have ho : qNode (nI n) (nI x) (M, h) = nI (M.1 (7 + n)) := ((if_pos ⟨hc1, hc3⟩).trans (by rw [nn_I (by omega), nn_I (by omega)])).trans ((if_pos c_29).trans (if_neg (by dsimp only; omega))); rw [ho]), hv, hh, zfr.rf⟩
        · refine r_bipush C (pc := 42) (x := (-9)) (by decide) dX7_node_42 ?_
          refine r_goto C (pc := 44) (tgt := 56) dX7_node_44 (by decide) ?_
          exact r_iret C (pc := 56) rfl (rfl) dX7_node_56 ⟨rfl, rfl, (by have ho : qNode (nI n) (nI x) (M, h) = -9 := ((if_pos ⟨hc1, hc3⟩).trans (by rw [nn_I (by omega), nn_I (by omega)])).trans ((if_pos c_29).trans (if_pos c_39)); rw [ho]), hv, hh, zfr.rf⟩
    · refine r_iconst C (pc := 25) (x := (-1)) (by decide) dX7_node_25 ?_
      exact r_iret C (pc := 26) rfl (rfl) dX7_node_26 ⟨rfl, rfl, (by have ho : qNode a c1 (M, h) = -1 := if_neg (fun z => (of_decide_eq_false c_22) z.2); rw [ho]), hv, hh, zfr.rf⟩
set_option maxRecDepth 100000 in
set_option maxHeartbeats 4000000 in
theorem m_X7_novel (l : Launch) (G : zG) (sh : zH) (v : zV) (N : Nat) {m : Nat} {M : zMS} {h : zHs} {T : Nat} {a b : Int32} (hp : zMD G sh N m) (hv : zwf (v (m + 1)) M) (hh : zmh v m h) (hI : zI T (M, h)) (hT : T + 1000 < 2 ^ 30) : zm l G yX7_novel cX7_novel 3 (some .int) 3 [.ref m, .int a, .int b] sh v N (fun r v1 => r = some (.int (qNovel a b (M, h))) ∧ zwf (v1 (m + 1)) M ∧ zmh v1 m h ∧ zfr v v1 m 9) := by
  refine zM.of (by decide) rfl (Nat.le_of_ble_eq_true rfl) ?_
  intro p e s mi args below meth c C
  obtain ⟨hB, hN, hs0, hs1, hs2, hs3, hs4, hs5, hs6, hs7, hs8⟩ := id hp
  have hd0 : G.2.2.1 ≤ m ∧ m < N := ⟨hB, by omega⟩
  have hd1 : G.2.2.1 ≤ m + 1 ∧ m + 1 < N := ⟨by omega, by omega⟩
  have hd2 : G.2.2.1 ≤ m + 2 ∧ m + 2 < N := ⟨by omega, by omega⟩
  have hd3 : G.2.2.1 ≤ m + 3 ∧ m + 3 < N := ⟨by omega, by omega⟩
  have hd4 : G.2.2.1 ≤ m + 4 ∧ m + 4 < N := ⟨by omega, by omega⟩
  have hd5 : G.2.2.1 ≤ m + 5 ∧ m + 5 < N := ⟨by omega, by omega⟩
  have hd6 : G.2.2.1 ≤ m + 6 ∧ m + 6 < N := ⟨by omega, by omega⟩
  have hd7 : G.2.2.1 ≤ m + 7 ∧ m + 7 < N := ⟨by omega, by omega⟩
  have hd8 : G.2.2.1 ≤ m + 8 ∧ m + 8 < N := ⟨by omega, by omega⟩
  have hE : zE M := hI.1.1
  have hk : mOK M := hE.1
  have hK2 := hk.1.1
  have hK12 := hk.1.2.1
  have hR3 := hk.1.2.2.1
  refine r_aload_n C (pc := 0) rfl rfl dX7_novel_0 ?_
  refine r_iload_n C (pc := 1) rfl rfl dX7_novel_1 ?_
  refine r_callV C (pc := 2) (st := []) (m_X7_hasList l G sh v N (a := a) hp hv) kyX7_hasList q_864 rfl (Or.inl hd0) hs0 (by decide) rfl rfl rfl (Nat.le_of_ble_eq_true rfl) ⟨Nat.le_of_ble_eq_true rfl, Nat.le_of_ble_eq_true rfl⟩ ⟨Nat.le_of_ble_eq_true rfl, Nat.le_of_ble_eq_true rfl⟩ dX7_novel_2 (fun r2 v2 hp2 => ?_)
  obtain ⟨rfl, ehp2⟩ := hp2
  refine VV.vq ehp2 ?_
  refine VV.eq (st2 := [.int (zb (decide ((nI 1) ≤ a ∧ a ≤ (nI (M.1 1 + 1)))))]) rfl ?_
  refine n_ifb_eq C (pc := 5) (tgt := 16) dX7_novel_5 (by decide) (fun c_5 => ?_) (fun c_5 => ?_)
  · refine r_iconst C (pc := 16) (x := (-1)) (by decide) dX7_novel_16 ?_
    exact r_iret C (pc := 17) rfl (rfl) dX7_novel_17 ⟨rfl, rfl, (by have ho : qNovel a b (M, h) = -1 := if_neg (fun z => (of_decide_eq_false c_5) z.1); rw [ho]), hv, hh, zfr.rf⟩
  · refine r_aload_n C (pc := 8) rfl rfl dX7_novel_8 ?_
    refine r_iload_n C (pc := 9) rfl rfl dX7_novel_9 ?_
    refine r_callV C (pc := 10) (st := []) (m_X7_isSet l G sh v N (a := b) hp hv hK12) kyX7_isSet q_836 rfl (Or.inl hd0) hs0 (by decide) rfl rfl rfl (Nat.le_of_ble_eq_true rfl) ⟨Nat.le_of_ble_eq_true rfl, Nat.le_of_ble_eq_true rfl⟩ ⟨Nat.le_of_ble_eq_true rfl, Nat.le_of_ble_eq_true rfl⟩ dX7_novel_10 (fun r10 v10 hp10 => ?_)
    obtain ⟨rfl, ehp10⟩ := hp10
    refine VV.vq ehp10 ?_
    refine VV.eq (st2 := [.int (zb (decide ((nI 1) ≤ b ∧ b ≤ (nI (2 ^ M.1 0 - 1)))))]) rfl ?_
    refine n_ifb_ne C (pc := 13) (tgt := 18) dX7_novel_13 (by decide) (fun c_13 => ?_) (fun c_13 => ?_)
    · have hc1 := (of_decide_eq_true c_5)
      have hc3 := (of_decide_eq_true c_13)
      obtain ⟨n, hn1, hn2, rfl⟩ := inR hc1 (by decide) (by omega)
      have hp12 : 2 ^ M.1 0 ≤ 2 ^ 12 := Nat.pow_le_pow_right (by decide) hK12
      obtain ⟨x, hx1, hx2, rfl⟩ := inR hc3 (by decide) (by omega)
      obtain ⟨hpc, hpb⟩ := pkS_ok hE x
      have hpd : (pkS M x) / 256 = x := (pkn_div (mOK_V hk) _ hK12).trans (Nat.mod_eq_of_lt (by omega))
      refine r_aload_n C (pc := 18) rfl rfl dX7_novel_18 ?_
      refine r_aload_n C (pc := 19) rfl rfl dX7_novel_19 ?_
      refine r_iload_n C (pc := 20) rfl rfl dX7_novel_20 ?_
      refine r_callV C (pc := 21) (st := [.ref m]) (m_X7_listOf l G sh v N (n := n) hp hv hR3 hn1 hn2) kyX7_listOf q_868 rfl (Or.inl hd0) hs0 (by decide) rfl rfl rfl (Nat.le_of_ble_eq_true rfl) ⟨Nat.le_of_ble_eq_true rfl, Nat.le_of_ble_eq_true rfl⟩ ⟨Nat.le_of_ble_eq_true rfl, Nat.le_of_ble_eq_true rfl⟩ dX7_novel_21 (fun r21 v21 hp21 => ?_)
      obtain ⟨rfl, ehp21⟩ := hp21
      refine VV.vq ehp21 ?_
      refine VV.eq (st2 := [.int (nI (lb (ixO M n))), .ref m]) rfl ?_
      refine r_iload_n C (pc := 24) rfl rfl dX7_novel_24 ?_
      refine r_callV C (pc := 25) (st := []) ((by have z := m_X7_isNovel l G sh v N (r0 := ixO M n) (x := (pkS M x)) hp hv (ixO_lt hR3 hn2) (zl_ls hE (ixO_lt hR3 hn2)) hpc.1; rw [hpd] at z; exact z)) kyX7_isNovel q_782 rfl (Or.inl hd0) hs0 (by decide) rfl rfl rfl (Nat.le_of_ble_eq_true rfl) ⟨Nat.le_of_ble_eq_true rfl, Nat.le_of_ble_eq_true rfl⟩ ⟨Nat.le_of_ble_eq_true rfl, Nat.le_of_ble_eq_true rfl⟩ dX7_novel_25 (fun r25 v25 hp25 => ?_)
      obtain ⟨rfl, g1, g3⟩ := hp25
      refine VV.eq (st2 := [.int (zb (nov (M.2.1 (ixO M n)) (pkS M x)))]) rfl ?_
      refine n_ifb_eq C (pc := 28) (tgt := 35) dX7_novel_28 (by decide) (fun c_28 => ?_) (fun c_28 => ?_)
      · refine r_iconst C (pc := 35) (x := (nI 0)) (by decide) dX7_novel_35 ?_
        exact r_iret C (pc := 36) rfl (rfl) dX7_novel_36 ⟨rfl, rfl, (by have ho : qNovel (nI n) (nI x) (M, h) = nI (if nov (lsO M n) (pkS M x) then 1 else 0) := (if_pos ⟨hc1, hc3⟩).trans (by rw [nn_I (by omega), nn_I (by omega)]); rw [ho, lsO_ix, c_28]; rfl), (by rw [g1]; exact hv), zmh_T hh g3.T, g3.T.fr⟩
      · refine r_iconst C (pc := 31) (x := (nI 1)) (by decide) dX7_novel_31 ?_
        refine r_goto C (pc := 32) (tgt := 36) dX7_novel_32 (by decide) ?_
        exact r_iret C (pc := 36) rfl (rfl) dX7_novel_36 ⟨rfl, rfl, (by have ho : qNovel (nI n) (nI x) (M, h) = nI (if nov (lsO M n) (pkS M x) then 1 else 0) := (if_pos ⟨hc1, hc3⟩).trans (by rw [nn_I (by omega), nn_I (by omega)]); rw [ho, lsO_ix, c_28]; rfl), (by rw [g1]; exact hv), zmh_T hh g3.T, g3.T.fr⟩
    · refine r_iconst C (pc := 16) (x := (-1)) (by decide) dX7_novel_16 ?_
      exact r_iret C (pc := 17) rfl (rfl) dX7_novel_17 ⟨rfl, rfl, (by have ho : qNovel a b (M, h) = -1 := if_neg (fun z => (of_decide_eq_false c_13) z.2); rw [ho]), hv, hh, zfr.rf⟩
