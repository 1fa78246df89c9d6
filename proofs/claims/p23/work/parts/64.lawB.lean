/-! a list's packets are what the source would make -/
theorem vln_hi {V : Nat → Nat} {s K : Nat} (h : s < 2 ^ K) : ∀ n, K ≤ n → vln V s n = vln V s K
  | 0, hn => by rw [show K = 0 by omega]
  | n + 1, hn => by
    rcases Nat.lt_or_ge K (n + 1) with h1 | h1
    · show (if _ then _ else _) = _
      rw [if_neg (by rw [hi_bit h (show K ≤ n by omega)]; decide)]
      exact vln_hi h n (by omega)
    · rw [show K = n + 1 by omega]
theorem spk_mono (l : List Nat) {m : Nat} : ∀ n, m ≤ n → spk l m ≤ spk l n
  | 0, h => by rw [show m = 0 by omega]; exact Nat.le_refl _
  | n + 1, h => by
    rcases Nat.lt_or_ge m (n + 1) with h1 | h1
    · have := spk_mono l (m := m) n (by omega)
      show spk l m ≤ spk l n + (if _ then 1 else 0)
      omega
    · rw [show m = n + 1 by omega]; exact Nat.le_refl _
theorem ptI0 {l : List Nat} {k : Nat} (h : k < l.length) : ptI l k 0 = nI (l.getD k 0 / 256) := by
  rw [ptI, if_neg (by omega)]; rfl
theorem ptI1 {l : List Nat} {k : Nat} (h : k < l.length) : ptI l k 1 = nI (l.getD k 0 % 256) := by
  rw [ptI, if_neg (by omega)]; rfl
theorem ptI2 {l : List Nat} {k : Nat} (h : k < l.length) : ptI l k 2 = nI (pop (l.getD k 0 / 256)) := by
  rw [ptI, if_neg (by omega)]; rfl
theorem ptIe {l : List Nat} {w : Nat} : ptI l l.length w = -9 := if_pos (Nat.le_refl _)
theorem ixO_4 {M : zMS} {n : Nat} (hR : M.1 1 ≤ 3) (h2 : n ≤ M.1 1 + 1) : ixO M n < 4 := by
  unfold ixO
  split <;> omega
theorem q_lt {q K : Nat} (h : q < 2 ^ (8 + K)) : q / 256 < 2 ^ K := by
  rw [Nat.div_lt_iff_lt_mul (by decide), show (256 : Nat) = 2 ^ 8 by decide, ← Nat.pow_add, Nat.add_comm K 8]
  exact h
theorem isl_k {M : zMS} {n k : Nat} (h : zE M) (g : zF M) (hn : n ≤ M.1 1 + 1) (hk : k < (lsO M n).length) : 1 ≤ (lsO M n).getD k 0 / 256 ∧ (lsO M n).getD k 0 / 256 < 2 ^ M.1 0 ∧ (lsO M n).getD k 0 % 256 = vln (zVl M) ((lsO M n).getD k 0 / 256) (M.1 0) ∧ nov (lsO M n) (pkS M ((lsO M n).getD k 0 / 256)) = false := by
  have hR := h.1.1.2.2.1
  have hK := h.1.1.2.1
  have hi := ixO_4 hR hn
  have e := lsO_ix M n
  have h1 : ∀ q ∈ lsO M n, q / 256 ≠ 0 := by rw [e]; exact g.1 _ hi
  have h2 : ∀ q ∈ lsO M n, q < 2 ^ (8 + M.1 0) := by rw [e]; exact h.2.1 _ (by omega)
  have h3 : ∀ q ∈ lsO M n, con (zVl M) q := by rw [e]; exact h.1.2.2.1 _ (by omega)
  have hm : (lsO M n).getD k 0 ∈ lsO M n := by
    rw [show (lsO M n).getD k 0 = (lsO M n)[k] by simp [List.getD, hk]]
    exact List.getElem_mem hk
  have f2 := q_lt (h2 _ hm)
  have f3 := (h3 _ hm).2
  rw [vln_hi f2 12 hK] at f3
  refine ⟨Nat.pos_of_ne_zero (h1 _ hm), f2, f3, ?_⟩
  have hs := spo_mem (fun q hq => (h3 q hq).1) hm
  have hs2 : spn (spo (lsO M n)) (pkS M ((lsO M n).getD k 0 / 256)) := spn_dv (pkS_div h f2).symm hs
  exact decide_eq_false (fun z => z hs2)
theorem isl_r {M : zMS} {n : Nat} (h : zE M) (g : zF M) (hn : n ≤ M.1 1 + 1) : rnk (lsO M n) ≤ (lsO M n).length ∧ (0 < (lsO M n).length → 0 < rnk (lsO M n)) := by
  refine ⟨spk_le _ _, fun h0 => ?_⟩
  have hR := h.1.1.2.2.1
  have hi := ixO_4 hR hn
  have e := lsO_ix M n
  have h1 : ∀ q ∈ lsO M n, q / 256 ≠ 0 := by rw [e]; exact g.1 _ hi
  have h3 : ∀ q ∈ lsO M n, q < 2 ^ 20 := by rw [e]; exact zl_ls h (by omega)
  have h4 := spk_mono (lsO M n) (m := 1) (lsO M n).length h0
  have h5 : tkb (spr (lsO M n) 0) ((lsO M n).getD 0 0) = true := by
    rw [tkb_fpr h3 0 (gd_lt20 h3)]
    apply decide_eq_true
    have h6 : rdp (fpr (lsO M n) 0) 12 ((lsO M n).getD 0 0) = (lsO M n).getD 0 0 := rd_fix 12 _ (fun j _ hz => absurd rfl hz)
    rw [h6]
    exact gd_mem h1 h0
  have h7 : spk (lsO M n) 1 = 1 := by
    show spk (lsO M n) 0 + (if tkb (spr (lsO M n) 0) ((lsO M n).getD 0 0) then 1 else 0) = 1
    rw [h5]; rfl
  show 0 < spk (lsO M n) (lsO M n).length
  omega
theorem isl_l {T : Nat} {M : zMS} {n : Nat} (h : zGd T M) (h1 : 1 ≤ n) (hn : n ≤ M.1 1 + 1) : (n = M.1 1 + 1 → rnk (lsO M n) = (lsO M n).length ∧ (lsO M n).length ≤ M.1 0) ∧ (n ≠ M.1 1 + 1 → (lsO M n).length ≤ M.1 3) := by
  have hR := h.1.1.1.2.2.1
  refine ⟨fun e => ?_, fun e => ?_⟩
  · have e2 : lsO M n = M.2.1 3 := if_pos e
    rw [e2]
    exact ⟨nvl_spk h.1.1.2.2.2.1 _ (Nat.le_refl _), kept_le h.1⟩
  · have e2 : lsO M n = M.2.1 (n - 1) := if_neg e
    rw [e2]
    exact h.2.2 (n - 1) (by omega)
set_option maxRecDepth 100000 in
set_option maxHeartbeats 4000000 in
theorem m_L_isList (l : Launch) (G : zG) (sh : zH) (v : zV) (N : Nat) {v0 : zV} {x : Nat} {q : Nat → Nat} {M : zMS} {h : zHs} {T : Nat} {n : Nat} (hX : zXR G sh N x q) (hb : zB v0 v x q M h) (hI : zI T (M, h)) (hT : T + 1000 < 2 ^ 30) (hF : zF M) (h1 : 1 ≤ n) (hn : n ≤ M.1 1 + 1) : zm l G yL_isList cL_isList 6 (some .boolean) 5 [.ref x, .int (nI n)] sh v N (fun r v1 => r = some (.int (nI 1)) ∧ zB v0 v1 x q M h) := by
  refine zM.of (by decide) rfl (Nat.le_of_ble_eq_true rfl) ?_
  intro p e s m args below meth c C
  have hd6 : G.2.2.1 ≤ x ∧ x < N := ⟨hX.1, by have := hX.2.1; omega⟩
  have hK12 : M.1 0 ≤ 12 := hI.1.1.1.1.2.1
  have hK2 : 2 ≤ M.1 0 := hI.1.1.1.1.1
  have hV : ∀ b, b < 12 → M.1 (17 + b) < 256 := mOK_V hI.1.1.1
  have hR3 : M.1 1 ≤ 3 := hI.1.1.1.1.2.2.1
  have hC : M.1 3 ≤ 4 := hI.1.1.1.1.2.2.2.2.1
  have hG : zGd T M := hI.1
  have h2K := pK hI
  obtain ⟨hrk, hrz⟩ := isl_r hG.1 hF hn
  obtain ⟨hl1, hl2⟩ := isl_l hG h1 hn
  have hlen : (lsO M n).length ≤ 12 := by
    by_cases hl : n = M.1 1 + 1
    · have := (hl1 hl).2; omega
    · have := hl2 hl; omega
  have tail : ∀ v' : zV, zB v0 v' x q M h → VV p l e ({ frames := 5, cells := 0, slots := 0, locals := 32 * 5 }) s m args below meth c 0 0 (zQ below (fun r sh1 v1 N1 => sh1 = sh ∧ N1 = N ∧ (r = some (.int (nI 1)) ∧ zB v0 v1 x q M h)) G args s 0 0) G 6 sh v' N 102 [some (.ref x), some (.int (nI n)), some (.int (nI ((lsO M n).length))), some (.int (nI (rnk (lsO M n)))), none, none] [] := by
    intro v' hb'
    by_cases hl : n = M.1 1 + 1
    · obtain ⟨g1, g2⟩ := hl1 hl
      by_cases hz : (lsO M n).length = 0
      · have g4 := hrk
        refine r_iload_n C (pc := 102) rfl rfl dL_isList_102 ?_
        refine r_aload_n C (pc := 103) rfl rfl dL_isList_103 ?_
        refine r_iconst C (pc := 104) (x := (nI 1)) (by decide) dL_isList_104 ?_
        refine r_callV C (pc := 105) (st := [.int (nI n)]) (t_told l G sh v' N (k := 1) hX hb' hI hT (by decide) (z := nI (M.1 1)) (rfl)) kyX6_told q_251 rfl (Or.inl hd6) hX.2.2.1 (by decide) rfl rfl rfl (Nat.le_of_ble_eq_true rfl) ⟨Nat.le_of_ble_eq_true rfl, Nat.le_of_ble_eq_true rfl⟩ ⟨Nat.le_of_ble_eq_true rfl, Nat.le_of_ble_eq_true rfl⟩ dL_isList_105 (fun r105 v105 hp105 => ?_)
        obtain ⟨rfl, hb105⟩ := hp105
        refine VV.eq (st2 := [.int (nI (M.1 1)), .int (nI n)]) rfl ?_
        refine r_iconst C (pc := 108) (x := (nI 1)) (by decide) dL_isList_108 ?_
        refine r_iadd C (pc := 109) (z := (nI ((M.1 1) + 1))) (nI_add _ _) dL_isList_109 ?_
        refine n_icmp_ne C (pc := 110) (tgt := 117) (by omega) (by omega) dL_isList_110 (by decide) (fun c_110 => by exfalso; omega) (fun c_110 => ?_)
        refine r_iconst C (pc := 113) (x := (nI 1)) (by decide) dL_isList_113 ?_
        refine r_goto C (pc := 114) (tgt := 118) dL_isList_114 (by decide) ?_
        refine r_istore C (pc := 118) (lv2 := [some (.ref x), some (.int (nI n)), some (.int (nI ((lsO M n).length))), some (.int (nI (rnk (lsO M n)))), some (.int (nI 1)), none]) (Nat.le_of_ble_eq_true rfl) rfl rfl dL_isList_118 ?_
        refine r_aload_n C (pc := 120) rfl rfl dL_isList_120 ?_
        refine r_iload_n C (pc := 121) rfl rfl dL_isList_121 ?_
        refine r_iload_n C (pc := 122) rfl rfl dL_isList_122 ?_
        refine r_iconst C (pc := 123) (x := (nI 0)) (by decide) dL_isList_123 ?_
        refine r_callV C (pc := 124) (st := []) (t_packet l G sh v105 N (n := n) (k := (lsO M n).length) (w := 0) hX hb105 hI hT h1 hn (by omega) (by decide) (z := -9) (ptIe)) kyX6_packet q_566 rfl (Or.inl hd6) hX.2.2.1 (by decide) rfl rfl rfl (Nat.le_of_ble_eq_true rfl) ⟨Nat.le_of_ble_eq_true rfl, Nat.le_of_ble_eq_true rfl⟩ ⟨Nat.le_of_ble_eq_true rfl, Nat.le_of_ble_eq_true rfl⟩ dL_isList_124 (fun r124 v124 hp124 => ?_)
        obtain ⟨rfl, hb124⟩ := hp124
        refine VV.eq (st2 := [.int (-9)]) rfl ?_
        refine r_bipush C (pc := 127) (x := (-9)) (by decide) dL_isList_127 ?_
        refine r_icmp_ne C (pc := 129) (tgt := 193) dL_isList_129 (by decide) (fun c_129 => by exfalso; exact c_129 rfl) (fun c_129 => ?_)
        refine r_iload_n C (pc := 132) rfl rfl dL_isList_132 ?_
        refine r_iload_n C (pc := 133) rfl rfl dL_isList_133 ?_
        refine n_icmp_gt C (pc := 134) (tgt := 193) (by omega) (by omega) dL_isList_134 (by decide) (fun c_134 => by exfalso; omega) (fun c_134 => ?_)
        refine r_iload_n C (pc := 137) rfl rfl dL_isList_137 ?_
        refine n_if_ne C (pc := 138) (tgt := 145) (by omega) dL_isList_138 (by decide) (fun c_138 => by exfalso; omega) (fun c_138 => ?_)
        refine r_iconst C (pc := 141) (x := (nI 1)) (by decide) dL_isList_141 ?_
        refine r_goto C (pc := 142) (tgt := 146) dL_isList_142 (by decide) ?_
        refine r_iload_n C (pc := 146) rfl rfl dL_isList_146 ?_
        refine n_if_ne C (pc := 147) (tgt := 154) (by omega) dL_isList_147 (by decide) (fun c_147 => by exfalso; omega) (fun c_147 => ?_)
        refine r_iconst C (pc := 150) (x := (nI 1)) (by decide) dL_isList_150 ?_
        refine r_goto C (pc := 151) (tgt := 155) dL_isList_151 (by decide) ?_
        refine n_icmp_ne C (pc := 155) (tgt := 193) (by omega) (by omega) dL_isList_155 (by decide) (fun c_155 => by exfalso; omega) (fun c_155 => ?_)
        refine r_iload C (pc := 158) rfl dL_isList_158 ?_
        refine n_if_eq C (pc := 160) (tgt := 180) (by omega) dL_isList_160 (by decide) (fun c_160 => by exfalso; omega) (fun c_160 => ?_)
        refine r_iload_n C (pc := 163) rfl rfl dL_isList_163 ?_
        refine r_iload_n C (pc := 164) rfl rfl dL_isList_164 ?_
        refine n_icmp_ne C (pc := 165) (tgt := 193) (by omega) (by omega) dL_isList_165 (by decide) (fun c_165 => by exfalso; omega) (fun c_165 => ?_)
        refine r_iload_n C (pc := 168) rfl rfl dL_isList_168 ?_
        refine r_aload_n C (pc := 169) rfl rfl dL_isList_169 ?_
        refine r_iconst C (pc := 170) (x := (nI 0)) (by decide) dL_isList_170 ?_
        refine r_callV C (pc := 171) (st := [.int (nI ((lsO M n).length))]) (t_told l G sh v124 N (k := 0) hX hb124 hI hT (by decide) (z := nI (M.1 0)) (rfl)) kyX6_told q_251 rfl (Or.inl hd6) hX.2.2.1 (by decide) rfl rfl rfl (Nat.le_of_ble_eq_true rfl) ⟨Nat.le_of_ble_eq_true rfl, Nat.le_of_ble_eq_true rfl⟩ ⟨Nat.le_of_ble_eq_true rfl, Nat.le_of_ble_eq_true rfl⟩ dL_isList_171 (fun r171 v171 hp171 => ?_)
        obtain ⟨rfl, hb171⟩ := hp171
        refine VV.eq (st2 := [.int (nI (M.1 0)), .int (nI ((lsO M n).length))]) rfl ?_
        refine n_icmp_gt C (pc := 174) (tgt := 193) (by omega) (by omega) dL_isList_174 (by decide) (fun c_174 => by exfalso; omega) (fun c_174 => ?_)
        refine r_goto C (pc := 177) (tgt := 189) dL_isList_177 (by decide) ?_
        refine r_iconst C (pc := 189) (x := (nI 1)) (by decide) dL_isList_189 ?_
        refine r_goto C (pc := 190) (tgt := 194) dL_isList_190 (by decide) ?_
        exact r_iret C (pc := 194) rfl (rfl) dL_isList_194 ⟨rfl, rfl, rfl, hb171⟩
      · have g3 := hrz (by omega)
        refine r_iload_n C (pc := 102) rfl rfl dL_isList_102 ?_
        refine r_aload_n C (pc := 103) rfl rfl dL_isList_103 ?_
        refine r_iconst C (pc := 104) (x := (nI 1)) (by decide) dL_isList_104 ?_
        refine r_callV C (pc := 105) (st := [.int (nI n)]) (t_told l G sh v' N (k := 1) hX hb' hI hT (by decide) (z := nI (M.1 1)) (rfl)) kyX6_told q_251 rfl (Or.inl hd6) hX.2.2.1 (by decide) rfl rfl rfl (Nat.le_of_ble_eq_true rfl) ⟨Nat.le_of_ble_eq_true rfl, Nat.le_of_ble_eq_true rfl⟩ ⟨Nat.le_of_ble_eq_true rfl, Nat.le_of_ble_eq_true rfl⟩ dL_isList_105 (fun r105 v105 hp105 => ?_)
        obtain ⟨rfl, hb105⟩ := hp105
        refine VV.eq (st2 := [.int (nI (M.1 1)), .int (nI n)]) rfl ?_
        refine r_iconst C (pc := 108) (x := (nI 1)) (by decide) dL_isList_108 ?_
        refine r_iadd C (pc := 109) (z := (nI ((M.1 1) + 1))) (nI_add _ _) dL_isList_109 ?_
        refine n_icmp_ne C (pc := 110) (tgt := 117) (by omega) (by omega) dL_isList_110 (by decide) (fun c_110 => by exfalso; omega) (fun c_110 => ?_)
        refine r_iconst C (pc := 113) (x := (nI 1)) (by decide) dL_isList_113 ?_
        refine r_goto C (pc := 114) (tgt := 118) dL_isList_114 (by decide) ?_
        refine r_istore C (pc := 118) (lv2 := [some (.ref x), some (.int (nI n)), some (.int (nI ((lsO M n).length))), some (.int (nI (rnk (lsO M n)))), some (.int (nI 1)), none]) (Nat.le_of_ble_eq_true rfl) rfl rfl dL_isList_118 ?_
        refine r_aload_n C (pc := 120) rfl rfl dL_isList_120 ?_
        refine r_iload_n C (pc := 121) rfl rfl dL_isList_121 ?_
        refine r_iload_n C (pc := 122) rfl rfl dL_isList_122 ?_
        refine r_iconst C (pc := 123) (x := (nI 0)) (by decide) dL_isList_123 ?_
        refine r_callV C (pc := 124) (st := []) (t_packet l G sh v105 N (n := n) (k := (lsO M n).length) (w := 0) hX hb105 hI hT h1 hn (by omega) (by decide) (z := -9) (ptIe)) kyX6_packet q_566 rfl (Or.inl hd6) hX.2.2.1 (by decide) rfl rfl rfl (Nat.le_of_ble_eq_true rfl) ⟨Nat.le_of_ble_eq_true rfl, Nat.le_of_ble_eq_true rfl⟩ ⟨Nat.le_of_ble_eq_true rfl, Nat.le_of_ble_eq_true rfl⟩ dL_isList_124 (fun r124 v124 hp124 => ?_)
        obtain ⟨rfl, hb124⟩ := hp124
        refine VV.eq (st2 := [.int (-9)]) rfl ?_
        refine r_bipush C (pc := 127) (x := (-9)) (by decide) dL_isList_127 ?_
        refine r_icmp_ne C (pc := 129) (tgt := 193) dL_isList_129 (by decide) (fun c_129 => by exfalso; exact c_129 rfl) (fun c_129 => ?_)
        refine r_iload_n C (pc := 132) rfl rfl dL_isList_132 ?_
        refine r_iload_n C (pc := 133) rfl rfl dL_isList_133 ?_
        refine n_icmp_gt C (pc := 134) (tgt := 193) (by omega) (by omega) dL_isList_134 (by decide) (fun c_134 => by exfalso; omega) (fun c_134 => ?_)
        refine r_iload_n C (pc := 137) rfl rfl dL_isList_137 ?_
        refine n_if_ne C (pc := 138) (tgt := 145) (by omega) dL_isList_138 (by decide) (fun c_138 => ?_) (fun c_138 => by exfalso; omega)
        refine r_iconst C (pc := 145) (x := (nI 0)) (by decide) dL_isList_145 ?_
        refine r_iload_n C (pc := 146) rfl rfl dL_isList_146 ?_
        refine n_if_ne C (pc := 147) (tgt := 154) (by omega) dL_isList_147 (by decide) (fun c_147 => ?_) (fun c_147 => by exfalso; omega)
        refine r_iconst C (pc := 154) (x := (nI 0)) (by decide) dL_isList_154 ?_
        refine n_icmp_ne C (pc := 155) (tgt := 193) (by omega) (by omega) dL_isList_155 (by decide) (fun c_155 => by exfalso; omega) (fun c_155 => ?_)
        refine r_iload C (pc := 158) rfl dL_isList_158 ?_
        refine n_if_eq C (pc := 160) (tgt := 180) (by omega) dL_isList_160 (by decide) (fun c_160 => by exfalso; omega) (fun c_160 => ?_)
        refine r_iload_n C (pc := 163) rfl rfl dL_isList_163 ?_
        refine r_iload_n C (pc := 164) rfl rfl dL_isList_164 ?_
        refine n_icmp_ne C (pc := 165) (tgt := 193) (by omega) (by omega) dL_isList_165 (by decide) (fun c_165 => by exfalso; omega) (fun c_165 => ?_)
        refine r_iload_n C (pc := 168) rfl rfl dL_isList_168 ?_
        refine r_aload_n C (pc := 169) rfl rfl dL_isList_169 ?_
        refine r_iconst C (pc := 170) (x := (nI 0)) (by decide) dL_isList_170 ?_
        refine r_callV C (pc := 171) (st := [.int (nI ((lsO M n).length))]) (t_told l G sh v124 N (k := 0) hX hb124 hI hT (by decide) (z := nI (M.1 0)) (rfl)) kyX6_told q_251 rfl (Or.inl hd6) hX.2.2.1 (by decide) rfl rfl rfl (Nat.le_of_ble_eq_true rfl) ⟨Nat.le_of_ble_eq_true rfl, Nat.le_of_ble_eq_true rfl⟩ ⟨Nat.le_of_ble_eq_true rfl, Nat.le_of_ble_eq_true rfl⟩ dL_isList_171 (fun r171 v171 hp171 => ?_)
        obtain ⟨rfl, hb171⟩ := hp171
        refine VV.eq (st2 := [.int (nI (M.1 0)), .int (nI ((lsO M n).length))]) rfl ?_
        refine n_icmp_gt C (pc := 174) (tgt := 193) (by omega) (by omega) dL_isList_174 (by decide) (fun c_174 => by exfalso; omega) (fun c_174 => ?_)
        refine r_goto C (pc := 177) (tgt := 189) dL_isList_177 (by decide) ?_
        refine r_iconst C (pc := 189) (x := (nI 1)) (by decide) dL_isList_189 ?_
        refine r_goto C (pc := 190) (tgt := 194) dL_isList_190 (by decide) ?_
        exact r_iret C (pc := 194) rfl (rfl) dL_isList_194 ⟨rfl, rfl, rfl, hb171⟩
    · have g2 := hl2 hl
      by_cases hz : (lsO M n).length = 0
      · have g4 := hrk
        refine r_iload_n C (pc := 102) rfl rfl dL_isList_102 ?_
        refine r_aload_n C (pc := 103) rfl rfl dL_isList_103 ?_
        refine r_iconst C (pc := 104) (x := (nI 1)) (by decide) dL_isList_104 ?_
        refine r_callV C (pc := 105) (st := [.int (nI n)]) (t_told l G sh v' N (k := 1) hX hb' hI hT (by decide) (z := nI (M.1 1)) (rfl)) kyX6_told q_251 rfl (Or.inl hd6) hX.2.2.1 (by decide) rfl rfl rfl (Nat.le_of_ble_eq_true rfl) ⟨Nat.le_of_ble_eq_true rfl, Nat.le_of_ble_eq_true rfl⟩ ⟨Nat.le_of_ble_eq_true rfl, Nat.le_of_ble_eq_true rfl⟩ dL_isList_105 (fun r105 v105 hp105 => ?_)
        obtain ⟨rfl, hb105⟩ := hp105
        refine VV.eq (st2 := [.int (nI (M.1 1)), .int (nI n)]) rfl ?_
        refine r_iconst C (pc := 108) (x := (nI 1)) (by decide) dL_isList_108 ?_
        refine r_iadd C (pc := 109) (z := (nI ((M.1 1) + 1))) (nI_add _ _) dL_isList_109 ?_
        refine n_icmp_ne C (pc := 110) (tgt := 117) (by omega) (by omega) dL_isList_110 (by decide) (fun c_110 => ?_) (fun c_110 => by exfalso; omega)
        refine r_iconst C (pc := 117) (x := (nI 0)) (by decide) dL_isList_117 ?_
        refine r_istore C (pc := 118) (lv2 := [some (.ref x), some (.int (nI n)), some (.int (nI ((lsO M n).length))), some (.int (nI (rnk (lsO M n)))), some (.int (nI 0)), none]) (Nat.le_of_ble_eq_true rfl) rfl rfl dL_isList_118 ?_
        refine r_aload_n C (pc := 120) rfl rfl dL_isList_120 ?_
        refine r_iload_n C (pc := 121) rfl rfl dL_isList_121 ?_
        refine r_iload_n C (pc := 122) rfl rfl dL_isList_122 ?_
        refine r_iconst C (pc := 123) (x := (nI 0)) (by decide) dL_isList_123 ?_
        refine r_callV C (pc := 124) (st := []) (t_packet l G sh v105 N (n := n) (k := (lsO M n).length) (w := 0) hX hb105 hI hT h1 hn (by omega) (by decide) (z := -9) (ptIe)) kyX6_packet q_566 rfl (Or.inl hd6) hX.2.2.1 (by decide) rfl rfl rfl (Nat.le_of_ble_eq_true rfl) ⟨Nat.le_of_ble_eq_true rfl, Nat.le_of_ble_eq_true rfl⟩ ⟨Nat.le_of_ble_eq_true rfl, Nat.le_of_ble_eq_true rfl⟩ dL_isList_124 (fun r124 v124 hp124 => ?_)
        obtain ⟨rfl, hb124⟩ := hp124
        refine VV.eq (st2 := [.int (-9)]) rfl ?_
        refine r_bipush C (pc := 127) (x := (-9)) (by decide) dL_isList_127 ?_
        refine r_icmp_ne C (pc := 129) (tgt := 193) dL_isList_129 (by decide) (fun c_129 => by exfalso; exact c_129 rfl) (fun c_129 => ?_)
        refine r_iload_n C (pc := 132) rfl rfl dL_isList_132 ?_
        refine r_iload_n C (pc := 133) rfl rfl dL_isList_133 ?_
        refine n_icmp_gt C (pc := 134) (tgt := 193) (by omega) (by omega) dL_isList_134 (by decide) (fun c_134 => by exfalso; omega) (fun c_134 => ?_)
        refine r_iload_n C (pc := 137) rfl rfl dL_isList_137 ?_
        refine n_if_ne C (pc := 138) (tgt := 145) (by omega) dL_isList_138 (by decide) (fun c_138 => by exfalso; omega) (fun c_138 => ?_)
        refine r_iconst C (pc := 141) (x := (nI 1)) (by decide) dL_isList_141 ?_
        refine r_goto C (pc := 142) (tgt := 146) dL_isList_142 (by decide) ?_
        refine r_iload_n C (pc := 146) rfl rfl dL_isList_146 ?_
        refine n_if_ne C (pc := 147) (tgt := 154) (by omega) dL_isList_147 (by decide) (fun c_147 => by exfalso; omega) (fun c_147 => ?_)
        refine r_iconst C (pc := 150) (x := (nI 1)) (by decide) dL_isList_150 ?_
        refine r_goto C (pc := 151) (tgt := 155) dL_isList_151 (by decide) ?_
        refine n_icmp_ne C (pc := 155) (tgt := 193) (by omega) (by omega) dL_isList_155 (by decide) (fun c_155 => by exfalso; omega) (fun c_155 => ?_)
        refine r_iload C (pc := 158) rfl dL_isList_158 ?_
        refine n_if_eq C (pc := 160) (tgt := 180) (by omega) dL_isList_160 (by decide) (fun c_160 => ?_) (fun c_160 => by exfalso; omega)
        refine r_iload_n C (pc := 180) rfl rfl dL_isList_180 ?_
        refine r_aload_n C (pc := 181) rfl rfl dL_isList_181 ?_
        refine r_iconst C (pc := 182) (x := (nI 3)) (by decide) dL_isList_182 ?_
        refine r_callV C (pc := 183) (st := [.int (nI ((lsO M n).length))]) (t_told l G sh v124 N (k := 3) hX hb124 hI hT (by decide) (z := nI (M.1 3)) (rfl)) kyX6_told q_251 rfl (Or.inl hd6) hX.2.2.1 (by decide) rfl rfl rfl (Nat.le_of_ble_eq_true rfl) ⟨Nat.le_of_ble_eq_true rfl, Nat.le_of_ble_eq_true rfl⟩ ⟨Nat.le_of_ble_eq_true rfl, Nat.le_of_ble_eq_true rfl⟩ dL_isList_183 (fun r183 v183 hp183 => ?_)
        obtain ⟨rfl, hb183⟩ := hp183
        refine VV.eq (st2 := [.int (nI (M.1 3)), .int (nI ((lsO M n).length))]) rfl ?_
        refine n_icmp_gt C (pc := 186) (tgt := 193) (by omega) (by omega) dL_isList_186 (by decide) (fun c_186 => by exfalso; omega) (fun c_186 => ?_)
        refine r_iconst C (pc := 189) (x := (nI 1)) (by decide) dL_isList_189 ?_
        refine r_goto C (pc := 190) (tgt := 194) dL_isList_190 (by decide) ?_
        exact r_iret C (pc := 194) rfl (rfl) dL_isList_194 ⟨rfl, rfl, rfl, hb183⟩
      · have g3 := hrz (by omega)
        refine r_iload_n C (pc := 102) rfl rfl dL_isList_102 ?_
        refine r_aload_n C (pc := 103) rfl rfl dL_isList_103 ?_
        refine r_iconst C (pc := 104) (x := (nI 1)) (by decide) dL_isList_104 ?_
        refine r_callV C (pc := 105) (st := [.int (nI n)]) (t_told l G sh v' N (k := 1) hX hb' hI hT (by decide) (z := nI (M.1 1)) (rfl)) kyX6_told q_251 rfl (Or.inl hd6) hX.2.2.1 (by decide) rfl rfl rfl (Nat.le_of_ble_eq_true rfl) ⟨Nat.le_of_ble_eq_true rfl, Nat.le_of_ble_eq_true rfl⟩ ⟨Nat.le_of_ble_eq_true rfl, Nat.le_of_ble_eq_true rfl⟩ dL_isList_105 (fun r105 v105 hp105 => ?_)
        obtain ⟨rfl, hb105⟩ := hp105
        refine VV.eq (st2 := [.int (nI (M.1 1)), .int (nI n)]) rfl ?_
        refine r_iconst C (pc := 108) (x := (nI 1)) (by decide) dL_isList_108 ?_
        refine r_iadd C (pc := 109) (z := (nI ((M.1 1) + 1))) (nI_add _ _) dL_isList_109 ?_
        refine n_icmp_ne C (pc := 110) (tgt := 117) (by omega) (by omega) dL_isList_110 (by decide) (fun c_110 => ?_) (fun c_110 => by exfalso; omega)
        refine r_iconst C (pc := 117) (x := (nI 0)) (by decide) dL_isList_117 ?_
        refine r_istore C (pc := 118) (lv2 := [some (.ref x), some (.int (nI n)), some (.int (nI ((lsO M n).length))), some (.int (nI (rnk (lsO M n)))), some (.int (nI 0)), none]) (Nat.le_of_ble_eq_true rfl) rfl rfl dL_isList_118 ?_
        refine r_aload_n C (pc := 120) rfl rfl dL_isList_120 ?_
        refine r_iload_n C (pc := 121) rfl rfl dL_isList_121 ?_
        refine r_iload_n C (pc := 122) rfl rfl dL_isList_122 ?_
        refine r_iconst C (pc := 123) (x := (nI 0)) (by decide) dL_isList_123 ?_
        refine r_callV C (pc := 124) (st := []) (t_packet l G sh v105 N (n := n) (k := (lsO M n).length) (w := 0) hX hb105 hI hT h1 hn (by omega) (by decide) (z := -9) (ptIe)) kyX6_packet q_566 rfl (Or.inl hd6) hX.2.2.1 (by decide) rfl rfl rfl (Nat.le_of_ble_eq_true rfl) ⟨Nat.le_of_ble_eq_true rfl, Nat.le_of_ble_eq_true rfl⟩ ⟨Nat.le_of_ble_eq_true rfl, Nat.le_of_ble_eq_true rfl⟩ dL_isList_124 (fun r124 v124 hp124 => ?_)
        obtain ⟨rfl, hb124⟩ := hp124
        refine VV.eq (st2 := [.int (-9)]) rfl ?_
        refine r_bipush C (pc := 127) (x := (-9)) (by decide) dL_isList_127 ?_
        refine r_icmp_ne C (pc := 129) (tgt := 193) dL_isList_129 (by decide) (fun c_129 => by exfalso; exact c_129 rfl) (fun c_129 => ?_)
        refine r_iload_n C (pc := 132) rfl rfl dL_isList_132 ?_
        refine r_iload_n C (pc := 133) rfl rfl dL_isList_133 ?_
        refine n_icmp_gt C (pc := 134) (tgt := 193) (by omega) (by omega) dL_isList_134 (by decide) (fun c_134 => by exfalso; omega) (fun c_134 => ?_)
        refine r_iload_n C (pc := 137) rfl rfl dL_isList_137 ?_
        refine n_if_ne C (pc := 138) (tgt := 145) (by omega) dL_isList_138 (by decide) (fun c_138 => ?_) (fun c_138 => by exfalso; omega)
        refine r_iconst C (pc := 145) (x := (nI 0)) (by decide) dL_isList_145 ?_
        refine r_iload_n C (pc := 146) rfl rfl dL_isList_146 ?_
        refine n_if_ne C (pc := 147) (tgt := 154) (by omega) dL_isList_147 (by decide) (fun c_147 => ?_) (fun c_147 => by exfalso; omega)
        refine r_iconst C (pc := 154) (x := (nI 0)) (by decide) dL_isList_154 ?_
        refine n_icmp_ne C (pc := 155) (tgt := 193) (by omega) (by omega) dL_isList_155 (by decide) (fun c_155 => by exfalso; omega) (fun c_155 => ?_)
        refine r_iload C (pc := 158) rfl dL_isList_158 ?_
        refine n_if_eq C (pc := 160) (tgt := 180) (by omega) dL_isList_160 (by decide) (fun c_160 => ?_) (fun c_160 => by exfalso; omega)
        refine r_iload_n C (pc := 180) rfl rfl dL_isList_180 ?_
        refine r_aload_n C (pc := 181) rfl rfl dL_isList_181 ?_
        refine r_iconst C (pc := 182) (x := (nI 3)) (by decide) dL_isList_182 ?_
        refine r_callV C (pc := 183) (st := [.int (nI ((lsO M n).length))]) (t_told l G sh v124 N (k := 3) hX hb124 hI hT (by decide) (z := nI (M.1 3)) (rfl)) kyX6_told q_251 rfl (Or.inl hd6) hX.2.2.1 (by decide) rfl rfl rfl (Nat.le_of_ble_eq_true rfl) ⟨Nat.le_of_ble_eq_true rfl, Nat.le_of_ble_eq_true rfl⟩ ⟨Nat.le_of_ble_eq_true rfl, Nat.le_of_ble_eq_true rfl⟩ dL_isList_183 (fun r183 v183 hp183 => ?_)
        obtain ⟨rfl, hb183⟩ := hp183
        refine VV.eq (st2 := [.int (nI (M.1 3)), .int (nI ((lsO M n).length))]) rfl ?_
        refine n_icmp_gt C (pc := 186) (tgt := 193) (by omega) (by omega) dL_isList_186 (by decide) (fun c_186 => by exfalso; omega) (fun c_186 => ?_)
        refine r_iconst C (pc := 189) (x := (nI 1)) (by decide) dL_isList_189 ?_
        refine r_goto C (pc := 190) (tgt := 194) dL_isList_190 (by decide) ?_
        exact r_iret C (pc := 194) rfl (rfl) dL_isList_194 ⟨rfl, rfl, rfl, hb183⟩
  have loop : ∀ (n' k : Nat) (v' : zV), (lsO M n).length - k < n' → k ≤ (lsO M n).length → zB v0 v' x q M h → VV p l e ({ frames := 5, cells := 0, slots := 0, locals := 32 * 5 }) s m args below meth c 0 0 (zQ below (fun r sh1 v1 N1 => sh1 = sh ∧ N1 = N ∧ (r = some (.int (nI 1)) ∧ zB v0 v1 x q M h)) G args s 0 0) G 6 sh v' N 17 [some (.ref x), some (.int (nI n)), some (.int (nI ((lsO M n).length))), some (.int (nI (rnk (lsO M n)))), some (.int (nI k)), none] [] := by
    intro n'
    induction n' with
    | zero => intro k v' hm; omega
    | succ n' ih =>
      intro k v' hm hkl hb'
      refine r_iload C (pc := 17) rfl dL_isList_17 ?_
      refine r_iload_n C (pc := 19) rfl rfl dL_isList_19 ?_
      refine n_icmp_ge C (pc := 20) (tgt := 102) (by omega) (by omega) dL_isList_20 (by decide) (fun c_20 => ?_) (fun c_20 => ?_)
      · refine VV.fg 4 (lv2 := [some (.ref x), some (.int (nI n)), some (.int (nI ((lsO M n).length))), some (.int (nI (rnk (lsO M n)))), none, none]) rfl ?_
        exact tail v' hb'
      · obtain ⟨f1, f2, f3, f4⟩ := isl_k hG.1 hF hn c_20
        have f5 := pop_le ((lsO M n).getD k 0 / 256)
        have f6 := vln_lt (V := zVl M) (s := ((lsO M n).getD k 0 / 256)) hV (M.1 0) hK12
        refine r_aload_n C (pc := 23) rfl rfl dL_isList_23 ?_
        refine r_iload_n C (pc := 24) rfl rfl dL_isList_24 ?_
        refine r_iload C (pc := 25) rfl dL_isList_25 ?_
        refine r_iconst C (pc := 27) (x := (nI 0)) (by decide) dL_isList_27 ?_
        refine r_callV C (pc := 28) (st := []) (t_packet l G sh v' N (n := n) (k := k) (w := 0) hX hb' hI hT h1 hn (by omega) (by decide) (z := nI ((lsO M n).getD k 0 / 256)) (ptI0 c_20)) kyX6_packet q_566 rfl (Or.inl hd6) hX.2.2.1 (by decide) rfl rfl rfl (Nat.le_of_ble_eq_true rfl) ⟨Nat.le_of_ble_eq_true rfl, Nat.le_of_ble_eq_true rfl⟩ ⟨Nat.le_of_ble_eq_true rfl, Nat.le_of_ble_eq_true rfl⟩ dL_isList_28 (fun r28 v28 hp28 => ?_)
        obtain ⟨rfl, hb28⟩ := hp28
        refine VV.eq (st2 := [.int (nI ((lsO M n).getD k 0 / 256))]) rfl ?_
        refine r_istore C (pc := 31) (lv2 := [some (.ref x), some (.int (nI n)), some (.int (nI ((lsO M n).length))), some (.int (nI (rnk (lsO M n)))), some (.int (nI k)), some (.int (nI ((lsO M n).getD k 0 / 256)))]) (Nat.le_of_ble_eq_true rfl) rfl rfl dL_isList_31 ?_
        refine r_iload C (pc := 33) rfl dL_isList_33 ?_
        refine r_iconst C (pc := 35) (x := (nI 1)) (by decide) dL_isList_35 ?_
        refine n_icmp_lt C (pc := 36) (tgt := 94) (by omega) (by omega) dL_isList_36 (by decide) (fun c_36 => by exfalso; omega) (fun c_36 => ?_)
        refine r_iload C (pc := 39) rfl dL_isList_39 ?_
        refine r_iconst C (pc := 41) (x := (nI 1)) (by decide) dL_isList_41 ?_
        refine r_aload_n C (pc := 42) rfl rfl dL_isList_42 ?_
        refine r_iconst C (pc := 43) (x := (nI 0)) (by decide) dL_isList_43 ?_
        refine r_callV C (pc := 44) (st := [.int (nI 1), .int (nI ((lsO M n).getD k 0 / 256))]) (t_told l G sh v28 N (k := 0) hX hb28 hI hT (by decide) (z := nI (M.1 0)) (rfl)) kyX6_told q_251 rfl (Or.inl hd6) hX.2.2.1 (by decide) rfl rfl rfl (Nat.le_of_ble_eq_true rfl) ⟨Nat.le_of_ble_eq_true rfl, Nat.le_of_ble_eq_true rfl⟩ ⟨Nat.le_of_ble_eq_true rfl, Nat.le_of_ble_eq_true rfl⟩ dL_isList_44 (fun r44 v44 hp44 => ?_)
        obtain ⟨rfl, hb44⟩ := hp44
        refine VV.eq (st2 := [.int (nI (M.1 0)), .int (nI 1), .int (nI ((lsO M n).getD k 0 / 256))]) rfl ?_
        refine r_ishl C (pc := 47) (z := (nI (2 ^ M.1 0))) (nI_shl1 (by omega)) dL_isList_47 ?_
        refine n_icmp_ge C (pc := 48) (tgt := 94) (by omega) (by omega) dL_isList_48 (by decide) (fun c_48 => by exfalso; omega) (fun c_48 => ?_)
        refine r_aload_n C (pc := 51) rfl rfl dL_isList_51 ?_
        refine r_iload_n C (pc := 52) rfl rfl dL_isList_52 ?_
        refine r_iload C (pc := 53) rfl dL_isList_53 ?_
        refine r_iconst C (pc := 55) (x := (nI 1)) (by decide) dL_isList_55 ?_
        refine r_callV C (pc := 56) (st := []) (t_packet l G sh v44 N (n := n) (k := k) (w := 1) hX hb44 hI hT h1 hn (by omega) (by decide) (z := nI (vln (zVl M) ((lsO M n).getD k 0 / 256) (M.1 0))) ((ptI1 c_20).trans (congrArg nI f3))) kyX6_packet q_566 rfl (Or.inl hd6) hX.2.2.1 (by decide) rfl rfl rfl (Nat.le_of_ble_eq_true rfl) ⟨Nat.le_of_ble_eq_true rfl, Nat.le_of_ble_eq_true rfl⟩ ⟨Nat.le_of_ble_eq_true rfl, Nat.le_of_ble_eq_true rfl⟩ dL_isList_56 (fun r56 v56 hp56 => ?_)
        obtain ⟨rfl, hb56⟩ := hp56
        refine VV.eq (st2 := [.int (nI (vln (zVl M) ((lsO M n).getD k 0 / 256) (M.1 0)))]) rfl ?_
        refine r_aload_n C (pc := 59) rfl rfl dL_isList_59 ?_
        refine r_iload C (pc := 60) rfl dL_isList_60 ?_
        refine r_callS C (pc := 62) (st := [.int (nI (vln (zVl M) ((lsO M n).getD k 0 / 256) (M.1 0)))]) (m_L_value l G sh v56 N (k := ((lsO M n).getD k 0 / 256)) hX hb56 hI hT (by omega)) kyL_value q_577 rfl rfl (Nat.le_of_ble_eq_true rfl) ⟨Nat.le_of_ble_eq_true rfl, Nat.le_of_ble_eq_true rfl⟩ ⟨Nat.le_of_ble_eq_true rfl, Nat.le_of_ble_eq_true rfl⟩ dL_isList_62 (fun r62 v62 hp62 => ?_)
        obtain ⟨rfl, hb62⟩ := hp62
        refine VV.eq (st2 := [.int (nI (vln (zVl M) ((lsO M n).getD k 0 / 256) (M.1 0))), .int (nI (vln (zVl M) ((lsO M n).getD k 0 / 256) (M.1 0)))]) rfl ?_
        refine n_icmp_ne C (pc := 65) (tgt := 94) (by omega) (by omega) dL_isList_65 (by decide) (fun c_65 => by exfalso; exact c_65 rfl) (fun c_65 => ?_)
        refine r_aload_n C (pc := 68) rfl rfl dL_isList_68 ?_
        refine r_iload_n C (pc := 69) rfl rfl dL_isList_69 ?_
        refine r_iload C (pc := 70) rfl dL_isList_70 ?_
        refine r_iconst C (pc := 72) (x := (nI 2)) (by decide) dL_isList_72 ?_
        refine r_callV C (pc := 73) (st := []) (t_packet l G sh v62 N (n := n) (k := k) (w := 2) hX hb62 hI hT h1 hn (by omega) (by decide) (z := nI (pop ((lsO M n).getD k 0 / 256))) (ptI2 c_20)) kyX6_packet q_566 rfl (Or.inl hd6) hX.2.2.1 (by decide) rfl rfl rfl (Nat.le_of_ble_eq_true rfl) ⟨Nat.le_of_ble_eq_true rfl, Nat.le_of_ble_eq_true rfl⟩ ⟨Nat.le_of_ble_eq_true rfl, Nat.le_of_ble_eq_true rfl⟩ dL_isList_73 (fun r73 v73 hp73 => ?_)
        obtain ⟨rfl, hb73⟩ := hp73
        refine VV.eq (st2 := [.int (nI (pop ((lsO M n).getD k 0 / 256)))]) rfl ?_
        refine r_iload C (pc := 76) rfl dL_isList_76 ?_
        refine r_callS C (pc := 78) (st := [.int (nI (pop ((lsO M n).getD k 0 / 256)))]) (m_L_size l G sh v73 N (k := ((lsO M n).getD k 0 / 256)) (by omega)) kyL_size q_593 rfl rfl (Nat.le_of_ble_eq_true rfl) ⟨Nat.le_of_ble_eq_true rfl, Nat.le_of_ble_eq_true rfl⟩ ⟨Nat.le_of_ble_eq_true rfl, Nat.le_of_ble_eq_true rfl⟩ dL_isList_78 (fun r78 v78 hp78 => ?_)
        obtain ⟨rfl, ehp78⟩ := hp78
        refine VV.vq ehp78 ?_
        refine VV.eq (st2 := [.int (nI (pop ((lsO M n).getD k 0 / 256))), .int (nI (pop ((lsO M n).getD k 0 / 256)))]) rfl ?_
        refine n_icmp_ne C (pc := 81) (tgt := 94) (by omega) (by omega) dL_isList_81 (by decide) (fun c_81 => by exfalso; exact c_81 rfl) (fun c_81 => ?_)
        refine r_aload_n C (pc := 84) rfl rfl dL_isList_84 ?_
        refine r_iload_n C (pc := 85) rfl rfl dL_isList_85 ?_
        refine r_iload C (pc := 86) rfl dL_isList_86 ?_
        refine r_callV C (pc := 88) (st := []) (t_novel l G sh v73 N (n := n) (k := ((lsO M n).getD k 0 / 256)) hX hb73 hI hT h1 hn f1 f2 (z := nI 0) (by rw [f4]; rfl)) kyX6_novel q_596 rfl (Or.inl hd6) hX.2.2.1 (by decide) rfl rfl rfl (Nat.le_of_ble_eq_true rfl) ⟨Nat.le_of_ble_eq_true rfl, Nat.le_of_ble_eq_true rfl⟩ ⟨Nat.le_of_ble_eq_true rfl, Nat.le_of_ble_eq_true rfl⟩ dL_isList_88 (fun r88 v88 hp88 => ?_)
        obtain ⟨rfl, hb88⟩ := hp88
        refine VV.eq (st2 := [.int (nI 0)]) rfl ?_
        refine n_if_eq C (pc := 91) (tgt := 96) (by omega) dL_isList_91 (by decide) (fun c_91 => ?_) (fun c_91 => by exfalso; omega)
        refine r_iinc C (pc := 96) (lv2 := [some (.ref x), some (.int (nI n)), some (.int (nI ((lsO M n).length))), some (.int (nI (rnk (lsO M n)))), some (.int (nI (k + 1))), some (.int (nI ((lsO M n).getD k 0 / 256)))]) (y := (nI (k + 1))) rfl (nI_inc _ _) (Nat.le_of_ble_eq_true rfl) rfl rfl dL_isList_96 ?_
        refine r_goto C (pc := 99) (tgt := 17) dL_isList_99 (by decide) ?_
        refine VV.fg 5 (lv2 := [some (.ref x), some (.int (nI n)), some (.int (nI ((lsO M n).length))), some (.int (nI (rnk (lsO M n)))), some (.int (nI (k + 1))), none]) rfl ?_
        exact ih (k + 1) v88 (by omega) (by omega) hb88
  refine r_aload_n C (pc := 0) rfl rfl dL_isList_0 ?_
  refine r_iload_n C (pc := 1) rfl rfl dL_isList_1 ?_
  refine r_iconst C (pc := 2) (x := (nI 0)) (by decide) dL_isList_2 ?_
  refine r_callV C (pc := 3) (st := []) (t_node0 l G sh v N (n := n) hX hb hI hT h1 hn (z := nI (lsO M n).length) (rfl)) kyX6_node q_560 rfl (Or.inl hd6) hX.2.2.1 (by decide) rfl rfl rfl (Nat.le_of_ble_eq_true rfl) ⟨Nat.le_of_ble_eq_true rfl, Nat.le_of_ble_eq_true rfl⟩ ⟨Nat.le_of_ble_eq_true rfl, Nat.le_of_ble_eq_true rfl⟩ dL_isList_3 (fun r3 v3 hp3 => ?_)
  obtain ⟨rfl, hb3⟩ := hp3
  refine VV.eq (st2 := [.int (nI ((lsO M n).length))]) rfl ?_
  refine r_istore_n C (pc := 6) (lv2 := [some (.ref x), some (.int (nI n)), some (.int (nI ((lsO M n).length))), none, none, none]) rfl (Nat.le_of_ble_eq_true rfl) rfl rfl dL_isList_6 ?_
  refine r_aload_n C (pc := 7) rfl rfl dL_isList_7 ?_
  refine r_iload_n C (pc := 8) rfl rfl dL_isList_8 ?_
  refine r_iconst C (pc := 9) (x := (nI 1)) (by decide) dL_isList_9 ?_
  refine r_callV C (pc := 10) (st := []) (t_node1 l G sh v3 N (n := n) hX hb3 hI hT h1 hn (z := nI (rnk (lsO M n))) (rfl)) kyX6_node q_560 rfl (Or.inl hd6) hX.2.2.1 (by decide) rfl rfl rfl (Nat.le_of_ble_eq_true rfl) ⟨Nat.le_of_ble_eq_true rfl, Nat.le_of_ble_eq_true rfl⟩ ⟨Nat.le_of_ble_eq_true rfl, Nat.le_of_ble_eq_true rfl⟩ dL_isList_10 (fun r10 v10 hp10 => ?_)
  obtain ⟨rfl, hb10⟩ := hp10
  refine VV.eq (st2 := [.int (nI (rnk (lsO M n)))]) rfl ?_
  refine r_istore_n C (pc := 13) (lv2 := [some (.ref x), some (.int (nI n)), some (.int (nI ((lsO M n).length))), some (.int (nI (rnk (lsO M n)))), none, none]) rfl (Nat.le_of_ble_eq_true rfl) rfl rfl dL_isList_13 ?_
  refine r_iconst C (pc := 14) (x := (nI 0)) (by decide) dL_isList_14 ?_
  refine r_istore C (pc := 15) (lv2 := [some (.ref x), some (.int (nI n)), some (.int (nI ((lsO M n).length))), some (.int (nI (rnk (lsO M n)))), some (.int (nI 0)), none]) (Nat.le_of_ble_eq_true rfl) rfl rfl dL_isList_15 ?_
  exact loop ((lsO M n).length + 1) 0 v10 (by omega) (Nat.zero_le _) hb10

