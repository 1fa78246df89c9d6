/-! the whole state: what is now, and what is kept -/
abbrev zHs : Type := Nat × (Nat → zMS) × (Nat → zMS) × (Nat → Bool)
abbrev zSt : Type := zMS × zHs
def flN (f : Nat → Bool) : Nat := (if f 0 then 1 else 0) + (if f 1 then 2 else 0)
def remH (M : zMS) (h : zHs) : zHs := if h.1 = 8 then (8, (fun i => if i < 7 then h.2.1 (i + 1) else M), h.2.2) else (h.1 + 1, (fun i => if i = h.1 then M else h.2.1 i), h.2.2)
def layM (M : zMS) (K R : Nat) : zMS := (layc M.1 K R, (fun _ => []), (fun _ => none), (fun _ => none))
def zrow (f : Nat → Int32) (i : Nat) : Nat → Int32 := fun j => f (165 * i + j)
def zmh (v : zV) (m : Nat) (h : zHs) : Prop := v m 2 = nI h.1 ∧ h.1 ≤ 8 ∧ (∀ i, i < h.1 → zwf (zrow (v (m + 2)) i) (h.2.1 i)) ∧ v m 4 = nI (flN h.2.2.2) ∧ ∀ i, i < 2 → h.2.2.2 i = true → zwf (zrow (v (m + 3)) i) (h.2.2.1 i)
theorem zmh.kept {v v1 : zV} {m : Nat} {h : zHs} (k : zmh v m h) (e2 : v1 m 2 = v m 2) (e4 : v1 m 4 = v m 4) (f2 : v1 (m + 2) = v (m + 2)) (f3 : v1 (m + 3) = v (m + 3)) : zmh v1 m h := ⟨by rw [e2]; exact k.1, k.2.1, by rw [f2]; exact k.2.2.1, by rw [e4]; exact k.2.2.2.1, by rw [f3]; exact k.2.2.2.2⟩
theorem zmh_T {v v1 : zV} {m : Nat} {h : zHs} (k : zmh v m h) (f : fT v v1 m) : zmh v1 m h := k.kept f.2.1 f.2.2 (f.1 _ (by omega) (by omega) (by omega) (by omega) (by omega) (by omega)) (f.1 _ (by omega) (by omega) (by omega) (by omega) (by omega) (by omega))
theorem fT.fr {v v1 : zV} {m : Nat} (f : fT v v1 m) : zfr v v1 m 9 := fun b hb => f.1 b (by omega) (by omega) (by omega) (by omega) (by omega) (by omega)
theorem zwf_same {f g : Nat → Int32} {M : zMS} (h : zwf f M) (k : ∀ j, j < 165 → g j = f j) : zwf g M := by
  obtain ⟨h1, h2, h3, h4, h5⟩ := h
  exact ⟨fun j hj => by rw [k j (by omega)]; exact h1 j hj, fun r hr => (h2 r hr).kept (fun j g1 g2 => k j (by have := lb_top r hr; omega)), fun b hb => by rw [k _ (by omega)]; exact h3 b hb, fun b hb => by rw [k _ (by omega)]; exact h4 b hb, fun b hb => by rw [k _ (by omega)]; exact h5 b hb⟩
theorem zwf_lay {f : Nat → Int32} {c : Nat → Nat} (h1 : ∀ i, i < 34 → f i = nI (c i)) (h2 : ∀ i, 34 ≤ i → i < 165 → f i = if 86 ≤ i ∧ i < 122 then -9 else 0) : zwf f (c, (fun _ => []), (fun _ => none), (fun _ => none)) := by
  refine ⟨h1, fun r hr => ?_, fun b hb => ?_, fun b hb => ?_, fun b hb => ?_⟩
  · have ht := lb_top r hr
    refine ⟨?_, Nat.zero_le _, fun k hk => absurd hk (Nat.not_lt_zero k)⟩
    rw [h2 _ (by omega) (by omega), if_neg (by omega)]
    rfl
  · rw [h2 _ (by omega) (by omega), if_pos (by omega)]; rfl
  · rw [h2 _ (by omega) (by omega), if_pos (by omega)]; rfl
  · rw [h2 _ (by omega) (by omega), if_pos (by omega)]; rfl
theorem layc_lo {c : Nat → Nat} {K R i : Nat} (h : i < 17) : layc c K R i = if i = 0 then K else if i = 1 then R else if i = 2 then 0 else if 7 ≤ i ∧ i < 11 then (if i - 7 ≤ c 1 ∧ i - 7 ≤ R then c i else 0) else c i := by
  unfold layc
  rw [if_neg (show ¬ (17 ≤ i ∧ i < 29) by omega), if_neg (show ¬ 29 ≤ i by omega)]
theorem layc_hi {c : Nat → Nat} {K R i : Nat} (h : 29 ≤ i) : layc c K R i = 0 := by
  unfold layc
  rw [if_neg (by omega), if_neg (by omega), if_neg (by omega), if_neg (by omega), if_neg (by omega), if_pos h]
def oUndo (S : zSt) : Int32 × zSt := if S.2.1 = 0 then (-2, S) else (nI (S.2.1 - 1), (S.2.2.1 (S.2.1 - 1), (S.2.1 - 1, S.2.2)))
set_option maxRecDepth 100000 in
set_option maxHeartbeats 4000000 in
theorem m_X7_lay (l : Launch) (G : zG) (sh : zH) (v : zV) (N : Nat) {m : Nat} {M : zMS} {K R : Nat} (hp : zMD G sh N m) (hv : zwf (v (m + 1)) M) (hR0 : M.1 1 ≤ 3) (hR : R ≤ 3) : zm l G yX7_lay cX7_lay 4 none 0 [.ref m, .int (nI K), .int (nI R)] sh v N (fun r v1 => r = none ∧ zwf (v1 (m + 1)) (layM M K R) ∧ fA v v1 m) := by
  refine zM.of (by decide) rfl (Nat.le_of_ble_eq_true rfl) ?_
  intro p e s mi args below meth c C
  obtain ⟨hB, hN, hs0, hs1, hs2, hs3, hs4, hs5, hs6, hs7, hs8⟩ := id hp
  have hd0 : G.2.2.1 ≤ m ∧ m < N := ⟨hB, by omega⟩
  have hd1 : G.2.2.1 ≤ m + 1 ∧ m + 1 < N := ⟨by omega, by omega⟩
  have hd2 : G.2.2.1 ≤ m + 2 ∧ m + 2 < N := ⟨by omega, by omega⟩
  have hd3 : G.2.2.1 ≤ m + 3 ∧ m + 3 < N := ⟨by omega, by omega⟩
  have hd4 : G.2.2.1 ≤ m + 4 ∧ m + 4 < N := ⟨by omega, by omega⟩
  have hd5 : G.2.2.1 ≤ m + 5 ∧ m + 5 < N := ⟨by omega, by omega⟩
  have hd6 : G.2.2.1 ≤ m + 6 ∧ m + 6 < N := ⟨by omega, by omega⟩
  have hd7 : G.2.2.1 ≤ m + 7 ∧ m + 7 < N := ⟨by omega, by omega⟩
  have hd8 : G.2.2.1 ≤ m + 8 ∧ m + 8 < N := ⟨by omega, by omega⟩
  have loop3 : ∀ (n b : Nat) (v' : zV), 12 - b < n → b ≤ 12 → (∀ j, j < 17 → v' (m + 1) j = nI (layc M.1 K R j)) → (∀ j, j < b → v' (m + 1) (17 + j) = nI (10 * j + 7)) → (∀ j, 29 ≤ j → j < 165 → v' (m + 1) j = if (86 ≤ j ∧ j < 86 + b) ∨ (98 ≤ j ∧ j < 98 + b) ∨ (110 ≤ j ∧ j < 110 + b) then -9 else 0) → fA v v' m → VV p l e ({ frames := 0, cells := 0, slots := 0, locals := 32 * 0 }) s mi args below meth c 0 0 (zQ below (fun r sh1 v1 N1 => sh1 = sh ∧ N1 = N ∧ (r = none ∧ zwf (v1 (m + 1)) (layM M K R) ∧ fA v v1 m)) G args s 0 0) G 4 sh v' N 96 [some (.ref m), some (.int (nI K)), some (.int (nI R)), some (.int (nI b))] [] := by
    intro n
    induction n with
    | zero => intro b v' hm; omega
    | succ n ih =>
      intro b v' hm hb e1 e2 e3 e4
      refine r_iload_n C (pc := 96) rfl rfl dX7_lay_96 ?_
      refine r_bipush C (pc := 97) (x := (nI 12)) (by decide) dX7_lay_97 ?_
      refine n_icmp_ge C (pc := 99) (tgt := 157) (by omega) (by decide) dX7_lay_99 (by decide) (fun c_99 => ?_) (fun c_99 => ?_)
      · exact r_vret C (pc := 157) rfl dX7_lay_157 ⟨rfl, rfl, rfl, (by
        have hb12 : b = 12 := by omega
        subst hb12
        refine zwf_lay (fun i hi => ?_) (fun i h1 h2 => ?_)
        · rcases Nat.lt_or_ge i 17 with h | h
          · exact e1 i h
          · rcases Nat.lt_or_ge i 29 with h' | h'
            · obtain ⟨d, rfl⟩ : ∃ d, i = 17 + d := ⟨i - 17, by omega⟩
              rw [e2 d (by omega), layc_v (by omega)]
            · rw [e3 i h' (by omega), if_neg (by omega), layc_hi h']; rfl
        · rw [e3 i (by omega) h2]
          by_cases hc : 86 ≤ i ∧ i < 122
          · rw [if_pos hc, if_pos (by omega)]
          · rw [if_neg hc, if_neg (by omega)]), e4⟩
      · refine r_aload_n C (pc := 102) rfl rfl dX7_lay_102 ?_
        refine r_get C (pc := 103) (ci := 7) (k := 0) (w := .ref (m + 1)) rfl (by decide) inX7 (by decide) q_654 (Or.inl hd0) hs0 (zl_ref _ _) dX7_lay_103 ?_
        refine r_bipush C (pc := 106) (x := (nI 17)) (by decide) dX7_lay_106 ?_
        refine r_iload_n C (pc := 108) rfl rfl dX7_lay_108 ?_
        refine r_iadd C (pc := 109) (z := (nI (17 + b))) (nI_add _ _) dX7_lay_109 ?_
        refine r_bipush C (pc := 110) (x := (nI 10)) (by decide) dX7_lay_110 ?_
        refine r_iload_n C (pc := 112) rfl rfl dX7_lay_112 ?_
        refine r_imul C (pc := 113) (z := (nI (10 * b))) (pk_mul _ _) dX7_lay_113 ?_
        refine r_bipush C (pc := 114) (x := (nI 7)) (by decide) dX7_lay_114 ?_
        refine r_iadd C (pc := 116) (z := (nI ((10 * b) + 7))) (nI_add _ _) dX7_lay_116 ?_
        refine r_iast C (pc := 117) hd1 hs1 (by omega) (by omega) dX7_lay_117 ?_
        refine VV.gn (fun w117 ew117 => ?_)
        refine r_aload_n C (pc := 118) rfl rfl dX7_lay_118 ?_
        refine r_get C (pc := 119) (ci := 7) (k := 0) (w := .ref (m + 1)) rfl (by decide) inX7 (by decide) q_654 (Or.inl hd0) hs0 (zl_ref _ _) dX7_lay_119 ?_
        refine r_bipush C (pc := 122) (x := (nI 86)) (by decide) dX7_lay_122 ?_
        refine r_iload_n C (pc := 124) rfl rfl dX7_lay_124 ?_
        refine r_iadd C (pc := 125) (z := (nI (86 + b))) (nI_add _ _) dX7_lay_125 ?_
        refine r_bipush C (pc := 126) (x := (-9)) (by decide) dX7_lay_126 ?_
        refine r_iast C (pc := 128) hd1 hs1 (by omega) (by omega) dX7_lay_128 ?_
        refine VV.gn (fun w128 ew128 => ?_)
        refine r_aload_n C (pc := 129) rfl rfl dX7_lay_129 ?_
        refine r_get C (pc := 130) (ci := 7) (k := 0) (w := .ref (m + 1)) rfl (by decide) inX7 (by decide) q_654 (Or.inl hd0) hs0 (zl_ref _ _) dX7_lay_130 ?_
        refine r_bipush C (pc := 133) (x := (nI 98)) (by decide) dX7_lay_133 ?_
        refine r_iload_n C (pc := 135) rfl rfl dX7_lay_135 ?_
        refine r_iadd C (pc := 136) (z := (nI (98 + b))) (nI_add _ _) dX7_lay_136 ?_
        refine r_bipush C (pc := 137) (x := (-9)) (by decide) dX7_lay_137 ?_
        refine r_iast C (pc := 139) hd1 hs1 (by omega) (by omega) dX7_lay_139 ?_
        refine VV.gn (fun w139 ew139 => ?_)
        refine r_aload_n C (pc := 140) rfl rfl dX7_lay_140 ?_
        refine r_get C (pc := 141) (ci := 7) (k := 0) (w := .ref (m + 1)) rfl (by decide) inX7 (by decide) q_654 (Or.inl hd0) hs0 (zl_ref _ _) dX7_lay_141 ?_
        refine r_bipush C (pc := 144) (x := (nI 110)) (by decide) dX7_lay_144 ?_
        refine r_iload_n C (pc := 146) rfl rfl dX7_lay_146 ?_
        refine r_iadd C (pc := 147) (z := (nI (110 + b))) (nI_add _ _) dX7_lay_147 ?_
        refine r_bipush C (pc := 148) (x := (-9)) (by decide) dX7_lay_148 ?_
        refine r_iast C (pc := 150) hd1 hs1 (by omega) (by omega) dX7_lay_150 ?_
        refine VV.gn (fun w150 ew150 => ?_)
        refine r_iinc C (pc := 151) (lv2 := [some (.ref m), some (.int (nI K)), some (.int (nI R)), some (.int (nI (b + 1)))]) (y := (nI (b + 1))) rfl (nI_inc _ _) (Nat.le_of_ble_eq_true rfl) rfl rfl dX7_lay_151 ?_
        refine r_goto C (pc := 154) (tgt := 96) dX7_lay_154 (by decide) ?_
        exact ih (b + 1) w150 (by omega) (by omega) (fun j hj => by rw [ew150, z2_ne (by omega), ew139, z2_ne (by omega), ew128, z2_ne (by omega), ew117, z2_ne (by omega)]; exact e1 j hj) (fun j hj => by
          rw [ew150, z2_ne (by omega), ew139, z2_ne (by omega), ew128, z2_ne (by omega), ew117]
          by_cases hjb : j = b
          · subst hjb; rw [z2_self]
          · rw [z2_ne (by omega)]; exact e2 j (by omega)) (fun j h1 h2 => by
          rw [ew150]
          by_cases g1 : j = 110 + b
          · subst g1; rw [z2_self, if_pos (by omega)]
          · rw [z2_ne (by omega), ew139]
            by_cases g2 : j = 98 + b
            · subst g2; rw [z2_self, if_pos (by omega)]
            · rw [z2_ne (by omega), ew128]
              by_cases g3 : j = 86 + b
              · subst g3; rw [z2_self, if_pos (by omega)]
              · rw [z2_ne (by omega), ew117, z2_ne (by omega), e3 j h1 h2]
                by_cases hc : (86 ≤ j ∧ j < 86 + b) ∨ (98 ≤ j ∧ j < 98 + b) ∨ (110 ≤ j ∧ j < 110 + b)
                · rw [if_pos hc, if_pos (by omega)]
                · rw [if_neg hc, if_neg (by omega)]) (by rw [ew150, ew139, ew128, ew117]; exact (((e4.z2).z2).z2).z2)
  have phase3 : ∀ v' : zV, (∀ j, j < 17 → v' (m + 1) j = nI (layc M.1 K R j)) → (∀ j, 29 ≤ j → j < 165 → v' (m + 1) j = 0) → fA v v' m → VV p l e ({ frames := 0, cells := 0, slots := 0, locals := 32 * 0 }) s mi args below meth c 0 0 (zQ below (fun r sh1 v1 N1 => sh1 = sh ∧ N1 = N ∧ (r = none ∧ zwf (v1 (m + 1)) (layM M K R) ∧ fA v v1 m)) G args s 0 0) G 4 sh v' N 94 [some (.ref m), some (.int (nI K)), some (.int (nI R)), none] [] := by
    intro v' e1 e2 e3
    refine r_iconst C (pc := 94) (x := (nI 0)) (by decide) dX7_lay_94 ?_
    refine r_istore_n C (pc := 95) (lv2 := [some (.ref m), some (.int (nI K)), some (.int (nI R)), some (.int (nI 0))]) rfl (Nat.le_of_ble_eq_true rfl) rfl rfl dX7_lay_95 ?_
    exact loop3 13 0 v' (by omega) (by omega) e1 (fun j hj => absurd hj (Nat.not_lt_zero j)) (fun j h1 h2 => by rw [e2 j h1 h2, if_neg (by omega)]) e3
  have loop2 : ∀ (n b : Nat) (v' : zV), 165 - b < n → 29 ≤ b → b ≤ 165 → (∀ j, j < 17 → v' (m + 1) j = nI (layc M.1 K R j)) → (∀ j, 29 ≤ j → j < b → v' (m + 1) j = 0) → fA v v' m → VV p l e ({ frames := 0, cells := 0, slots := 0, locals := 32 * 0 }) s mi args below meth c 0 0 (zQ below (fun r sh1 v1 N1 => sh1 = sh ∧ N1 = N ∧ (r = none ∧ zwf (v1 (m + 1)) (layM M K R) ∧ fA v v1 m)) G args s 0 0) G 4 sh v' N 74 [some (.ref m), some (.int (nI K)), some (.int (nI R)), some (.int (nI b))] [] := by
    intro n
    induction n with
    | zero => intro b v' hm; omega
    | succ n ih =>
      intro b v' hm hb1 hb e1 e2 e3
      refine r_iload_n C (pc := 74) rfl rfl dX7_lay_74 ?_
      refine r_sipush C (pc := 75) (x := (nI 165)) (by decide) dX7_lay_75 ?_
      refine n_icmp_ge C (pc := 78) (tgt := 94) (by omega) (by decide) dX7_lay_78 (by decide) (fun c_78 => ?_) (fun c_78 => ?_)
      · obtain rfl : b = 165 := by omega
        refine VV.fg 3 (lv2 := [some (.ref m), some (.int (nI K)), some (.int (nI R)), none]) rfl ?_
        exact phase3 v' e1 e2 e3
      · refine r_aload_n C (pc := 81) rfl rfl dX7_lay_81 ?_
        refine r_get C (pc := 82) (ci := 7) (k := 0) (w := .ref (m + 1)) rfl (by decide) inX7 (by decide) q_654 (Or.inl hd0) hs0 (zl_ref _ _) dX7_lay_82 ?_
        refine r_iload_n C (pc := 85) rfl rfl dX7_lay_85 ?_
        refine r_iconst C (pc := 86) (x := (nI 0)) (by decide) dX7_lay_86 ?_
        refine r_iast C (pc := 87) hd1 hs1 (by omega) (by omega) dX7_lay_87 ?_
        refine VV.gn (fun w87 ew87 => ?_)
        refine r_iinc C (pc := 88) (lv2 := [some (.ref m), some (.int (nI K)), some (.int (nI R)), some (.int (nI (b + 1)))]) (y := (nI (b + 1))) rfl (nI_inc _ _) (Nat.le_of_ble_eq_true rfl) rfl rfl dX7_lay_88 ?_
        refine r_goto C (pc := 91) (tgt := 74) dX7_lay_91 (by decide) ?_
        exact ih (b + 1) w87 (by omega) (by omega) (by omega) (fun j hj => by rw [ew87, z2_ne (by omega)]; exact e1 j hj) (fun j hj1 hj2 => by
          rw [ew87]
          by_cases hjb : j = b
          · subst hjb; rw [z2_self]; rfl
          · rw [z2_ne (by omega)]; exact e2 j hj1 (by omega)) (by rw [ew87]; exact e3.z2)
  have phase2 : ∀ v' : zV, (∀ j, j < 17 → v' (m + 1) j = if 7 ≤ j ∧ j < 7 + 4 then nI (layc M.1 K R j) else v (m + 1) j) → fA v v' m → VV p l e ({ frames := 0, cells := 0, slots := 0, locals := 32 * 0 }) s mi args below meth c 0 0 (zQ below (fun r sh1 v1 N1 => sh1 = sh ∧ N1 = N ∧ (r = none ∧ zwf (v1 (m + 1)) (layM M K R) ∧ fA v v1 m)) G args s 0 0) G 4 sh v' N 50 [some (.ref m), some (.int (nI K)), some (.int (nI R)), some (.int (nI 4))] [] := by
    intro v' e1 e2
    refine r_aload_n C (pc := 50) rfl rfl dX7_lay_50 ?_
    refine r_get C (pc := 51) (ci := 7) (k := 0) (w := .ref (m + 1)) rfl (by decide) inX7 (by decide) q_654 (Or.inl hd0) hs0 (zl_ref _ _) dX7_lay_51 ?_
    refine r_iconst C (pc := 54) (x := (nI 0)) (by decide) dX7_lay_54 ?_
    refine r_iload_n C (pc := 55) rfl rfl dX7_lay_55 ?_
    refine r_iast C (pc := 56) hd1 hs1 (by omega) (by omega) dX7_lay_56 ?_
    refine VV.gn (fun w56 ew56 => ?_)
    refine r_aload_n C (pc := 57) rfl rfl dX7_lay_57 ?_
    refine r_get C (pc := 58) (ci := 7) (k := 0) (w := .ref (m + 1)) rfl (by decide) inX7 (by decide) q_654 (Or.inl hd0) hs0 (zl_ref _ _) dX7_lay_58 ?_
    refine r_iconst C (pc := 61) (x := (nI 1)) (by decide) dX7_lay_61 ?_
    refine r_iload_n C (pc := 62) rfl rfl dX7_lay_62 ?_
    refine r_iast C (pc := 63) hd1 hs1 (by omega) (by omega) dX7_lay_63 ?_
    refine VV.gn (fun w63 ew63 => ?_)
    refine r_aload_n C (pc := 64) rfl rfl dX7_lay_64 ?_
    refine r_get C (pc := 65) (ci := 7) (k := 0) (w := .ref (m + 1)) rfl (by decide) inX7 (by decide) q_654 (Or.inl hd0) hs0 (zl_ref _ _) dX7_lay_65 ?_
    refine r_iconst C (pc := 68) (x := (nI 2)) (by decide) dX7_lay_68 ?_
    refine r_iconst C (pc := 69) (x := (nI 0)) (by decide) dX7_lay_69 ?_
    refine r_iast C (pc := 70) hd1 hs1 (by omega) (by omega) dX7_lay_70 ?_
    refine VV.gn (fun w70 ew70 => ?_)
    refine r_bipush C (pc := 71) (x := (nI 29)) (by decide) dX7_lay_71 ?_
    refine r_istore_n C (pc := 73) (lv2 := [some (.ref m), some (.int (nI K)), some (.int (nI R)), some (.int (nI 29))]) rfl (Nat.le_of_ble_eq_true rfl) rfl rfl dX7_lay_73 ?_
    exact loop2 137 29 w70 (by omega) (by omega) (by omega) (fun j hj => by
      rw [ew70, layc_lo hj]
      by_cases g2 : j = 2
      · subst g2; rw [z2_self, if_neg (by omega), if_neg (by omega), if_pos rfl]
      · rw [z2_ne (by omega), ew63]
        by_cases g1 : j = 1
        · subst g1; rw [z2_self, if_neg (by omega), if_pos rfl]
        · rw [z2_ne (by omega), ew56]
          by_cases g0 : j = 0
          · subst g0; rw [z2_self, if_pos rfl]
          · rw [z2_ne (by omega), if_neg g0, if_neg g1, if_neg g2, e1 j hj]
            by_cases hc : 7 ≤ j ∧ j < 11
            · rw [if_pos hc, if_pos hc, layc_lo hj, if_neg g0, if_neg g1, if_neg g2, if_pos hc]
            · rw [if_neg hc, if_neg hc]; exact hv.1 j (by omega)) (fun j h1 h2 => by omega) (by rw [ew70, ew63, ew56]; exact ((e2.z2).z2).z2)
  have loop1 : ∀ (n b : Nat) (v' : zV), 4 - b < n → b ≤ 4 → (∀ j, j < 17 → v' (m + 1) j = if 7 ≤ j ∧ j < 7 + b then nI (layc M.1 K R j) else v (m + 1) j) → fA v v' m → VV p l e ({ frames := 0, cells := 0, slots := 0, locals := 32 * 0 }) s mi args below meth c 0 0 (zQ below (fun r sh1 v1 N1 => sh1 = sh ∧ N1 = N ∧ (r = none ∧ zwf (v1 (m + 1)) (layM M K R) ∧ fA v v1 m)) G args s 0 0) G 4 sh v' N 2 [some (.ref m), some (.int (nI K)), some (.int (nI R)), some (.int (nI b))] [] := by
    intro n
    induction n with
    | zero => intro b v' hm; omega
    | succ n ih =>
      intro b v' hm hb e1 e2
      refine r_iload_n C (pc := 2) rfl rfl dX7_lay_2 ?_
      refine r_iconst C (pc := 3) (x := (nI 4)) (by decide) dX7_lay_3 ?_
      refine n_icmp_ge C (pc := 4) (tgt := 50) (by omega) (by decide) dX7_lay_4 (by decide) (fun c_4 => ?_) (fun c_4 => ?_)
      · obtain rfl : b = 4 := by omega
        exact phase2 v' e1 e2
      · refine r_aload_n C (pc := 7) rfl rfl dX7_lay_7 ?_
        refine r_get C (pc := 8) (ci := 7) (k := 0) (w := .ref (m + 1)) rfl (by decide) inX7 (by decide) q_654 (Or.inl hd0) hs0 (zl_ref _ _) dX7_lay_8 ?_
        refine r_bipush C (pc := 11) (x := (nI 7)) (by decide) dX7_lay_11 ?_
        refine r_iload_n C (pc := 13) rfl rfl dX7_lay_13 ?_
        refine r_iadd C (pc := 14) (z := (nI (7 + b))) (nI_add _ _) dX7_lay_14 ?_
        refine r_iload_n C (pc := 15) rfl rfl dX7_lay_15 ?_
        refine r_aload_n C (pc := 16) rfl rfl dX7_lay_16 ?_
        refine r_get C (pc := 17) (ci := 7) (k := 0) (w := .ref (m + 1)) rfl (by decide) inX7 (by decide) q_654 (Or.inl hd0) hs0 (zl_ref _ _) dX7_lay_17 ?_
        refine r_iconst C (pc := 20) (x := (nI 1)) (by decide) dX7_lay_20 ?_
        refine r_iald C (pc := 21) (x := (nI (M.1 1))) (Or.inl hd1) hs1 (by omega) (by omega) (by rw [e1 1 (by decide), if_neg (by omega)]; exact hv.1 1 (by decide)) dX7_lay_21 ?_
        refine n_icmp_gt C (pc := 22) (tgt := 42) (by omega) (by omega) dX7_lay_22 (by decide) (fun c_22 => ?_) (fun c_22 => ?_)
        · refine r_iconst C (pc := 42) (x := (nI 0)) (by decide) dX7_lay_42 ?_
          refine r_iast C (pc := 43) hd1 hs1 (by omega) (by omega) dX7_lay_43 ?_
          refine VV.gn (fun w43 ew43 => ?_)
          refine r_iinc C (pc := 44) (lv2 := [some (.ref m), some (.int (nI K)), some (.int (nI R)), some (.int (nI (b + 1)))]) (y := (nI (b + 1))) rfl (nI_inc _ _) (Nat.le_of_ble_eq_true rfl) rfl rfl dX7_lay_44 ?_
          refine r_goto C (pc := 47) (tgt := 2) dX7_lay_47 (by decide) ?_
          refine ih (b + 1) w43 (by omega) (by omega) (fun j hj => ?_) (by rw [ew43]; exact e2.z2)
          rw [ew43]
          by_cases hjb : j = 7 + b
          · subst hjb
            rw [z2_self, if_pos (by omega)]
            rw [layc_l (by omega), if_neg (by omega)]
          · rw [z2_ne (by omega), e1 j hj]
            by_cases hc : 7 ≤ j ∧ j < 7 + b
            · rw [if_pos hc, if_pos (by omega)]
            · rw [if_neg hc, if_neg (by omega)]
        · refine r_iload_n C (pc := 25) rfl rfl dX7_lay_25 ?_
          refine r_iload_n C (pc := 26) rfl rfl dX7_lay_26 ?_
          refine n_icmp_gt C (pc := 27) (tgt := 42) (by omega) (by omega) dX7_lay_27 (by decide) (fun c_27 => ?_) (fun c_27 => ?_)
          · refine r_iconst C (pc := 42) (x := (nI 0)) (by decide) dX7_lay_42 ?_
            refine r_iast C (pc := 43) hd1 hs1 (by omega) (by omega) dX7_lay_43 ?_
            refine VV.gn (fun w43 ew43 => ?_)
            refine r_iinc C (pc := 44) (lv2 := [some (.ref m), some (.int (nI K)), some (.int (nI R)), some (.int (nI (b + 1)))]) (y := (nI (b + 1))) rfl (nI_inc _ _) (Nat.le_of_ble_eq_true rfl) rfl rfl dX7_lay_44 ?_
            refine r_goto C (pc := 47) (tgt := 2) dX7_lay_47 (by decide) ?_
            refine ih (b + 1) w43 (by omega) (by omega) (fun j hj => ?_) (by rw [ew43]; exact e2.z2)
            rw [ew43]
            by_cases hjb : j = 7 + b
            · subst hjb
              rw [z2_self, if_pos (by omega)]
              rw [layc_l (by omega), if_neg (by omega)]
            · rw [z2_ne (by omega), e1 j hj]
              by_cases hc : 7 ≤ j ∧ j < 7 + b
              · rw [if_pos hc, if_pos (by omega)]
              · rw [if_neg hc, if_neg (by omega)]
          · refine r_aload_n C (pc := 30) rfl rfl dX7_lay_30 ?_
            refine r_get C (pc := 31) (ci := 7) (k := 0) (w := .ref (m + 1)) rfl (by decide) inX7 (by decide) q_654 (Or.inl hd0) hs0 (zl_ref _ _) dX7_lay_31 ?_
            refine r_bipush C (pc := 34) (x := (nI 7)) (by decide) dX7_lay_34 ?_
            refine r_iload_n C (pc := 36) rfl rfl dX7_lay_36 ?_
            refine r_iadd C (pc := 37) (z := (nI (7 + b))) (nI_add _ _) dX7_lay_37 ?_
            refine r_iald C (pc := 38) (x := (nI (M.1 (7 + b)))) (Or.inl hd1) hs1 (by omega) (by omega) (by rw [e1 _ (by omega), if_neg (by omega)]; exact hv.1 (7 + b) (by omega)) dX7_lay_38 ?_
            refine r_goto C (pc := 39) (tgt := 43) dX7_lay_39 (by decide) ?_
            refine r_iast C (pc := 43) hd1 hs1 (by omega) (by omega) dX7_lay_43 ?_
            refine VV.gn (fun w43 ew43 => ?_)
            refine r_iinc C (pc := 44) (lv2 := [some (.ref m), some (.int (nI K)), some (.int (nI R)), some (.int (nI (b + 1)))]) (y := (nI (b + 1))) rfl (nI_inc _ _) (Nat.le_of_ble_eq_true rfl) rfl rfl dX7_lay_44 ?_
            refine r_goto C (pc := 47) (tgt := 2) dX7_lay_47 (by decide) ?_
            refine ih (b + 1) w43 (by omega) (by omega) (fun j hj => ?_) (by rw [ew43]; exact e2.z2)
            rw [ew43]
            by_cases hjb : j = 7 + b
            · subst hjb
              rw [z2_self, if_pos (by omega)]
              rw [layc_l (by omega), if_pos ⟨by omega, by omega⟩]
            · rw [z2_ne (by omega), e1 j hj]
              by_cases hc : 7 ≤ j ∧ j < 7 + b
              · rw [if_pos hc, if_pos (by omega)]
              · rw [if_neg hc, if_neg (by omega)]
  refine r_iconst C (pc := 0) (x := (nI 0)) (by decide) dX7_lay_0 ?_
  refine r_istore_n C (pc := 1) (lv2 := [some (.ref m), some (.int (nI K)), some (.int (nI R)), some (.int (nI 0))]) rfl (Nat.le_of_ble_eq_true rfl) rfl rfl dX7_lay_1 ?_
  exact loop1 5 0 v (by omega) (by omega) (fun j hj => by rw [if_neg (by omega)]) fA.rf
set_option maxRecDepth 100000 in
set_option maxHeartbeats 4000000 in
theorem m_X7_hold (l : Launch) (G : zG) (sh : zH) (v : zV) (N : Nat) {m : Nat} (hp : zMD G sh N m) : zm l G yX7_hold cX7_hold 2 none 0 [.ref m] sh v N (fun r v1 => r = none ∧ (∀ j, j < 165 → v1 (m + 8) j = v (m + 1) j) ∧ ∀ b, b ≠ m + 8 → v1 b = v b) := by
  refine zM.of (by decide) rfl (Nat.le_of_ble_eq_true rfl) ?_
  intro p e s mi args below meth c C
  obtain ⟨hB, hN, hs0, hs1, hs2, hs3, hs4, hs5, hs6, hs7, hs8⟩ := id hp
  have hd0 : G.2.2.1 ≤ m ∧ m < N := ⟨hB, by omega⟩
  have hd1 : G.2.2.1 ≤ m + 1 ∧ m + 1 < N := ⟨by omega, by omega⟩
  have hd2 : G.2.2.1 ≤ m + 2 ∧ m + 2 < N := ⟨by omega, by omega⟩
  have hd3 : G.2.2.1 ≤ m + 3 ∧ m + 3 < N := ⟨by omega, by omega⟩
  have hd4 : G.2.2.1 ≤ m + 4 ∧ m + 4 < N := ⟨by omega, by omega⟩
  have hd5 : G.2.2.1 ≤ m + 5 ∧ m + 5 < N := ⟨by omega, by omega⟩
  have hd6 : G.2.2.1 ≤ m + 6 ∧ m + 6 < N := ⟨by omega, by omega⟩
  have hd7 : G.2.2.1 ≤ m + 7 ∧ m + 7 < N := ⟨by omega, by omega⟩
  have hd8 : G.2.2.1 ≤ m + 8 ∧ m + 8 < N := ⟨by omega, by omega⟩
  have loop : ∀ (n k : Nat) (v' : zV), 165 - k < n → k ≤ 165 → (∀ j, j < k → v' (m + 8) j = v (m + 1) j) → (∀ b, b ≠ m + 8 → v' b = v b) → VV p l e ({ frames := 0, cells := 0, slots := 0, locals := 32 * 0 }) s mi args below meth c 0 0 (zQ below (fun r sh1 v1 N1 => sh1 = sh ∧ N1 = N ∧ (r = none ∧ (∀ j, j < 165 → v1 (m + 8) j = v (m + 1) j) ∧ ∀ b, b ≠ m + 8 → v1 b = v b)) G args s 0 0) G 2 sh v' N 2 [some (.ref m), some (.int (nI k))] [] := by
    intro n
    induction n with
    | zero => intro k v' hm; omega
    | succ n ih =>
      intro k v' hm hk e1 e2
      refine r_iload_n C (pc := 2) rfl rfl dX7_hold_2 ?_
      refine r_sipush C (pc := 3) (x := (nI 165)) (by decide) dX7_hold_3 ?_
      refine n_icmp_ge C (pc := 6) (tgt := 27) (by omega) (by omega) dX7_hold_6 (by decide) (fun c_6 => ?_) (fun c_6 => ?_)
      · exact r_vret C (pc := 27) rfl dX7_hold_27 ⟨rfl, rfl, rfl, (fun j hj => e1 j (by omega)), e2⟩
      · refine r_aload_n C (pc := 9) rfl rfl dX7_hold_9 ?_
        refine r_get C (pc := 10) (ci := 7) (k := 13) (w := .ref (m + 8)) rfl (by decide) inX7 (by decide) q_667 (Or.inl hd0) hs0 (zl_ref _ _) dX7_hold_10 ?_
        refine r_iload_n C (pc := 13) rfl rfl dX7_hold_13 ?_
        refine r_aload_n C (pc := 14) rfl rfl dX7_hold_14 ?_
        refine r_get C (pc := 15) (ci := 7) (k := 0) (w := .ref (m + 1)) rfl (by decide) inX7 (by decide) q_654 (Or.inl hd0) hs0 (zl_ref _ _) dX7_hold_15 ?_
        refine r_iload_n C (pc := 18) rfl rfl dX7_hold_18 ?_
        refine r_iald C (pc := 19) (x := (v (m + 1) k)) (Or.inl hd1) hs1 (by omega) (by omega) (by rw [e2 _ (by omega)]) dX7_hold_19 ?_
        refine r_iast C (pc := 20) hd8 hs8 (by omega) (by omega) dX7_hold_20 ?_
        refine VV.gn (fun w20 ew20 => ?_)
        refine r_iinc C (pc := 21) (lv2 := [some (.ref m), some (.int (nI (k + 1)))]) (y := (nI (k + 1))) rfl (nI_inc _ _) (Nat.le_of_ble_eq_true rfl) rfl rfl dX7_hold_21 ?_
        refine r_goto C (pc := 24) (tgt := 2) dX7_hold_24 (by decide) ?_
        exact ih (k + 1) w20 (by omega) (by omega) (fun j hj => by
          rw [ew20]
          by_cases hjk : j = k
          · subst hjk; rw [z2_self]
          · rw [z2_ne (by omega)]; exact e1 j (by omega)) (fun b hb => by rw [ew20, z2_addr hb]; exact e2 b hb)
  refine r_iconst C (pc := 0) (x := (nI 0)) (by decide) dX7_hold_0 ?_
  refine r_istore_n C (pc := 1) (lv2 := [some (.ref m), some (.int (nI 0))]) rfl (Nat.le_of_ble_eq_true rfl) rfl rfl dX7_hold_1 ?_
  exact loop 166 0 v (by omega) (by omega) (fun j hj => absurd hj (Nat.not_lt_zero j)) (fun _ _ => rfl)
set_option maxRecDepth 100000 in
set_option maxHeartbeats 4000000 in
theorem m_X7_release (l : Launch) (G : zG) (sh : zH) (v : zV) (N : Nat) {m : Nat} (hp : zMD G sh N m) : zm l G yX7_release cX7_release 2 none 0 [.ref m] sh v N (fun r v1 => r = none ∧ (∀ j, j < 165 → v1 (m + 1) j = v (m + 8) j) ∧ ∀ b, b ≠ m + 1 → v1 b = v b) := by
  refine zM.of (by decide) rfl (Nat.le_of_ble_eq_true rfl) ?_
  intro p e s mi args below meth c C
  obtain ⟨hB, hN, hs0, hs1, hs2, hs3, hs4, hs5, hs6, hs7, hs8⟩ := id hp
  have hd0 : G.2.2.1 ≤ m ∧ m < N := ⟨hB, by omega⟩
  have hd1 : G.2.2.1 ≤ m + 1 ∧ m + 1 < N := ⟨by omega, by omega⟩
  have hd2 : G.2.2.1 ≤ m + 2 ∧ m + 2 < N := ⟨by omega, by omega⟩
  have hd3 : G.2.2.1 ≤ m + 3 ∧ m + 3 < N := ⟨by omega, by omega⟩
  have hd4 : G.2.2.1 ≤ m + 4 ∧ m + 4 < N := ⟨by omega, by omega⟩
  have hd5 : G.2.2.1 ≤ m + 5 ∧ m + 5 < N := ⟨by omega, by omega⟩
  have hd6 : G.2.2.1 ≤ m + 6 ∧ m + 6 < N := ⟨by omega, by omega⟩
  have hd7 : G.2.2.1 ≤ m + 7 ∧ m + 7 < N := ⟨by omega, by omega⟩
  have hd8 : G.2.2.1 ≤ m + 8 ∧ m + 8 < N := ⟨by omega, by omega⟩
  have loop : ∀ (n k : Nat) (v' : zV), 165 - k < n → k ≤ 165 → (∀ j, j < k → v' (m + 1) j = v (m + 8) j) → (∀ b, b ≠ m + 1 → v' b = v b) → VV p l e ({ frames := 0, cells := 0, slots := 0, locals := 32 * 0 }) s mi args below meth c 0 0 (zQ below (fun r sh1 v1 N1 => sh1 = sh ∧ N1 = N ∧ (r = none ∧ (∀ j, j < 165 → v1 (m + 1) j = v (m + 8) j) ∧ ∀ b, b ≠ m + 1 → v1 b = v b)) G args s 0 0) G 2 sh v' N 2 [some (.ref m), some (.int (nI k))] [] := by
    intro n
    induction n with
    | zero => intro k v' hm; omega
    | succ n ih =>
      intro k v' hm hk e1 e2
      refine r_iload_n C (pc := 2) rfl rfl dX7_release_2 ?_
      refine r_sipush C (pc := 3) (x := (nI 165)) (by decide) dX7_release_3 ?_
      refine n_icmp_ge C (pc := 6) (tgt := 27) (by omega) (by omega) dX7_release_6 (by decide) (fun c_6 => ?_) (fun c_6 => ?_)
      · exact r_vret C (pc := 27) rfl dX7_release_27 ⟨rfl, rfl, rfl, (fun j hj => e1 j (by omega)), e2⟩
      · refine r_aload_n C (pc := 9) rfl rfl dX7_release_9 ?_
        refine r_get C (pc := 10) (ci := 7) (k := 0) (w := .ref (m + 1)) rfl (by decide) inX7 (by decide) q_654 (Or.inl hd0) hs0 (zl_ref _ _) dX7_release_10 ?_
        refine r_iload_n C (pc := 13) rfl rfl dX7_release_13 ?_
        refine r_aload_n C (pc := 14) rfl rfl dX7_release_14 ?_
        refine r_get C (pc := 15) (ci := 7) (k := 13) (w := .ref (m + 8)) rfl (by decide) inX7 (by decide) q_667 (Or.inl hd0) hs0 (zl_ref _ _) dX7_release_15 ?_
        refine r_iload_n C (pc := 18) rfl rfl dX7_release_18 ?_
        refine r_iald C (pc := 19) (x := (v (m + 8) k)) (Or.inl hd8) hs8 (by omega) (by omega) (by rw [e2 _ (by omega)]) dX7_release_19 ?_
        refine r_iast C (pc := 20) hd1 hs1 (by omega) (by omega) dX7_release_20 ?_
        refine VV.gn (fun w20 ew20 => ?_)
        refine r_iinc C (pc := 21) (lv2 := [some (.ref m), some (.int (nI (k + 1)))]) (y := (nI (k + 1))) rfl (nI_inc _ _) (Nat.le_of_ble_eq_true rfl) rfl rfl dX7_release_21 ?_
        refine r_goto C (pc := 24) (tgt := 2) dX7_release_24 (by decide) ?_
        exact ih (k + 1) w20 (by omega) (by omega) (fun j hj => by
          rw [ew20]
          by_cases hjk : j = k
          · subst hjk; rw [z2_self]
          · rw [z2_ne (by omega)]; exact e1 j (by omega)) (fun b hb => by rw [ew20, z2_addr hb]; exact e2 b hb)
  refine r_iconst C (pc := 0) (x := (nI 0)) (by decide) dX7_release_0 ?_
  refine r_istore_n C (pc := 1) (lv2 := [some (.ref m), some (.int (nI 0))]) rfl (Nat.le_of_ble_eq_true rfl) rfl rfl dX7_release_1 ?_
  exact loop 166 0 v (by omega) (by omega) (fun j hj => absurd hj (Nat.not_lt_zero j)) (fun _ _ => rfl)
set_option maxRecDepth 100000 in
set_option maxHeartbeats 4000000 in
theorem m_X7_remember (l : Launch) (G : zG) (sh : zH) (v : zV) (N : Nat) {m : Nat} {M : zMS} {h : zHs} (hp : zMD G sh N m) (hv : zwf (v (m + 1)) M) (hh : zmh v m h) : zm l G yX7_remember cX7_remember 2 none 0 [.ref m] sh v N (fun r v1 => r = none ∧ zmh v1 m (remH M h) ∧ v1 (m + 1) = v (m + 1) ∧ zfr v v1 m 9) := by
  refine zM.of (by decide) rfl (Nat.le_of_ble_eq_true rfl) ?_
  intro p e s mi args below meth c C
  obtain ⟨hB, hN, hs0, hs1, hs2, hs3, hs4, hs5, hs6, hs7, hs8⟩ := id hp
  have hd0 : G.2.2.1 ≤ m ∧ m < N := ⟨hB, by omega⟩
  have hd1 : G.2.2.1 ≤ m + 1 ∧ m + 1 < N := ⟨by omega, by omega⟩
  have hd2 : G.2.2.1 ≤ m + 2 ∧ m + 2 < N := ⟨by omega, by omega⟩
  have hd3 : G.2.2.1 ≤ m + 3 ∧ m + 3 < N := ⟨by omega, by omega⟩
  have hd4 : G.2.2.1 ≤ m + 4 ∧ m + 4 < N := ⟨by omega, by omega⟩
  have hd5 : G.2.2.1 ≤ m + 5 ∧ m + 5 < N := ⟨by omega, by omega⟩
  have hd6 : G.2.2.1 ≤ m + 6 ∧ m + 6 < N := ⟨by omega, by omega⟩
  have hd7 : G.2.2.1 ≤ m + 7 ∧ m + 7 < N := ⟨by omega, by omega⟩
  have hd8 : G.2.2.1 ≤ m + 8 ∧ m + 8 < N := ⟨by omega, by omega⟩
  have hn8 := hh.2.1
  have phase2 : ∀ (q : Nat) (u : zV), q < 8 → u m 2 = nI q → u (m + 1) = v (m + 1) → (∀ w : zV, w m 2 = nI (q + 1) → w m 4 = u m 4 → (∀ j, j < 165 → w (m + 2) (165 * q + j) = v (m + 1) j) → (∀ j, (j < 165 * q ∨ 165 * q + 165 ≤ j) → w (m + 2) j = u (m + 2) j) → (∀ b, b ≠ m → b ≠ m + 2 → w b = u b) → zmh w m (remH M h) ∧ w (m + 1) = v (m + 1) ∧ zfr v w m 9) → VV p l e ({ frames := 0, cells := 0, slots := 0, locals := 32 * 0 }) s mi args below meth c 0 0 (zQ below (fun r sh1 v1 N1 => sh1 = sh ∧ N1 = N ∧ (r = none ∧ zmh v1 m (remH M h) ∧ v1 (m + 1) = v (m + 1) ∧ zfr v v1 m 9)) G args s 0 0) G 2 sh u N 50 [some (.ref m), none] [] := by
    intro q u hq8 hq hu1 hfin
    have loop2 : ∀ (n k : Nat) (v' : zV), 165 - k < n → k ≤ 165 → (∀ j, j < k → v' (m + 2) (165 * q + j) = v (m + 1) j) → (∀ b, b ≠ m + 2 → v' b = u b) → (∀ j, (j < 165 * q ∨ 165 * q + 165 ≤ j) → v' (m + 2) j = u (m + 2) j) → VV p l e ({ frames := 0, cells := 0, slots := 0, locals := 32 * 0 }) s mi args below meth c 0 0 (zQ below (fun r sh1 v1 N1 => sh1 = sh ∧ N1 = N ∧ (r = none ∧ zmh v1 m (remH M h) ∧ v1 (m + 1) = v (m + 1) ∧ zfr v v1 m 9)) G args s 0 0) G 2 sh v' N 52 [some (.ref m), some (.int (nI k))] [] := by
      intro n
      induction n with
      | zero => intro k v' hm; omega
      | succ n ih =>
        intro k v' hm hk e1 e2 e3
        refine r_iload_n C (pc := 52) rfl rfl dX7_remember_52 ?_
        refine r_sipush C (pc := 53) (x := (nI 165)) (by decide) dX7_remember_53 ?_
        refine n_icmp_ge C (pc := 56) (tgt := 86) (by omega) (by decide) dX7_remember_56 (by decide) (fun c_56 => ?_) (fun c_56 => ?_)
        · refine r_aload_n C (pc := 86) rfl rfl dX7_remember_86 ?_
          refine r_dup C (pc := 87) rfl dX7_remember_87 ?_
          refine r_get C (pc := 88) (ci := 7) (k := 2) (w := .int (nI q)) rfl (by decide) inX7 (by decide) q_656 (Or.inl hd0) hs0 (zl_i (by rw [e2 m (by omega)]; exact hq)) dX7_remember_88 ?_
          refine r_iconst C (pc := 91) (x := (nI 1)) (by decide) dX7_remember_91 ?_
          refine r_iadd C (pc := 92) (z := (nI (q + 1))) (nI_add _ _) dX7_remember_92 ?_
          refine r_put C (pc := 93) (ci := 7) (k := 2) rfl (by decide) inX7 tyX7_ok nmX7 (by decide) rfl pfI rfl q_656 hd0 hs0 dX7_remember_93 ?_
          refine VV.gn (fun w93 ew93 => ?_)
          exact r_vret C (pc := 96) rfl dX7_remember_96 ⟨rfl, rfl, rfl, hfin w93 (by rw [ew93, z2_self]) (by rw [ew93, z2_ne (by omega), e2 m (by omega)]) (by rw [ew93, z2_addr (by omega)]; exact fun j hj => e1 j (by omega)) (by rw [ew93, z2_addr (by omega)]; exact e3) (fun b h1 h2 => by rw [ew93, z2_addr h1]; exact e2 b h2)⟩
        · refine r_aload_n C (pc := 59) rfl rfl dX7_remember_59 ?_
          refine r_get C (pc := 60) (ci := 7) (k := 1) (w := .ref (m + 2)) rfl (by decide) inX7 (by decide) q_655 (Or.inl hd0) hs0 (zl_ref _ _) dX7_remember_60 ?_
          refine r_sipush C (pc := 63) (x := (nI 165)) (by decide) dX7_remember_63 ?_
          refine r_aload_n C (pc := 66) rfl rfl dX7_remember_66 ?_
          refine r_get C (pc := 67) (ci := 7) (k := 2) (w := .int (nI q)) rfl (by decide) inX7 (by decide) q_656 (Or.inl hd0) hs0 (zl_i (by rw [e2 m (by omega)]; exact hq)) dX7_remember_67 ?_
          refine r_imul C (pc := 70) (z := (nI (165 * q))) (pk_mul _ _) dX7_remember_70 ?_
          refine r_iload_n C (pc := 71) rfl rfl dX7_remember_71 ?_
          refine r_iadd C (pc := 72) (z := (nI ((165 * q) + k))) (nI_add _ _) dX7_remember_72 ?_
          refine r_aload_n C (pc := 73) rfl rfl dX7_remember_73 ?_
          refine r_get C (pc := 74) (ci := 7) (k := 0) (w := .ref (m + 1)) rfl (by decide) inX7 (by decide) q_654 (Or.inl hd0) hs0 (zl_ref _ _) dX7_remember_74 ?_
          refine r_iload_n C (pc := 77) rfl rfl dX7_remember_77 ?_
          refine r_iald C (pc := 78) (x := (v (m + 1) k)) (Or.inl hd1) hs1 (by omega) (by omega) (by rw [e2 _ (by omega)]; exact congrFun hu1 k) dX7_remember_78 ?_
          refine r_iast C (pc := 79) hd2 hs2 (by omega) (by omega) dX7_remember_79 ?_
          refine VV.gn (fun w79 ew79 => ?_)
          refine r_iinc C (pc := 80) (lv2 := [some (.ref m), some (.int (nI (k + 1)))]) (y := (nI (k + 1))) rfl (nI_inc _ _) (Nat.le_of_ble_eq_true rfl) rfl rfl dX7_remember_80 ?_
          refine r_goto C (pc := 83) (tgt := 52) dX7_remember_83 (by decide) ?_
          exact ih (k + 1) w79 (by omega) (by omega) (fun j hj => by
            rw [ew79]
            by_cases hjk : j = k
            · subst hjk; rw [z2_self]
            · rw [z2_ne (by omega)]; exact e1 j (by omega)) (fun b hb => by rw [ew79, z2_addr hb]; exact e2 b hb) (fun j hj => by rw [ew79, z2_ne (by omega)]; exact e3 j hj)
    refine r_iconst C (pc := 50) (x := (nI 0)) (by decide) dX7_remember_50 ?_
    refine r_istore_n C (pc := 51) (lv2 := [some (.ref m), some (.int (nI 0))]) rfl (Nat.le_of_ble_eq_true rfl) rfl rfl dX7_remember_51 ?_
    exact loop2 166 0 u (by omega) (by omega) (fun j hj => absurd hj (Nat.not_lt_zero j)) (fun _ _ => rfl) (fun _ _ => rfl)
  refine r_aload_n C (pc := 0) rfl rfl dX7_remember_0 ?_
  refine r_get C (pc := 1) (ci := 7) (k := 2) (w := .int (nI h.1)) rfl (by decide) inX7 (by decide) q_656 (Or.inl hd0) hs0 (zl_i (hh.1)) dX7_remember_1 ?_
  refine r_bipush C (pc := 4) (x := (nI 8)) (by decide) dX7_remember_4 ?_
  refine n_icmp_ne C (pc := 6) (tgt := 50) (by omega) (by decide) dX7_remember_6 (by decide) (fun c_6 => ?_) (fun c_6 => ?_)
  · refine phase2 h.1 v (by omega) hh.1 rfl (fun w g1 g2 g3 g4 g5 => ?_)
    have hrm : remH M h = (h.1 + 1, (fun i => if i = h.1 then M else h.2.1 i), h.2.2) := if_neg c_6
    refine ⟨?_, g5 _ (by omega) (by omega), fun b hb => g5 b (by omega) (by omega)⟩
    rw [hrm]
    refine ⟨g1, by show h.1 + 1 ≤ 8; omega, fun i hi => ?_, by rw [g2]; exact hh.2.2.2.1, by rw [g5 _ (by omega) (by omega)]; exact hh.2.2.2.2⟩
    have hi2 : i < h.1 + 1 := hi
    show zwf _ (if i = h.1 then M else h.2.1 i)
    by_cases hih : i = h.1
    · rw [if_pos hih, hih]
      exact zwf_same hv (fun j hj => g3 j hj)
    · rw [if_neg hih]
      refine zwf_same (hh.2.2.1 i (by omega)) (fun j hj => ?_)
      show w (m + 2) (165 * i + j) = v (m + 2) (165 * i + j)
      exact g4 _ (by omega)
  · have h8 : h.1 = 8 := c_6
    refine r_iconst C (pc := 9) (x := (nI 0)) (by decide) dX7_remember_9 ?_
    refine r_istore_n C (pc := 10) (lv2 := [some (.ref m), some (.int (nI 0))]) rfl (Nat.le_of_ble_eq_true rfl) rfl rfl dX7_remember_10 ?_
    have phase1 : ∀ v' : zV, (∀ j, j < 1155 → v' (m + 2) j = v (m + 2) (j + 165)) → (∀ b, b ≠ m + 2 → v' b = v b) → VV p l e ({ frames := 0, cells := 0, slots := 0, locals := 32 * 0 }) s mi args below meth c 0 0 (zQ below (fun r sh1 v1 N1 => sh1 = sh ∧ N1 = N ∧ (r = none ∧ zmh v1 m (remH M h) ∧ v1 (m + 1) = v (m + 1) ∧ zfr v v1 m 9)) G args s 0 0) G 2 sh v' N 40 [some (.ref m), none] [] := by
      intro v' e1 e3
      refine r_aload_n C (pc := 40) rfl rfl dX7_remember_40 ?_
      refine r_dup C (pc := 41) rfl dX7_remember_41 ?_
      refine r_get C (pc := 42) (ci := 7) (k := 2) (w := .int (nI 8)) rfl (by decide) inX7 (by decide) q_656 (Or.inl hd0) hs0 (zl_i (by rw [e3 m (by omega), hh.1, h8])) dX7_remember_42 ?_
      refine r_iconst C (pc := 45) (x := (nI 1)) (by decide) dX7_remember_45 ?_
      refine r_isub C (pc := 46) (z := (nI 7)) (pk_sub (by omega)) dX7_remember_46 ?_
      refine r_put C (pc := 47) (ci := 7) (k := 2) rfl (by decide) inX7 tyX7_ok nmX7 (by decide) rfl pfI rfl q_656 hd0 hs0 dX7_remember_47 ?_
      refine VV.gn (fun w47 ew47 => ?_)
      refine phase2 7 w47 (by decide) (by rw [ew47, z2_self]) (by rw [ew47, z2_addr (by omega)]; exact e3 _ (by omega)) (fun w g1 g2 g3 g4 g5 => ?_)
      have hrm : remH M h = (8, (fun i => if i < 7 then h.2.1 (i + 1) else M), h.2.2) := if_pos h8
      have hw4 : w m 4 = v m 4 := by rw [g2, ew47, z2_ne (by omega), e3 m (by omega)]
      have hwo : ∀ b, b ≠ m → b ≠ m + 2 → w b = v b := fun b h1 h2 => by rw [g5 b h1 h2, ew47, z2_addr h1, e3 b h2]
      refine ⟨?_, hwo _ (by omega) (by omega), fun b hb => hwo b (by omega) (by omega)⟩
      rw [hrm]
      refine ⟨g1, Nat.le_refl 8, fun i hi => ?_, by rw [hw4]; exact hh.2.2.2.1, by rw [hwo _ (by omega) (by omega)]; exact hh.2.2.2.2⟩
      show zwf _ (if i < 7 then h.2.1 (i + 1) else M)
      by_cases hi7 : i < 7
      · rw [if_pos hi7]
        refine zwf_same (hh.2.2.1 (i + 1) (by omega)) (fun j hj => ?_)
        show w (m + 2) (165 * i + j) = v (m + 2) (165 * (i + 1) + j)
        rw [g4 _ (by omega), ew47, z2_addr (by omega), e1 _ (by omega), show 165 * i + j + 165 = 165 * (i + 1) + j by omega]
      · have hi8 : i < 8 := hi
        obtain rfl : i = 7 := by omega
        rw [if_neg (by omega)]
        exact zwf_same hv (fun j hj => g3 j hj)
    have loop1 : ∀ (n k : Nat) (v' : zV), 1155 - k < n → k ≤ 1155 → (∀ j, j < k → v' (m + 2) j = v (m + 2) (j + 165)) → (∀ j, k ≤ j → v' (m + 2) j = v (m + 2) j) → (∀ b, b ≠ m + 2 → v' b = v b) → VV p l e ({ frames := 0, cells := 0, slots := 0, locals := 32 * 0 }) s mi args below meth c 0 0 (zQ below (fun r sh1 v1 N1 => sh1 = sh ∧ N1 = N ∧ (r = none ∧ zmh v1 m (remH M h) ∧ v1 (m + 1) = v (m + 1) ∧ zfr v v1 m 9)) G args s 0 0) G 2 sh v' N 11 [some (.ref m), some (.int (nI k))] [] := by
      intro n
      induction n with
      | zero => intro k v' hm; omega
      | succ n ih =>
        intro k v' hm hk e1 e2 e3
        refine r_iload_n C (pc := 11) rfl rfl dX7_remember_11 ?_
        refine r_sipush C (pc := 12) (x := (nI 1155)) (by decide) dX7_remember_12 ?_
        refine n_icmp_ge C (pc := 15) (tgt := 40) (by omega) (by decide) dX7_remember_15 (by decide) (fun c_15 => ?_) (fun c_15 => ?_)
        · obtain rfl : k = 1155 := by omega
          refine VV.fg 1 (lv2 := [some (.ref m), none]) rfl ?_
          exact phase1 v' e1 e3
        · refine r_aload_n C (pc := 18) rfl rfl dX7_remember_18 ?_
          refine r_get C (pc := 19) (ci := 7) (k := 1) (w := .ref (m + 2)) rfl (by decide) inX7 (by decide) q_655 (Or.inl hd0) hs0 (zl_ref _ _) dX7_remember_19 ?_
          refine r_iload_n C (pc := 22) rfl rfl dX7_remember_22 ?_
          refine r_aload_n C (pc := 23) rfl rfl dX7_remember_23 ?_
          refine r_get C (pc := 24) (ci := 7) (k := 1) (w := .ref (m + 2)) rfl (by decide) inX7 (by decide) q_655 (Or.inl hd0) hs0 (zl_ref _ _) dX7_remember_24 ?_
          refine r_iload_n C (pc := 27) rfl rfl dX7_remember_27 ?_
          refine r_sipush C (pc := 28) (x := (nI 165)) (by decide) dX7_remember_28 ?_
          refine r_iadd C (pc := 31) (z := (nI (k + 165))) (nI_add _ _) dX7_remember_31 ?_
          refine r_iald C (pc := 32) (x := (v (m + 2) (k + 165))) (Or.inl hd2) hs2 (by omega) (by omega) (by rw [e2 _ (by omega)]) dX7_remember_32 ?_
          refine r_iast C (pc := 33) hd2 hs2 (by omega) (by omega) dX7_remember_33 ?_
          refine VV.gn (fun w33 ew33 => ?_)
          refine r_iinc C (pc := 34) (lv2 := [some (.ref m), some (.int (nI (k + 1)))]) (y := (nI (k + 1))) rfl (nI_inc _ _) (Nat.le_of_ble_eq_true rfl) rfl rfl dX7_remember_34 ?_
          refine r_goto C (pc := 37) (tgt := 11) dX7_remember_37 (by decide) ?_
          exact ih (k + 1) w33 (by omega) (by omega) (fun j hj => by
            rw [ew33]
            by_cases hjk : j = k
            · subst hjk; rw [z2_self]
            · rw [z2_ne (by omega)]; exact e1 j (by omega)) (fun j hj => by rw [ew33, z2_ne (by omega)]; exact e2 j (by omega)) (fun b hb => by rw [ew33, z2_addr hb]; exact e3 b hb)
    exact loop1 1156 0 v (by omega) (by omega) (fun j hj => absurd hj (Nat.not_lt_zero j)) (fun _ _ => rfl) (fun _ _ => rfl)
set_option maxRecDepth 100000 in
set_option maxHeartbeats 4000000 in
theorem m_X7_put (l : Launch) (G : zG) (sh : zH) (v : zV) (N : Nat) {m : Nat} {M : zMS} {h : zHs} {a x : Nat} (hp : zMD G sh N m) (hv : zwf (v (m + 1)) M) (hh : zmh v m h) (ha : a < 165) : zm l G yX7_put cX7_put 4 (some .int) 1 [.ref m, .int (nI a), .int (nI x)] sh v N (fun r v1 => r = some (.int (v (m + 1) a)) ∧ zmh v1 m (remH M h) ∧ v1 (m + 1) = upd (v (m + 1)) a (nI x) ∧ zfr v v1 m 9) := by
  refine zM.of (by decide) rfl (Nat.le_of_ble_eq_true rfl) ?_
  intro p e s mi args below meth c C
  obtain ⟨hB, hN, hs0, hs1, hs2, hs3, hs4, hs5, hs6, hs7, hs8⟩ := id hp
  have hd0 : G.2.2.1 ≤ m ∧ m < N := ⟨hB, by omega⟩
  have hd1 : G.2.2.1 ≤ m + 1 ∧ m + 1 < N := ⟨by omega, by omega⟩
  have hd2 : G.2.2.1 ≤ m + 2 ∧ m + 2 < N := ⟨by omega, by omega⟩
  have hd3 : G.2.2.1 ≤ m + 3 ∧ m + 3 < N := ⟨by omega, by omega⟩
  have hd4 : G.2.2.1 ≤ m + 4 ∧ m + 4 < N := ⟨by omega, by omega⟩
  have hd5 : G.2.2.1 ≤ m + 5 ∧ m + 5 < N := ⟨by omega, by omega⟩
  have hd6 : G.2.2.1 ≤ m + 6 ∧ m + 6 < N := ⟨by omega, by omega⟩
  have hd7 : G.2.2.1 ≤ m + 7 ∧ m + 7 < N := ⟨by omega, by omega⟩
  have hd8 : G.2.2.1 ≤ m + 8 ∧ m + 8 < N := ⟨by omega, by omega⟩
  refine r_aload_n C (pc := 0) rfl rfl dX7_put_0 ?_
  refine r_callV C (pc := 1) (st := []) (m_X7_remember l G sh v N hp hv hh) kyX7_remember q_704 rfl (Or.inl hd0) hs0 (by decide) rfl rfl rfl (Nat.le_of_ble_eq_true rfl) ⟨Nat.le_of_ble_eq_true rfl, Nat.le_of_ble_eq_true rfl⟩ ⟨Nat.le_of_ble_eq_true rfl, Nat.le_of_ble_eq_true rfl⟩ dX7_put_1 (fun r1 v1 hp1 => ?_)
  obtain ⟨rfl, g1, g2, g3⟩ := hp1
  refine VV.eq (st2 := []) rfl ?_
  refine r_aload_n C (pc := 4) rfl rfl dX7_put_4 ?_
  refine r_get C (pc := 5) (ci := 7) (k := 0) (w := .ref (m + 1)) rfl (by decide) inX7 (by decide) q_654 (Or.inl hd0) hs0 (zl_ref _ _) dX7_put_5 ?_
  refine r_iload_n C (pc := 8) rfl rfl dX7_put_8 ?_
  refine r_iald C (pc := 9) (x := (v (m + 1) a)) (Or.inl hd1) hs1 (by omega) (by omega) (by rw [g2]) dX7_put_9 ?_
  refine r_istore_n C (pc := 10) (lv2 := [some (.ref m), some (.int (nI a)), some (.int (nI x)), some (.int (v (m + 1) a))]) rfl (Nat.le_of_ble_eq_true rfl) rfl rfl dX7_put_10 ?_
  refine r_aload_n C (pc := 11) rfl rfl dX7_put_11 ?_
  refine r_get C (pc := 12) (ci := 7) (k := 0) (w := .ref (m + 1)) rfl (by decide) inX7 (by decide) q_654 (Or.inl hd0) hs0 (zl_ref _ _) dX7_put_12 ?_
  refine r_iload_n C (pc := 15) rfl rfl dX7_put_15 ?_
  refine r_iload_n C (pc := 16) rfl rfl dX7_put_16 ?_
  refine r_iast C (pc := 17) hd1 hs1 (by omega) (by omega) dX7_put_17 ?_
  refine VV.gn (fun w17 ew17 => ?_)
  refine r_iload_n C (pc := 18) rfl rfl dX7_put_18 ?_
  exact r_iret C (pc := 19) rfl (rfl) dX7_put_19 ⟨rfl, rfl, rfl, (g1.kept (by rw [ew17, z2_addr (by omega)]) (by rw [ew17, z2_addr (by omega)]) (by rw [ew17, z2_addr (by omega)]) (by rw [ew17, z2_addr (by omega)])), (by rw [ew17, z2_at, g2]), by rw [ew17]; exact g3.z2 (by omega) (by omega)⟩
set_option maxRecDepth 100000 in
set_option maxHeartbeats 4000000 in
theorem m_X7_undo (l : Launch) (G : zG) (sh : zH) (v : zV) (N : Nat) {m : Nat} {M : zMS} {h : zHs} (hp : zMD G sh N m) (hv : zwf (v (m + 1)) M) (hh : zmh v m h) : zm l G yX7_undo cX7_undo 2 (some .int) 0 [.ref m] sh v N (fun r v1 => r = some (.int (oUndo (M, h)).1) ∧ zwf (v1 (m + 1)) (oUndo (M, h)).2.1 ∧ zmh v1 m (oUndo (M, h)).2.2 ∧ zfr v v1 m 9) := by
  refine zM.of (by decide) rfl (Nat.le_of_ble_eq_true rfl) ?_
  intro p e s mi args below meth c C
  obtain ⟨hB, hN, hs0, hs1, hs2, hs3, hs4, hs5, hs6, hs7, hs8⟩ := id hp
  have hd0 : G.2.2.1 ≤ m ∧ m < N := ⟨hB, by omega⟩
  have hd1 : G.2.2.1 ≤ m + 1 ∧ m + 1 < N := ⟨by omega, by omega⟩
  have hd2 : G.2.2.1 ≤ m + 2 ∧ m + 2 < N := ⟨by omega, by omega⟩
  have hd3 : G.2.2.1 ≤ m + 3 ∧ m + 3 < N := ⟨by omega, by omega⟩
  have hd4 : G.2.2.1 ≤ m + 4 ∧ m + 4 < N := ⟨by omega, by omega⟩
  have hd5 : G.2.2.1 ≤ m + 5 ∧ m + 5 < N := ⟨by omega, by omega⟩
  have hd6 : G.2.2.1 ≤ m + 6 ∧ m + 6 < N := ⟨by omega, by omega⟩
  have hd7 : G.2.2.1 ≤ m + 7 ∧ m + 7 < N := ⟨by omega, by omega⟩
  have hd8 : G.2.2.1 ≤ m + 8 ∧ m + 8 < N := ⟨by omega, by omega⟩
  have hn8 := hh.2.1
  refine r_aload_n C (pc := 0) rfl rfl dX7_undo_0 ?_
  refine r_get C (pc := 1) (ci := 7) (k := 2) (w := .int (nI h.1)) rfl (by decide) inX7 (by decide) q_656 (Or.inl hd0) hs0 (zl_i (hh.1)) dX7_undo_1 ?_
  refine n_if_ne C (pc := 4) (tgt := 10) (by omega) dX7_undo_4 (by decide) (fun c_4 => ?_) (fun c_4 => ?_)
  · refine r_aload_n C (pc := 10) rfl rfl dX7_undo_10 ?_
    refine r_dup C (pc := 11) rfl dX7_undo_11 ?_
    refine r_get C (pc := 12) (ci := 7) (k := 2) (w := .int (nI h.1)) rfl (by decide) inX7 (by decide) q_656 (Or.inl hd0) hs0 (zl_i (hh.1)) dX7_undo_12 ?_
    refine r_iconst C (pc := 15) (x := (nI 1)) (by decide) dX7_undo_15 ?_
    refine r_isub C (pc := 16) (z := (nI (h.1 - 1))) (pk_sub (by omega)) dX7_undo_16 ?_
    refine r_put C (pc := 17) (ci := 7) (k := 2) rfl (by decide) inX7 tyX7_ok nmX7 (by decide) rfl pfI rfl q_656 hd0 hs0 dX7_undo_17 ?_
    refine VV.gn (fun w17 ew17 => ?_)
    refine r_iconst C (pc := 20) (x := (nI 0)) (by decide) dX7_undo_20 ?_
    refine r_istore_n C (pc := 21) (lv2 := [some (.ref m), some (.int (nI 0))]) rfl (Nat.le_of_ble_eq_true rfl) rfl rfl dX7_undo_21 ?_
    have hou : oUndo (M, h) = (nI (h.1 - 1), (h.2.1 (h.1 - 1), (h.1 - 1, h.2))) := if_neg (show ¬ h.1 = 0 by omega)
    have loop : ∀ (n k : Nat) (v' : zV), 165 - k < n → k ≤ 165 → (∀ j, j < k → v' (m + 1) j = v (m + 2) (165 * (h.1 - 1) + j)) → (∀ b, b ≠ m + 1 → v' b = w17 b) → VV p l e ({ frames := 0, cells := 0, slots := 0, locals := 32 * 0 }) s mi args below meth c 0 0 (zQ below (fun r sh1 v1 N1 => sh1 = sh ∧ N1 = N ∧ (r = some (.int (oUndo (M, h)).1) ∧ zwf (v1 (m + 1)) (oUndo (M, h)).2.1 ∧ zmh v1 m (oUndo (M, h)).2.2 ∧ zfr v v1 m 9)) G args s 0 0) G 2 sh v' N 22 [some (.ref m), some (.int (nI k))] [] := by
      intro n
      induction n with
      | zero => intro k v' hm; omega
      | succ n ih =>
        intro k v' hm hk e1 e2
        refine r_iload_n C (pc := 22) rfl rfl dX7_undo_22 ?_
        refine r_sipush C (pc := 23) (x := (nI 165)) (by decide) dX7_undo_23 ?_
        refine n_icmp_ge C (pc := 26) (tgt := 56) (by omega) (by decide) dX7_undo_26 (by decide) (fun c_26 => ?_) (fun c_26 => ?_)
        · refine r_aload_n C (pc := 56) rfl rfl dX7_undo_56 ?_
          refine r_get C (pc := 57) (ci := 7) (k := 2) (w := .int (nI (h.1 - 1))) rfl (by decide) inX7 (by decide) q_656 (Or.inl hd0) hs0 (zl_i (by rw [e2 m (by omega), ew17, z2_self])) dX7_undo_57 ?_
          exact r_iret C (pc := 60) rfl (rfl) dX7_undo_60 ⟨rfl, rfl, (by rw [hou]), (by
          rw [hou]
          exact zwf_same (hh.2.2.1 (h.1 - 1) (by omega)) (fun j hj => e1 j (by omega))), (by
          rw [hou]
          have o : ∀ b, b ≠ m → b ≠ m + 1 → v' b = v b := fun b h1 h2 => by rw [e2 b h2, ew17, z2_addr h1]
          exact ⟨by rw [e2 m (by omega), ew17, z2_self], by show h.1 - 1 ≤ 8; omega, fun i hi => by rw [o _ (by omega) (by omega)]; exact hh.2.2.1 i (by have hi2 : i < h.1 - 1 := hi; omega), by rw [e2 m (by omega), ew17, z2_ne (by omega)]; exact hh.2.2.2.1, by rw [o _ (by omega) (by omega)]; exact hh.2.2.2.2⟩), fun b hb => by rw [e2 b (by omega), ew17, z2_addr (by omega)]⟩
        · refine r_aload_n C (pc := 29) rfl rfl dX7_undo_29 ?_
          refine r_get C (pc := 30) (ci := 7) (k := 0) (w := .ref (m + 1)) rfl (by decide) inX7 (by decide) q_654 (Or.inl hd0) hs0 (zl_ref _ _) dX7_undo_30 ?_
          refine r_iload_n C (pc := 33) rfl rfl dX7_undo_33 ?_
          refine r_aload_n C (pc := 34) rfl rfl dX7_undo_34 ?_
          refine r_get C (pc := 35) (ci := 7) (k := 1) (w := .ref (m + 2)) rfl (by decide) inX7 (by decide) q_655 (Or.inl hd0) hs0 (zl_ref _ _) dX7_undo_35 ?_
          refine r_sipush C (pc := 38) (x := (nI 165)) (by decide) dX7_undo_38 ?_
          refine r_aload_n C (pc := 41) rfl rfl dX7_undo_41 ?_
          refine r_get C (pc := 42) (ci := 7) (k := 2) (w := .int (nI (h.1 - 1))) rfl (by decide) inX7 (by decide) q_656 (Or.inl hd0) hs0 (zl_i (by rw [e2 m (by omega), ew17, z2_self])) dX7_undo_42 ?_
          refine r_imul C (pc := 45) (z := (nI (165 * (h.1 - 1)))) (pk_mul _ _) dX7_undo_45 ?_
          refine r_iload_n C (pc := 46) rfl rfl dX7_undo_46 ?_
          refine r_iadd C (pc := 47) (z := (nI ((165 * (h.1 - 1)) + k))) (nI_add _ _) dX7_undo_47 ?_
          refine r_iald C (pc := 48) (x := (v (m + 2) (165 * (h.1 - 1) + k))) (Or.inl hd2) hs2 (by omega) (by omega) (by rw [e2 _ (by omega), ew17, z2_addr (by omega)]) dX7_undo_48 ?_
          refine r_iast C (pc := 49) hd1 hs1 (by omega) (by omega) dX7_undo_49 ?_
          refine VV.gn (fun w49 ew49 => ?_)
          refine r_iinc C (pc := 50) (lv2 := [some (.ref m), some (.int (nI (k + 1)))]) (y := (nI (k + 1))) rfl (nI_inc _ _) (Nat.le_of_ble_eq_true rfl) rfl rfl dX7_undo_50 ?_
          refine r_goto C (pc := 53) (tgt := 22) dX7_undo_53 (by decide) ?_
          exact ih (k + 1) w49 (by omega) (by omega) (fun j hj => by
            rw [ew49]
            by_cases hjk : j = k
            · subst hjk; rw [z2_self]
            · rw [z2_ne (by omega)]; exact e1 j (by omega)) (fun b hb => by rw [ew49, z2_addr hb]; exact e2 b hb)
    exact loop 166 0 w17 (by omega) (by omega) (fun j hj => absurd hj (Nat.not_lt_zero j)) (fun _ _ => rfl)
  · refine r_bipush C (pc := 7) (x := (-2)) (by decide) dX7_undo_7 ?_
    exact r_iret C (pc := 9) rfl (rfl) dX7_undo_9 ⟨rfl, rfl, (by rw [oUndo, if_pos c_4]), (by rw [oUndo, if_pos c_4]; exact hv), (by rw [oUndo, if_pos c_4]; exact hh), zfr.rf⟩
set_option maxRecDepth 100000 in
set_option maxHeartbeats 4000000 in
theorem m_X7_known (l : Launch) (G : zG) (sh : zH) (v : zV) (N : Nat) {m : Nat} {M : zMS} (hp : zMD G sh N m) (hv : zwf (v (m + 1)) M) (hK : M.1 0 ≤ 12) (hV : ∀ b, b < 12 → M.1 (17 + b) < 256) : zm l G yX7_known cX7_known 3 (some .int) 0 [.ref m] sh v N (fun r v1 => r = some (.int (nI (cntn (M.2.2.2) (M.1 0)))) ∧ v1 = v) := by
  refine zM.of (by decide) rfl (Nat.le_of_ble_eq_true rfl) ?_
  intro p e s mi args below meth c C
  obtain ⟨hB, hN, hs0, hs1, hs2, hs3, hs4, hs5, hs6, hs7, hs8⟩ := id hp
  have hd0 : G.2.2.1 ≤ m ∧ m < N := ⟨hB, by omega⟩
  have hd1 : G.2.2.1 ≤ m + 1 ∧ m + 1 < N := ⟨by omega, by omega⟩
  have hd2 : G.2.2.1 ≤ m + 2 ∧ m + 2 < N := ⟨by omega, by omega⟩
  have hd3 : G.2.2.1 ≤ m + 3 ∧ m + 3 < N := ⟨by omega, by omega⟩
  have hd4 : G.2.2.1 ≤ m + 4 ∧ m + 4 < N := ⟨by omega, by omega⟩
  have hd5 : G.2.2.1 ≤ m + 5 ∧ m + 5 < N := ⟨by omega, by omega⟩
  have hd6 : G.2.2.1 ≤ m + 6 ∧ m + 6 < N := ⟨by omega, by omega⟩
  have hd7 : G.2.2.1 ≤ m + 7 ∧ m + 7 < N := ⟨by omega, by omega⟩
  have hd8 : G.2.2.1 ≤ m + 8 ∧ m + 8 < N := ⟨by omega, by omega⟩
  have loop : ∀ (n b : Nat), M.1 0 - b < n → b ≤ M.1 0 → VV p l e ({ frames := 0, cells := 0, slots := 0, locals := 32 * 0 }) s mi args below meth c 0 0 (zQ below (fun r sh1 v1 N1 => sh1 = sh ∧ N1 = N ∧ (r = some (.int (nI (cntn (M.2.2.2) (M.1 0)))) ∧ v1 = v)) G args s 0 0) G 3 sh v N 4 [some (.ref m), some (.int (nI (cntn (M.2.2.2) b))), some (.int (nI b))] [] := by
    intro n
    induction n with
    | zero => intro b hm; omega
    | succ n ih =>
      intro b hm hb
      refine r_iload_n C (pc := 4) rfl rfl dX7_known_4 ?_
      refine r_aload_n C (pc := 5) rfl rfl dX7_known_5 ?_
      refine r_get C (pc := 6) (ci := 7) (k := 0) (w := .ref (m + 1)) rfl (by decide) inX7 (by decide) q_654 (Or.inl hd0) hs0 (zl_ref _ _) dX7_known_6 ?_
      refine r_iconst C (pc := 9) (x := (nI 0)) (by decide) dX7_known_9 ?_
      refine r_iald C (pc := 10) (x := (nI (M.1 0))) (Or.inl hd1) hs1 (by omega) (by omega) (hv.1 0 (by decide)) dX7_known_10 ?_
      refine n_icmp_ge C (pc := 11) (tgt := 42) (by omega) (by omega) dX7_known_11 (by decide) (fun c_11 => ?_) (fun c_11 => ?_)
      · refine r_iload_n C (pc := 42) rfl rfl dX7_known_42 ?_
        exact r_iret C (pc := 43) rfl (rfl) dX7_known_43 ⟨rfl, rfl, by rw [show b = M.1 0 by omega], rfl⟩
      · have hb12 : b < 12 := by omega
        refine r_iload_n C (pc := 14) rfl rfl dX7_known_14 ?_
        refine r_aload_n C (pc := 15) rfl rfl dX7_known_15 ?_
        refine r_get C (pc := 16) (ci := 7) (k := 0) (w := .ref (m + 1)) rfl (by decide) inX7 (by decide) q_654 (Or.inl hd0) hs0 (zl_ref _ _) dX7_known_16 ?_
        refine r_bipush C (pc := 19) (x := (nI 86)) (by decide) dX7_known_19 ?_
        refine r_iload_n C (pc := 21) rfl rfl dX7_known_21 ?_
        refine r_iadd C (pc := 22) (z := (nI (86 + b))) (nI_add _ _) dX7_known_22 ?_
        refine r_iald C (pc := 23) (x := (knI (M.2.2.2 b) (M.1 (17 + b)))) (Or.inl hd1) hs1 (by omega) (by omega) (hv.2.2.1 b hb12) dX7_known_23 ?_
        refine r_bipush C (pc := 24) (x := (-9)) (by decide) dX7_known_24 ?_
        refine r_icmp_eq C (pc := 26) (tgt := 33) dX7_known_26 (by decide) (fun c_26 => ?_) (fun c_26 => ?_)
        · refine r_iconst C (pc := 33) (x := (nI 0)) (by decide) dX7_known_33 ?_
          refine r_iadd C (pc := 34) (z := (nI ((cntn (M.2.2.2) b) + 0))) (nI_add _ _) dX7_known_34 ?_
          refine r_istore_n C (pc := 35) (lv2 := [some (.ref m), some (.int (nI ((cntn (M.2.2.2) b) + 0))), some (.int (nI b))]) rfl (Nat.le_of_ble_eq_true rfl) rfl rfl dX7_known_35 ?_
          refine r_iinc C (pc := 36) (lv2 := [some (.ref m), some (.int (nI ((cntn (M.2.2.2) b) + 0))), some (.int (nI (b + 1)))]) (y := (nI (b + 1))) rfl (nI_inc _ _) (Nat.le_of_ble_eq_true rfl) rfl rfl dX7_known_36 ?_
          refine r_goto C (pc := 39) (tgt := 4) dX7_known_39 (by decide) ?_
          have hs : (M.2.2.2 b).isSome = false := (knI_9 (hV b hb12)).mp c_26
          have es : cntn (M.2.2.2) (b + 1) = cntn (M.2.2.2) b + 0 := by
            show cntn (M.2.2.2) b + (if _ then 1 else 0) = _
            rw [hs]; rfl
          have := ih (b + 1) (by omega) (by omega)
          rw [es] at this
          exact this
        · refine r_iconst C (pc := 29) (x := (nI 1)) (by decide) dX7_known_29 ?_
          refine r_goto C (pc := 30) (tgt := 34) dX7_known_30 (by decide) ?_
          refine r_iadd C (pc := 34) (z := (nI ((cntn (M.2.2.2) b) + 1))) (nI_add _ _) dX7_known_34 ?_
          refine r_istore_n C (pc := 35) (lv2 := [some (.ref m), some (.int (nI ((cntn (M.2.2.2) b) + 1))), some (.int (nI b))]) rfl (Nat.le_of_ble_eq_true rfl) rfl rfl dX7_known_35 ?_
          refine r_iinc C (pc := 36) (lv2 := [some (.ref m), some (.int (nI ((cntn (M.2.2.2) b) + 1))), some (.int (nI (b + 1)))]) (y := (nI (b + 1))) rfl (nI_inc _ _) (Nat.le_of_ble_eq_true rfl) rfl rfl dX7_known_36 ?_
          refine r_goto C (pc := 39) (tgt := 4) dX7_known_39 (by decide) ?_
          have hs : (M.2.2.2 b).isSome = true := by
            cases h : (M.2.2.2 b).isSome with
            | true => rfl
            | false => exact absurd ((knI_9 (hV b hb12)).mpr h) c_26
          have es : cntn (M.2.2.2) (b + 1) = cntn (M.2.2.2) b + 1 := by
            show cntn (M.2.2.2) b + (if _ then 1 else 0) = _
            rw [hs]; rfl
          have := ih (b + 1) (by omega) (by omega)
          rw [es] at this
          exact this
  refine r_iconst C (pc := 0) (x := (nI 0)) (by decide) dX7_known_0 ?_
  refine r_istore_n C (pc := 1) (lv2 := [some (.ref m), some (.int (nI 0)), none]) rfl (Nat.le_of_ble_eq_true rfl) rfl rfl dX7_known_1 ?_
  refine r_iconst C (pc := 2) (x := (nI 0)) (by decide) dX7_known_2 ?_
  refine r_istore_n C (pc := 3) (lv2 := [some (.ref m), some (.int (nI 0)), some (.int (nI 0))]) rfl (Nat.le_of_ble_eq_true rfl) rfl rfl dX7_known_3 ?_
  exact loop (M.1 0 + 1) 0 (by omega) (by omega)
set_option maxRecDepth 100000 in
set_option maxHeartbeats 4000000 in
theorem m_X7_solvedBlocks (l : Launch) (G : zG) (sh : zH) (v : zV) (N : Nat) {m : Nat} {M : zMS} (hp : zMD G sh N m) (hv : zwf (v (m + 1)) M) (hK : M.1 0 ≤ 12) (hT : ∀ b t, M.2.2.1 b = some t → t < 2 ^ 30) : zm l G yX7_solvedBlocks cX7_solvedBlocks 3 (some .int) 0 [.ref m] sh v N (fun r v1 => r = some (.int (nI (cntn (M.2.2.1) (M.1 0)))) ∧ v1 = v) := by
  refine zM.of (by decide) rfl (Nat.le_of_ble_eq_true rfl) ?_
  intro p e s mi args below meth c C
  obtain ⟨hB, hN, hs0, hs1, hs2, hs3, hs4, hs5, hs6, hs7, hs8⟩ := id hp
  have hd0 : G.2.2.1 ≤ m ∧ m < N := ⟨hB, by omega⟩
  have hd1 : G.2.2.1 ≤ m + 1 ∧ m + 1 < N := ⟨by omega, by omega⟩
  have hd2 : G.2.2.1 ≤ m + 2 ∧ m + 2 < N := ⟨by omega, by omega⟩
  have hd3 : G.2.2.1 ≤ m + 3 ∧ m + 3 < N := ⟨by omega, by omega⟩
  have hd4 : G.2.2.1 ≤ m + 4 ∧ m + 4 < N := ⟨by omega, by omega⟩
  have hd5 : G.2.2.1 ≤ m + 5 ∧ m + 5 < N := ⟨by omega, by omega⟩
  have hd6 : G.2.2.1 ≤ m + 6 ∧ m + 6 < N := ⟨by omega, by omega⟩
  have hd7 : G.2.2.1 ≤ m + 7 ∧ m + 7 < N := ⟨by omega, by omega⟩
  have hd8 : G.2.2.1 ≤ m + 8 ∧ m + 8 < N := ⟨by omega, by omega⟩
  have loop : ∀ (n b : Nat), M.1 0 - b < n → b ≤ M.1 0 → VV p l e ({ frames := 0, cells := 0, slots := 0, locals := 32 * 0 }) s mi args below meth c 0 0 (zQ below (fun r sh1 v1 N1 => sh1 = sh ∧ N1 = N ∧ (r = some (.int (nI (cntn (M.2.2.1) (M.1 0)))) ∧ v1 = v)) G args s 0 0) G 3 sh v N 4 [some (.ref m), some (.int (nI (cntn (M.2.2.1) b))), some (.int (nI b))] [] := by
    intro n
    induction n with
    | zero => intro b hm; omega
    | succ n ih =>
      intro b hm hb
      refine r_iload_n C (pc := 4) rfl rfl dX7_solvedBlocks_4 ?_
      refine r_aload_n C (pc := 5) rfl rfl dX7_solvedBlocks_5 ?_
      refine r_get C (pc := 6) (ci := 7) (k := 0) (w := .ref (m + 1)) rfl (by decide) inX7 (by decide) q_654 (Or.inl hd0) hs0 (zl_ref _ _) dX7_solvedBlocks_6 ?_
      refine r_iconst C (pc := 9) (x := (nI 0)) (by decide) dX7_solvedBlocks_9 ?_
      refine r_iald C (pc := 10) (x := (nI (M.1 0))) (Or.inl hd1) hs1 (by omega) (by omega) (hv.1 0 (by decide)) dX7_solvedBlocks_10 ?_
      refine n_icmp_ge C (pc := 11) (tgt := 42) (by omega) (by omega) dX7_solvedBlocks_11 (by decide) (fun c_11 => ?_) (fun c_11 => ?_)
      · refine r_iload_n C (pc := 42) rfl rfl dX7_solvedBlocks_42 ?_
        exact r_iret C (pc := 43) rfl (rfl) dX7_solvedBlocks_43 ⟨rfl, rfl, by rw [show b = M.1 0 by omega], rfl⟩
      · have hb12 : b < 12 := by omega
        refine r_iload_n C (pc := 14) rfl rfl dX7_solvedBlocks_14 ?_
        refine r_aload_n C (pc := 15) rfl rfl dX7_solvedBlocks_15 ?_
        refine r_get C (pc := 16) (ci := 7) (k := 0) (w := .ref (m + 1)) rfl (by decide) inX7 (by decide) q_654 (Or.inl hd0) hs0 (zl_ref _ _) dX7_solvedBlocks_16 ?_
        refine r_bipush C (pc := 19) (x := (nI 110)) (by decide) dX7_solvedBlocks_19 ?_
        refine r_iload_n C (pc := 21) rfl rfl dX7_solvedBlocks_21 ?_
        refine r_iadd C (pc := 22) (z := (nI (110 + b))) (nI_add _ _) dX7_solvedBlocks_22 ?_
        refine r_iald C (pc := 23) (x := (tmI (M.2.2.1 b))) (Or.inl hd1) hs1 (by omega) (by omega) (hv.2.2.2.2 b hb12) dX7_solvedBlocks_23 ?_
        refine r_bipush C (pc := 24) (x := (-9)) (by decide) dX7_solvedBlocks_24 ?_
        refine r_icmp_eq C (pc := 26) (tgt := 33) dX7_solvedBlocks_26 (by decide) (fun c_26 => ?_) (fun c_26 => ?_)
        · refine r_iconst C (pc := 33) (x := (nI 0)) (by decide) dX7_solvedBlocks_33 ?_
          refine r_iadd C (pc := 34) (z := (nI ((cntn (M.2.2.1) b) + 0))) (nI_add _ _) dX7_solvedBlocks_34 ?_
          refine r_istore_n C (pc := 35) (lv2 := [some (.ref m), some (.int (nI ((cntn (M.2.2.1) b) + 0))), some (.int (nI b))]) rfl (Nat.le_of_ble_eq_true rfl) rfl rfl dX7_solvedBlocks_35 ?_
          refine r_iinc C (pc := 36) (lv2 := [some (.ref m), some (.int (nI ((cntn (M.2.2.1) b) + 0))), some (.int (nI (b + 1)))]) (y := (nI (b + 1))) rfl (nI_inc _ _) (Nat.le_of_ble_eq_true rfl) rfl rfl dX7_solvedBlocks_36 ?_
          refine r_goto C (pc := 39) (tgt := 4) dX7_solvedBlocks_39 (by decide) ?_
          have hs : (M.2.2.1 b).isSome = false := by rw [(tmI_9 (hT b)).mp c_26]; rfl
          have es : cntn (M.2.2.1) (b + 1) = cntn (M.2.2.1) b + 0 := by
            show cntn (M.2.2.1) b + (if _ then 1 else 0) = _
            rw [hs]; rfl
          have := ih (b + 1) (by omega) (by omega)
          rw [es] at this
          exact this
        · refine r_iconst C (pc := 29) (x := (nI 1)) (by decide) dX7_solvedBlocks_29 ?_
          refine r_goto C (pc := 30) (tgt := 34) dX7_solvedBlocks_30 (by decide) ?_
          refine r_iadd C (pc := 34) (z := (nI ((cntn (M.2.2.1) b) + 1))) (nI_add _ _) dX7_solvedBlocks_34 ?_
          refine r_istore_n C (pc := 35) (lv2 := [some (.ref m), some (.int (nI ((cntn (M.2.2.1) b) + 1))), some (.int (nI b))]) rfl (Nat.le_of_ble_eq_true rfl) rfl rfl dX7_solvedBlocks_35 ?_
          refine r_iinc C (pc := 36) (lv2 := [some (.ref m), some (.int (nI ((cntn (M.2.2.1) b) + 1))), some (.int (nI (b + 1)))]) (y := (nI (b + 1))) rfl (nI_inc _ _) (Nat.le_of_ble_eq_true rfl) rfl rfl dX7_solvedBlocks_36 ?_
          refine r_goto C (pc := 39) (tgt := 4) dX7_solvedBlocks_39 (by decide) ?_
          have hs : (M.2.2.1 b).isSome = true := by
            cases h : M.2.2.1 b with
            | some t => rfl
            | none => exact absurd ((tmI_9 (hT b)).mpr h) c_26
          have es : cntn (M.2.2.1) (b + 1) = cntn (M.2.2.1) b + 1 := by
            show cntn (M.2.2.1) b + (if _ then 1 else 0) = _
            rw [hs]; rfl
          have := ih (b + 1) (by omega) (by omega)
          rw [es] at this
          exact this
  refine r_iconst C (pc := 0) (x := (nI 0)) (by decide) dX7_solvedBlocks_0 ?_
  refine r_istore_n C (pc := 1) (lv2 := [some (.ref m), some (.int (nI 0)), none]) rfl (Nat.le_of_ble_eq_true rfl) rfl rfl dX7_solvedBlocks_1 ?_
  refine r_iconst C (pc := 2) (x := (nI 0)) (by decide) dX7_solvedBlocks_2 ?_
  refine r_istore_n C (pc := 3) (lv2 := [some (.ref m), some (.int (nI 0)), some (.int (nI 0))]) rfl (Nat.le_of_ble_eq_true rfl) rfl rfl dX7_solvedBlocks_3 ?_
  exact loop (M.1 0 + 1) 0 (by omega) (by omega)
