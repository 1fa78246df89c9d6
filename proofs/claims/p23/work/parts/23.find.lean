set_option maxRecDepth 100000 in
set_option maxHeartbeats 4000000 in
theorem m_X0_has (l : Launch) (G : zG) (sh : zH) (v : zV) (N : Nat) {a : Nat} {V : Nat → Nat} {tm : Nat → Option Nat} {b : Nat} (hp : zFI G sh N a) (hv : zfi v a V tm) (hb : b < 12) (hV : ∀ b, b < 12 → V b < 256) : zm l G yX0_has cX0_has 2 (some .boolean) 0 [.ref a, .int (nI b)] sh v N (fun r v1 => r = some (.int (zb (tm b).isSome)) ∧ v1 = v) := by
  refine zM.of (by decide) rfl (Nat.le_of_ble_eq_true rfl) ?_
  intro p e s m args below meth c C
  obtain ⟨hB, hN, hs0, hs1, hs2⟩ := id hp
  obtain ⟨h1, h2, h3⟩ := id hv
  have hd0 : G.2.2.1 ≤ a ∧ a < N := ⟨hB, by omega⟩
  have hd1 : G.2.2.1 ≤ a + 1 ∧ a + 1 < N := ⟨by omega, by omega⟩
  have hd2 : G.2.2.1 ≤ a + 2 ∧ a + 2 < N := ⟨by omega, hN⟩
  refine r_iload_n C (pc := 0) rfl rfl dX0_has_0 ?_
  refine n_if_lt C (pc := 1) (by omega) dX0_has_1 ?_
  refine r_iload_n C (pc := 4) rfl rfl dX0_has_4 ?_
  refine r_aload_n C (pc := 5) rfl rfl dX0_has_5 ?_
  refine r_get C (pc := 6) (ci := 0) (k := 0) (w := .ref (a + 1)) rfl (by decide) inX0 (by decide) q_149 (Or.inl hd0) hs0 (zl_ref _ _) dX0_has_6 ?_
  refine r_alen C (pc := 9) (x := nI 12) (Or.inl hd1) hs1 (by decide) rfl rfl dX0_has_9 ?_
  refine n_icmp_ge C (pc := 10) (tgt := 26) (by omega) (by omega) dX0_has_10 (by decide) (fun c_10 => by exfalso; omega) (fun c_10 => ?_)
  refine r_aload_n C (pc := 13) rfl rfl dX0_has_13 ?_
  refine r_get C (pc := 14) (ci := 0) (k := 0) (w := .ref (a + 1)) rfl (by decide) inX0 (by decide) q_149 (Or.inl hd0) hs0 (zl_ref _ _) dX0_has_14 ?_
  refine r_iload_n C (pc := 17) rfl rfl dX0_has_17 ?_
  refine r_iald C (pc := 18) (x := (nI (sgl V tm b))) (Or.inl hd1) hs1 (by omega) (by omega) (h2 b hb) dX0_has_18 ?_
  refine n_if_eq C (pc := 19) (tgt := 26) (by have := sgl_lt (tm := tm) hb hV; omega) dX0_has_19 (by decide) (fun c_19 => ?_) (fun c_19 => ?_)
  · refine r_iconst C (pc := 26) (x := (nI 0)) (by decide) dX0_has_26 ?_
    exact r_iret C (pc := 27) rfl (rfl) dX0_has_27 ⟨rfl, rfl, by rw [sgl_0.mp c_19]; rfl, rfl⟩
  · refine r_iconst C (pc := 22) (x := (nI 1)) (by decide) dX0_has_22 ?_
    refine r_goto C (pc := 23) (tgt := 27) dX0_has_23 (by decide) ?_
    exact r_iret C (pc := 27) rfl (rfl) dX0_has_27 ⟨rfl, rfl, by rw [show (tm b).isSome = true by cases h : (tm b).isSome with | true => rfl | false => rw [sgl_0.mpr h] at c_19; omega]; rfl, rfl⟩
set_option maxRecDepth 100000 in
set_option maxHeartbeats 4000000 in
theorem m_X0_valueAt (l : Launch) (G : zG) (sh : zH) (v : zV) (N : Nat) {a : Nat} {V : Nat → Nat} {tm : Nat → Option Nat} {b : Nat} (hp : zFI G sh N a) (hv : zfi v a V tm) (hb : b < 12) (hV : ∀ b, b < 12 → V b < 256) : zm l G yX0_valueAt cX0_valueAt 2 (some .int) 1 [.ref a, .int (nI b)] sh v N (fun r v1 => r = some (.int (if (tm b).isSome then nI (V b) else -9)) ∧ v1 = v) := by
  refine zM.of (by decide) rfl (Nat.le_of_ble_eq_true rfl) ?_
  intro p e s m args below meth c C
  obtain ⟨hB, hN, hs0, hs1, hs2⟩ := id hp
  obtain ⟨h1, h2, h3⟩ := id hv
  have hd0 : G.2.2.1 ≤ a ∧ a < N := ⟨hB, by omega⟩
  have hd1 : G.2.2.1 ≤ a + 1 ∧ a + 1 < N := ⟨by omega, by omega⟩
  have hd2 : G.2.2.1 ≤ a + 2 ∧ a + 2 < N := ⟨by omega, hN⟩
  refine r_aload_n C (pc := 0) rfl rfl dX0_valueAt_0 ?_
  refine r_iload_n C (pc := 1) rfl rfl dX0_valueAt_1 ?_
  refine r_callV C (pc := 2) (st := []) (m_X0_has l G sh v N hp hv hb hV) kyX0_has q_588 rfl (Or.inl hd0) hs0 (by decide) rfl rfl rfl (Nat.le_of_ble_eq_true rfl) ⟨Nat.le_of_ble_eq_true rfl, Nat.le_of_ble_eq_true rfl⟩ ⟨Nat.le_of_ble_eq_true rfl, Nat.le_of_ble_eq_true rfl⟩ dX0_valueAt_2 (fun r2 v2 hp2 => ?_)
  obtain ⟨rfl, ehp2⟩ := hp2
  refine VV.vq ehp2 ?_
  refine VV.eq (st2 := [.int (zb ((tm b).isSome))]) rfl ?_
  refine n_ifb_eq C (pc := 5) (tgt := 20) dX0_valueAt_5 (by decide) (fun c_5 => ?_) (fun c_5 => ?_)
  · refine r_bipush C (pc := 20) (x := (-9)) (by decide) dX0_valueAt_20 ?_
    exact r_iret C (pc := 22) rfl (rfl) dX0_valueAt_22 ⟨rfl, rfl, by rw [c_5]; rfl, rfl⟩
  · refine r_aload_n C (pc := 8) rfl rfl dX0_valueAt_8 ?_
    refine r_get C (pc := 9) (ci := 0) (k := 0) (w := .ref (a + 1)) rfl (by decide) inX0 (by decide) q_149 (Or.inl hd0) hs0 (zl_ref _ _) dX0_valueAt_9 ?_
    refine r_iload_n C (pc := 12) rfl rfl dX0_valueAt_12 ?_
    refine r_iald C (pc := 13) (x := (nI (sgl V tm b))) (Or.inl hd1) hs1 (by omega) (by omega) (h2 b hb) dX0_valueAt_13 ?_
    refine r_callSN C (pc := 14) (st := []) (m_X6_valueIn l G sh v N (q := sgl V tm b)) kyX6_valueIn q_592 rfl rfl (Nat.le_of_ble_eq_true rfl) ⟨Nat.le_of_ble_eq_true rfl, Nat.le_of_ble_eq_true rfl⟩ ⟨Nat.le_of_ble_eq_true rfl, Nat.le_of_ble_eq_true rfl⟩ dX0_valueAt_14 (fun r14 v14 hp14 => ?_)
    obtain ⟨rfl, ehp14⟩ := hp14
    refine VV.vq ehp14 ?_
    refine VV.eq (st2 := [.int (nI (sgl V tm b % 256))]) rfl ?_
    refine r_goto C (pc := 17) (tgt := 22) dX0_valueAt_17 (by decide) ?_
    exact r_iret C (pc := 22) rfl (rfl) dX0_valueAt_22 ⟨rfl, rfl, by rw [sgl_mod hb hV c_5, if_pos c_5], rfl⟩
set_option maxRecDepth 100000 in
set_option maxHeartbeats 4000000 in
theorem m_X0_add (l : Launch) (G : zG) (sh : zH) (v : zV) (N : Nat) {a : Nat} {V : Nat → Nat} {tm : Nat → Option Nat} {b t : Nat} (hp : zFI G sh N a) (hv : zfi v a V tm) (hb : b < 12) (hV : ∀ b, b < 12 → V b < 256) : zm l G yX0_add cX0_add 4 none 1 [.ref a, .int (nI (2 ^ (8 + b) + V b)), .int (nI t)] sh v N (fun r v1 => r = none ∧ zfi v1 a V (if (tm b).isSome then tm else upo tm b t) ∧ zfr v v1 a 3) := by
  refine zM.of (by decide) rfl (Nat.le_of_ble_eq_true rfl) ?_
  intro p e s m args below meth c C
  obtain ⟨hB, hN, hs0, hs1, hs2⟩ := id hp
  obtain ⟨h1, h2, h3⟩ := id hv
  have hd0 : G.2.2.1 ≤ a ∧ a < N := ⟨hB, by omega⟩
  have hd1 : G.2.2.1 ≤ a + 1 ∧ a + 1 < N := ⟨by omega, by omega⟩
  have hd2 : G.2.2.1 ≤ a + 2 ∧ a + 2 < N := ⟨by omega, hN⟩
  have loop : ∀ (n i : Nat) (v' : zV), 12 - i < n → i ≤ 12 → zfi v' a V (if i ≤ b ∨ (tm b).isSome = true then tm else upo tm b t) → zfr v v' a 3 → VV p l e ({ frames := 1, cells := 0, slots := 0, locals := 32 * 1 }) s m args below meth c 0 0 (zQ below (fun r sh1 v1 N1 => sh1 = sh ∧ N1 = N ∧ (r = none ∧ zfi v1 a V (if (tm b).isSome then tm else upo tm b t) ∧ zfr v v1 a 3)) G args s 0 0) G 4 sh v' N 2 [some (.ref a), some (.int (nI (2 ^ (8 + b) + V b))), some (.int (nI t)), some (.int (nI i))] [] := by
    intro n
    induction n with
    | zero => intro i v' hm; omega
    | succ n ih =>
      intro i v' hm hi e1 e2
      refine r_iload_n C (pc := 2) rfl rfl dX0_add_2 ?_
      refine r_aload_n C (pc := 3) rfl rfl dX0_add_3 ?_
      refine r_get C (pc := 4) (ci := 0) (k := 0) (w := .ref (a + 1)) rfl (by decide) inX0 (by decide) q_149 (Or.inl hd0) hs0 (zl_ref _ _) dX0_add_4 ?_
      refine r_alen C (pc := 7) (x := nI 12) (Or.inl hd1) hs1 (by decide) rfl rfl dX0_add_7 ?_
      refine n_icmp_ge C (pc := 8) (tgt := 67) (by omega) (by omega) dX0_add_8 (by decide) (fun c_8 => ?_) (fun c_8 => ?_)
      · exact r_vret C (pc := 67) rfl dX0_add_67 ⟨rfl, rfl, rfl, (by
          by_cases hc : (tm b).isSome = true
          · rw [if_pos hc]; rw [if_pos (Or.inr hc)] at e1; exact e1
          · rw [if_neg hc]; rw [if_neg (by intro z; rcases z with z | z; omega; exact hc z)] at e1; exact e1), e2⟩
      · refine r_iload_n C (pc := 11) rfl rfl dX0_add_11 ?_
        refine r_aload_n C (pc := 12) rfl rfl dX0_add_12 ?_
        refine r_get C (pc := 13) (ci := 0) (k := 1) (w := .ref (a + 2)) rfl (by decide) inX0 (by decide) q_150 (Or.inl hd0) hs0 (zl_ref _ _) dX0_add_13 ?_
        refine r_alen C (pc := 16) (x := nI 12) (Or.inl hd2) hs2 (by decide) rfl rfl dX0_add_16 ?_
        refine n_icmp_ge C (pc := 17) (tgt := 67) (by omega) (by omega) dX0_add_17 (by decide) (fun c_17 => by exfalso; omega) (fun c_17 => ?_)
        refine r_iload_n C (pc := 20) rfl rfl dX0_add_20 ?_
        refine r_iload_n C (pc := 21) rfl rfl dX0_add_21 ?_
        refine r_callSN C (pc := 22) (st := []) (m_X6_hasBlock l G sh v' N (q := (2 ^ (8 + b) + V b)) (b := i) (by have := p20 hb (hV b hb); omega) (by omega)) kyX6_hasBlock q_417 rfl rfl (Nat.le_of_ble_eq_true rfl) ⟨Nat.le_of_ble_eq_true rfl, Nat.le_of_ble_eq_true rfl⟩ ⟨Nat.le_of_ble_eq_true rfl, Nat.le_of_ble_eq_true rfl⟩ dX0_add_22 (fun r22 v22 hp22 => ?_)
        obtain ⟨rfl, ehp22⟩ := hp22
        refine VV.vq ehp22 ?_
        refine VV.eq (st2 := [.int (zb ((2 ^ (8 + b) + V b).testBit (8 + i)))]) rfl ?_
        refine n_ifb_eq C (pc := 25) (tgt := 61) dX0_add_25 (by decide) (fun c_25 => ?_) (fun c_25 => ?_)
        · refine r_iinc C (pc := 61) (lv2 := [some (.ref a), some (.int (nI (2 ^ (8 + b) + V b))), some (.int (nI t)), some (.int (nI (i + 1)))]) (y := (nI (i + 1))) rfl (nI_inc _ _) (Nat.le_of_ble_eq_true rfl) rfl rfl dX0_add_61 ?_
          refine r_goto C (pc := 64) (tgt := 2) dX0_add_64 (by decide) ?_
          exact ih (i + 1) v' (by omega) (by omega) (by
            have hib : i ≠ b := by
              rw [bit_one hb (hV b hb)] at c_25
              simpa using c_25
            by_cases hc : i ≤ b ∨ (tm b).isSome = true
            · rw [if_pos hc] at e1; rw [if_pos (hc.elim (fun z => Or.inl (by omega)) Or.inr)]; exact e1
            · rw [if_neg hc] at e1; rw [if_neg (fun z => hc (z.elim (fun z => Or.inl (by omega)) Or.inr))]; exact e1) e2
        · have hib : i = b := by
            rw [bit_one hb (hV b hb)] at c_25
            simpa using c_25
          rw [if_pos (Or.inl (Nat.le_of_eq hib))] at e1
          refine r_aload_n C (pc := 28) rfl rfl dX0_add_28 ?_
          refine r_get C (pc := 29) (ci := 0) (k := 0) (w := .ref (a + 1)) rfl (by decide) inX0 (by decide) q_149 (Or.inl hd0) hs0 (zl_ref _ _) dX0_add_29 ?_
          refine r_iload_n C (pc := 32) rfl rfl dX0_add_32 ?_
          refine r_iald C (pc := 33) (x := (nI (sgl V tm i))) (Or.inl hd1) hs1 (by omega) (by omega) (e1.2.1 i (by omega)) dX0_add_33 ?_
          refine n_if_ne C (pc := 34) (tgt := 61) (by have := sgl_lt (tm := tm) (b := i) (by omega) hV; omega) dX0_add_34 (by decide) (fun c_34 => ?_) (fun c_34 => ?_)
          · have hso : (tm b).isSome = true := by
              rw [← hib]
              cases h : (tm i).isSome with
              | true => rfl
              | false => rw [sgl_0.mpr h] at c_34; omega
            refine r_iinc C (pc := 61) (lv2 := [some (.ref a), some (.int (nI (2 ^ (8 + b) + V b))), some (.int (nI t)), some (.int (nI (i + 1)))]) (y := (nI (i + 1))) rfl (nI_inc _ _) (Nat.le_of_ble_eq_true rfl) rfl rfl dX0_add_61 ?_
            refine r_goto C (pc := 64) (tgt := 2) dX0_add_64 (by decide) ?_
            exact ih (i + 1) v' (by omega) (by omega) (by rw [if_pos (Or.inr hso)]; exact e1) e2
          · have hno : (tm b).isSome = false := hib ▸ sgl_0.mp c_34
            refine r_aload_n C (pc := 37) rfl rfl dX0_add_37 ?_
            refine r_get C (pc := 38) (ci := 0) (k := 0) (w := .ref (a + 1)) rfl (by decide) inX0 (by decide) q_149 (Or.inl hd0) hs0 (zl_ref _ _) dX0_add_38 ?_
            refine r_iload_n C (pc := 41) rfl rfl dX0_add_41 ?_
            refine r_iload_n C (pc := 42) rfl rfl dX0_add_42 ?_
            refine r_iast C (pc := 43) hd1 hs1 (by omega) (by omega) dX0_add_43 ?_
            refine VV.gn (fun w43 ew43 => ?_)
            refine r_aload_n C (pc := 44) rfl rfl dX0_add_44 ?_
            refine r_get C (pc := 45) (ci := 0) (k := 1) (w := .ref (a + 2)) rfl (by decide) inX0 (by decide) q_150 (Or.inl hd0) hs0 (zl_ref _ _) dX0_add_45 ?_
            refine r_iload_n C (pc := 48) rfl rfl dX0_add_48 ?_
            refine r_iload_n C (pc := 49) rfl rfl dX0_add_49 ?_
            refine r_iast C (pc := 50) hd2 hs2 (by omega) (by omega) dX0_add_50 ?_
            refine VV.gn (fun w50 ew50 => ?_)
            refine r_aload_n C (pc := 51) rfl rfl dX0_add_51 ?_
            refine r_dup C (pc := 52) rfl dX0_add_52 ?_
            refine r_get C (pc := 53) (ci := 0) (k := 2) (w := .int (nI (cnt tm))) rfl (by decide) inX0 (by decide) q_152 (Or.inl hd0) hs0 (zl_i (by rw [ew50, z2_addr (by omega), ew43, z2_addr (by omega)]; exact e1.1)) dX0_add_53 ?_
            refine r_iconst C (pc := 56) (x := (nI 1)) (by decide) dX0_add_56 ?_
            refine r_iadd C (pc := 57) (z := (nI ((cnt tm) + 1))) (nI_add _ _) dX0_add_57 ?_
            refine r_put C (pc := 58) (ci := 0) (k := 2) rfl (by decide) inX0 tyX0_ok nmX0 (by decide) rfl pfI rfl q_152 hd0 hs0 dX0_add_58 ?_
            refine VV.gn (fun w58 ew58 => ?_)
            refine r_iinc C (pc := 61) (lv2 := [some (.ref a), some (.int (nI (2 ^ (8 + b) + V b))), some (.int (nI t)), some (.int (nI (i + 1)))]) (y := (nI (i + 1))) rfl (nI_inc _ _) (Nat.le_of_ble_eq_true rfl) rfl rfl dX0_add_61 ?_
            refine r_goto C (pc := 64) (tgt := 2) dX0_add_64 (by decide) ?_
            exact ih (i + 1) w58 (by omega) (by omega) (by
              rw [if_neg (fun z => z.elim (fun z => absurd z (by omega)) (fun z => by rw [hno] at z; cases z))]
              refine ⟨by rw [ew58, z2_self]; show nI (cntn tm 12 + 1) = nI (cntn (upo tm b t) 12); rw [cntn_upo hno 12, if_pos hb], fun j hj => ?_, fun j hj => ?_⟩
              · rw [ew58, z2_addr (by omega), ew50, z2_addr (by omega), ew43]
                by_cases hjb : j = i
                · subst hjb; rw [z2_self]; simp [sgl, upo, hib]
                · rw [z2_ne (by omega), e1.2.1 j hj]; simp [sgl, upo, show ¬ j = b by omega]
              · rw [ew58, z2_addr (by omega), ew50]
                by_cases hjb : j = i
                · subst hjb; rw [z2_self]; simp [tmI, upo, hib]
                · rw [z2_ne (by omega), ew43, z2_addr (by omega), e1.2.2 j hj]; simp [upo, show ¬ j = b by omega]) (by rw [ew58, ew50, ew43]; exact ((e2.z2 (by omega) (by omega)).z2 (by omega) (by omega)).z2 (by omega) (by omega))
  refine r_iconst C (pc := 0) (x := (nI 0)) (by decide) dX0_add_0 ?_
  refine r_istore_n C (pc := 1) (lv2 := [some (.ref a), some (.int (nI (2 ^ (8 + b) + V b))), some (.int (nI t)), some (.int (nI 0))]) rfl (Nat.le_of_ble_eq_true rfl) rfl rfl dX0_add_1 ?_
  exact loop 13 0 v (by omega) (by omega) (by rw [if_pos (Or.inl (Nat.zero_le b))]; exact hv) zfr.rf
set_option maxRecDepth 100000 in
set_option maxHeartbeats 4000000 in
theorem m_X0_takenOutOf (l : Launch) (G : zG) (sh : zH) (v : zV) (N : Nat) {a : Nat} {V : Nat → Nat} {tm : Nat → Option Nat} {q : Nat} (hp : zFI G sh N a) (hv : zfi v a V tm) (hq : q < 2 ^ 20) (hV : ∀ b, b < 12 → V b < 256) : zm l G yX0_takenOutOf cX0_takenOutOf 4 (some .int) 1 [.ref a, .int (nI q)] sh v N (fun r v1 => r = some (.int (nI (tofn V tm q 12))) ∧ v1 = v) := by
  refine zM.of (by decide) rfl (Nat.le_of_ble_eq_true rfl) ?_
  intro p e s m args below meth c C
  obtain ⟨hB, hN, hs0, hs1, hs2⟩ := id hp
  obtain ⟨h1, h2, h3⟩ := id hv
  have hd0 : G.2.2.1 ≤ a ∧ a < N := ⟨hB, by omega⟩
  have hd1 : G.2.2.1 ≤ a + 1 ∧ a + 1 < N := ⟨by omega, by omega⟩
  have hd2 : G.2.2.1 ≤ a + 2 ∧ a + 2 < N := ⟨by omega, hN⟩
  have loop : ∀ (n i : Nat), 12 - i < n → i ≤ 12 → VV p l e ({ frames := 1, cells := 0, slots := 0, locals := 32 * 1 }) s m args below meth c 0 0 (zQ below (fun r sh1 v1 N1 => sh1 = sh ∧ N1 = N ∧ (r = some (.int (nI (tofn V tm q 12))) ∧ v1 = v)) G args s 0 0) G 4 sh v N 4 [some (.ref a), some (.int (nI q)), some (.int (nI (tofn V tm q i))), some (.int (nI i))] [] := by
    intro n
    induction n with
    | zero => intro i hm; omega
    | succ n ih =>
      intro i hm hi
      refine r_iload_n C (pc := 4) rfl rfl dX0_takenOutOf_4 ?_
      refine r_aload_n C (pc := 5) rfl rfl dX0_takenOutOf_5 ?_
      refine r_get C (pc := 6) (ci := 0) (k := 0) (w := .ref (a + 1)) rfl (by decide) inX0 (by decide) q_149 (Or.inl hd0) hs0 (zl_ref _ _) dX0_takenOutOf_6 ?_
      refine r_alen C (pc := 9) (x := nI 12) (Or.inl hd1) hs1 (by decide) rfl rfl dX0_takenOutOf_9 ?_
      refine n_icmp_ge C (pc := 10) (tgt := 36) (by omega) (by omega) dX0_takenOutOf_10 (by decide) (fun c_10 => ?_) (fun c_10 => ?_)
      · refine r_iload_n C (pc := 36) rfl rfl dX0_takenOutOf_36 ?_
        exact r_iret C (pc := 37) rfl (rfl) dX0_takenOutOf_37 ⟨rfl, rfl, by rw [show i = 12 by omega], rfl⟩
      · refine r_iload_n C (pc := 13) rfl rfl dX0_takenOutOf_13 ?_
        refine r_iload_n C (pc := 14) rfl rfl dX0_takenOutOf_14 ?_
        refine r_callSN C (pc := 15) (st := []) (m_X6_hasBlock l G sh v N (q := q) (b := i) (by omega) (by omega)) kyX6_hasBlock q_417 rfl rfl (Nat.le_of_ble_eq_true rfl) ⟨Nat.le_of_ble_eq_true rfl, Nat.le_of_ble_eq_true rfl⟩ ⟨Nat.le_of_ble_eq_true rfl, Nat.le_of_ble_eq_true rfl⟩ dX0_takenOutOf_15 (fun r15 v15 hp15 => ?_)
        obtain ⟨rfl, ehp15⟩ := hp15
        refine VV.vq ehp15 ?_
        refine VV.eq (st2 := [.int (zb (q.testBit (8 + i)))]) rfl ?_
        refine n_ifb_eq C (pc := 18) (tgt := 30) dX0_takenOutOf_18 (by decide) (fun c_18 => ?_) (fun c_18 => ?_)
        · refine r_iinc C (pc := 30) (lv2 := [some (.ref a), some (.int (nI q)), some (.int (nI (tofn V tm q i))), some (.int (nI (i + 1)))]) (y := (nI (i + 1))) rfl (nI_inc _ _) (Nat.le_of_ble_eq_true rfl) rfl rfl dX0_takenOutOf_30 ?_
          refine r_goto C (pc := 33) (tgt := 4) dX0_takenOutOf_33 (by decide) ?_
          have hs : tofn V tm q (i + 1) = tofn V tm q i := by
            show (if _ then _ else _) = _
            rw [if_neg (by rw [c_18]; decide)]
          have := ih (i + 1) (by omega) (by omega)
          rw [hs] at this
          exact this
        · refine r_iload_n C (pc := 21) rfl rfl dX0_takenOutOf_21 ?_
          refine r_aload_n C (pc := 22) rfl rfl dX0_takenOutOf_22 ?_
          refine r_get C (pc := 23) (ci := 0) (k := 0) (w := .ref (a + 1)) rfl (by decide) inX0 (by decide) q_149 (Or.inl hd0) hs0 (zl_ref _ _) dX0_takenOutOf_23 ?_
          refine r_iload_n C (pc := 26) rfl rfl dX0_takenOutOf_26 ?_
          refine r_iald C (pc := 27) (x := (nI (sgl V tm i))) (Or.inl hd1) hs1 (by omega) (by omega) (h2 i (by omega)) dX0_takenOutOf_27 ?_
          refine r_ixor C (pc := 28) (z := (nI (tofn V tm q i ^^^ sgl V tm i))) (nx_xor _ _) dX0_takenOutOf_28 ?_
          refine r_istore_n C (pc := 29) (lv2 := [some (.ref a), some (.int (nI q)), some (.int (nI (tofn V tm q i ^^^ sgl V tm i))), some (.int (nI i))]) rfl (Nat.le_of_ble_eq_true rfl) rfl rfl dX0_takenOutOf_29 ?_
          refine r_iinc C (pc := 30) (lv2 := [some (.ref a), some (.int (nI q)), some (.int (nI (tofn V tm q i ^^^ sgl V tm i))), some (.int (nI (i + 1)))]) (y := (nI (i + 1))) rfl (nI_inc _ _) (Nat.le_of_ble_eq_true rfl) rfl rfl dX0_takenOutOf_30 ?_
          refine r_goto C (pc := 33) (tgt := 4) dX0_takenOutOf_33 (by decide) ?_
          have hs : tofn V tm q (i + 1) = tofn V tm q i ^^^ sgl V tm i := by
            show (if _ then _ else _) = _
            rw [if_pos c_18]
          have := ih (i + 1) (by omega) (by omega)
          rw [hs] at this
          exact this
  refine r_iload_n C (pc := 0) rfl rfl dX0_takenOutOf_0 ?_
  refine r_istore_n C (pc := 1) (lv2 := [some (.ref a), some (.int (nI q)), some (.int (nI q)), none]) rfl (Nat.le_of_ble_eq_true rfl) rfl rfl dX0_takenOutOf_1 ?_
  refine r_iconst C (pc := 2) (x := (nI 0)) (by decide) dX0_takenOutOf_2 ?_
  refine r_istore_n C (pc := 3) (lv2 := [some (.ref a), some (.int (nI q)), some (.int (nI q)), some (.int (nI 0))]) rfl (Nat.le_of_ble_eq_true rfl) rfl rfl dX0_takenOutOf_3 ?_
  exact loop 13 0 (by omega) (by omega)
set_option maxRecDepth 100000 in
set_option maxHeartbeats 4000000 in
theorem m_X0_clear (l : Launch) (G : zG) (sh : zH) (v : zV) (N : Nat) {a : Nat} {V : Nat → Nat} {tm : Nat → Option Nat} (hp : zFI G sh N a) (hv : zfi v a V tm) : zm l G yX0_clear cX0_clear 2 none 0 [.ref a] sh v N (fun r v1 => r = none ∧ zfi v1 a V (fun _ => none) ∧ zfr v v1 a 3) := by
  refine zM.of (by decide) rfl (Nat.le_of_ble_eq_true rfl) ?_
  intro p e s m args below meth c C
  obtain ⟨hB, hN, hs0, hs1, hs2⟩ := id hp
  obtain ⟨h1, h2, h3⟩ := id hv
  have hd0 : G.2.2.1 ≤ a ∧ a < N := ⟨hB, by omega⟩
  have hd1 : G.2.2.1 ≤ a + 1 ∧ a + 1 < N := ⟨by omega, by omega⟩
  have hd2 : G.2.2.1 ≤ a + 2 ∧ a + 2 < N := ⟨by omega, hN⟩
  have loop : ∀ (n i : Nat) (v' : zV), 12 - i < n → i ≤ 12 → (∀ j, j < i → v' (a + 1) j = nI 0) → (∀ j, j < i → v' (a + 2) j = (-9)) → zfr v v' a 3 → VV p l e ({ frames := 0, cells := 0, slots := 0, locals := 32 * 0 }) s m args below meth c 0 0 (zQ below (fun r sh1 v1 N1 => sh1 = sh ∧ N1 = N ∧ (r = none ∧ zfi v1 a V (fun _ => none) ∧ zfr v v1 a 3)) G args s 0 0) G 2 sh v' N 2 [some (.ref a), some (.int (nI i))] [] := by
    intro n
    induction n with
    | zero => intro i v' hm; omega
    | succ n ih =>
      intro i v' hm hi e1 e2 e3
      refine r_iload_n C (pc := 2) rfl rfl dX0_clear_2 ?_
      refine r_aload_n C (pc := 3) rfl rfl dX0_clear_3 ?_
      refine r_get C (pc := 4) (ci := 0) (k := 0) (w := .ref (a + 1)) rfl (by decide) inX0 (by decide) q_149 (Or.inl hd0) hs0 (zl_ref _ _) dX0_clear_4 ?_
      refine r_alen C (pc := 7) (x := nI 12) (Or.inl hd1) hs1 (by decide) rfl rfl dX0_clear_7 ?_
      refine n_icmp_ge C (pc := 8) (tgt := 41) (by omega) (by omega) dX0_clear_8 (by decide) (fun c_8 => ?_) (fun c_8 => ?_)
      · refine r_aload_n C (pc := 41) rfl rfl dX0_clear_41 ?_
        refine r_iconst C (pc := 42) (x := (nI 0)) (by decide) dX0_clear_42 ?_
        refine r_put C (pc := 43) (ci := 0) (k := 2) rfl (by decide) inX0 tyX0_ok nmX0 (by decide) rfl pfI rfl q_152 hd0 hs0 dX0_clear_43 ?_
        refine VV.gn (fun w43 ew43 => ?_)
        exact r_vret C (pc := 46) rfl dX0_clear_46 ⟨rfl, rfl, rfl, ⟨by rw [ew43, z2_self]; rfl, fun j hj => by rw [ew43, z2_addr (by omega)]; exact e1 j (by omega), fun j hj => by rw [ew43, z2_addr (by omega)]; exact e2 j (by omega)⟩, by rw [ew43]; exact e3.z2 (by omega) (by omega)⟩
      · refine r_iload_n C (pc := 11) rfl rfl dX0_clear_11 ?_
        refine r_aload_n C (pc := 12) rfl rfl dX0_clear_12 ?_
        refine r_get C (pc := 13) (ci := 0) (k := 1) (w := .ref (a + 2)) rfl (by decide) inX0 (by decide) q_150 (Or.inl hd0) hs0 (zl_ref _ _) dX0_clear_13 ?_
        refine r_alen C (pc := 16) (x := nI 12) (Or.inl hd2) hs2 (by decide) rfl rfl dX0_clear_16 ?_
        refine n_icmp_ge C (pc := 17) (tgt := 41) (by omega) (by omega) dX0_clear_17 (by decide) (fun c_17 => by exfalso; omega) (fun c_17 => ?_)
        refine r_aload_n C (pc := 20) rfl rfl dX0_clear_20 ?_
        refine r_get C (pc := 21) (ci := 0) (k := 0) (w := .ref (a + 1)) rfl (by decide) inX0 (by decide) q_149 (Or.inl hd0) hs0 (zl_ref _ _) dX0_clear_21 ?_
        refine r_iload_n C (pc := 24) rfl rfl dX0_clear_24 ?_
        refine r_iconst C (pc := 25) (x := (nI 0)) (by decide) dX0_clear_25 ?_
        refine r_iast C (pc := 26) hd1 hs1 (by omega) (by omega) dX0_clear_26 ?_
        refine VV.gn (fun w26 ew26 => ?_)
        refine r_aload_n C (pc := 27) rfl rfl dX0_clear_27 ?_
        refine r_get C (pc := 28) (ci := 0) (k := 1) (w := .ref (a + 2)) rfl (by decide) inX0 (by decide) q_150 (Or.inl hd0) hs0 (zl_ref _ _) dX0_clear_28 ?_
        refine r_iload_n C (pc := 31) rfl rfl dX0_clear_31 ?_
        refine r_bipush C (pc := 32) (x := (-9)) (by decide) dX0_clear_32 ?_
        refine r_iast C (pc := 34) hd2 hs2 (by omega) (by omega) dX0_clear_34 ?_
        refine VV.gn (fun w34 ew34 => ?_)
        refine r_iinc C (pc := 35) (lv2 := [some (.ref a), some (.int (nI (i + 1)))]) (y := (nI (i + 1))) rfl (nI_inc _ _) (Nat.le_of_ble_eq_true rfl) rfl rfl dX0_clear_35 ?_
        refine r_goto C (pc := 38) (tgt := 2) dX0_clear_38 (by decide) ?_
        exact ih (i + 1) w34 (by omega) (by omega) (fun j hj => by
          rw [ew34, z2_addr (by omega), ew26]
          by_cases hji : j = i
          · subst hji; rw [z2_self]
          · rw [z2_ne (by omega)]; exact e1 j (by omega)) (fun j hj => by
          rw [ew34]
          by_cases hji : j = i
          · subst hji; rw [z2_self]
          · rw [z2_ne (by omega), ew26, z2_addr (by omega)]; exact e2 j (by omega)) (by rw [ew34, ew26]; exact (e3.z2 (by omega) (by omega)).z2 (by omega) (by omega))
  refine r_iconst C (pc := 0) (x := (nI 0)) (by decide) dX0_clear_0 ?_
  refine r_istore_n C (pc := 1) (lv2 := [some (.ref a), some (.int (nI 0))]) rfl (Nat.le_of_ble_eq_true rfl) rfl rfl dX0_clear_1 ?_
  exact loop 13 0 v (by omega) (by omega) (fun j hj => by omega) (fun j hj => by omega) zfr.rf
set_option maxRecDepth 100000 in
set_option maxHeartbeats 4000000 in
theorem m_X0_copyFrom (l : Launch) (G : zG) (sh : zH) (v : zV) (N : Nat) {a o : Nat} {V2 : Nat → Nat} {tm2 : Nat → Option Nat} (hp : zFI G sh N a) (hpo : zFI G sh N o) (hvo : zfi v o V2 tm2) (hno : o + 3 ≤ a ∨ a + 3 ≤ o) : zm l G yX0_copyFrom cX0_copyFrom 2 none 2 [.ref a, .ref o] sh v N (fun r v1 => r = none ∧ zfi v1 a V2 tm2 ∧ zfr v v1 a 3) := by
  refine zM.of (by decide) rfl (Nat.le_of_ble_eq_true rfl) ?_
  intro p e s m args below meth c C
  obtain ⟨hB, hN, hs0, hs1, hs2⟩ := id hp
  have hd0 : G.2.2.1 ≤ a ∧ a < N := ⟨hB, by omega⟩
  have hd1 : G.2.2.1 ≤ a + 1 ∧ a + 1 < N := ⟨by omega, by omega⟩
  have hd2 : G.2.2.1 ≤ a + 2 ∧ a + 2 < N := ⟨by omega, hN⟩
  obtain ⟨gB, gN, ho0, ho1, ho2⟩ := id hpo
  obtain ⟨g1, g2, g3⟩ := id hvo
  have gd0 : G.2.2.1 ≤ o ∧ o < N := ⟨gB, by omega⟩
  have gd1 : G.2.2.1 ≤ o + 1 ∧ o + 1 < N := ⟨by omega, by omega⟩
  have gd2 : G.2.2.1 ≤ o + 2 ∧ o + 2 < N := ⟨by omega, gN⟩
  refine r_aload_n C (pc := 0) rfl rfl dX0_copyFrom_0 ?_
  refine r_get C (pc := 1) (ci := 0) (k := 0) (w := .ref (o + 1)) rfl (by decide) inX0 (by decide) q_149 (Or.inl gd0) ho0 (zl_ref _ _) dX0_copyFrom_1 ?_
  refine r_aload_n C (pc := 4) rfl rfl dX0_copyFrom_4 ?_
  refine r_get C (pc := 5) (ci := 0) (k := 0) (w := .ref (a + 1)) rfl (by decide) inX0 (by decide) q_149 (Or.inl hd0) hs0 (zl_ref _ _) dX0_copyFrom_5 ?_
  refine r_callSN C (pc := 8) (st := []) (m_X6_copyRow l G sh v N (a0 := o + 1) (a := a + 1) (n := 12) (by omega) (by omega) (Or.inl gd1) ho1 hd1 hs1) kyX6_copyRow q_309 rfl rfl (Nat.le_of_ble_eq_true rfl) ⟨Nat.le_of_ble_eq_true rfl, Nat.le_of_ble_eq_true rfl⟩ ⟨Nat.le_of_ble_eq_true rfl, Nat.le_of_ble_eq_true rfl⟩ dX0_copyFrom_8 (fun r8 v8 hp8 => ?_)
  obtain ⟨rfl, hz8⟩ := hp8
  refine VV.eq (st2 := []) rfl ?_
  refine r_aload_n C (pc := 11) rfl rfl dX0_copyFrom_11 ?_
  refine r_get C (pc := 12) (ci := 0) (k := 1) (w := .ref (o + 2)) rfl (by decide) inX0 (by decide) q_150 (Or.inl gd0) ho0 (zl_ref _ _) dX0_copyFrom_12 ?_
  refine r_aload_n C (pc := 15) rfl rfl dX0_copyFrom_15 ?_
  refine r_get C (pc := 16) (ci := 0) (k := 1) (w := .ref (a + 2)) rfl (by decide) inX0 (by decide) q_150 (Or.inl hd0) hs0 (zl_ref _ _) dX0_copyFrom_16 ?_
  refine r_callSN C (pc := 19) (st := []) (m_X6_copyRow l G sh v8 N (a0 := o + 2) (a := a + 2) (n := 12) (by omega) (by omega) (Or.inl gd2) ho2 hd2 hs2) kyX6_copyRow q_309 rfl rfl (Nat.le_of_ble_eq_true rfl) ⟨Nat.le_of_ble_eq_true rfl, Nat.le_of_ble_eq_true rfl⟩ ⟨Nat.le_of_ble_eq_true rfl, Nat.le_of_ble_eq_true rfl⟩ dX0_copyFrom_19 (fun r19 v19 hp19 => ?_)
  obtain ⟨rfl, hz19⟩ := hp19
  refine VV.eq (st2 := []) rfl ?_
  refine r_aload_n C (pc := 22) rfl rfl dX0_copyFrom_22 ?_
  refine r_aload_n C (pc := 23) rfl rfl dX0_copyFrom_23 ?_
  refine r_get C (pc := 24) (ci := 0) (k := 2) (w := .int (nI (cnt tm2))) rfl (by decide) inX0 (by decide) q_152 (Or.inl gd0) ho0 (zl_i (by rw [hz19, zcp_ne (by omega), hz8, zcp_ne (by omega)]; exact g1)) dX0_copyFrom_24 ?_
  refine r_put C (pc := 27) (ci := 0) (k := 2) rfl (by decide) inX0 tyX0_ok nmX0 (by decide) rfl pfI rfl q_152 hd0 hs0 dX0_copyFrom_27 ?_
  refine VV.gn (fun w27 ew27 => ?_)
  exact r_vret C (pc := 30) rfl dX0_copyFrom_30 ⟨rfl, rfl, rfl, ⟨by rw [ew27, z2_self], fun k hk => by rw [ew27, z2_addr (by omega), hz19, zcp_ne (by omega), hz8, zcp_at hk]; exact g2 k hk, fun k hk => by rw [ew27, z2_addr (by omega), hz19, zcp_at hk, hz8, zcp_ne (by omega)]; exact g3 k hk⟩, fun b hb => by rw [ew27, z2_addr (by omega), hz19, zcp_ne (by omega), hz8, zcp_ne (by omega)]⟩
