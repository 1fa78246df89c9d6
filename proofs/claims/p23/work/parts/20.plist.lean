set_option maxRecDepth 100000 in
set_option maxHeartbeats 4000000 in
theorem m_X1_at (l : Launch) (G : zG) (sh : zH) (v : zV) (N : Nat) {a cap : Nat} {ps : List Nat} {j : Nat} (hp : zPL G sh N a cap) (hv : zpl v a cap ps) (hj : j < 2 ^ 31) : zm l G yX1_at cX1_at 2 (some .int) 0 [.ref a, .int (nI j)] sh v N (fun r v1 => r = some (.int (nI (ps.getD j 0))) ∧ v1 = v) := by
  refine zM.of (by decide) rfl (Nat.le_of_ble_eq_true rfl) ?_
  intro p e s m args below meth c C
  obtain ⟨hB, hN, hcap, hs0, hs1⟩ := hp
  obtain ⟨h1, h2, h3⟩ := id hv
  have hd0 : G.2.2.1 ≤ a ∧ a < N := ⟨hB, by omega⟩
  have hd1 : G.2.2.1 ≤ a + 1 ∧ a + 1 < N := ⟨by omega, hN⟩
  refine r_iload_n C (pc := 0) rfl rfl dX1_at_0 ?_
  refine n_if_lt C (pc := 1) (by omega) dX1_at_1 ?_
  refine r_iload_n C (pc := 4) rfl rfl dX1_at_4 ?_
  refine r_aload_n C (pc := 5) rfl rfl dX1_at_5 ?_
  refine r_get C (pc := 6) (ci := 1) (k := 1) (w := .int (nI ps.length)) rfl (by decide) inX1 (by decide) q_120 (Or.inl hd0) hs0 (zl_i (h1)) dX1_at_6 ?_
  refine n_icmp_ge C (pc := 9) (tgt := 30) (by omega) (by omega) dX1_at_9 (by decide) (fun c_9 => ?_) (fun c_9 => ?_)
  · refine r_iconst C (pc := 30) (x := (nI 0)) (by decide) dX1_at_30 ?_
    exact r_iret C (pc := 31) rfl (rfl) dX1_at_31 ⟨rfl, rfl, by rw [gd_ge c_9], rfl⟩
  · refine r_iload_n C (pc := 12) rfl rfl dX1_at_12 ?_
    refine r_aload_n C (pc := 13) rfl rfl dX1_at_13 ?_
    refine r_get C (pc := 14) (ci := 1) (k := 0) (w := .ref (a + 1)) rfl (by decide) inX1 (by decide) q_119 (Or.inl hd0) hs0 (zl_ref _ _) dX1_at_14 ?_
    refine r_alen C (pc := 17) (x := nI cap) (Or.inl hd1) hs1 (by decide) rfl rfl dX1_at_17 ?_
    refine n_icmp_ge C (pc := 18) (tgt := 30) (by omega) (by omega) dX1_at_18 (by decide) (fun c_18 => by exfalso; omega) (fun c_18 => ?_)
    refine r_aload_n C (pc := 21) rfl rfl dX1_at_21 ?_
    refine r_get C (pc := 22) (ci := 1) (k := 0) (w := .ref (a + 1)) rfl (by decide) inX1 (by decide) q_119 (Or.inl hd0) hs0 (zl_ref _ _) dX1_at_22 ?_
    refine r_iload_n C (pc := 25) rfl rfl dX1_at_25 ?_
    refine r_iald C (pc := 26) (x := (nI (ps.getD j 0))) (Or.inl hd1) hs1 (by omega) (by omega) (h3 j c_9) dX1_at_26 ?_
    refine r_goto C (pc := 27) (tgt := 31) dX1_at_27 (by decide) ?_
    exact r_iret C (pc := 31) rfl (rfl) dX1_at_31 ⟨rfl, rfl, rfl, rfl⟩
set_option maxRecDepth 100000 in
set_option maxHeartbeats 4000000 in
theorem m_X1_append (l : Launch) (G : zG) (sh : zH) (v : zV) (N : Nat) {a cap : Nat} {ps : List Nat} {q : Nat} (hp : zPL G sh N a cap) (hv : zpl v a cap ps) (hl : ps.length < cap) : zm l G yX1_append cX1_append 2 none 0 [.ref a, .int (nI q)] sh v N (fun r v1 => r = none ∧ zpl v1 a cap (ps ++ [q]) ∧ zfr v v1 a 2) := by
  refine zM.of (by decide) rfl (Nat.le_of_ble_eq_true rfl) ?_
  intro p e s m args below meth c C
  obtain ⟨hB, hN, hcap, hs0, hs1⟩ := hp
  obtain ⟨h1, h2, h3⟩ := id hv
  have hd0 : G.2.2.1 ≤ a ∧ a < N := ⟨hB, by omega⟩
  have hd1 : G.2.2.1 ≤ a + 1 ∧ a + 1 < N := ⟨by omega, hN⟩
  refine r_aload_n C (pc := 0) rfl rfl dX1_append_0 ?_
  refine r_get C (pc := 1) (ci := 1) (k := 1) (w := .int (nI ps.length)) rfl (by decide) inX1 (by decide) q_120 (Or.inl hd0) hs0 (zl_i (h1)) dX1_append_1 ?_
  refine n_if_lt C (pc := 4) (by omega) dX1_append_4 ?_
  refine r_aload_n C (pc := 7) rfl rfl dX1_append_7 ?_
  refine r_get C (pc := 8) (ci := 1) (k := 1) (w := .int (nI ps.length)) rfl (by decide) inX1 (by decide) q_120 (Or.inl hd0) hs0 (zl_i (h1)) dX1_append_8 ?_
  refine r_aload_n C (pc := 11) rfl rfl dX1_append_11 ?_
  refine r_get C (pc := 12) (ci := 1) (k := 0) (w := .ref (a + 1)) rfl (by decide) inX1 (by decide) q_119 (Or.inl hd0) hs0 (zl_ref _ _) dX1_append_12 ?_
  refine r_alen C (pc := 15) (x := nI cap) (Or.inl hd1) hs1 (by decide) rfl rfl dX1_append_15 ?_
  refine n_icmp_ge C (pc := 16) (tgt := 39) (by omega) (by omega) dX1_append_16 (by decide) (fun c_16 => by exfalso; omega) (fun c_16 => ?_)
  refine r_aload_n C (pc := 19) rfl rfl dX1_append_19 ?_
  refine r_get C (pc := 20) (ci := 1) (k := 0) (w := .ref (a + 1)) rfl (by decide) inX1 (by decide) q_119 (Or.inl hd0) hs0 (zl_ref _ _) dX1_append_20 ?_
  refine r_aload_n C (pc := 23) rfl rfl dX1_append_23 ?_
  refine r_get C (pc := 24) (ci := 1) (k := 1) (w := .int (nI ps.length)) rfl (by decide) inX1 (by decide) q_120 (Or.inl hd0) hs0 (zl_i (h1)) dX1_append_24 ?_
  refine r_iload_n C (pc := 27) rfl rfl dX1_append_27 ?_
  refine r_iast C (pc := 28) hd1 hs1 (by omega) (by omega) dX1_append_28 ?_
  refine VV.gn (fun w28 ew28 => ?_)
  refine r_aload_n C (pc := 29) rfl rfl dX1_append_29 ?_
  refine r_dup C (pc := 30) rfl dX1_append_30 ?_
  refine r_get C (pc := 31) (ci := 1) (k := 1) (w := .int (nI ps.length)) rfl (by decide) inX1 (by decide) q_120 (Or.inl hd0) hs0 (zl_i (by rw [ew28, z2_ne (by omega)]; exact h1)) dX1_append_31 ?_
  refine r_iconst C (pc := 34) (x := (nI 1)) (by decide) dX1_append_34 ?_
  refine r_iadd C (pc := 35) (z := (nI (ps.length + 1))) (nI_add _ _) dX1_append_35 ?_
  refine r_put C (pc := 36) (ci := 1) (k := 1) rfl (by decide) inX1 tyX1_ok nmX1 (by decide) rfl pfI rfl q_120 hd0 hs0 dX1_append_36 ?_
  refine VV.gn (fun w36 ew36 => ?_)
  exact r_vret C (pc := 39) rfl dX1_append_39 ⟨rfl, rfl, rfl, by subst ew36; subst ew28; exact pl_app hv hl, by subst ew36; subst ew28; exact (zfr.rf.z2 (by omega) (by omega)).z2 (by omega) (by omega)⟩
set_option maxRecDepth 100000 in
set_option maxHeartbeats 4000000 in
theorem m_X1_removeAt (l : Launch) (G : zG) (sh : zH) (v : zV) (N : Nat) {a cap : Nat} {ps : List Nat} {k : Nat} (hp : zPL G sh N a cap) (hv : zpl v a cap ps) (hk : k < ps.length) : zm l G yX1_removeAt cX1_removeAt 4 (some .int) 0 [.ref a, .int (nI k)] sh v N (fun r v1 => r = some (.int (nI (ps.getD k 0))) ∧ zpl v1 a cap (ps.eraseIdx k) ∧ zfr v v1 a 2) := by
  refine zM.of (by decide) rfl (Nat.le_of_ble_eq_true rfl) ?_
  intro p e s m args below meth c C
  obtain ⟨hB, hN, hcap, hs0, hs1⟩ := hp
  obtain ⟨h1, h2, h3⟩ := id hv
  have hd0 : G.2.2.1 ≤ a ∧ a < N := ⟨hB, by omega⟩
  have hd1 : G.2.2.1 ≤ a + 1 ∧ a + 1 < N := ⟨by omega, hN⟩
  have loop : ∀ (n i : Nat) (v' : zV), ps.length - i < n → k < i → i ≤ ps.length → v' a 1 = nI ps.length → (∀ j, j < ps.length → v' (a + 1) j = nI (if k ≤ j ∧ j + 1 < i then ps.getD (j + 1) 0 else ps.getD j 0)) → zfr v v' a 2 → VV p l e ({ frames := 0, cells := 0, slots := 0, locals := 32 * 0 }) s m args below meth c 0 0 (zQ below (fun r sh1 v1 N1 => sh1 = sh ∧ N1 = N ∧ (r = some (.int (nI (ps.getD k 0))) ∧ zpl v1 a cap (ps.eraseIdx k) ∧ zfr v v1 a 2)) G args s 0 0) G 4 sh v' N 34 [some (.ref a), some (.int (nI k)), some (.int (nI (ps.getD k 0))), some (.int (nI i))] [] := by
    intro n
    induction n with
    | zero => intro i v' hm; omega
    | succ n ih =>
      intro i v' hm hki hil e1 e2 e3
      refine r_iload_n C (pc := 34) rfl rfl dX1_removeAt_34 ?_
      refine r_aload_n C (pc := 35) rfl rfl dX1_removeAt_35 ?_
      refine r_get C (pc := 36) (ci := 1) (k := 1) (w := .int (nI ps.length)) rfl (by decide) inX1 (by decide) q_120 (Or.inl hd0) hs0 (zl_i (e1)) dX1_removeAt_36 ?_
      refine n_icmp_ge C (pc := 39) (tgt := 71) (by omega) (by omega) dX1_removeAt_39 (by decide) (fun c_39 => ?_) (fun c_39 => ?_)
      · refine r_aload_n C (pc := 71) rfl rfl dX1_removeAt_71 ?_
        refine r_dup C (pc := 72) rfl dX1_removeAt_72 ?_
        refine r_get C (pc := 73) (ci := 1) (k := 1) (w := .int (nI ps.length)) rfl (by decide) inX1 (by decide) q_120 (Or.inl hd0) hs0 (zl_i (e1)) dX1_removeAt_73 ?_
        refine r_iconst C (pc := 76) (x := (nI 1)) (by decide) dX1_removeAt_76 ?_
        refine r_isub C (pc := 77) (z := (nI (ps.length - 1))) (pk_sub (by omega)) dX1_removeAt_77 ?_
        refine r_put C (pc := 78) (ci := 1) (k := 1) rfl (by decide) inX1 tyX1_ok nmX1 (by decide) rfl pfI rfl q_120 hd0 hs0 dX1_removeAt_78 ?_
        refine VV.gn (fun w78 ew78 => ?_)
        refine r_iload_n C (pc := 81) rfl rfl dX1_removeAt_81 ?_
        exact r_iret C (pc := 82) rfl (rfl) dX1_removeAt_82 ⟨rfl, rfl, rfl, ⟨by rw [ew78, z2_self, List.length_eraseIdx_of_lt hk], by rw [List.length_eraseIdx_of_lt hk]; omega, fun j hj => by
      rw [List.length_eraseIdx_of_lt hk] at hj
      rw [ew78, z2_addr (by omega), e2 j (by omega), gd_erase]
      by_cases hjk : j < k
      · rw [if_pos hjk, if_neg (by omega)]
      · rw [if_neg hjk, if_pos ⟨by omega, by omega⟩]⟩, by rw [ew78]; exact e3.z2 (by omega) (by omega)⟩
      · refine r_iload_n C (pc := 42) rfl rfl dX1_removeAt_42 ?_
        refine r_aload_n C (pc := 43) rfl rfl dX1_removeAt_43 ?_
        refine r_get C (pc := 44) (ci := 1) (k := 0) (w := .ref (a + 1)) rfl (by decide) inX1 (by decide) q_119 (Or.inl hd0) hs0 (zl_ref _ _) dX1_removeAt_44 ?_
        refine r_alen C (pc := 47) (x := nI cap) (Or.inl hd1) hs1 (by decide) rfl rfl dX1_removeAt_47 ?_
        refine n_icmp_ge C (pc := 48) (tgt := 71) (by omega) (by omega) dX1_removeAt_48 (by decide) (fun c_48 => by exfalso; omega) (fun c_48 => ?_)
        refine r_aload_n C (pc := 51) rfl rfl dX1_removeAt_51 ?_
        refine r_get C (pc := 52) (ci := 1) (k := 0) (w := .ref (a + 1)) rfl (by decide) inX1 (by decide) q_119 (Or.inl hd0) hs0 (zl_ref _ _) dX1_removeAt_52 ?_
        refine r_iload_n C (pc := 55) rfl rfl dX1_removeAt_55 ?_
        refine r_iconst C (pc := 56) (x := (nI 1)) (by decide) dX1_removeAt_56 ?_
        refine r_isub C (pc := 57) (z := (nI (i - 1))) (pk_sub (by omega)) dX1_removeAt_57 ?_
        refine r_aload_n C (pc := 58) rfl rfl dX1_removeAt_58 ?_
        refine r_get C (pc := 59) (ci := 1) (k := 0) (w := .ref (a + 1)) rfl (by decide) inX1 (by decide) q_119 (Or.inl hd0) hs0 (zl_ref _ _) dX1_removeAt_59 ?_
        refine r_iload_n C (pc := 62) rfl rfl dX1_removeAt_62 ?_
        refine r_iald C (pc := 63) (x := (nI (ps.getD i 0))) (Or.inl hd1) hs1 (by omega) (by omega) (by rw [e2 i c_39, if_neg (by omega)]) dX1_removeAt_63 ?_
        refine r_iast C (pc := 64) hd1 hs1 (by omega) (by omega) dX1_removeAt_64 ?_
        refine VV.gn (fun w64 ew64 => ?_)
        refine r_iinc C (pc := 65) (lv2 := [some (.ref a), some (.int (nI k)), some (.int (nI (ps.getD k 0))), some (.int (nI (i + 1)))]) (y := (nI (i + 1))) rfl (nI_inc _ _) (Nat.le_of_ble_eq_true rfl) rfl rfl dX1_removeAt_65 ?_
        refine r_goto C (pc := 68) (tgt := 34) dX1_removeAt_68 (by decide) ?_
        exact ih (i + 1) w64 (by omega) (by omega) (by omega) (by rw [ew64, z2_ne (by omega)]; exact e1) (fun j hj => by
          rw [ew64]
          by_cases hji : j = i - 1
          · subst hji
            rw [z2_self, if_pos ⟨by omega, by omega⟩, show i - 1 + 1 = i by omega]
          · rw [z2_ne (by omega), e2 j hj]
            by_cases hc : k ≤ j ∧ j + 1 < i
            · rw [if_pos hc, if_pos ⟨hc.1, by omega⟩]
            · rw [if_neg hc, if_neg (by omega)]) (by rw [ew64]; exact e3.z2 (by omega) (by omega))
  refine r_iload_n C (pc := 0) rfl rfl dX1_removeAt_0 ?_
  refine n_if_lt C (pc := 1) (by omega) dX1_removeAt_1 ?_
  refine r_iload_n C (pc := 4) rfl rfl dX1_removeAt_4 ?_
  refine r_aload_n C (pc := 5) rfl rfl dX1_removeAt_5 ?_
  refine r_get C (pc := 6) (ci := 1) (k := 1) (w := .int (nI ps.length)) rfl (by decide) inX1 (by decide) q_120 (Or.inl hd0) hs0 (zl_i (h1)) dX1_removeAt_6 ?_
  refine n_icmp_ge C (pc := 9) (tgt := 21) (by omega) (by omega) dX1_removeAt_9 (by decide) (fun c_9 => by exfalso; omega) (fun c_9 => ?_)
  refine r_iload_n C (pc := 12) rfl rfl dX1_removeAt_12 ?_
  refine r_aload_n C (pc := 13) rfl rfl dX1_removeAt_13 ?_
  refine r_get C (pc := 14) (ci := 1) (k := 0) (w := .ref (a + 1)) rfl (by decide) inX1 (by decide) q_119 (Or.inl hd0) hs0 (zl_ref _ _) dX1_removeAt_14 ?_
  refine r_alen C (pc := 17) (x := nI cap) (Or.inl hd1) hs1 (by decide) rfl rfl dX1_removeAt_17 ?_
  refine n_icmp_lt C (pc := 18) (tgt := 23) (by omega) (by omega) dX1_removeAt_18 (by decide) (fun c_18 => ?_) (fun c_18 => by exfalso; omega)
  refine r_aload_n C (pc := 23) rfl rfl dX1_removeAt_23 ?_
  refine r_get C (pc := 24) (ci := 1) (k := 0) (w := .ref (a + 1)) rfl (by decide) inX1 (by decide) q_119 (Or.inl hd0) hs0 (zl_ref _ _) dX1_removeAt_24 ?_
  refine r_iload_n C (pc := 27) rfl rfl dX1_removeAt_27 ?_
  refine r_iald C (pc := 28) (x := (nI (ps.getD k 0))) (Or.inl hd1) hs1 (by omega) (by omega) (h3 k hk) dX1_removeAt_28 ?_
  refine r_istore_n C (pc := 29) (lv2 := [some (.ref a), some (.int (nI k)), some (.int (nI (ps.getD k 0))), none]) rfl (Nat.le_of_ble_eq_true rfl) rfl rfl dX1_removeAt_29 ?_
  refine r_iload_n C (pc := 30) rfl rfl dX1_removeAt_30 ?_
  refine r_iconst C (pc := 31) (x := (nI 1)) (by decide) dX1_removeAt_31 ?_
  refine r_iadd C (pc := 32) (z := (nI (k + 1))) (nI_add _ _) dX1_removeAt_32 ?_
  refine r_istore_n C (pc := 33) (lv2 := [some (.ref a), some (.int (nI k)), some (.int (nI (ps.getD k 0))), some (.int (nI (k + 1)))]) rfl (Nat.le_of_ble_eq_true rfl) rfl rfl dX1_removeAt_33 ?_
  exact loop (ps.length + 1) (k + 1) v (by omega) (by omega) (by omega) h1 (fun j hj => by rw [if_neg (by omega)]; exact h3 j hj) zfr.rf
