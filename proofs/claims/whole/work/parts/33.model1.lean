/-! what the check has laid -/
def zbs (v : zV) (m : Nat) (r : Nat → Nat) : Prop := (∀ j, j < 12 → v (m + 4) j = nI (r j / 256)) ∧ ∀ j, j < 12 → r j ≠ 0 → v (m + 5) j = nI (r j % 256)
def fR (v v1 : zV) (m : Nat) : Prop := (∀ b, b ≠ m → v1 b = v b) ∧ ∀ k, k ≠ 7 → k ≠ 8 → v1 m k = v m k
theorem fR.rf {v : zV} {m : Nat} : fR v v m := ⟨fun _ _ => rfl, fun _ _ _ => rfl⟩
theorem fR.z {v v1 : zV} {m k : Nat} {x : Int32} (h : fR v v1 m) (hk : k = 7 ∨ k = 8) : fR v (z2 v1 m k x) m := ⟨fun b hb => by rw [z2_addr hb]; exact h.1 b hb, fun j h7 h8 => by rw [z2_ne (by omega)]; exact h.2 j h7 h8⟩
theorem fR.B {v v1 : zV} {m : Nat} (h : fR v v1 m) : fB v v1 m := ⟨fun b h1 _ _ _ => h.1 b h1, h.2 2 (by decide) (by decide), h.2 4 (by decide) (by decide)⟩
theorem fR.tr {v v1 v2 : zV} {m : Nat} (h : fR v v1 m) (g : fR v1 v2 m) : fR v v2 m := ⟨fun b hb => (g.1 b hb).trans (h.1 b hb), fun k h7 h8 => (g.2 k h7 h8).trans (h.2 k h7 h8)⟩
theorem zbs.kept {v v1 : zV} {m : Nat} {r : Nat → Nat} (h : zbs v m r) (e4 : v1 (m + 4) = v (m + 4)) (e5 : v1 (m + 5) = v (m + 5)) : zbs v1 m r := ⟨fun j hj => by rw [e4]; exact h.1 j hj, fun j hj h0 => by rw [e5]; exact h.2 j hj h0⟩
theorem ech_nz {r : Nat → Nat} (h : ech r) {n : Nat} (hn : n < 12) : r n / 256 = 0 ↔ r n = 0 := by
  constructor
  · intro h0
    by_cases hr : r n = 0
    · exact hr
    · exact absurd h0 (dv_bit (h n hn hr).2)
  · intro h0; rw [h0]
theorem ds_tb (y n : Nat) : (y / 256).testBit n = y.testBit (8 + n) := dv_tb y n
theorem sh256 {s : Nat} : s * 256 / 256 = s ∧ s * 256 % 256 = 0 := ⟨Nat.mul_div_cancel s (by decide), Nat.mul_mod_left s 256⟩
theorem p256 (b : Nat) : 2 ^ b * 256 = 2 ^ (8 + b) := by rw [Nat.add_comm, Nat.pow_add]
theorem fpr_20 {l : List Nat} (h : ∀ q ∈ l, q < 2 ^ 20) (n : Nat) {x : Nat} (hx : x < 2 ^ 20) : rdp (fpr l n) 12 x < 2 ^ 20 := rdp_lt (fun j hj => ech_20 (eqv_spr h n).2.1 hj) 12 x (Nat.le_refl 12) hx
theorem nov_fpr {l : List Nat} (h : ∀ q ∈ l, q < 2 ^ 20) (p : Nat) : nov l p = decide (rdp (fpr l l.length) 12 (p / 256 * 256) / 256 ≠ 0) := by
  rw [rd_div, nov, spo, (eqv_spr h l.length).2.2.2 p]
theorem zbs_ups {v : zV} {m t x : Nat} {r : Nat → Nat} (h : zbs v m r) : zbs (z2 (z2 v (m + 4) t (nI (x / 256))) (m + 5) t (nI (x % 256))) m (ups r t x) := by
  refine ⟨fun j hj => ?_, fun j hj h0 => ?_⟩
  · rw [z2_addr (by omega)]
    by_cases hjt : j = t
    · subst hjt; rw [z2_self, ups_s]
    · rw [z2_ne (by omega), ups_n hjt]; exact h.1 j hj
  · by_cases hjt : j = t
    · subst hjt; rw [z2_self, ups_s]
    · rw [ups_n hjt] at h0 ⊢
      rw [z2_ne (by omega), z2_addr (by omega)]; exact h.2 j hj h0
set_option maxRecDepth 100000 in
set_option maxHeartbeats 4000000 in
theorem m_X7_note (l : Launch) (G : zG) (sh : zH) (v : zV) (N : Nat) {m : Nat} {M : zMS} (hp : zMD G sh N m) (hv : zwf (v (m + 1)) M) (hg : M.1 33 < 2 ^ 31) : zm l G yX7_note cX7_note 1 none 0 [.ref m] sh v N (fun r v1 => r = none ∧ zwf (v1 (m + 1)) (upc M.1 33 (max (M.1 33) (M.2.1 4).length), M.2) ∧ fA v v1 m) := by
  refine zM.of (by decide) rfl (Nat.le_of_ble_eq_true rfl) ?_
  intro p e s mi args below meth c C
  obtain ⟨hB, hN, hs0, hs1, hs2, hs3, hs4, hs5, hs6, hs7, hs8⟩ := id hp
  have hd0 : G.2.2.1 ≤ m ∧ m < N := ⟨hB, by omega⟩
  have hd1 : G.2.2.1 ≤ m + 1 ∧ m + 1 < N := ⟨by omega, by omega⟩
  have hd2 : G.2.2.1 ≤ m + 2 ∧ m + 2 < N := ⟨by omega, by omega⟩
  have hd3 : G.2.2.1 ≤ m + 3 ∧ m + 3 < N := ⟨by omega, by omega⟩
  have hd4 : G.2.2.1 ≤ m + 4 ∧ m + 4 < N := ⟨by omega, by omega⟩
  have hd5 : G.2.2.1 ≤ m + 5 ∧ m + 5 < N := ⟨by omega, by omega⟩
  have hd6 : G.2.2.1 ≤ m + 6 ∧ m + 6 < N := ⟨by omega, by omega⟩
  have hd7 : G.2.2.1 ≤ m + 7 ∧ m + 7 < N := ⟨by omega, by omega⟩
  have hd8 : G.2.2.1 ≤ m + 8 ∧ m + 8 < N := ⟨by omega, by omega⟩
  have hla : zla (v (m + 1)) 122 21 (M.2.1 4) := hv.2.1 4 (by decide)
  have hl4 := hla.2.1
  refine r_aload_n C (pc := 0) rfl rfl dX7_note_0 ?_
  refine r_get C (pc := 1) (ci := 7) (k := 0) (w := .ref (m + 1)) rfl (by decide) inX7 (by decide) q_654 (Or.inl hd0) hs0 (zl_ref _ _) dX7_note_1 ?_
  refine r_bipush C (pc := 4) (x := (nI 33)) (by decide) dX7_note_4 ?_
  refine r_aload_n C (pc := 6) rfl rfl dX7_note_6 ?_
  refine r_get C (pc := 7) (ci := 7) (k := 0) (w := .ref (m + 1)) rfl (by decide) inX7 (by decide) q_654 (Or.inl hd0) hs0 (zl_ref _ _) dX7_note_7 ?_
  refine r_bipush C (pc := 10) (x := (nI 122)) (by decide) dX7_note_10 ?_
  refine r_iald C (pc := 12) (x := (nI ((M.2.1 4).length))) (Or.inl hd1) hs1 (by omega) (by omega) (hla.1) dX7_note_12 ?_
  refine r_aload_n C (pc := 13) rfl rfl dX7_note_13 ?_
  refine r_get C (pc := 14) (ci := 7) (k := 0) (w := .ref (m + 1)) rfl (by decide) inX7 (by decide) q_654 (Or.inl hd0) hs0 (zl_ref _ _) dX7_note_14 ?_
  refine r_bipush C (pc := 17) (x := (nI 33)) (by decide) dX7_note_17 ?_
  refine r_iald C (pc := 19) (x := (nI (M.1 33))) (Or.inl hd1) hs1 (by omega) (by omega) (hv.1 33 (by decide)) dX7_note_19 ?_
  refine n_icmp_le C (pc := 20) (tgt := 33) (by omega) (by omega) dX7_note_20 (by decide) (fun c_20 => ?_) (fun c_20 => ?_)
  · refine r_aload_n C (pc := 33) rfl rfl dX7_note_33 ?_
    refine r_get C (pc := 34) (ci := 7) (k := 0) (w := .ref (m + 1)) rfl (by decide) inX7 (by decide) q_654 (Or.inl hd0) hs0 (zl_ref _ _) dX7_note_34 ?_
    refine r_bipush C (pc := 37) (x := (nI 33)) (by decide) dX7_note_37 ?_
    refine r_iald C (pc := 39) (x := (nI (M.1 33))) (Or.inl hd1) hs1 (by omega) (by omega) (hv.1 33 (by decide)) dX7_note_39 ?_
    refine r_iast C (pc := 40) hd1 hs1 (by omega) (by omega) dX7_note_40 ?_
    refine VV.gn (fun w40 ew40 => ?_)
    exact r_vret C (pc := 41) rfl dX7_note_41 ⟨rfl, rfl, rfl, zwf_c hv (by decide) (by decide) (by rw [ew40, z2_self, Nat.max_eq_left (by omega)]) (fun j hj => by rw [ew40, z2_ne (by omega)]), by rw [ew40]; exact fA.rf.z2⟩
  · refine r_aload_n C (pc := 23) rfl rfl dX7_note_23 ?_
    refine r_get C (pc := 24) (ci := 7) (k := 0) (w := .ref (m + 1)) rfl (by decide) inX7 (by decide) q_654 (Or.inl hd0) hs0 (zl_ref _ _) dX7_note_24 ?_
    refine r_bipush C (pc := 27) (x := (nI 122)) (by decide) dX7_note_27 ?_
    refine r_iald C (pc := 29) (x := (nI ((M.2.1 4).length))) (Or.inl hd1) hs1 (by omega) (by omega) (hla.1) dX7_note_29 ?_
    refine r_goto C (pc := 30) (tgt := 40) dX7_note_30 (by decide) ?_
    refine r_iast C (pc := 40) hd1 hs1 (by omega) (by omega) dX7_note_40 ?_
    refine VV.gn (fun w40 ew40 => ?_)
    exact r_vret C (pc := 41) rfl dX7_note_41 ⟨rfl, rfl, rfl, zwf_c hv (by decide) (by decide) (by rw [ew40, z2_self, Nat.max_eq_right (by omega)]) (fun j hj => by rw [ew40, z2_ne (by omega)]), by rw [ew40]; exact fA.rf.z2⟩
set_option maxRecDepth 100000 in
set_option maxHeartbeats 4000000 in
theorem m_X7_reduce (l : Launch) (G : zG) (sh : zH) (v : zV) (N : Nat) {m x : Nat} {r : Nat → Nat} (hp : zMD G sh N m) (hb : zbs v m r) (hr : ech r) (hx : x < 2 ^ 20) : zm l G yX7_reduce cX7_reduce 4 none 0 [.ref m, .int (nI (x / 256)), .int (nI (x % 256))] sh v N (fun rr v1 => rr = none ∧ v1 m 7 = nI (rdp r 12 x / 256) ∧ v1 m 8 = nI (rdp r 12 x % 256) ∧ fR v v1 m) := by
  refine zM.of (by decide) rfl (Nat.le_of_ble_eq_true rfl) ?_
  intro p e s mi args below meth c C
  obtain ⟨hB, hN, hs0, hs1, hs2, hs3, hs4, hs5, hs6, hs7, hs8⟩ := id hp
  have hd0 : G.2.2.1 ≤ m ∧ m < N := ⟨hB, by omega⟩
  have hd1 : G.2.2.1 ≤ m + 1 ∧ m + 1 < N := ⟨by omega, by omega⟩
  have hd2 : G.2.2.1 ≤ m + 2 ∧ m + 2 < N := ⟨by omega, by omega⟩
  have hd3 : G.2.2.1 ≤ m + 3 ∧ m + 3 < N := ⟨by omega, by omega⟩
  have hd4 : G.2.2.1 ≤ m + 4 ∧ m + 4 < N := ⟨by omega, by omega⟩
  have hd5 : G.2.2.1 ≤ m + 5 ∧ m + 5 < N := ⟨by omega, by omega⟩
  have hd6 : G.2.2.1 ≤ m + 6 ∧ m + 6 < N := ⟨by omega, by omega⟩
  have hd7 : G.2.2.1 ≤ m + 7 ∧ m + 7 < N := ⟨by omega, by omega⟩
  have hd8 : G.2.2.1 ≤ m + 8 ∧ m + 8 < N := ⟨by omega, by omega⟩
  have loop : ∀ (n y : Nat) (v' : zV), n ≤ 12 → y < 2 ^ 20 → rdp r n y = rdp r 12 x → v' m 7 = nI (y / 256) → v' m 8 = nI (y % 256) → fR v v' m → VV p l e ({ frames := 0, cells := 0, slots := 0, locals := 32 * 0 }) s mi args below meth c 0 0 (zQ below (fun rr sh1 v1 N1 => sh1 = sh ∧ N1 = N ∧ (rr = none ∧ v1 m 7 = nI (rdp r 12 x / 256) ∧ v1 m 8 = nI (rdp r 12 x % 256) ∧ fR v v1 m)) G args s 0 0) G 4 sh v' N 13 [some (.ref m), some (.int (nI (x / 256))), some (.int (nI (x % 256))), some (.int (tI n))] [] := by
    intro n
    induction n with
    | zero =>
      intro y v' hn hy hx2 e1 e2 e3
      refine r_iload_n C (pc := 13) rfl rfl dX7_reduce_13 ?_
      refine r_if_lt C (pc := 14) (tgt := 74) dX7_reduce_14 (by decide) (fun c_14 => ?_) (fun c_14 => by exfalso; exact c_14 tI_0)
      exact r_vret C (pc := 74) rfl dX7_reduce_74 ⟨rfl, rfl, rfl, (by have hx3 : y = rdp r 12 x := hx2; rw [← hx3]; exact e1), (by have hx3 : y = rdp r 12 x := hx2; rw [← hx3]; exact e2), e3⟩
    | succ n ih =>
      intro y v' hn hy hx2 e1 e2 e3
      rw [tI_s n]
      refine r_iload_n C (pc := 13) rfl rfl dX7_reduce_13 ?_
      refine n_if_lt C (pc := 14) (by omega) dX7_reduce_14 ?_
      refine r_aload_n C (pc := 17) rfl rfl dX7_reduce_17 ?_
      refine r_get C (pc := 18) (ci := 7) (k := 7) (w := .int (nI (y / 256))) rfl (by decide) inX7 (by decide) q_661 (Or.inl hd0) hs0 (zl_i (e1)) dX7_reduce_18 ?_
      refine r_iload_n C (pc := 21) rfl rfl dX7_reduce_21 ?_
      refine r_ishr C (pc := 22) (z := (nI (y / 256 / 2 ^ n))) (nI_shr (by omega) (by omega)) dX7_reduce_22 ?_
      refine r_iconst C (pc := 23) (x := (nI 1)) (by decide) dX7_reduce_23 ?_
      refine r_iand C (pc := 24) (z := (nI (if (y / 256).testBit n then 1 else 0))) (by rw [nx_and, tb_bit]) dX7_reduce_24 ?_
      refine r_iconst C (pc := 25) (x := (nI 1)) (by decide) dX7_reduce_25 ?_
      refine n_icmp_ne C (pc := 26) (tgt := 68) (by split <;> decide) (by decide) dX7_reduce_26 (by decide) (fun c_26 => ?_) (fun c_26 => ?_)
      · have hb0 : ¬ y.testBit (8 + n) = true := fun z => by rw [ds_tb, if_pos z] at c_26; exact c_26 rfl
        refine r_iinc C (pc := 68) (lv2 := [some (.ref m), some (.int (nI (x / 256))), some (.int (nI (x % 256))), some (.int (tI n))]) (y := (tI n)) rfl (rfl) (Nat.le_of_ble_eq_true rfl) rfl rfl dX7_reduce_68 ?_
        refine r_goto C (pc := 71) (tgt := 13) dX7_reduce_71 (by decide) ?_
        exact ih y v' (by omega) hy (by rw [← hx2]; show _ = rdp r n (if _ then _ else _); rw [if_neg hb0]) e1 e2 e3
      · have hb1 : y.testBit (8 + n) = true := by
          rw [← ds_tb]
          cases h : (y / 256).testBit n with
          | true => rfl
          | false => rw [h] at c_26; simp at c_26
        have hrn := ech_20 hr (show n < 12 by omega)
        refine r_aload_n C (pc := 29) rfl rfl dX7_reduce_29 ?_
        refine r_get C (pc := 30) (ci := 7) (k := 5) (w := .ref (m + 4)) rfl (by decide) inX7 (by decide) q_659 (Or.inl hd0) hs0 (zl_ref _ _) dX7_reduce_30 ?_
        refine r_iload_n C (pc := 33) rfl rfl dX7_reduce_33 ?_
        refine r_iald C (pc := 34) (x := (nI (r n / 256))) (Or.inl hd4) hs4 (by omega) (by omega) (by rw [e3.1 _ (by omega)]; exact hb.1 n (by omega)) dX7_reduce_34 ?_
        refine n_if_eq C (pc := 35) (tgt := 68) (by omega) dX7_reduce_35 (by decide) (fun c_35 => ?_) (fun c_35 => ?_)
        · refine r_iinc C (pc := 68) (lv2 := [some (.ref m), some (.int (nI (x / 256))), some (.int (nI (x % 256))), some (.int (tI n))]) (y := (tI n)) rfl (rfl) (Nat.le_of_ble_eq_true rfl) rfl rfl dX7_reduce_68 ?_
          refine r_goto C (pc := 71) (tgt := 13) dX7_reduce_71 (by decide) ?_
          exact ih y v' (by omega) hy (by rw [← hx2]; show _ = rdp r n (if _ then _ else _); rw [if_pos hb1, (ech_nz hr (by omega)).mp c_35, Nat.xor_zero]) e1 e2 e3
        · refine r_aload_n C (pc := 38) rfl rfl dX7_reduce_38 ?_
          refine r_dup C (pc := 39) rfl dX7_reduce_39 ?_
          refine r_get C (pc := 40) (ci := 7) (k := 7) (w := .int (nI (y / 256))) rfl (by decide) inX7 (by decide) q_661 (Or.inl hd0) hs0 (zl_i (e1)) dX7_reduce_40 ?_
          refine r_aload_n C (pc := 43) rfl rfl dX7_reduce_43 ?_
          refine r_get C (pc := 44) (ci := 7) (k := 5) (w := .ref (m + 4)) rfl (by decide) inX7 (by decide) q_659 (Or.inl hd0) hs0 (zl_ref _ _) dX7_reduce_44 ?_
          refine r_iload_n C (pc := 47) rfl rfl dX7_reduce_47 ?_
          refine r_iald C (pc := 48) (x := (nI (r n / 256))) (Or.inl hd4) hs4 (by omega) (by omega) (by rw [e3.1 _ (by omega)]; exact hb.1 n (by omega)) dX7_reduce_48 ?_
          refine r_ixor C (pc := 49) (z := (nI ((y / 256) ^^^ (r n / 256)))) (nx_xor _ _) dX7_reduce_49 ?_
          refine r_put C (pc := 50) (ci := 7) (k := 7) rfl (by decide) inX7 tyX7_ok nmX7 (by decide) rfl pfI rfl q_661 hd0 hs0 dX7_reduce_50 ?_
          refine VV.gn (fun w50 ew50 => ?_)
          refine r_aload_n C (pc := 53) rfl rfl dX7_reduce_53 ?_
          refine r_dup C (pc := 54) rfl dX7_reduce_54 ?_
          refine r_get C (pc := 55) (ci := 7) (k := 8) (w := .int (nI (y % 256))) rfl (by decide) inX7 (by decide) q_662 (Or.inl hd0) hs0 (zl_i (by rw [ew50, z2_ne (by omega)]; exact e2)) dX7_reduce_55 ?_
          refine r_aload_n C (pc := 58) rfl rfl dX7_reduce_58 ?_
          refine r_get C (pc := 59) (ci := 7) (k := 6) (w := .ref (m + 5)) rfl (by decide) inX7 (by decide) q_660 (Or.inl hd0) hs0 (zl_ref _ _) dX7_reduce_59 ?_
          refine r_iload_n C (pc := 62) rfl rfl dX7_reduce_62 ?_
          refine r_iald C (pc := 63) (x := (nI (r n % 256))) (Or.inl hd5) hs5 (by omega) (by omega) (by rw [ew50, z2_addr (by omega), e3.1 _ (by omega)]; exact hb.2 n (by omega) (fun z => by rw [z] at c_35; exact absurd c_35 (by decide))) dX7_reduce_63 ?_
          refine r_ixor C (pc := 64) (z := (nI ((y % 256) ^^^ (r n % 256)))) (nx_xor _ _) dX7_reduce_64 ?_
          refine r_put C (pc := 65) (ci := 7) (k := 8) rfl (by decide) inX7 tyX7_ok nmX7 (by decide) rfl pfI rfl q_662 hd0 hs0 dX7_reduce_65 ?_
          refine VV.gn (fun w65 ew65 => ?_)
          refine r_iinc C (pc := 68) (lv2 := [some (.ref m), some (.int (nI (x / 256))), some (.int (nI (x % 256))), some (.int (tI n))]) (y := (tI n)) rfl (rfl) (Nat.le_of_ble_eq_true rfl) rfl rfl dX7_reduce_68 ?_
          refine r_goto C (pc := 71) (tgt := 13) dX7_reduce_71 (by decide) ?_
          exact ih (y ^^^ r n) w65 (by omega) (xor20 hy hrn) (by rw [← hx2]; show _ = rdp r n (if _ then _ else _); rw [if_pos hb1]) (by rw [ew65, z2_ne (by omega), ew50, z2_self, x_div]) (by rw [ew65, z2_self, x_mod]) (by rw [ew65, ew50]; exact (e3.z (Or.inl rfl)).z (Or.inr rfl))
  refine r_aload_n C (pc := 0) rfl rfl dX7_reduce_0 ?_
  refine r_iload_n C (pc := 1) rfl rfl dX7_reduce_1 ?_
  refine r_put C (pc := 2) (ci := 7) (k := 7) rfl (by decide) inX7 tyX7_ok nmX7 (by decide) rfl pfI rfl q_661 hd0 hs0 dX7_reduce_2 ?_
  refine VV.gn (fun w2 ew2 => ?_)
  refine r_aload_n C (pc := 5) rfl rfl dX7_reduce_5 ?_
  refine r_iload_n C (pc := 6) rfl rfl dX7_reduce_6 ?_
  refine r_put C (pc := 7) (ci := 7) (k := 8) rfl (by decide) inX7 tyX7_ok nmX7 (by decide) rfl pfI rfl q_662 hd0 hs0 dX7_reduce_7 ?_
  refine VV.gn (fun w7 ew7 => ?_)
  refine r_bipush C (pc := 10) (x := (nI 11)) (by decide) dX7_reduce_10 ?_
  refine r_istore_n C (pc := 12) (lv2 := [some (.ref m), some (.int (nI (x / 256))), some (.int (nI (x % 256))), some (.int (nI 11))]) rfl (Nat.le_of_ble_eq_true rfl) rfl rfl dX7_reduce_12 ?_
  rw [show nI 11 = tI 12 by decide]
  exact loop 12 x w7 (Nat.le_refl 12) hx rfl (by rw [ew7, z2_ne (by omega), ew2, z2_self]) (by rw [ew7, z2_self]) (by rw [ew7, ew2]; exact (fR.rf.z (Or.inl rfl)).z (Or.inr rfl))
theorem m_X7_reduce0 (l : Launch) (G : zG) (sh : zH) (v : zV) (N : Nat) {m y : Nat} {r : Nat → Nat} (hp : zMD G sh N m) (hb : zbs v m r) (hr : ech r) (hy : y < 4096) : zm l G yX7_reduce cX7_reduce 4 none 0 [.ref m, .int (nI y), .int (nI 0)] sh v N (fun rr v1 => rr = none ∧ v1 m 7 = nI (rdp r 12 (y * 256) / 256) ∧ v1 m 8 = nI (rdp r 12 (y * 256) % 256) ∧ fR v v1 m) := by
  have h := m_X7_reduce l G sh v N (x := y * 256) hp hb hr (by omega)
  have e : [Value.ref m, .int (nI (y * 256 / 256)), .int (nI (y * 256 % 256))] = [.ref m, .int (nI y), .int (nI 0)] := by rw [sh256.1, sh256.2]
  rw [e] at h
  exact h

set_option maxRecDepth 100000 in
set_option maxHeartbeats 4000000 in
theorem m_X7_layBase (l : Launch) (G : zG) (sh : zH) (v : zV) (N : Nat) {m : Nat} {M : zMS} {r0 : Nat} (hp : zMD G sh N m) (hv : zwf (v (m + 1)) M) (hr : r0 < 5) (hl : ∀ q ∈ M.2.1 r0, q < 2 ^ 20) : zm l G yX7_layBase cX7_layBase 4 (some .int) 1 [.ref m, .int (nI (lb r0))] sh v N (fun rr v1 => rr = some (.int (nI (rnk (M.2.1 r0)))) ∧ v1 (m + 1) = v (m + 1) ∧ zbs v1 m (fpr (M.2.1 r0) (M.2.1 r0).length) ∧ fB v v1 m) := by
  refine zM.of (by decide) rfl (Nat.le_of_ble_eq_true rfl) ?_
  intro p e s mi args below meth c C
  obtain ⟨hB, hN, hs0, hs1, hs2, hs3, hs4, hs5, hs6, hs7, hs8⟩ := id hp
  have hd0 : G.2.2.1 ≤ m ∧ m < N := ⟨hB, by omega⟩
  have hd1 : G.2.2.1 ≤ m + 1 ∧ m + 1 < N := ⟨by omega, by omega⟩
  have hd2 : G.2.2.1 ≤ m + 2 ∧ m + 2 < N := ⟨by omega, by omega⟩
  have hd3 : G.2.2.1 ≤ m + 3 ∧ m + 3 < N := ⟨by omega, by omega⟩
  have hd4 : G.2.2.1 ≤ m + 4 ∧ m + 4 < N := ⟨by omega, by omega⟩
  have hd5 : G.2.2.1 ≤ m + 5 ∧ m + 5 < N := ⟨by omega, by omega⟩
  have hd6 : G.2.2.1 ≤ m + 6 ∧ m + 6 < N := ⟨by omega, by omega⟩
  have hd7 : G.2.2.1 ≤ m + 7 ∧ m + 7 < N := ⟨by omega, by omega⟩
  have hd8 : G.2.2.1 ≤ m + 8 ∧ m + 8 < N := ⟨by omega, by omega⟩
  have ht := lb_top r0 hr
  have hla := hv.2.1 r0 hr
  have hla2 := hla.2.1
  have phase2 : ∀ v' : zV, (∀ j, j < 12 → v' (m + 4) j = nI 0) → (∀ a, a ≠ m + 4 → v' a = v a) → VV p l e ({ frames := 1, cells := 0, slots := 0, locals := 32 * 1 }) s mi args below meth c 0 0 (zQ below (fun rr sh1 v1 N1 => sh1 = sh ∧ N1 = N ∧ (rr = some (.int (nI (rnk (M.2.1 r0)))) ∧ v1 (m + 1) = v (m + 1) ∧ zbs v1 m (fpr (M.2.1 r0) (M.2.1 r0).length) ∧ fB v v1 m)) G args s 0 0) G 4 sh v' N 21 [some (.ref m), some (.int (nI (lb r0))), none, none] [] := by
    intro v' e1 e2
    have loop2 : ∀ (n k : Nat) (v' : zV), (M.2.1 r0).length - k < n → k ≤ (M.2.1 r0).length → v' (m + 1) = v (m + 1) → zbs v' m (fpr (M.2.1 r0) k) → fB v v' m → VV p l e ({ frames := 1, cells := 0, slots := 0, locals := 32 * 1 }) s mi args below meth c 0 0 (zQ below (fun rr sh1 v1 N1 => sh1 = sh ∧ N1 = N ∧ (rr = some (.int (nI (rnk (M.2.1 r0)))) ∧ v1 (m + 1) = v (m + 1) ∧ zbs v1 m (fpr (M.2.1 r0) (M.2.1 r0).length) ∧ fB v v1 m)) G args s 0 0) G 4 sh v' N 25 [some (.ref m), some (.int (nI (lb r0))), some (.int (nI (spk (M.2.1 r0) k))), some (.int (nI k))] [] := by
      intro n
      induction n with
      | zero => intro k v' hm; omega
      | succ n ih =>
        intro k v' hm hk e1 e2 e3
        refine r_iload_n C (pc := 25) rfl rfl dX7_layBase_25 ?_
        refine r_aload_n C (pc := 26) rfl rfl dX7_layBase_26 ?_
        refine r_get C (pc := 27) (ci := 7) (k := 0) (w := .ref (m + 1)) rfl (by decide) inX7 (by decide) q_654 (Or.inl hd0) hs0 (zl_ref _ _) dX7_layBase_27 ?_
        refine r_iload_n C (pc := 30) rfl rfl dX7_layBase_30 ?_
        refine r_iald C (pc := 31) (x := (nI ((M.2.1 r0).length))) (Or.inl hd1) hs1 (by omega) (by omega) (by rw [e1]; exact hla.1) dX7_layBase_31 ?_
        refine n_icmp_ge C (pc := 32) (tgt := 111) (by omega) (by omega) dX7_layBase_32 (by decide) (fun c_32 => ?_) (fun c_32 => ?_)
        · refine r_iload_n C (pc := 111) rfl rfl dX7_layBase_111 ?_
          exact r_iret C (pc := 112) rfl (rfl) dX7_layBase_112 ⟨rfl, rfl, (by have hk2 : k = (M.2.1 r0).length := (by omega); subst hk2; rfl), e1, (by have hk2 : k = (M.2.1 r0).length := (by omega); subst hk2; exact e2), e3⟩
        · have hq20 := gd_lt20 (i := k) hl
          have hD20 := fpr_20 hl k hq20
          have htk := tkb_fpr hl k hq20
          have hkk : k < (M.2.1 r0).length := by omega
          refine r_aload_n C (pc := 35) rfl rfl dX7_layBase_35 ?_
          refine r_aload_n C (pc := 36) rfl rfl dX7_layBase_36 ?_
          refine r_get C (pc := 37) (ci := 7) (k := 0) (w := .ref (m + 1)) rfl (by decide) inX7 (by decide) q_654 (Or.inl hd0) hs0 (zl_ref _ _) dX7_layBase_37 ?_
          refine r_iload_n C (pc := 40) rfl rfl dX7_layBase_40 ?_
          refine r_iload_n C (pc := 41) rfl rfl dX7_layBase_41 ?_
          refine r_callS C (pc := 42) (st := [.ref (m + 1), .ref m]) (m_X7_setAt l G sh v' N (a := lb r0) (k := k)) kyX7_setAt q_743 rfl rfl (Nat.le_of_ble_eq_true rfl) ⟨Nat.le_of_ble_eq_true rfl, Nat.le_of_ble_eq_true rfl⟩ ⟨Nat.le_of_ble_eq_true rfl, Nat.le_of_ble_eq_true rfl⟩ dX7_layBase_42 (fun r42 v42 hp42 => ?_)
          obtain ⟨rfl, ehp42⟩ := hp42
          refine VV.vq ehp42 ?_
          refine VV.eq (st2 := [.int (nI (lb r0 + 1 + 2 * k)), .ref (m + 1), .ref m]) rfl ?_
          refine r_iald C (pc := 45) (x := (nI (((M.2.1 r0).getD k 0) / 256))) (Or.inl hd1) hs1 (by omega) (by omega) (by rw [e1]; exact (hla.2.2 k hkk).1) dX7_layBase_45 ?_
          refine r_aload_n C (pc := 46) rfl rfl dX7_layBase_46 ?_
          refine r_get C (pc := 47) (ci := 7) (k := 0) (w := .ref (m + 1)) rfl (by decide) inX7 (by decide) q_654 (Or.inl hd0) hs0 (zl_ref _ _) dX7_layBase_47 ?_
          refine r_iload_n C (pc := 50) rfl rfl dX7_layBase_50 ?_
          refine r_iload_n C (pc := 51) rfl rfl dX7_layBase_51 ?_
          refine r_callS C (pc := 52) (st := [.ref (m + 1), .int (nI (((M.2.1 r0).getD k 0) / 256)), .ref m]) (m_X7_setAt l G sh v' N (a := lb r0) (k := k)) kyX7_setAt q_743 rfl rfl (Nat.le_of_ble_eq_true rfl) ⟨Nat.le_of_ble_eq_true rfl, Nat.le_of_ble_eq_true rfl⟩ ⟨Nat.le_of_ble_eq_true rfl, Nat.le_of_ble_eq_true rfl⟩ dX7_layBase_52 (fun r52 v52 hp52 => ?_)
          obtain ⟨rfl, ehp52⟩ := hp52
          refine VV.vq ehp52 ?_
          refine VV.eq (st2 := [.int (nI (lb r0 + 1 + 2 * k)), .ref (m + 1), .int (nI (((M.2.1 r0).getD k 0) / 256)), .ref m]) rfl ?_
          refine r_iconst C (pc := 55) (x := (nI 1)) (by decide) dX7_layBase_55 ?_
          refine r_iadd C (pc := 56) (z := (nI ((lb r0 + 1 + 2 * k) + 1))) (nI_add _ _) dX7_layBase_56 ?_
          refine r_iald C (pc := 57) (x := (nI (((M.2.1 r0).getD k 0) % 256))) (Or.inl hd1) hs1 (by omega) (by omega) (by rw [e1]; exact (hla.2.2 k hkk).2) dX7_layBase_57 ?_
          refine r_callV C (pc := 58) (st := []) (m_X7_reduce l G sh v' N (x := ((M.2.1 r0).getD k 0)) hp e2 (eqv_spr hl k).2.1 hq20) kyX7_reduce q_790 rfl (Or.inl hd0) hs0 (by decide) rfl rfl rfl (Nat.le_of_ble_eq_true rfl) ⟨Nat.le_of_ble_eq_true rfl, Nat.le_of_ble_eq_true rfl⟩ ⟨Nat.le_of_ble_eq_true rfl, Nat.le_of_ble_eq_true rfl⟩ dX7_layBase_58 (fun r58 v58 hp58 => ?_)
          obtain ⟨rfl, g1, g2, g3⟩ := hp58
          refine VV.eq (st2 := []) rfl ?_
          refine r_aload_n C (pc := 61) rfl rfl dX7_layBase_61 ?_
          refine r_get C (pc := 62) (ci := 7) (k := 7) (w := .int (nI ((rdp (fpr (M.2.1 r0) k) 12 ((M.2.1 r0).getD k 0)) / 256))) rfl (by decide) inX7 (by decide) q_661 (Or.inl hd0) hs0 (zl_i (g1)) dX7_layBase_62 ?_
          refine n_if_eq C (pc := 65) (tgt := 105) (by omega) dX7_layBase_65 (by decide) (fun c_65 => ?_) (fun c_65 => ?_)
          · refine r_iinc C (pc := 105) (lv2 := [some (.ref m), some (.int (nI (lb r0))), some (.int (nI (spk (M.2.1 r0) k))), some (.int (nI (k + 1)))]) (y := (nI (k + 1))) rfl (nI_inc _ _) (Nat.le_of_ble_eq_true rfl) rfl rfl dX7_layBase_105 ?_
            refine r_goto C (pc := 108) (tgt := 25) dX7_layBase_108 (by decide) ?_
            have es : spk (M.2.1 r0) (k + 1) = spk (M.2.1 r0) k := by
              show spk (M.2.1 r0) k + (if _ then 1 else 0) = _
              rw [htk, c_65]; rfl
            have := ih (k + 1) v58 (by omega) (by omega) ((g3.1 _ (by omega)).trans e1) (by rw [show fpr (M.2.1 r0) (k + 1) = (fpr (M.2.1 r0) k) from if_pos c_65]; exact e2.kept (g3.1 _ (by omega)) (g3.1 _ (by omega))) (e3.tr g3.B)
            rw [es] at this
            exact this
          · have hlg : Nat.log2 ((rdp (fpr (M.2.1 r0) k) 12 ((M.2.1 r0).getD k 0)) / 256) < 12 := (Nat.log2_lt (by omega)).mpr (by omega)
            refine r_aload_n C (pc := 68) rfl rfl dX7_layBase_68 ?_
            refine r_get C (pc := 69) (ci := 7) (k := 5) (w := .ref (m + 4)) rfl (by decide) inX7 (by decide) q_659 (Or.inl hd0) hs0 (zl_ref _ _) dX7_layBase_69 ?_
            refine r_aload_n C (pc := 72) rfl rfl dX7_layBase_72 ?_
            refine r_aload_n C (pc := 73) rfl rfl dX7_layBase_73 ?_
            refine r_get C (pc := 74) (ci := 7) (k := 7) (w := .int (nI ((rdp (fpr (M.2.1 r0) k) 12 ((M.2.1 r0).getD k 0)) / 256))) rfl (by decide) inX7 (by decide) q_661 (Or.inl hd0) hs0 (zl_i (g1)) dX7_layBase_74 ?_
            refine r_callV C (pc := 77) (st := [.ref (m + 4)]) (m_X7_highest l G sh v58 N (m := m) (x := (rdp (fpr (M.2.1 r0) k) 12 ((M.2.1 r0).getD k 0)) / 256) (by omega) (by omega)) kyX7_highest q_794 rfl (Or.inl hd0) hs0 (by decide) rfl rfl rfl (Nat.le_of_ble_eq_true rfl) ⟨Nat.le_of_ble_eq_true rfl, Nat.le_of_ble_eq_true rfl⟩ ⟨Nat.le_of_ble_eq_true rfl, Nat.le_of_ble_eq_true rfl⟩ dX7_layBase_77 (fun r77 v77 hp77 => ?_)
            obtain ⟨rfl, ehp77⟩ := hp77
            refine VV.vq ehp77 ?_
            refine VV.eq (st2 := [.int (nI (Nat.log2 ((rdp (fpr (M.2.1 r0) k) 12 ((M.2.1 r0).getD k 0)) / 256))), .ref (m + 4)]) rfl ?_
            refine r_aload_n C (pc := 80) rfl rfl dX7_layBase_80 ?_
            refine r_get C (pc := 81) (ci := 7) (k := 7) (w := .int (nI ((rdp (fpr (M.2.1 r0) k) 12 ((M.2.1 r0).getD k 0)) / 256))) rfl (by decide) inX7 (by decide) q_661 (Or.inl hd0) hs0 (zl_i (g1)) dX7_layBase_81 ?_
            refine r_iast C (pc := 84) hd4 hs4 (by omega) (by omega) dX7_layBase_84 ?_
            refine VV.gn (fun w84 ew84 => ?_)
            refine r_aload_n C (pc := 85) rfl rfl dX7_layBase_85 ?_
            refine r_get C (pc := 86) (ci := 7) (k := 6) (w := .ref (m + 5)) rfl (by decide) inX7 (by decide) q_660 (Or.inl hd0) hs0 (zl_ref _ _) dX7_layBase_86 ?_
            refine r_aload_n C (pc := 89) rfl rfl dX7_layBase_89 ?_
            refine r_aload_n C (pc := 90) rfl rfl dX7_layBase_90 ?_
            refine r_get C (pc := 91) (ci := 7) (k := 7) (w := .int (nI ((rdp (fpr (M.2.1 r0) k) 12 ((M.2.1 r0).getD k 0)) / 256))) rfl (by decide) inX7 (by decide) q_661 (Or.inl hd0) hs0 (zl_i (by rw [ew84, z2_addr (by omega)]; exact g1)) dX7_layBase_91 ?_
            refine r_callV C (pc := 94) (st := [.ref (m + 5)]) (m_X7_highest l G sh w84 N (m := m) (x := (rdp (fpr (M.2.1 r0) k) 12 ((M.2.1 r0).getD k 0)) / 256) (by omega) (by omega)) kyX7_highest q_794 rfl (Or.inl hd0) hs0 (by decide) rfl rfl rfl (Nat.le_of_ble_eq_true rfl) ⟨Nat.le_of_ble_eq_true rfl, Nat.le_of_ble_eq_true rfl⟩ ⟨Nat.le_of_ble_eq_true rfl, Nat.le_of_ble_eq_true rfl⟩ dX7_layBase_94 (fun r94 v94 hp94 => ?_)
            obtain ⟨rfl, ehp94⟩ := hp94
            refine VV.vq ehp94 ?_
            refine VV.eq (st2 := [.int (nI (Nat.log2 ((rdp (fpr (M.2.1 r0) k) 12 ((M.2.1 r0).getD k 0)) / 256))), .ref (m + 5)]) rfl ?_
            refine r_aload_n C (pc := 97) rfl rfl dX7_layBase_97 ?_
            refine r_get C (pc := 98) (ci := 7) (k := 8) (w := .int (nI ((rdp (fpr (M.2.1 r0) k) 12 ((M.2.1 r0).getD k 0)) % 256))) rfl (by decide) inX7 (by decide) q_662 (Or.inl hd0) hs0 (zl_i (by rw [ew84, z2_addr (by omega)]; exact g2)) dX7_layBase_98 ?_
            refine r_iast C (pc := 101) hd5 hs5 (by omega) (by omega) dX7_layBase_101 ?_
            refine VV.gn (fun w101 ew101 => ?_)
            refine r_iinc C (pc := 102) (lv2 := [some (.ref m), some (.int (nI (lb r0))), some (.int (nI (spk (M.2.1 r0) k + 1))), some (.int (nI k))]) (y := (nI (spk (M.2.1 r0) k + 1))) rfl (nI_inc _ _) (Nat.le_of_ble_eq_true rfl) rfl rfl dX7_layBase_102 ?_
            refine r_iinc C (pc := 105) (lv2 := [some (.ref m), some (.int (nI (lb r0))), some (.int (nI (spk (M.2.1 r0) k + 1))), some (.int (nI (k + 1)))]) (y := (nI (k + 1))) rfl (nI_inc _ _) (Nat.le_of_ble_eq_true rfl) rfl rfl dX7_layBase_105 ?_
            refine r_goto C (pc := 108) (tgt := 25) dX7_layBase_108 (by decide) ?_
            have es : spk (M.2.1 r0) (k + 1) = spk (M.2.1 r0) k + 1 := by
              show spk (M.2.1 r0) k + (if _ then 1 else 0) = _
              rw [htk, decide_eq_true (show (rdp (fpr (M.2.1 r0) k) 12 ((M.2.1 r0).getD k 0)) / 256 ≠ 0 by omega)]; rfl
            have := ih (k + 1) w101 (by omega) (by omega) (by rw [ew101, z2_addr (by omega), ew84, z2_addr (by omega)]; exact (g3.1 _ (by omega)).trans e1) (by rw [show fpr (M.2.1 r0) (k + 1) = ups (fpr (M.2.1 r0) k) (Nat.log2 ((rdp (fpr (M.2.1 r0) k) 12 ((M.2.1 r0).getD k 0)) / 256)) (rdp (fpr (M.2.1 r0) k) 12 ((M.2.1 r0).getD k 0)) from if_neg (by omega), ew101, ew84]; exact zbs_ups (e2.kept (g3.1 _ (by omega)) (g3.1 _ (by omega)))) (by rw [ew101, ew84]; exact ((e3.tr g3.B).zw (Or.inr (Or.inl rfl))).zw (Or.inr (Or.inr rfl)))
            rw [es] at this
            exact this
    refine r_iconst C (pc := 21) (x := (nI 0)) (by decide) dX7_layBase_21 ?_
    refine r_istore_n C (pc := 22) (lv2 := [some (.ref m), some (.int (nI (lb r0))), some (.int (nI 0)), none]) rfl (Nat.le_of_ble_eq_true rfl) rfl rfl dX7_layBase_22 ?_
    refine r_iconst C (pc := 23) (x := (nI 0)) (by decide) dX7_layBase_23 ?_
    refine r_istore_n C (pc := 24) (lv2 := [some (.ref m), some (.int (nI (lb r0))), some (.int (nI 0)), some (.int (nI 0))]) rfl (Nat.le_of_ble_eq_true rfl) rfl rfl dX7_layBase_24 ?_
    exact loop2 ((M.2.1 r0).length + 1) 0 v' (by omega) (by omega) (e2 _ (by omega)) ⟨fun j hj => (e1 j hj).trans (congrArg nI (Nat.zero_div 256).symm), fun j _ h0 => absurd rfl h0⟩ ⟨fun a h1 h2 h3 h4 => e2 a h3, congrFun (e2 m (by omega)) 2, congrFun (e2 m (by omega)) 4⟩
  have loop1 : ∀ (n b : Nat) (v' : zV), 12 - b < n → b ≤ 12 → (∀ j, j < b → v' (m + 4) j = nI 0) → (∀ a, a ≠ m + 4 → v' a = v a) → VV p l e ({ frames := 1, cells := 0, slots := 0, locals := 32 * 1 }) s mi args below meth c 0 0 (zQ below (fun rr sh1 v1 N1 => sh1 = sh ∧ N1 = N ∧ (rr = some (.int (nI (rnk (M.2.1 r0)))) ∧ v1 (m + 1) = v (m + 1) ∧ zbs v1 m (fpr (M.2.1 r0) (M.2.1 r0).length) ∧ fB v v1 m)) G args s 0 0) G 4 sh v' N 2 [some (.ref m), some (.int (nI (lb r0))), some (.int (nI b)), none] [] := by
    intro n
    induction n with
    | zero => intro b v' hm; omega
    | succ n ih =>
      intro b v' hm hb e1 e2
      refine r_iload_n C (pc := 2) rfl rfl dX7_layBase_2 ?_
      refine r_bipush C (pc := 3) (x := (nI 12)) (by decide) dX7_layBase_3 ?_
      refine n_icmp_ge C (pc := 5) (tgt := 21) (by omega) (by omega) dX7_layBase_5 (by decide) (fun c_5 => ?_) (fun c_5 => ?_)
      · refine VV.fg 2 (lv2 := [some (.ref m), some (.int (nI (lb r0))), none, none]) rfl ?_
        exact phase2 v' (fun j hj => e1 j (by omega)) e2
      · refine r_aload_n C (pc := 8) rfl rfl dX7_layBase_8 ?_
        refine r_get C (pc := 9) (ci := 7) (k := 5) (w := .ref (m + 4)) rfl (by decide) inX7 (by decide) q_659 (Or.inl hd0) hs0 (zl_ref _ _) dX7_layBase_9 ?_
        refine r_iload_n C (pc := 12) rfl rfl dX7_layBase_12 ?_
        refine r_iconst C (pc := 13) (x := (nI 0)) (by decide) dX7_layBase_13 ?_
        refine r_iast C (pc := 14) hd4 hs4 (by omega) (by omega) dX7_layBase_14 ?_
        refine VV.gn (fun w14 ew14 => ?_)
        refine r_iinc C (pc := 15) (lv2 := [some (.ref m), some (.int (nI (lb r0))), some (.int (nI (b + 1))), none]) (y := (nI (b + 1))) rfl (nI_inc _ _) (Nat.le_of_ble_eq_true rfl) rfl rfl dX7_layBase_15 ?_
        refine r_goto C (pc := 18) (tgt := 2) dX7_layBase_18 (by decide) ?_
        refine ih (b + 1) w14 (by omega) (by omega) ?_ ?_
        · intro j hj
          rw [ew14]
          by_cases hjb : j = b
          · subst hjb; rw [z2_self]
          · rw [z2_ne (by omega)]; exact e1 j (by omega)
        · intro a ha
          rw [ew14, z2_addr ha]; exact e2 a ha
  refine r_iconst C (pc := 0) (x := (nI 0)) (by decide) dX7_layBase_0 ?_
  refine r_istore_n C (pc := 1) (lv2 := [some (.ref m), some (.int (nI (lb r0))), some (.int (nI 0)), none]) rfl (Nat.le_of_ble_eq_true rfl) rfl rfl dX7_layBase_1 ?_
  exact loop1 13 0 v (by omega) (by omega) (fun j hj => absurd hj (Nat.not_lt_zero j)) (fun _ _ => rfl)
set_option maxRecDepth 100000 in
set_option maxHeartbeats 4000000 in
theorem m_X7_isNovel (l : Launch) (G : zG) (sh : zH) (v : zV) (N : Nat) {m : Nat} {M : zMS} {r0 x : Nat} (hp : zMD G sh N m) (hv : zwf (v (m + 1)) M) (hr : r0 < 5) (hl : ∀ q ∈ M.2.1 r0, q < 2 ^ 20) (hx : x < 2 ^ 20) : zm l G yX7_isNovel cX7_isNovel 4 (some .boolean) 2 [.ref m, .int (nI (lb r0)), .int (nI (x / 256))] sh v N (fun rr v1 => rr = some (.int (zb (nov (M.2.1 r0) x))) ∧ v1 (m + 1) = v (m + 1) ∧ fB v v1 m) := by
  refine zM.of (by decide) rfl (Nat.le_of_ble_eq_true rfl) ?_
  intro p e s mi args below meth c C
  obtain ⟨hB, hN, hs0, hs1, hs2, hs3, hs4, hs5, hs6, hs7, hs8⟩ := id hp
  have hd0 : G.2.2.1 ≤ m ∧ m < N := ⟨hB, by omega⟩
  have hd1 : G.2.2.1 ≤ m + 1 ∧ m + 1 < N := ⟨by omega, by omega⟩
  have hd2 : G.2.2.1 ≤ m + 2 ∧ m + 2 < N := ⟨by omega, by omega⟩
  have hd3 : G.2.2.1 ≤ m + 3 ∧ m + 3 < N := ⟨by omega, by omega⟩
  have hd4 : G.2.2.1 ≤ m + 4 ∧ m + 4 < N := ⟨by omega, by omega⟩
  have hd5 : G.2.2.1 ≤ m + 5 ∧ m + 5 < N := ⟨by omega, by omega⟩
  have hd6 : G.2.2.1 ≤ m + 6 ∧ m + 6 < N := ⟨by omega, by omega⟩
  have hd7 : G.2.2.1 ≤ m + 7 ∧ m + 7 < N := ⟨by omega, by omega⟩
  have hd8 : G.2.2.1 ≤ m + 8 ∧ m + 8 < N := ⟨by omega, by omega⟩
  refine r_aload_n C (pc := 0) rfl rfl dX7_isNovel_0 ?_
  refine r_iload_n C (pc := 1) rfl rfl dX7_isNovel_1 ?_
  refine r_callV C (pc := 2) (st := []) (m_X7_layBase l G sh v N hp hv hr hl) kyX7_layBase q_786 rfl (Or.inl hd0) hs0 (by decide) rfl rfl rfl (Nat.le_of_ble_eq_true rfl) ⟨Nat.le_of_ble_eq_true rfl, Nat.le_of_ble_eq_true rfl⟩ ⟨Nat.le_of_ble_eq_true rfl, Nat.le_of_ble_eq_true rfl⟩ dX7_isNovel_2 (fun r2 v2 hp2 => ?_)
  obtain ⟨rfl, g1, g2, g3⟩ := hp2
  refine VV.eq (st2 := [.int (nI (rnk (M.2.1 r0)))]) rfl ?_
  refine r_istore_n C (pc := 5) (lv2 := [some (.ref m), some (.int (nI (lb r0))), some (.int (nI (x / 256))), some (.int (nI (rnk (M.2.1 r0))))]) rfl (Nat.le_of_ble_eq_true rfl) rfl rfl dX7_isNovel_5 ?_
  refine r_aload_n C (pc := 6) rfl rfl dX7_isNovel_6 ?_
  refine r_iload_n C (pc := 7) rfl rfl dX7_isNovel_7 ?_
  refine r_iconst C (pc := 8) (x := (nI 0)) (by decide) dX7_isNovel_8 ?_
  refine r_callV C (pc := 9) (st := []) (m_X7_reduce0 l G sh v2 N (y := x / 256) hp g2 (eqv_spr hl _).2.1 (by omega)) kyX7_reduce q_790 rfl (Or.inl hd0) hs0 (by decide) rfl rfl rfl (Nat.le_of_ble_eq_true rfl) ⟨Nat.le_of_ble_eq_true rfl, Nat.le_of_ble_eq_true rfl⟩ ⟨Nat.le_of_ble_eq_true rfl, Nat.le_of_ble_eq_true rfl⟩ dX7_isNovel_9 (fun r9 v9 hp9 => ?_)
  obtain ⟨rfl, g4, g5, g6⟩ := hp9
  refine VV.eq (st2 := []) rfl ?_
  refine r_aload_n C (pc := 12) rfl rfl dX7_isNovel_12 ?_
  have hD20 := fpr_20 hl (M.2.1 r0).length (show x / 256 * 256 < 2 ^ 20 by omega)
  have hnv := nov_fpr hl x
  refine r_get C (pc := 13) (ci := 7) (k := 7) (w := .int (nI ((rdp (fpr (M.2.1 r0) (M.2.1 r0).length) 12 (x / 256 * 256)) / 256))) rfl (by decide) inX7 (by decide) q_661 (Or.inl hd0) hs0 (zl_i (g4)) dX7_isNovel_13 ?_
  refine n_if_eq C (pc := 16) (tgt := 23) (by omega) dX7_isNovel_16 (by decide) (fun c_16 => ?_) (fun c_16 => ?_)
  · refine r_iconst C (pc := 23) (x := (nI 0)) (by decide) dX7_isNovel_23 ?_
    exact r_iret C (pc := 24) rfl (rfl) dX7_isNovel_24 ⟨rfl, rfl, by rw [hnv, c_16]; rfl, (g6.1 _ (by omega)).trans g1, g3.tr g6.B⟩
  · refine r_iconst C (pc := 19) (x := (nI 1)) (by decide) dX7_isNovel_19 ?_
    refine r_goto C (pc := 20) (tgt := 24) dX7_isNovel_20 (by decide) ?_
    exact r_iret C (pc := 24) rfl (rfl) dX7_isNovel_24 ⟨rfl, rfl, by rw [hnv, decide_eq_true (show (rdp (fpr (M.2.1 r0) (M.2.1 r0).length) 12 (x / 256 * 256)) / 256 ≠ 0 by omega)]; rfl, (g6.1 _ (by omega)).trans g1, g3.tr g6.B⟩
set_option maxRecDepth 100000 in
set_option maxHeartbeats 4000000 in
theorem m_X7_solved (l : Launch) (G : zG) (sh : zH) (v : zV) (N : Nat) {m b : Nat} {r : Nat → Nat} (hp : zMD G sh N m) (hb : zbs v m r) (hr : ech r) (hb2 : b < 12) : zm l G yX7_solved cX7_solved 2 (some .int) 1 [.ref m, .int (nI b)] sh v N (fun rr v1 => rr = some (.int (if rdp r 12 (2 ^ (8 + b)) / 256 = 0 then nI (rdp r 12 (2 ^ (8 + b)) % 256) else -9)) ∧ fR v v1 m) := by
  refine zM.of (by decide) rfl (Nat.le_of_ble_eq_true rfl) ?_
  intro p e s mi args below meth c C
  obtain ⟨hB, hN, hs0, hs1, hs2, hs3, hs4, hs5, hs6, hs7, hs8⟩ := id hp
  have hd0 : G.2.2.1 ≤ m ∧ m < N := ⟨hB, by omega⟩
  have hd1 : G.2.2.1 ≤ m + 1 ∧ m + 1 < N := ⟨by omega, by omega⟩
  have hd2 : G.2.2.1 ≤ m + 2 ∧ m + 2 < N := ⟨by omega, by omega⟩
  have hd3 : G.2.2.1 ≤ m + 3 ∧ m + 3 < N := ⟨by omega, by omega⟩
  have hd4 : G.2.2.1 ≤ m + 4 ∧ m + 4 < N := ⟨by omega, by omega⟩
  have hd5 : G.2.2.1 ≤ m + 5 ∧ m + 5 < N := ⟨by omega, by omega⟩
  have hd6 : G.2.2.1 ≤ m + 6 ∧ m + 6 < N := ⟨by omega, by omega⟩
  have hd7 : G.2.2.1 ≤ m + 7 ∧ m + 7 < N := ⟨by omega, by omega⟩
  have hd8 : G.2.2.1 ≤ m + 8 ∧ m + 8 < N := ⟨by omega, by omega⟩
  have hpb : 2 ^ b < 4096 := (Nat.pow_lt_pow_right (by decide) hb2 : 2 ^ b < 2 ^ 12)
  have hD20 : (rdp r 12 (2 ^ b * 256)) < 2 ^ 20 := rdp_lt (fun j hj => ech_20 hr hj) 12 _ (Nat.le_refl 12) (by omega)
  refine r_aload_n C (pc := 0) rfl rfl dX7_solved_0 ?_
  refine r_iconst C (pc := 1) (x := (nI 1)) (by decide) dX7_solved_1 ?_
  refine r_iload_n C (pc := 2) rfl rfl dX7_solved_2 ?_
  refine r_ishl C (pc := 3) (z := (nI (2 ^ b))) (nI_shl1 (by omega)) dX7_solved_3 ?_
  refine r_iconst C (pc := 4) (x := (nI 0)) (by decide) dX7_solved_4 ?_
  refine r_callV C (pc := 5) (st := []) (m_X7_reduce0 l G sh v N (y := 2 ^ b) hp hb hr hpb) kyX7_reduce q_790 rfl (Or.inl hd0) hs0 (by decide) rfl rfl rfl (Nat.le_of_ble_eq_true rfl) ⟨Nat.le_of_ble_eq_true rfl, Nat.le_of_ble_eq_true rfl⟩ ⟨Nat.le_of_ble_eq_true rfl, Nat.le_of_ble_eq_true rfl⟩ dX7_solved_5 (fun r5 v5 hp5 => ?_)
  obtain ⟨rfl, g4, g5, g6⟩ := hp5
  refine VV.eq (st2 := []) rfl ?_
  refine r_aload_n C (pc := 8) rfl rfl dX7_solved_8 ?_
  refine r_get C (pc := 9) (ci := 7) (k := 7) (w := .int (nI ((rdp r 12 (2 ^ b * 256)) / 256))) rfl (by decide) inX7 (by decide) q_661 (Or.inl hd0) hs0 (zl_i (g4)) dX7_solved_9 ?_
  refine n_if_ne C (pc := 12) (tgt := 22) (by omega) dX7_solved_12 (by decide) (fun c_12 => ?_) (fun c_12 => ?_)
  · refine r_bipush C (pc := 22) (x := (-9)) (by decide) dX7_solved_22 ?_
    exact r_iret C (pc := 24) rfl (rfl) dX7_solved_24 ⟨rfl, rfl, by rw [← p256, if_neg (by omega)], g6⟩
  · refine r_aload_n C (pc := 15) rfl rfl dX7_solved_15 ?_
    refine r_get C (pc := 16) (ci := 7) (k := 8) (w := .int (nI ((rdp r 12 (2 ^ b * 256)) % 256))) rfl (by decide) inX7 (by decide) q_662 (Or.inl hd0) hs0 (zl_i (g5)) dX7_solved_16 ?_
    refine r_goto C (pc := 19) (tgt := 24) dX7_solved_19 (by decide) ?_
    exact r_iret C (pc := 24) rfl (rfl) dX7_solved_24 ⟨rfl, rfl, by rw [← p256, if_pos c_12], g6⟩
set_option maxRecDepth 100000 in
set_option maxHeartbeats 4000000 in
theorem m_X7_mostAlike (l : Launch) (G : zG) (sh : zH) (v : zV) (N : Nat) {m : Nat} {M : zMS} {r0 x : Nat} (hp : zMD G sh N m) (hv : zwf (v (m + 1)) M) (hr : r0 < 5) (hx : x < 2 ^ 20) (hl : ∀ q ∈ M.2.1 r0, q < 2 ^ 20) (h0 : 0 < (M.2.1 r0).length) : zm l G yX7_mostAlike cX7_mostAlike 5 (some .int) 1 [.ref m, .int (nI (lb r0)), .int (nI (x / 256))] sh v N (fun r v1 => r = some (.int (nI (mcb (mcc x (M.2.1 r0)) (M.2.1 r0).length))) ∧ v1 = v) := by
  refine zM.of (by decide) rfl (Nat.le_of_ble_eq_true rfl) ?_
  intro p e s mi args below meth c C
  obtain ⟨hB, hN, hs0, hs1, hs2, hs3, hs4, hs5, hs6, hs7, hs8⟩ := id hp
  have hd0 : G.2.2.1 ≤ m ∧ m < N := ⟨hB, by omega⟩
  have hd1 : G.2.2.1 ≤ m + 1 ∧ m + 1 < N := ⟨by omega, by omega⟩
  have hd2 : G.2.2.1 ≤ m + 2 ∧ m + 2 < N := ⟨by omega, by omega⟩
  have hd3 : G.2.2.1 ≤ m + 3 ∧ m + 3 < N := ⟨by omega, by omega⟩
  have hd4 : G.2.2.1 ≤ m + 4 ∧ m + 4 < N := ⟨by omega, by omega⟩
  have hd5 : G.2.2.1 ≤ m + 5 ∧ m + 5 < N := ⟨by omega, by omega⟩
  have hd6 : G.2.2.1 ≤ m + 6 ∧ m + 6 < N := ⟨by omega, by omega⟩
  have hd7 : G.2.2.1 ≤ m + 7 ∧ m + 7 < N := ⟨by omega, by omega⟩
  have hd8 : G.2.2.1 ≤ m + 8 ∧ m + 8 < N := ⟨by omega, by omega⟩
  have ht := lb_top r0 hr
  have hla := hv.2.1 r0 hr
  have hla2 := hla.2.1
  have loop : ∀ (n k : Nat), (M.2.1 r0).length - k < n → 1 ≤ k → k ≤ (M.2.1 r0).length → VV p l e ({ frames := 1, cells := 0, slots := 0, locals := 32 * 1 }) s mi args below meth c 0 0 (zQ below (fun r sh1 v1 N1 => sh1 = sh ∧ N1 = N ∧ (r = some (.int (nI (mcb (mcc x (M.2.1 r0)) (M.2.1 r0).length))) ∧ v1 = v)) G args s 0 0) G 5 sh v N 5 [some (.ref m), some (.int (nI (lb r0))), some (.int (nI (x / 256))), some (.int (nI (mcb (mcc x (M.2.1 r0)) k))), some (.int (nI k))] [] := by
    intro n
    induction n with
    | zero => intro k hm; omega
    | succ n ih =>
      intro k hm hk1 hk
      refine r_iload C (pc := 5) rfl dX7_mostAlike_5 ?_
      refine r_aload_n C (pc := 7) rfl rfl dX7_mostAlike_7 ?_
      refine r_get C (pc := 8) (ci := 7) (k := 0) (w := .ref (m + 1)) rfl (by decide) inX7 (by decide) q_654 (Or.inl hd0) hs0 (zl_ref _ _) dX7_mostAlike_8 ?_
      refine r_iload_n C (pc := 11) rfl rfl dX7_mostAlike_11 ?_
      refine r_iald C (pc := 12) (x := (nI ((M.2.1 r0).length))) (Or.inl hd1) hs1 (by omega) (by omega) (hla.1) dX7_mostAlike_12 ?_
      refine n_icmp_ge C (pc := 13) (tgt := 63) (by omega) (by omega) dX7_mostAlike_13 (by decide) (fun c_13 => ?_) (fun c_13 => ?_)
      · refine r_iload_n C (pc := 63) rfl rfl dX7_mostAlike_63 ?_
        exact r_iret C (pc := 64) rfl (rfl) dX7_mostAlike_64 ⟨rfl, rfl, by rw [show k = (M.2.1 r0).length by omega], rfl⟩
      · have hkk : k < (M.2.1 r0).length := by omega
        have hmb := mcb_lt (mcc x (M.2.1 r0)) k (by omega)
        have hc1 := mcc_le x (M.2.1 r0) k
        have hc2 := mcc_le x (M.2.1 r0) (mcb (mcc x (M.2.1 r0)) k)
        refine r_aload_n C (pc := 16) rfl rfl dX7_mostAlike_16 ?_
        refine r_get C (pc := 17) (ci := 7) (k := 0) (w := .ref (m + 1)) rfl (by decide) inX7 (by decide) q_654 (Or.inl hd0) hs0 (zl_ref _ _) dX7_mostAlike_17 ?_
        refine r_iload_n C (pc := 20) rfl rfl dX7_mostAlike_20 ?_
        refine r_iload C (pc := 21) rfl dX7_mostAlike_21 ?_
        refine r_callS C (pc := 23) (st := [.ref (m + 1)]) (m_X7_setAt l G sh v N (a := lb r0) (k := k)) kyX7_setAt q_743 rfl rfl (Nat.le_of_ble_eq_true rfl) ⟨Nat.le_of_ble_eq_true rfl, Nat.le_of_ble_eq_true rfl⟩ ⟨Nat.le_of_ble_eq_true rfl, Nat.le_of_ble_eq_true rfl⟩ dX7_mostAlike_23 (fun r23 v23 hp23 => ?_)
        obtain ⟨rfl, ehp23⟩ := hp23
        refine VV.vq ehp23 ?_
        refine VV.eq (st2 := [.int (nI (lb r0 + 1 + 2 * k)), .ref (m + 1)]) rfl ?_
        refine r_iald C (pc := 26) (x := (nI ((M.2.1 r0).getD k 0 / 256))) (Or.inl hd1) hs1 (by omega) (by omega) ((hla.2.2 k hkk).1) dX7_mostAlike_26 ?_
        refine r_iload_n C (pc := 27) rfl rfl dX7_mostAlike_27 ?_
        refine r_iand C (pc := 28) (z := (nI (((M.2.1 r0).getD k 0 / 256) &&& (x / 256)))) (nx_and _ _) dX7_mostAlike_28 ?_
        refine r_callS C (pc := 29) (st := []) (m_X7_size l G sh v N (x := (M.2.1 r0).getD k 0 / 256 &&& x / 256) (Nat.and_lt_two_pow _ (show x / 256 < 2 ^ 12 by omega))) kyX7_size q_802 rfl rfl (Nat.le_of_ble_eq_true rfl) ⟨Nat.le_of_ble_eq_true rfl, Nat.le_of_ble_eq_true rfl⟩ ⟨Nat.le_of_ble_eq_true rfl, Nat.le_of_ble_eq_true rfl⟩ dX7_mostAlike_29 (fun r29 v29 hp29 => ?_)
        obtain ⟨rfl, ehp29⟩ := hp29
        refine VV.vq ehp29 ?_
        rw [show pop ((M.2.1 r0).getD k 0 / 256 &&& x / 256) = mcc x (M.2.1 r0) k by rw [mcc, Nat.and_comm]]
        refine VV.eq (st2 := [.int (nI (mcc x (M.2.1 r0) k))]) rfl ?_
        refine r_aload_n C (pc := 32) rfl rfl dX7_mostAlike_32 ?_
        refine r_get C (pc := 33) (ci := 7) (k := 0) (w := .ref (m + 1)) rfl (by decide) inX7 (by decide) q_654 (Or.inl hd0) hs0 (zl_ref _ _) dX7_mostAlike_33 ?_
        refine r_iload_n C (pc := 36) rfl rfl dX7_mostAlike_36 ?_
        refine r_iload_n C (pc := 37) rfl rfl dX7_mostAlike_37 ?_
        refine r_callS C (pc := 38) (st := [.ref (m + 1), .int (nI (mcc x (M.2.1 r0) k))]) (m_X7_setAt l G sh v N (a := lb r0) (k := mcb (mcc x (M.2.1 r0)) k)) kyX7_setAt q_743 rfl rfl (Nat.le_of_ble_eq_true rfl) ⟨Nat.le_of_ble_eq_true rfl, Nat.le_of_ble_eq_true rfl⟩ ⟨Nat.le_of_ble_eq_true rfl, Nat.le_of_ble_eq_true rfl⟩ dX7_mostAlike_38 (fun r38 v38 hp38 => ?_)
        obtain ⟨rfl, ehp38⟩ := hp38
        refine VV.vq ehp38 ?_
        refine VV.eq (st2 := [.int (nI (lb r0 + 1 + 2 * (mcb (mcc x (M.2.1 r0)) k))), .ref (m + 1), .int (nI (mcc x (M.2.1 r0) k))]) rfl ?_
        refine r_iald C (pc := 41) (x := (nI ((M.2.1 r0).getD (mcb (mcc x (M.2.1 r0)) k) 0 / 256))) (Or.inl hd1) hs1 (by omega) (by omega) ((hla.2.2 _ (by omega)).1) dX7_mostAlike_41 ?_
        refine r_iload_n C (pc := 42) rfl rfl dX7_mostAlike_42 ?_
        refine r_iand C (pc := 43) (z := (nI (((M.2.1 r0).getD (mcb (mcc x (M.2.1 r0)) k) 0 / 256) &&& (x / 256)))) (nx_and _ _) dX7_mostAlike_43 ?_
        refine r_callS C (pc := 44) (st := [.int (nI (mcc x (M.2.1 r0) k))]) (m_X7_size l G sh v N (x := (M.2.1 r0).getD (mcb (mcc x (M.2.1 r0)) k) 0 / 256 &&& x / 256) (Nat.and_lt_two_pow _ (show x / 256 < 2 ^ 12 by omega))) kyX7_size q_802 rfl rfl (Nat.le_of_ble_eq_true rfl) ⟨Nat.le_of_ble_eq_true rfl, Nat.le_of_ble_eq_true rfl⟩ ⟨Nat.le_of_ble_eq_true rfl, Nat.le_of_ble_eq_true rfl⟩ dX7_mostAlike_44 (fun r44 v44 hp44 => ?_)
        obtain ⟨rfl, ehp44⟩ := hp44
        refine VV.vq ehp44 ?_
        rw [show pop ((M.2.1 r0).getD (mcb (mcc x (M.2.1 r0)) k) 0 / 256 &&& x / 256) = mcc x (M.2.1 r0) (mcb (mcc x (M.2.1 r0)) k) by rw [mcc, Nat.and_comm]]
        refine VV.eq (st2 := [.int (nI (mcc x (M.2.1 r0) (mcb (mcc x (M.2.1 r0)) k))), .int (nI (mcc x (M.2.1 r0) k))]) rfl ?_
        refine n_icmp_le C (pc := 47) (tgt := 55) (by omega) (by omega) dX7_mostAlike_47 (by decide) (fun c_47 => ?_) (fun c_47 => ?_)
        · refine r_iload_n C (pc := 55) rfl rfl dX7_mostAlike_55 ?_
          refine r_istore_n C (pc := 56) (lv2 := [some (.ref m), some (.int (nI (lb r0))), some (.int (nI (x / 256))), some (.int (nI (mcb (mcc x (M.2.1 r0)) k))), some (.int (nI k))]) rfl (Nat.le_of_ble_eq_true rfl) rfl rfl dX7_mostAlike_56 ?_
          refine r_iinc C (pc := 57) (lv2 := [some (.ref m), some (.int (nI (lb r0))), some (.int (nI (x / 256))), some (.int (nI (mcb (mcc x (M.2.1 r0)) k))), some (.int (nI (k + 1)))]) (y := (nI (k + 1))) rfl (nI_inc _ _) (Nat.le_of_ble_eq_true rfl) rfl rfl dX7_mostAlike_57 ?_
          refine r_goto C (pc := 60) (tgt := 5) dX7_mostAlike_60 (by decide) ?_
          have es : mcb (mcc x (M.2.1 r0)) (k + 1) = mcb (mcc x (M.2.1 r0)) k := by
            show (if _ then k else _) = _
            rw [if_neg (by omega)]
          have := ih (k + 1) (by omega) (by omega) (by omega)
          rw [es] at this
          exact this
        · refine r_iload C (pc := 50) rfl dX7_mostAlike_50 ?_
          refine r_goto C (pc := 52) (tgt := 56) dX7_mostAlike_52 (by decide) ?_
          refine r_istore_n C (pc := 56) (lv2 := [some (.ref m), some (.int (nI (lb r0))), some (.int (nI (x / 256))), some (.int (nI k)), some (.int (nI k))]) rfl (Nat.le_of_ble_eq_true rfl) rfl rfl dX7_mostAlike_56 ?_
          refine r_iinc C (pc := 57) (lv2 := [some (.ref m), some (.int (nI (lb r0))), some (.int (nI (x / 256))), some (.int (nI k)), some (.int (nI (k + 1)))]) (y := (nI (k + 1))) rfl (nI_inc _ _) (Nat.le_of_ble_eq_true rfl) rfl rfl dX7_mostAlike_57 ?_
          refine r_goto C (pc := 60) (tgt := 5) dX7_mostAlike_60 (by decide) ?_
          have es : mcb (mcc x (M.2.1 r0)) (k + 1) = k := by
            show (if _ then k else _) = _
            rw [if_pos (by omega)]
          have := ih (k + 1) (by omega) (by omega) (by omega)
          rw [es] at this
          exact this
  refine r_iconst C (pc := 0) (x := (nI 0)) (by decide) dX7_mostAlike_0 ?_
  refine r_istore_n C (pc := 1) (lv2 := [some (.ref m), some (.int (nI (lb r0))), some (.int (nI (x / 256))), some (.int (nI 0)), none]) rfl (Nat.le_of_ble_eq_true rfl) rfl rfl dX7_mostAlike_1 ?_
  refine r_iconst C (pc := 2) (x := (nI 1)) (by decide) dX7_mostAlike_2 ?_
  refine r_istore C (pc := 3) (lv2 := [some (.ref m), some (.int (nI (lb r0))), some (.int (nI (x / 256))), some (.int (nI 0)), some (.int (nI 1))]) (Nat.le_of_ble_eq_true rfl) rfl rfl dX7_mostAlike_3 ?_
  have hm1 : mcb (mcc x (M.2.1 r0)) 1 = 0 := by
    show (if _ then 0 else 0) = 0
    split <;> rfl
  have hgo := loop ((M.2.1 r0).length + 1) 1 (by omega) (by omega) (by omega)
  rw [hm1] at hgo
  exact hgo -- ((M.2.1 r0).length + 1) 1 (by omega) (by omega) (by omega)
