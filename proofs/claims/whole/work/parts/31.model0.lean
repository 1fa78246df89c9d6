/-! the check's own class: its row w against the state -/
def zMD (G : zG) (sh : zH) (N m : Nat) : Prop := G.2.2.1 ≤ m ∧ m + 8 < N ∧ sh m = (7, 14, pts [m + 1 + 2, m + 2 + 2, 0, m + 3 + 2, 0, m + 4 + 2, m + 5 + 2, 0, 0, 0, 0, m + 6 + 2, m + 7 + 2, m + 8 + 2]) ∧ sh (m + 1) = (8, 165, fun _ => 0) ∧ sh (m + 2) = (8, 1320, fun _ => 0) ∧ sh (m + 3) = (8, 330, fun _ => 0) ∧ sh (m + 4) = (8, 12, fun _ => 0) ∧ sh (m + 5) = (8, 12, fun _ => 0) ∧ sh (m + 6) = (8, 4, fun _ => 0) ∧ sh (m + 7) = (8, 4, fun _ => 0) ∧ sh (m + 8) = (8, 165, fun _ => 0)
def lb (r : Nat) : Nat := if r < 3 then 34 + 9 * r else if r = 3 then 61 else 122
def cp (r : Nat) : Nat := if r < 3 then 4 else if r = 3 then 12 else 21
theorem lb_s {r : Nat} (h : r < 3) : lb r = 34 + 9 * r := if_pos h
theorem lb_3 : lb 3 = 61 := rfl
theorem lb_4 : lb 4 = 122 := rfl
theorem cp_s {r : Nat} (h : r < 3) : cp r = 4 := if_pos h
theorem lb_top : ∀ r, r < 5 → 34 ≤ lb r ∧ lb r + 2 * cp r < 165 ∧ cp r ≤ 21 ∧ (lb r + 2 * cp r < 86 ∨ 122 ≤ lb r) := by decide
theorem lb_ap : ∀ r, r < 5 → ∀ j, j < 5 → j ≠ r → lb j + 2 * cp j < lb r ∨ lb r + 2 * cp r < lb j := by decide
def zla (f : Nat → Int32) (a cap : Nat) (l : List Nat) : Prop := f a = nI l.length ∧ l.length ≤ cap ∧ ∀ k, k < l.length → f (a + 1 + 2 * k) = nI (l.getD k 0 / 256) ∧ f (a + 1 + 2 * k + 1) = nI (l.getD k 0 % 256)
theorem zla.kept {f g : Nat → Int32} {a cap : Nat} {l : List Nat} (h : zla f a cap l) (k : ∀ i, a ≤ i → i ≤ a + 2 * cap → g i = f i) : zla g a cap l := ⟨by rw [k a (by omega) (by omega)]; exact h.1, h.2.1, fun j hj => by
  have := h.2.1
  rw [k _ (by omega) (by omega), k _ (by omega) (by omega)]; exact h.2.2 j hj⟩
def knI (o : Option Nat) (x : Nat) : Int32 := if o.isSome then nI x else -9
def zwf (f : Nat → Int32) (M : zMS) : Prop := (∀ i, i < 34 → f i = nI (M.1 i)) ∧ (∀ r, r < 5 → zla f (lb r) (cp r) (M.2.1 r)) ∧ (∀ b, b < 12 → f (86 + b) = knI (M.2.2.2 b) (M.1 (17 + b))) ∧ (∀ b, b < 12 → f (98 + b) = tmI (M.2.2.2 b)) ∧ ∀ b, b < 12 → f (110 + b) = tmI (M.2.2.1 b)
/-- a scalar is written -/
theorem zwf_c {f g : Nat → Int32} {M : zMS} {i x : Nat} (h : zwf f M) (hi : i < 34) (hv : i < 17 ∨ 29 ≤ i) (e : g i = nI x) (k : ∀ j, j ≠ i → g j = f j) : zwf g (upc M.1 i x, M.2) := by
  obtain ⟨h1, h2, h3, h4, h5⟩ := h
  refine ⟨fun j hj => ?_, fun r hr => (h2 r hr).kept (fun j h1 h2 => k j (by have := lb_top r hr; omega)), fun b hb => ?_, fun b hb => by rw [k _ (by omega)]; exact h4 b hb, fun b hb => by rw [k _ (by omega)]; exact h5 b hb⟩
  · show g j = nI (upc M.1 i x j)
    by_cases hji : j = i
    · subst hji; rw [upc_s]; exact e
    · rw [upc_n hji, k j hji]; exact h1 j hj
  · show g (86 + b) = knI (M.2.2.2 b) (upc M.1 i x (17 + b))
    rw [upc_n (by omega), k _ (by omega)]; exact h3 b hb
/-- a list is changed, nothing else -/
theorem zwf_l {f g : Nat → Int32} {M : zMS} {r : Nat} {l : List Nat} (h : zwf f M) (hr : r < 5) (e : zla g (lb r) (cp r) l) (k : ∀ j, (j < lb r ∨ lb r + 2 * cp r < j) → g j = f j) : zwf g (M.1, upl M.2.1 r l, M.2.2) := by
  obtain ⟨h1, h2, h3, h4, h5⟩ := h
  have ht := lb_top r hr
  refine ⟨fun j hj => by rw [k j (by omega)]; exact h1 j hj, fun j hj => ?_, fun b hb => by rw [k _ (by omega)]; exact h3 b hb, fun b hb => by rw [k _ (by omega)]; exact h4 b hb, fun b hb => by rw [k _ (by omega)]; exact h5 b hb⟩
  show zla g (lb j) (cp j) (upl M.2.1 r l j)
  by_cases hjr : j = r
  · subst hjr; rw [upl_s]; exact e
  · rw [upl_n hjr]
    have := lb_ap r hr j hj hjr
    exact (h2 j hj).kept (fun i g1 g2 => k i (by omega))
theorem la_app {f : Nat → Int32} {a cap p : Nat} {l : List Nat} (h : zla f a cap l) (hl : l.length < cap) : zla (upd (upd (upd f (a + 1 + 2 * l.length) (nI (p / 256))) (a + 1 + 2 * l.length + 1) (nI (p % 256))) a (nI (l.length + 1))) a cap (l ++ [p]) := by
  obtain ⟨h1, h2, h3⟩ := h
  refine ⟨by simp [upd], by simp; omega, fun k hk => ?_⟩
  have hk2 : k < l.length + 1 := by simpa using hk
  rw [gd_app]
  by_cases hkl : k < l.length
  · rw [if_pos hkl]
    have := h3 k hkl
    simp only [upd]
    rw [if_neg (by omega), if_neg (by omega), if_neg (by omega), if_neg (by omega), if_neg (by omega), if_neg (by omega)]
    exact this
  · have e : k = l.length := by omega
    subst e
    rw [if_neg hkl, if_pos rfl]
    have e1 : a + 1 + 2 * l.length ≠ a := by omega
    have e2 : a + 1 + 2 * l.length + 1 ≠ a := by omega
    simp [upd, e1, e2]
def fA (v v1 : zV) (m : Nat) : Prop := ∀ b, b ≠ m + 1 → v1 b = v b
theorem fA.rf {v : zV} {m : Nat} : fA v v m := fun _ _ => rfl
theorem fA.z2 {v v1 : zV} {m k : Nat} {x : Int32} (h : fA v v1 m) : fA v (z2 v1 (m + 1) k x) m := fun b hb => by rw [z2_addr hb]; exact h b hb
theorem fA.tr {v v1 v2 : zV} {m : Nat} (h : fA v v1 m) (g : fA v1 v2 m) : fA v v2 m := fun b hb => (g b hb).trans (h b hb)
def fB (v v1 : zV) (m : Nat) : Prop := (∀ b, b ≠ m → b ≠ m + 1 → b ≠ m + 4 → b ≠ m + 5 → v1 b = v b) ∧ v1 m 2 = v m 2 ∧ v1 m 4 = v m 4
theorem fB.rf {v : zV} {m : Nat} : fB v v m := ⟨fun _ _ _ _ _ => rfl, rfl, rfl⟩
theorem fB.tr {v v1 v2 : zV} {m : Nat} (h : fB v v1 m) (g : fB v1 v2 m) : fB v v2 m := ⟨fun b h1 h2 h3 h4 => (g.1 b h1 h2 h3 h4).trans (h.1 b h1 h2 h3 h4), g.2.1.trans h.2.1, g.2.2.trans h.2.2⟩
theorem fA.B {v v1 : zV} {m : Nat} (h : fA v v1 m) : fB v v1 m := ⟨fun b _ h2 _ _ => h b h2, by rw [h m (by omega)], by rw [h m (by omega)]⟩
theorem fB.z {v v1 : zV} {m k : Nat} {x : Int32} (h : fB v v1 m) (h2 : k ≠ 2) (h4 : k ≠ 4) : fB v (z2 v1 m k x) m := ⟨fun b g1 g2 g3 g4 => by rw [z2_addr g1]; exact h.1 b g1 g2 g3 g4, by rw [z2_ne (by omega)]; exact h.2.1, by rw [z2_ne (by omega)]; exact h.2.2⟩
theorem fB.zw {v v1 : zV} {m a k : Nat} {x : Int32} (h : fB v v1 m) (ha : a = m + 1 ∨ a = m + 4 ∨ a = m + 5) : fB v (z2 v1 a k x) m := ⟨fun b g1 g2 g3 g4 => by rw [z2_addr (by omega)]; exact h.1 b g1 g2 g3 g4, by rw [z2_addr (by omega)]; exact h.2.1, by rw [z2_addr (by omega)]; exact h.2.2⟩
theorem lt_of_bit {x b : Nat} (h : x < 2 ^ (b + 1)) (hb : x.testBit b = false) : x < 2 ^ b := by
  apply Nat.lt_of_not_le
  intro hle
  rw [Nat.testBit_eq_decide_div_mod_eq, decide_eq_false_iff_not] at hb
  have h1 : x / 2 ^ b = 1 := by
    apply Nat.div_eq_of_lt_le
    · omega
    · rw [Nat.pow_succ] at h; omega
  rw [h1] at hb
  exact hb rfl
theorem log2_of {x b : Nat} (h : x < 2 ^ (b + 1)) (hb : x.testBit b = true) : Nat.log2 x = b := by
  have h1 : 2 ^ b ≤ x := Nat.ge_two_pow_of_testBit hb
  have h0 : x ≠ 0 := by
    have := Nat.two_pow_pos b
    omega
  have h2 := (Nat.le_log2 h0).mpr h1
  have h3 := (Nat.log2_lt h0).mpr h
  omega
set_option maxRecDepth 100000 in
set_option maxHeartbeats 4000000 in
theorem m_X7_setAt (l : Launch) (G : zG) (sh : zH) (v : zV) (N : Nat) {a k : Nat}  : zm l G yX7_setAt cX7_setAt 2 (some .int) 0 [.int (nI a), .int (nI k)] sh v N (fun r v1 => r = some (.int (nI (a + 1 + 2 * k))) ∧ v1 = v) := by
  refine zM.of (by decide) rfl (Nat.le_of_ble_eq_true rfl) ?_
  intro p e s mi args below meth c C
  refine r_iload_n C (pc := 0) rfl rfl dX7_setAt_0 ?_
  refine r_iconst C (pc := 1) (x := (nI 1)) (by decide) dX7_setAt_1 ?_
  refine r_iadd C (pc := 2) (z := (nI (a + 1))) (nI_add _ _) dX7_setAt_2 ?_
  refine r_iconst C (pc := 3) (x := (nI 2)) (by decide) dX7_setAt_3 ?_
  refine r_iload_n C (pc := 4) rfl rfl dX7_setAt_4 ?_
  refine r_imul C (pc := 5) (z := (nI (2 * k))) (pk_mul _ _) dX7_setAt_5 ?_
  refine r_iadd C (pc := 6) (z := (nI ((a + 1) + (2 * k)))) (nI_add _ _) dX7_setAt_6 ?_
  exact r_iret C (pc := 7) rfl (rfl) dX7_setAt_7 ⟨rfl, rfl, rfl, rfl⟩
set_option maxRecDepth 100000 in
set_option maxHeartbeats 4000000 in
theorem m_X7_storeOf (l : Launch) (G : zG) (sh : zH) (v : zV) (N : Nat) {r0 : Nat} (h1 : 1 ≤ r0) (h3 : r0 ≤ 3) : zm l G yX7_storeOf cX7_storeOf 1 (some .int) 0 [.int (nI r0)] sh v N (fun r v1 => r = some (.int (nI (lb (r0 - 1)))) ∧ v1 = v) := by
  refine zM.of (by decide) rfl (Nat.le_of_ble_eq_true rfl) ?_
  intro p e s mi args below meth c C
  refine r_bipush C (pc := 0) (x := (nI 34)) (by decide) dX7_storeOf_0 ?_
  refine r_bipush C (pc := 2) (x := (nI 9)) (by decide) dX7_storeOf_2 ?_
  refine r_iload_n C (pc := 4) rfl rfl dX7_storeOf_4 ?_
  refine r_iconst C (pc := 5) (x := (nI 1)) (by decide) dX7_storeOf_5 ?_
  refine r_isub C (pc := 6) (z := (nI (r0 - 1))) (pk_sub (by omega)) dX7_storeOf_6 ?_
  refine r_imul C (pc := 7) (z := (nI (9 * (r0 - 1)))) (pk_mul _ _) dX7_storeOf_7 ?_
  refine r_iadd C (pc := 8) (z := (nI (34 + (9 * (r0 - 1))))) (nI_add _ _) dX7_storeOf_8 ?_
  exact r_iret C (pc := 9) rfl (rfl) dX7_storeOf_9 ⟨rfl, rfl, by rw [lb_s (by omega)], rfl⟩
set_option maxRecDepth 100000 in
set_option maxHeartbeats 4000000 in
theorem m_X7_size (l : Launch) (G : zG) (sh : zH) (v : zV) (N : Nat) {x : Nat} (hx : x < 4096) : zm l G yX7_size cX7_size 3 (some .int) 0 [.int (nI x)] sh v N (fun r v1 => r = some (.int (nI (pop x))) ∧ v1 = v) := by
  refine zM.of (by decide) rfl (Nat.le_of_ble_eq_true rfl) ?_
  intro p e s mi args below meth c C
  have loop : ∀ (n b : Nat), 12 - b < n → b ≤ 12 → VV p l e ({ frames := 0, cells := 0, slots := 0, locals := 32 * 0 }) s mi args below meth c 0 0 (zQ below (fun r sh1 v1 N1 => sh1 = sh ∧ N1 = N ∧ (r = some (.int (nI (pop x))) ∧ v1 = v)) G args s 0 0) G 3 sh v N 4 [some (.int (nI x)), some (.int (nI (pops x b))), some (.int (nI b))] [] := by
    intro n
    induction n with
    | zero => intro b hm; omega
    | succ n ih =>
      intro b hm hb
      refine r_iload_n C (pc := 4) rfl rfl dX7_size_4 ?_
      refine r_bipush C (pc := 5) (x := (nI 12)) (by decide) dX7_size_5 ?_
      refine n_icmp_ge C (pc := 7) (tgt := 24) (by omega) (by omega) dX7_size_7 (by decide) (fun c_7 => ?_) (fun c_7 => ?_)
      · refine r_iload_n C (pc := 24) rfl rfl dX7_size_24 ?_
        exact r_iret C (pc := 25) rfl (rfl) dX7_size_25 ⟨rfl, rfl, by rw [show b = 12 by omega], rfl⟩
      · refine r_iload_n C (pc := 10) rfl rfl dX7_size_10 ?_
        refine r_iload_n C (pc := 11) rfl rfl dX7_size_11 ?_
        refine r_iload_n C (pc := 12) rfl rfl dX7_size_12 ?_
        refine r_ishr C (pc := 13) (z := (nI (x / 2 ^ b))) (nI_shr (by omega) (by omega)) dX7_size_13 ?_
        refine r_iconst C (pc := 14) (x := (nI 1)) (by decide) dX7_size_14 ?_
        refine r_iand C (pc := 15) (z := (nI (x / 2 ^ b % 2))) (by rw [nx_and, Nat.and_one_is_mod]) dX7_size_15 ?_
        refine r_iadd C (pc := 16) (z := (nI ((pops x b) + (x / 2 ^ b % 2)))) (nI_add _ _) dX7_size_16 ?_
        refine r_istore_n C (pc := 17) (lv2 := [some (.int (nI x)), some (.int (nI ((pops x b) + (x / 2 ^ b % 2)))), some (.int (nI b))]) rfl (Nat.le_of_ble_eq_true rfl) rfl rfl dX7_size_17 ?_
        refine r_iinc C (pc := 18) (lv2 := [some (.int (nI x)), some (.int (nI ((pops x b) + (x / 2 ^ b % 2)))), some (.int (nI (b + 1)))]) (y := (nI (b + 1))) rfl (nI_inc _ _) (Nat.le_of_ble_eq_true rfl) rfl rfl dX7_size_18 ?_
        refine r_goto C (pc := 21) (tgt := 4) dX7_size_21 (by decide) ?_
        exact ih (b + 1) (by omega) (by omega)
  refine r_iconst C (pc := 0) (x := (nI 0)) (by decide) dX7_size_0 ?_
  refine r_istore_n C (pc := 1) (lv2 := [some (.int (nI x)), some (.int (nI 0)), none]) rfl (Nat.le_of_ble_eq_true rfl) rfl rfl dX7_size_1 ?_
  refine r_iconst C (pc := 2) (x := (nI 0)) (by decide) dX7_size_2 ?_
  refine r_istore_n C (pc := 3) (lv2 := [some (.int (nI x)), some (.int (nI 0)), some (.int (nI 0))]) rfl (Nat.le_of_ble_eq_true rfl) rfl rfl dX7_size_3 ?_
  exact loop 13 0 (by omega) (by omega)
set_option maxRecDepth 100000 in
set_option maxHeartbeats 4000000 in
theorem m_X7_lowest (l : Launch) (G : zG) (sh : zH) (v : zV) (N : Nat) {b0 : Nat} (hb0 : b0 < 12) : zm l G yX7_lowest cX7_lowest 2 (some .int) 0 [.int (nI (2 ^ b0))] sh v N (fun r v1 => r = some (.int (nI b0)) ∧ v1 = v) := by
  refine zM.of (by decide) rfl (Nat.le_of_ble_eq_true rfl) ?_
  intro p e s mi args below meth c C
  have loop : ∀ (n b : Nat), 12 - b < n → b ≤ b0 → VV p l e ({ frames := 0, cells := 0, slots := 0, locals := 32 * 0 }) s mi args below meth c 0 0 (zQ below (fun r sh1 v1 N1 => sh1 = sh ∧ N1 = N ∧ (r = some (.int (nI b0)) ∧ v1 = v)) G args s 0 0) G 2 sh v N 2 [some (.int (nI (2 ^ b0))), some (.int (nI b))] [] := by
    intro n
    induction n with
    | zero => intro b hm; omega
    | succ n ih =>
      intro b hm hb
      refine r_iload_n C (pc := 2) rfl rfl dX7_lowest_2 ?_
      refine r_iload_n C (pc := 3) rfl rfl dX7_lowest_3 ?_
      have hp2 : 2 ^ b0 < 4096 := (Nat.pow_lt_pow_right (by decide) hb0 : 2 ^ b0 < 2 ^ 12)
      have htb : (2 ^ b0).testBit b = decide (b0 = b) := Nat.testBit_two_pow
      refine r_ishr C (pc := 4) (z := (nI (2 ^ b0 / 2 ^ b))) (nI_shr (by omega) (by omega)) dX7_lowest_4 ?_
      refine r_iconst C (pc := 5) (x := (nI 1)) (by decide) dX7_lowest_5 ?_
      refine r_iand C (pc := 6) (z := (nI (if (2 ^ b0).testBit b then 1 else 0))) (by rw [nx_and, tb_bit]) dX7_lowest_6 ?_
      refine n_if_ne C (pc := 7) (tgt := 16) (by split <;> decide) dX7_lowest_7 (by decide) (fun c_7 => ?_) (fun c_7 => ?_)
      · have hbb : b0 = b := by
          rw [htb] at c_7
          by_cases h : b0 = b
          · exact h
          · rw [decide_eq_false h] at c_7; simp at c_7
        refine r_iload_n C (pc := 16) rfl rfl dX7_lowest_16 ?_
        exact r_iret C (pc := 17) rfl (rfl) dX7_lowest_17 ⟨rfl, rfl, by rw [hbb], rfl⟩
      · have hbb : b0 ≠ b := fun h => by rw [htb, decide_eq_true h] at c_7; simp at c_7
        refine r_iinc C (pc := 10) (lv2 := [some (.int (nI (2 ^ b0))), some (.int (nI (b + 1)))]) (y := (nI (b + 1))) rfl (nI_inc _ _) (Nat.le_of_ble_eq_true rfl) rfl rfl dX7_lowest_10 ?_
        refine r_goto C (pc := 13) (tgt := 2) dX7_lowest_13 (by decide) ?_
        exact ih (b + 1) (by omega) (by omega)
  refine r_iconst C (pc := 0) (x := (nI 0)) (by decide) dX7_lowest_0 ?_
  refine r_istore_n C (pc := 1) (lv2 := [some (.int (nI (2 ^ b0))), some (.int (nI 0))]) rfl (Nat.le_of_ble_eq_true rfl) rfl rfl dX7_lowest_1 ?_
  exact loop 13 0 (by omega) (by omega)
set_option maxRecDepth 100000 in
set_option maxHeartbeats 4000000 in
theorem m_X7_highest (l : Launch) (G : zG) (sh : zH) (v : zV) (N : Nat) {m x : Nat} (hx : x < 4096) (h0 : x ≠ 0) : zm l G yX7_highest cX7_highest 3 (some .int) 0 [.ref m, .int (nI x)] sh v N (fun r v1 => r = some (.int (nI (Nat.log2 x))) ∧ v1 = v) := by
  refine zM.of (by decide) rfl (Nat.le_of_ble_eq_true rfl) ?_
  intro p e s mi args below meth c C
  have loop : ∀ (n b : Nat), b < n → b < 12 → x < 2 ^ (b + 1) → VV p l e ({ frames := 0, cells := 0, slots := 0, locals := 32 * 0 }) s mi args below meth c 0 0 (zQ below (fun r sh1 v1 N1 => sh1 = sh ∧ N1 = N ∧ (r = some (.int (nI (Nat.log2 x))) ∧ v1 = v)) G args s 0 0) G 3 sh v N 3 [some (.ref m), some (.int (nI x)), some (.int (nI b))] [] := by
    intro n
    induction n with
    | zero => intro b hm; omega
    | succ n ih =>
      intro b hm hb12 hb
      refine r_iload_n C (pc := 3) rfl rfl dX7_highest_3 ?_
      refine r_iload_n C (pc := 4) rfl rfl dX7_highest_4 ?_
      refine r_ishr C (pc := 5) (z := (nI (x / 2 ^ b))) (nI_shr (by omega) (by omega)) dX7_highest_5 ?_
      refine r_iconst C (pc := 6) (x := (nI 1)) (by decide) dX7_highest_6 ?_
      refine r_iand C (pc := 7) (z := (nI (if x.testBit b then 1 else 0))) (by rw [nx_and, tb_bit]) dX7_highest_7 ?_
      refine n_if_ne C (pc := 8) (tgt := 17) (by split <;> decide) dX7_highest_8 (by decide) (fun c_8 => ?_) (fun c_8 => ?_)
      · have hbb : x.testBit b = true := by
          cases h : x.testBit b with
          | true => rfl
          | false => rw [h] at c_8; simp at c_8
        refine r_iload_n C (pc := 17) rfl rfl dX7_highest_17 ?_
        exact r_iret C (pc := 18) rfl (rfl) dX7_highest_18 ⟨rfl, rfl, by rw [log2_of hb hbb], rfl⟩
      · have hbb : x.testBit b = false := by
          cases h : x.testBit b with
          | false => rfl
          | true => rw [h] at c_8; simp at c_8
        have hxb : x < 2 ^ b := lt_of_bit hb hbb
        have hb1 : 0 < b := by
          rcases Nat.eq_zero_or_pos b with h | h
          · subst h; simp at hxb; exact absurd hxb h0
          · exact h
        refine r_iinc C (pc := 11) (lv2 := [some (.ref m), some (.int (nI x)), some (.int (nI (b - 1)))]) (y := (nI (b - 1))) rfl (nI_decp hb1) (Nat.le_of_ble_eq_true rfl) rfl rfl dX7_highest_11 ?_
        refine r_goto C (pc := 14) (tgt := 3) dX7_highest_14 (by decide) ?_
        exact ih (b - 1) (by omega) (by omega) (by rw [show b - 1 + 1 = b by omega]; exact hxb)
  refine r_bipush C (pc := 0) (x := (nI 11)) (by decide) dX7_highest_0 ?_
  refine r_istore_n C (pc := 2) (lv2 := [some (.ref m), some (.int (nI x)), some (.int (nI 11))]) rfl (Nat.le_of_ble_eq_true rfl) rfl rfl dX7_highest_2 ?_
  exact loop 12 11 (by omega) (by omega) hx
set_option maxRecDepth 100000 in
set_option maxHeartbeats 4000000 in
theorem m_X7_append (l : Launch) (G : zG) (sh : zH) (v : zV) (N : Nat) {m : Nat} {M : zMS} {r0 q : Nat} (hp : zMD G sh N m) (hv : zwf (v (m + 1)) M) (hr : r0 < 5) (hl : (M.2.1 r0).length < cp r0) : zm l G yX7_append cX7_append 4 none 1 [.ref m, .int (nI (lb r0)), .int (nI (q / 256)), .int (nI (q % 256))] sh v N (fun r v1 => r = none ∧ zwf (v1 (m + 1)) (M.1, upl M.2.1 r0 (M.2.1 r0 ++ [q]), M.2.2) ∧ fA v v1 m) := by
  refine zM.of (by decide) rfl (Nat.le_of_ble_eq_true rfl) ?_
  intro p e s mi args below meth c C
  obtain ⟨hB, hN, hs0, hs1, hs2, hs3, hs4, hs5, hs6, hs7, hs8⟩ := id hp
  have hd0 : G.2.2.1 ≤ m ∧ m < N := ⟨hB, by omega⟩
  have hd1 : G.2.2.1 ≤ m + 1 ∧ m + 1 < N := ⟨by omega, by omega⟩
  have hd2 : G.2.2.1 ≤ m + 2 ∧ m + 2 < N := ⟨by omega, by omega⟩
  have hd3 : G.2.2.1 ≤ m + 3 ∧ m + 3 < N := ⟨by omega, by omega⟩
  have hd4 : G.2.2.1 ≤ m + 4 ∧ m + 4 < N := ⟨by omega, by omega⟩
  have hd5 : G.2.2.1 ≤ m + 5 ∧ m + 5 < N := ⟨by omega, by omega⟩
  have hd6 : G.2.2.1 ≤ m + 6 ∧ m + 6 < N := ⟨by omega, by omega⟩
  have hd7 : G.2.2.1 ≤ m + 7 ∧ m + 7 < N := ⟨by omega, by omega⟩
  have hd8 : G.2.2.1 ≤ m + 8 ∧ m + 8 < N := ⟨by omega, by omega⟩
  have ht := lb_top r0 hr
  have hla := hv.2.1 r0 hr
  refine r_aload_n C (pc := 0) rfl rfl dX7_append_0 ?_
  refine r_get C (pc := 1) (ci := 7) (k := 0) (w := .ref (m + 1)) rfl (by decide) inX7 (by decide) q_654 (Or.inl hd0) hs0 (zl_ref _ _) dX7_append_1 ?_
  refine r_iload_n C (pc := 4) rfl rfl dX7_append_4 ?_
  refine r_aload_n C (pc := 5) rfl rfl dX7_append_5 ?_
  refine r_get C (pc := 6) (ci := 7) (k := 0) (w := .ref (m + 1)) rfl (by decide) inX7 (by decide) q_654 (Or.inl hd0) hs0 (zl_ref _ _) dX7_append_6 ?_
  refine r_iload_n C (pc := 9) rfl rfl dX7_append_9 ?_
  refine r_iald C (pc := 10) (x := (nI ((M.2.1 r0).length))) (Or.inl hd1) hs1 (by omega) (by omega) (hla.1) dX7_append_10 ?_
  refine r_callS C (pc := 11) (st := [.ref (m + 1)]) (m_X7_setAt l G sh v N (a := lb r0) (k := (M.2.1 r0).length)) kyX7_setAt q_743 rfl rfl (Nat.le_of_ble_eq_true rfl) ⟨Nat.le_of_ble_eq_true rfl, Nat.le_of_ble_eq_true rfl⟩ ⟨Nat.le_of_ble_eq_true rfl, Nat.le_of_ble_eq_true rfl⟩ dX7_append_11 (fun r11 v11 hp11 => ?_)
  obtain ⟨rfl, ehp11⟩ := hp11
  refine VV.vq ehp11 ?_
  refine VV.eq (st2 := [.int (nI (lb r0 + 1 + 2 * (M.2.1 r0).length)), .ref (m + 1)]) rfl ?_
  refine r_iload_n C (pc := 14) rfl rfl dX7_append_14 ?_
  refine r_iast C (pc := 15) hd1 hs1 (by omega) (by omega) dX7_append_15 ?_
  refine VV.gn (fun w15 ew15 => ?_)
  refine r_aload_n C (pc := 16) rfl rfl dX7_append_16 ?_
  refine r_get C (pc := 17) (ci := 7) (k := 0) (w := .ref (m + 1)) rfl (by decide) inX7 (by decide) q_654 (Or.inl hd0) hs0 (zl_ref _ _) dX7_append_17 ?_
  refine r_iload_n C (pc := 20) rfl rfl dX7_append_20 ?_
  refine r_aload_n C (pc := 21) rfl rfl dX7_append_21 ?_
  refine r_get C (pc := 22) (ci := 7) (k := 0) (w := .ref (m + 1)) rfl (by decide) inX7 (by decide) q_654 (Or.inl hd0) hs0 (zl_ref _ _) dX7_append_22 ?_
  refine r_iload_n C (pc := 25) rfl rfl dX7_append_25 ?_
  refine r_iald C (pc := 26) (x := (nI ((M.2.1 r0).length))) (Or.inl hd1) hs1 (by omega) (by omega) (by rw [ew15, z2_ne (by omega)]; exact hla.1) dX7_append_26 ?_
  refine r_callS C (pc := 27) (st := [.ref (m + 1)]) (m_X7_setAt l G sh w15 N (a := lb r0) (k := (M.2.1 r0).length)) kyX7_setAt q_743 rfl rfl (Nat.le_of_ble_eq_true rfl) ⟨Nat.le_of_ble_eq_true rfl, Nat.le_of_ble_eq_true rfl⟩ ⟨Nat.le_of_ble_eq_true rfl, Nat.le_of_ble_eq_true rfl⟩ dX7_append_27 (fun r27 v27 hp27 => ?_)
  obtain ⟨rfl, ehp27⟩ := hp27
  refine VV.vq ehp27 ?_
  refine VV.eq (st2 := [.int (nI (lb r0 + 1 + 2 * (M.2.1 r0).length)), .ref (m + 1)]) rfl ?_
  refine r_iconst C (pc := 30) (x := (nI 1)) (by decide) dX7_append_30 ?_
  refine r_iadd C (pc := 31) (z := (nI ((lb r0 + 1 + 2 * (M.2.1 r0).length) + 1))) (nI_add _ _) dX7_append_31 ?_
  refine r_iload_n C (pc := 32) rfl rfl dX7_append_32 ?_
  refine r_iast C (pc := 33) hd1 hs1 (by omega) (by omega) dX7_append_33 ?_
  refine VV.gn (fun w33 ew33 => ?_)
  refine r_aload_n C (pc := 34) rfl rfl dX7_append_34 ?_
  refine r_get C (pc := 35) (ci := 7) (k := 0) (w := .ref (m + 1)) rfl (by decide) inX7 (by decide) q_654 (Or.inl hd0) hs0 (zl_ref _ _) dX7_append_35 ?_
  refine r_iload_n C (pc := 38) rfl rfl dX7_append_38 ?_
  refine r_dup2 C (pc := 39) rfl rfl dX7_append_39 ?_
  refine r_iald C (pc := 40) (x := (nI ((M.2.1 r0).length))) (Or.inl hd1) hs1 (by omega) (by omega) (by rw [ew33, z2_ne (by omega), ew15, z2_ne (by omega)]; exact hla.1) dX7_append_40 ?_
  refine r_iconst C (pc := 41) (x := (nI 1)) (by decide) dX7_append_41 ?_
  refine r_iadd C (pc := 42) (z := (nI (((M.2.1 r0).length) + 1))) (nI_add _ _) dX7_append_42 ?_
  refine r_iast C (pc := 43) hd1 hs1 (by omega) (by omega) dX7_append_43 ?_
  refine VV.gn (fun w43 ew43 => ?_)
  exact r_vret C (pc := 44) rfl dX7_append_44 ⟨rfl, rfl, rfl, (by
      have e : w43 (m + 1) = upd (upd (upd (v (m + 1)) (lb r0 + 1 + 2 * (M.2.1 r0).length) (nI (q / 256))) (lb r0 + 1 + 2 * (M.2.1 r0).length + 1) (nI (q % 256))) (lb r0) (nI ((M.2.1 r0).length + 1)) := by
        rw [ew43, z2_at, ew33, z2_at, ew15, z2_at]
      rw [e]
      exact zwf_l hv hr (la_app hla hl) (fun j hj => by simp only [upd]; rw [if_neg (by omega), if_neg (by omega), if_neg (by omega)])), by rw [ew43, ew33, ew15]; exact ((fA.rf.z2).z2).z2⟩
set_option maxRecDepth 100000 in
set_option maxHeartbeats 4000000 in
theorem m_X7_drop (l : Launch) (G : zG) (sh : zH) (v : zV) (N : Nat) {m : Nat} {M : zMS} {r0 k : Nat} (hp : zMD G sh N m) (hv : zwf (v (m + 1)) M) (hr : r0 < 5) (hk : k < (M.2.1 r0).length) : zm l G yX7_drop cX7_drop 4 none 1 [.ref m, .int (nI (lb r0)), .int (nI k)] sh v N (fun r v1 => r = none ∧ zwf (v1 (m + 1)) (M.1, upl M.2.1 r0 ((M.2.1 r0).eraseIdx k), M.2.2) ∧ fA v v1 m) := by
  refine zM.of (by decide) rfl (Nat.le_of_ble_eq_true rfl) ?_
  intro p e s mi args below meth c C
  obtain ⟨hB, hN, hs0, hs1, hs2, hs3, hs4, hs5, hs6, hs7, hs8⟩ := id hp
  have hd0 : G.2.2.1 ≤ m ∧ m < N := ⟨hB, by omega⟩
  have hd1 : G.2.2.1 ≤ m + 1 ∧ m + 1 < N := ⟨by omega, by omega⟩
  have hd2 : G.2.2.1 ≤ m + 2 ∧ m + 2 < N := ⟨by omega, by omega⟩
  have hd3 : G.2.2.1 ≤ m + 3 ∧ m + 3 < N := ⟨by omega, by omega⟩
  have hd4 : G.2.2.1 ≤ m + 4 ∧ m + 4 < N := ⟨by omega, by omega⟩
  have hd5 : G.2.2.1 ≤ m + 5 ∧ m + 5 < N := ⟨by omega, by omega⟩
  have hd6 : G.2.2.1 ≤ m + 6 ∧ m + 6 < N := ⟨by omega, by omega⟩
  have hd7 : G.2.2.1 ≤ m + 7 ∧ m + 7 < N := ⟨by omega, by omega⟩
  have hd8 : G.2.2.1 ≤ m + 8 ∧ m + 8 < N := ⟨by omega, by omega⟩
  have ht := lb_top r0 hr
  have hla := hv.2.1 r0 hr
  have hla2 := hla.2.1
  have loop : ∀ (n i : Nat) (v' : zV), lb r0 + 1 + 2 * ((M.2.1 r0).length - 1) - i < n → lb r0 + 1 + 2 * k ≤ i → i ≤ lb r0 + 1 + 2 * ((M.2.1 r0).length - 1) → (∀ j, v' (m + 1) j = if lb r0 + 1 + 2 * k ≤ j ∧ j < i then v (m + 1) (j + 2) else v (m + 1) j) → fA v v' m → VV p l e ({ frames := 1, cells := 0, slots := 0, locals := 32 * 1 }) s mi args below meth c 0 0 (zQ below (fun r sh1 v1 N1 => sh1 = sh ∧ N1 = N ∧ (r = none ∧ zwf (v1 (m + 1)) (M.1, upl M.2.1 r0 ((M.2.1 r0).eraseIdx k), M.2.2) ∧ fA v v1 m)) G args s 0 0) G 4 sh v' N 6 [some (.ref m), some (.int (nI (lb r0))), some (.int (nI k)), some (.int (nI i))] [] := by
    intro n
    induction n with
    | zero => intro i v' hm; omega
    | succ n ih =>
      intro i v' hm hi hi2 e1 e2
      refine r_iload_n C (pc := 6) rfl rfl dX7_drop_6 ?_
      refine r_iload_n C (pc := 7) rfl rfl dX7_drop_7 ?_
      refine r_aload_n C (pc := 8) rfl rfl dX7_drop_8 ?_
      refine r_get C (pc := 9) (ci := 7) (k := 0) (w := .ref (m + 1)) rfl (by decide) inX7 (by decide) q_654 (Or.inl hd0) hs0 (zl_ref _ _) dX7_drop_9 ?_
      refine r_iload_n C (pc := 12) rfl rfl dX7_drop_12 ?_
      refine r_iald C (pc := 13) (x := (nI ((M.2.1 r0).length))) (Or.inl hd1) hs1 (by omega) (by omega) (by rw [e1, if_neg (by omega)]; exact hla.1) dX7_drop_13 ?_
      refine r_iconst C (pc := 14) (x := (nI 1)) (by decide) dX7_drop_14 ?_
      refine r_isub C (pc := 15) (z := (nI ((M.2.1 r0).length - 1))) (pk_sub (by omega)) dX7_drop_15 ?_
      refine r_callS C (pc := 16) (st := [.int (nI i)]) (m_X7_setAt l G sh v' N (a := lb r0) (k := (M.2.1 r0).length - 1)) kyX7_setAt q_743 rfl rfl (Nat.le_of_ble_eq_true rfl) ⟨Nat.le_of_ble_eq_true rfl, Nat.le_of_ble_eq_true rfl⟩ ⟨Nat.le_of_ble_eq_true rfl, Nat.le_of_ble_eq_true rfl⟩ dX7_drop_16 (fun r16 v16 hp16 => ?_)
      obtain ⟨rfl, ehp16⟩ := hp16
      refine VV.vq ehp16 ?_
      refine VV.eq (st2 := [.int (nI (lb r0 + 1 + 2 * ((M.2.1 r0).length - 1))), .int (nI i)]) rfl ?_
      refine n_icmp_ge C (pc := 19) (tgt := 42) (by omega) (by omega) dX7_drop_19 (by decide) (fun c_19 => ?_) (fun c_19 => ?_)
      · refine r_aload_n C (pc := 42) rfl rfl dX7_drop_42 ?_
        refine r_get C (pc := 43) (ci := 7) (k := 0) (w := .ref (m + 1)) rfl (by decide) inX7 (by decide) q_654 (Or.inl hd0) hs0 (zl_ref _ _) dX7_drop_43 ?_
        refine r_iload_n C (pc := 46) rfl rfl dX7_drop_46 ?_
        refine r_dup2 C (pc := 47) rfl rfl dX7_drop_47 ?_
        refine r_iald C (pc := 48) (x := (nI ((M.2.1 r0).length))) (Or.inl hd1) hs1 (by omega) (by omega) (by rw [e1, if_neg (by omega)]; exact hla.1) dX7_drop_48 ?_
        refine r_iconst C (pc := 49) (x := (nI 1)) (by decide) dX7_drop_49 ?_
        refine r_isub C (pc := 50) (z := (nI ((M.2.1 r0).length - 1))) (pk_sub (by omega)) dX7_drop_50 ?_
        refine r_iast C (pc := 51) hd1 hs1 (by omega) (by omega) dX7_drop_51 ?_
        refine VV.gn (fun w51 ew51 => ?_)
        exact r_vret C (pc := 52) rfl dX7_drop_52 ⟨rfl, rfl, rfl, zwf_l hv hr (by
        refine ⟨by rw [ew51, z2_self, List.length_eraseIdx_of_lt hk], by rw [List.length_eraseIdx_of_lt hk]; omega, fun j hj => ?_⟩
        rw [List.length_eraseIdx_of_lt hk] at hj
        rw [ew51, z2_ne (by omega), z2_ne (by omega), e1 (lb r0 + 1 + 2 * j), e1 (lb r0 + 1 + 2 * j + 1), gd_erase]
        by_cases hjk : j < k
        · rw [if_neg (by omega), if_pos hjk, if_neg (by omega)]; exact hla.2.2 j (by omega)
        · rw [if_pos (by omega), if_neg hjk, if_pos (by omega), show lb r0 + 1 + 2 * j + 2 = lb r0 + 1 + 2 * (j + 1) by omega, show lb r0 + 1 + 2 * j + 1 + 2 = lb r0 + 1 + 2 * (j + 1) + 1 by omega]; exact hla.2.2 (j + 1) (by omega)) (fun j hj => by rw [ew51, z2_ne (by omega), e1, if_neg (by omega)]), by rw [ew51]; exact e2.z2⟩
      · refine r_aload_n C (pc := 22) rfl rfl dX7_drop_22 ?_
        refine r_get C (pc := 23) (ci := 7) (k := 0) (w := .ref (m + 1)) rfl (by decide) inX7 (by decide) q_654 (Or.inl hd0) hs0 (zl_ref _ _) dX7_drop_23 ?_
        refine r_iload_n C (pc := 26) rfl rfl dX7_drop_26 ?_
        refine r_aload_n C (pc := 27) rfl rfl dX7_drop_27 ?_
        refine r_get C (pc := 28) (ci := 7) (k := 0) (w := .ref (m + 1)) rfl (by decide) inX7 (by decide) q_654 (Or.inl hd0) hs0 (zl_ref _ _) dX7_drop_28 ?_
        refine r_iload_n C (pc := 31) rfl rfl dX7_drop_31 ?_
        refine r_iconst C (pc := 32) (x := (nI 2)) (by decide) dX7_drop_32 ?_
        refine r_iadd C (pc := 33) (z := (nI (i + 2))) (nI_add _ _) dX7_drop_33 ?_
        refine r_iald C (pc := 34) (x := (v (m + 1) (i + 2))) (Or.inl hd1) hs1 (by omega) (by omega) (by rw [e1, if_neg (by omega)]) dX7_drop_34 ?_
        refine r_iast C (pc := 35) hd1 hs1 (by omega) (by omega) dX7_drop_35 ?_
        refine VV.gn (fun w35 ew35 => ?_)
        refine r_iinc C (pc := 36) (lv2 := [some (.ref m), some (.int (nI (lb r0))), some (.int (nI k)), some (.int (nI (i + 1)))]) (y := (nI (i + 1))) rfl (nI_inc _ _) (Nat.le_of_ble_eq_true rfl) rfl rfl dX7_drop_36 ?_
        refine r_goto C (pc := 39) (tgt := 6) dX7_drop_39 (by decide) ?_
        exact ih (i + 1) w35 (by omega) (by omega) (by omega) (fun j => by
          rw [ew35]
          by_cases hji : j = i
          · subst hji; rw [z2_self, if_pos (by omega)]
          · rw [z2_ne (by omega), e1]
            by_cases hc : lb r0 + 1 + 2 * k ≤ j ∧ j < i
            · rw [if_pos hc, if_pos (by omega)]
            · rw [if_neg hc, if_neg (by omega)]) (by rw [ew35]; exact e2.z2)
  refine r_iload_n C (pc := 0) rfl rfl dX7_drop_0 ?_
  refine r_iload_n C (pc := 1) rfl rfl dX7_drop_1 ?_
  refine r_callS C (pc := 2) (st := []) (m_X7_setAt l G sh v N (a := lb r0) (k := k)) kyX7_setAt q_743 rfl rfl (Nat.le_of_ble_eq_true rfl) ⟨Nat.le_of_ble_eq_true rfl, Nat.le_of_ble_eq_true rfl⟩ ⟨Nat.le_of_ble_eq_true rfl, Nat.le_of_ble_eq_true rfl⟩ dX7_drop_2 (fun r2 v2 hp2 => ?_)
  obtain ⟨rfl, ehp2⟩ := hp2
  refine VV.vq ehp2 ?_
  refine VV.eq (st2 := [.int (nI (lb r0 + 1 + 2 * k))]) rfl ?_
  refine r_istore_n C (pc := 5) (lv2 := [some (.ref m), some (.int (nI (lb r0))), some (.int (nI k)), some (.int (nI (lb r0 + 1 + 2 * k)))]) rfl (Nat.le_of_ble_eq_true rfl) rfl rfl dX7_drop_5 ?_
  exact loop (2 * (M.2.1 r0).length + 1) (lb r0 + 1 + 2 * k) v (by omega) (by omega) (by omega) (fun j => by rw [if_neg (by omega)]) fA.rf
set_option maxRecDepth 100000 in
set_option maxHeartbeats 4000000 in
theorem m_X7_valueOf (l : Launch) (G : zG) (sh : zH) (v : zV) (N : Nat) {m : Nat} {M : zMS} {x : Nat} (hp : zMD G sh N m) (hv : zwf (v (m + 1)) M) (hx : x < 2 ^ 31) (hK : M.1 0 ≤ 12) : zm l G yX7_valueOf cX7_valueOf 4 (some .int) 0 [.ref m, .int (nI x)] sh v N (fun r v1 => r = some (.int (nI (vln (zVl M) x (M.1 0)))) ∧ v1 = v) := by
  refine zM.of (by decide) rfl (Nat.le_of_ble_eq_true rfl) ?_
  intro p e s mi args below meth c C
  obtain ⟨hB, hN, hs0, hs1, hs2, hs3, hs4, hs5, hs6, hs7, hs8⟩ := id hp
  have hd0 : G.2.2.1 ≤ m ∧ m < N := ⟨hB, by omega⟩
  have hd1 : G.2.2.1 ≤ m + 1 ∧ m + 1 < N := ⟨by omega, by omega⟩
  have hd2 : G.2.2.1 ≤ m + 2 ∧ m + 2 < N := ⟨by omega, by omega⟩
  have hd3 : G.2.2.1 ≤ m + 3 ∧ m + 3 < N := ⟨by omega, by omega⟩
  have hd4 : G.2.2.1 ≤ m + 4 ∧ m + 4 < N := ⟨by omega, by omega⟩
  have hd5 : G.2.2.1 ≤ m + 5 ∧ m + 5 < N := ⟨by omega, by omega⟩
  have hd6 : G.2.2.1 ≤ m + 6 ∧ m + 6 < N := ⟨by omega, by omega⟩
  have hd7 : G.2.2.1 ≤ m + 7 ∧ m + 7 < N := ⟨by omega, by omega⟩
  have hd8 : G.2.2.1 ≤ m + 8 ∧ m + 8 < N := ⟨by omega, by omega⟩
  have loop : ∀ (n b : Nat), M.1 0 - b < n → b ≤ M.1 0 → VV p l e ({ frames := 0, cells := 0, slots := 0, locals := 32 * 0 }) s mi args below meth c 0 0 (zQ below (fun r sh1 v1 N1 => sh1 = sh ∧ N1 = N ∧ (r = some (.int (nI (vln (zVl M) x (M.1 0)))) ∧ v1 = v)) G args s 0 0) G 4 sh v N 4 [some (.ref m), some (.int (nI x)), some (.int (nI (vln (zVl M) x b))), some (.int (nI b))] [] := by
    intro n
    induction n with
    | zero => intro b hm; omega
    | succ n ih =>
      intro b hm hb
      refine r_iload_n C (pc := 4) rfl rfl dX7_valueOf_4 ?_
      refine r_aload_n C (pc := 5) rfl rfl dX7_valueOf_5 ?_
      refine r_get C (pc := 6) (ci := 7) (k := 0) (w := .ref (m + 1)) rfl (by decide) inX7 (by decide) q_654 (Or.inl hd0) hs0 (zl_ref _ _) dX7_valueOf_6 ?_
      refine r_iconst C (pc := 9) (x := (nI 0)) (by decide) dX7_valueOf_9 ?_
      refine r_iald C (pc := 10) (x := (nI (M.1 0))) (Or.inl hd1) hs1 (by omega) (by omega) (hv.1 0 (by decide)) dX7_valueOf_10 ?_
      refine n_icmp_ge C (pc := 11) (tgt := 45) (by omega) (by omega) dX7_valueOf_11 (by decide) (fun c_11 => ?_) (fun c_11 => ?_)
      · refine r_iload_n C (pc := 45) rfl rfl dX7_valueOf_45 ?_
        exact r_iret C (pc := 46) rfl (rfl) dX7_valueOf_46 ⟨rfl, rfl, by rw [show b = M.1 0 by omega], rfl⟩
      · refine r_iload_n C (pc := 14) rfl rfl dX7_valueOf_14 ?_
        refine r_iload_n C (pc := 15) rfl rfl dX7_valueOf_15 ?_
        refine r_iload_n C (pc := 16) rfl rfl dX7_valueOf_16 ?_
        refine r_ishr C (pc := 17) (z := (nI (x / 2 ^ b))) (nI_shr hx (by omega)) dX7_valueOf_17 ?_
        refine r_iconst C (pc := 18) (x := (nI 1)) (by decide) dX7_valueOf_18 ?_
        refine r_iand C (pc := 19) (z := (nI (if x.testBit b then 1 else 0))) (by rw [nx_and, tb_bit]) dX7_valueOf_19 ?_
        refine r_iconst C (pc := 20) (x := (nI 1)) (by decide) dX7_valueOf_20 ?_
        refine n_icmp_ne C (pc := 21) (tgt := 36) (by split <;> decide) (by decide) dX7_valueOf_21 (by decide) (fun c_21 => ?_) (fun c_21 => ?_)
        · have hb0 : ¬ x.testBit b = true := fun z => by rw [if_pos z] at c_21; exact c_21 rfl
          refine r_iconst C (pc := 36) (x := (nI 0)) (by decide) dX7_valueOf_36 ?_
          refine r_ixor C (pc := 37) (z := (nI ((vln (zVl M) x b) ^^^ 0))) (nx_xor _ _) dX7_valueOf_37 ?_
          refine r_istore_n C (pc := 38) (lv2 := [some (.ref m), some (.int (nI x)), some (.int (nI ((vln (zVl M) x b) ^^^ 0))), some (.int (nI b))]) rfl (Nat.le_of_ble_eq_true rfl) rfl rfl dX7_valueOf_38 ?_
          refine r_iinc C (pc := 39) (lv2 := [some (.ref m), some (.int (nI x)), some (.int (nI ((vln (zVl M) x b) ^^^ 0))), some (.int (nI (b + 1)))]) (y := (nI (b + 1))) rfl (nI_inc _ _) (Nat.le_of_ble_eq_true rfl) rfl rfl dX7_valueOf_39 ?_
          refine r_goto C (pc := 42) (tgt := 4) dX7_valueOf_42 (by decide) ?_
          have hs : vln (zVl M) x (b + 1) = vln (zVl M) x b ^^^ 0 := by
            show (if _ then _ else _) = _
            rw [if_neg hb0, Nat.xor_zero]
          have := ih (b + 1) (by omega) (by omega)
          rw [hs] at this
          exact this
        · have hb1 : x.testBit b = true := by
            cases h : x.testBit b with
            | true => rfl
            | false => rw [h] at c_21; simp at c_21
          refine r_aload_n C (pc := 24) rfl rfl dX7_valueOf_24 ?_
          refine r_get C (pc := 25) (ci := 7) (k := 0) (w := .ref (m + 1)) rfl (by decide) inX7 (by decide) q_654 (Or.inl hd0) hs0 (zl_ref _ _) dX7_valueOf_25 ?_
          refine r_bipush C (pc := 28) (x := (nI 17)) (by decide) dX7_valueOf_28 ?_
          refine r_iload_n C (pc := 30) rfl rfl dX7_valueOf_30 ?_
          refine r_iadd C (pc := 31) (z := (nI (17 + b))) (nI_add _ _) dX7_valueOf_31 ?_
          refine r_iald C (pc := 32) (x := (nI (M.1 (17 + b)))) (Or.inl hd1) hs1 (by omega) (by omega) (hv.1 (17 + b) (by omega)) dX7_valueOf_32 ?_
          refine r_goto C (pc := 33) (tgt := 37) dX7_valueOf_33 (by decide) ?_
          refine r_ixor C (pc := 37) (z := (nI ((vln (zVl M) x b) ^^^ (M.1 (17 + b))))) (nx_xor _ _) dX7_valueOf_37 ?_
          refine r_istore_n C (pc := 38) (lv2 := [some (.ref m), some (.int (nI x)), some (.int (nI ((vln (zVl M) x b) ^^^ (M.1 (17 + b))))), some (.int (nI b))]) rfl (Nat.le_of_ble_eq_true rfl) rfl rfl dX7_valueOf_38 ?_
          refine r_iinc C (pc := 39) (lv2 := [some (.ref m), some (.int (nI x)), some (.int (nI ((vln (zVl M) x b) ^^^ (M.1 (17 + b))))), some (.int (nI (b + 1)))]) (y := (nI (b + 1))) rfl (nI_inc _ _) (Nat.le_of_ble_eq_true rfl) rfl rfl dX7_valueOf_39 ?_
          refine r_goto C (pc := 42) (tgt := 4) dX7_valueOf_42 (by decide) ?_
          have hs : vln (zVl M) x (b + 1) = vln (zVl M) x b ^^^ M.1 (17 + b) := by
            show (if _ then _ else _) = _
            rw [if_pos hb1]
          have := ih (b + 1) (by omega) (by omega)
          rw [hs] at this
          exact this
  refine r_iconst C (pc := 0) (x := (nI 0)) (by decide) dX7_valueOf_0 ?_
  refine r_istore_n C (pc := 1) (lv2 := [some (.ref m), some (.int (nI x)), some (.int (nI 0)), none]) rfl (Nat.le_of_ble_eq_true rfl) rfl rfl dX7_valueOf_1 ?_
  refine r_iconst C (pc := 2) (x := (nI 0)) (by decide) dX7_valueOf_2 ?_
  refine r_istore_n C (pc := 3) (lv2 := [some (.ref m), some (.int (nI x)), some (.int (nI 0)), some (.int (nI 0))]) rfl (Nat.le_of_ble_eq_true rfl) rfl rfl dX7_valueOf_3 ?_
  exact loop (M.1 0 + 1) 0 (by omega) (by omega)
set_option maxRecDepth 100000 in
set_option maxHeartbeats 4000000 in
theorem m_X7_draw (l : Launch) (G : zG) (sh : zH) (v : zV) (N : Nat) {m : Nat} {M : zMS} {n : Nat} (hp : zMD G sh N m) (hv : zwf (v (m + 1)) M) (hs : M.1 6 < 2 ^ 31) (hn : 0 < n) (hn2 : n < 2 ^ 31) : zm l G yX7_draw cX7_draw 4 (some .int) 0 [.ref m, .int (nI n)] sh v N (fun r v1 => r = some (.int (nI (drw (M.1 6) n))) ∧ zwf (v1 (m + 1)) (upc M.1 6 (dseed (M.1 6)), M.2) ∧ fA v v1 m) := by
  refine zM.of (by decide) rfl (Nat.le_of_ble_eq_true rfl) ?_
  intro p e s mi args below meth c C
  obtain ⟨hB, hN, hs0, hs1, hs2, hs3, hs4, hs5, hs6, hs7, hs8⟩ := id hp
  have hd0 : G.2.2.1 ≤ m ∧ m < N := ⟨hB, by omega⟩
  have hd1 : G.2.2.1 ≤ m + 1 ∧ m + 1 < N := ⟨by omega, by omega⟩
  have hd2 : G.2.2.1 ≤ m + 2 ∧ m + 2 < N := ⟨by omega, by omega⟩
  have hd3 : G.2.2.1 ≤ m + 3 ∧ m + 3 < N := ⟨by omega, by omega⟩
  have hd4 : G.2.2.1 ≤ m + 4 ∧ m + 4 < N := ⟨by omega, by omega⟩
  have hd5 : G.2.2.1 ≤ m + 5 ∧ m + 5 < N := ⟨by omega, by omega⟩
  have hd6 : G.2.2.1 ≤ m + 6 ∧ m + 6 < N := ⟨by omega, by omega⟩
  have hd7 : G.2.2.1 ≤ m + 7 ∧ m + 7 < N := ⟨by omega, by omega⟩
  have hd8 : G.2.2.1 ≤ m + 8 ∧ m + 8 < N := ⟨by omega, by omega⟩
  refine r_ldc2 C (pc := 0) (x := lN 1103515245) q_762 dX7_draw_0 ?_
  refine r_aload_n C (pc := 3) rfl rfl dX7_draw_3 ?_
  refine r_get C (pc := 4) (ci := 7) (k := 0) (w := .ref (m + 1)) rfl (by decide) inX7 (by decide) q_654 (Or.inl hd0) hs0 (zl_ref _ _) dX7_draw_4 ?_
  refine r_bipush C (pc := 7) (x := (nI 6)) (by decide) dX7_draw_7 ?_
  refine r_iald C (pc := 9) (x := (nI (M.1 6))) (Or.inl hd1) hs1 (by omega) (by omega) (hv.1 6 (by decide)) dX7_draw_9 ?_
  refine r_i2l C (pc := 10) (z := lN (M.1 6)) (nI_l hs) dX7_draw_10 ?_
  refine r_lmul C (pc := 11) (z := lN (1103515245 * M.1 6)) (lN_mul _ _) dX7_draw_11 ?_
  refine r_ldc2 C (pc := 12) (x := lN 12345) q_763 dX7_draw_12 ?_
  refine r_ladd C (pc := 15) (z := lN (1103515245 * M.1 6 + 12345)) (lN_add _ _) dX7_draw_15 ?_
  refine r_ldc2 C (pc := 16) (x := lN 2147483648) q_764 dX7_draw_16 ?_
  refine r_lrem C (pc := 19) (z := lN (dseed (M.1 6))) (by decide) (pk_lRem (by omega) (by decide) (by decide)) dX7_draw_19 ?_
  refine r_lstore_n C (pc := 20) (lv2 := [some (.ref m), some (.int (nI n)), some (.long (lN (dseed (M.1 6)))), none]) rfl (Nat.le_of_ble_eq_true rfl) rfl rfl dX7_draw_20 ?_
  have hds := dseed_lt (M.1 6)
  refine r_aload_n C (pc := 21) rfl rfl dX7_draw_21 ?_
  refine r_get C (pc := 22) (ci := 7) (k := 0) (w := .ref (m + 1)) rfl (by decide) inX7 (by decide) q_654 (Or.inl hd0) hs0 (zl_ref _ _) dX7_draw_22 ?_
  refine r_bipush C (pc := 25) (x := (nI 6)) (by decide) dX7_draw_25 ?_
  refine r_lload_n C (pc := 27) rfl rfl dX7_draw_27 ?_
  refine r_l2i C (pc := 28) (z := (nI (dseed (M.1 6)))) (lN_i _) dX7_draw_28 ?_
  refine r_iast C (pc := 29) hd1 hs1 (by omega) (by omega) dX7_draw_29 ?_
  refine VV.gn (fun w29 ew29 => ?_)
  refine r_aload_n C (pc := 30) rfl rfl dX7_draw_30 ?_
  refine r_get C (pc := 31) (ci := 7) (k := 0) (w := .ref (m + 1)) rfl (by decide) inX7 (by decide) q_654 (Or.inl hd0) hs0 (zl_ref _ _) dX7_draw_31 ?_
  refine r_bipush C (pc := 34) (x := (nI 6)) (by decide) dX7_draw_34 ?_
  refine r_iald C (pc := 36) (x := (nI (dseed (M.1 6)))) (Or.inl hd1) hs1 (by omega) (by omega) (by rw [ew29, z2_self]) dX7_draw_36 ?_
  refine r_ldc C (pc := 37) (x := nI 65536) q_765 dX7_draw_37 ?_
  refine r_idiv C (pc := 39) (z := (nI (dseed (M.1 6) / 65536))) (by decide) (pk_div (by omega) (by decide) (by decide)) dX7_draw_39 ?_
  refine r_iload_n C (pc := 40) rfl rfl dX7_draw_40 ?_
  refine r_irem C (pc := 41) (z := (nI (drw (M.1 6) n))) (nI_ne0 hn hn2) (pk_rem (by omega) hn hn2) dX7_draw_41 ?_
  exact r_iret C (pc := 42) rfl (rfl) dX7_draw_42 ⟨rfl, rfl, rfl, zwf_c hv (by decide) (by decide) (by rw [ew29, z2_self]) (fun j hj => by rw [ew29, z2_ne (by omega)]), by rw [ew29]; exact fA.rf.z2⟩
set_option maxRecDepth 100000 in
set_option maxHeartbeats 4000000 in
theorem m_X7_weights (l : Launch) (G : zG) (sh : zH) (v : zV) (N : Nat) {m : Nat} {M : zMS} (hp : zMD G sh N m) (hv : zwf (v (m + 1)) M) : zm l G yX7_weights cX7_weights 3 (some .int) 0 [.ref m] sh v N (fun r v1 => r = some (.int (nI (wsn M.1 6))) ∧ v1 = v) := by
  refine zM.of (by decide) rfl (Nat.le_of_ble_eq_true rfl) ?_
  intro p e s mi args below meth c C
  obtain ⟨hB, hN, hs0, hs1, hs2, hs3, hs4, hs5, hs6, hs7, hs8⟩ := id hp
  have hd0 : G.2.2.1 ≤ m ∧ m < N := ⟨hB, by omega⟩
  have hd1 : G.2.2.1 ≤ m + 1 ∧ m + 1 < N := ⟨by omega, by omega⟩
  have hd2 : G.2.2.1 ≤ m + 2 ∧ m + 2 < N := ⟨by omega, by omega⟩
  have hd3 : G.2.2.1 ≤ m + 3 ∧ m + 3 < N := ⟨by omega, by omega⟩
  have hd4 : G.2.2.1 ≤ m + 4 ∧ m + 4 < N := ⟨by omega, by omega⟩
  have hd5 : G.2.2.1 ≤ m + 5 ∧ m + 5 < N := ⟨by omega, by omega⟩
  have hd6 : G.2.2.1 ≤ m + 6 ∧ m + 6 < N := ⟨by omega, by omega⟩
  have hd7 : G.2.2.1 ≤ m + 7 ∧ m + 7 < N := ⟨by omega, by omega⟩
  have hd8 : G.2.2.1 ≤ m + 8 ∧ m + 8 < N := ⟨by omega, by omega⟩
  have loop : ∀ (n d : Nat), 6 - d < n → d ≤ 6 → VV p l e ({ frames := 0, cells := 0, slots := 0, locals := 32 * 0 }) s mi args below meth c 0 0 (zQ below (fun r sh1 v1 N1 => sh1 = sh ∧ N1 = N ∧ (r = some (.int (nI (wsn M.1 6))) ∧ v1 = v)) G args s 0 0) G 3 sh v N 4 [some (.ref m), some (.int (nI (wsn M.1 d))), some (.int (nI d))] [] := by
    intro n
    induction n with
    | zero => intro d hm; omega
    | succ n ih =>
      intro d hm hd6
      refine r_iload_n C (pc := 4) rfl rfl dX7_weights_4 ?_
      refine r_bipush C (pc := 5) (x := (nI 6)) (by decide) dX7_weights_5 ?_
      refine n_icmp_ge C (pc := 7) (tgt := 28) (by omega) (by omega) dX7_weights_7 (by decide) (fun c_7 => ?_) (fun c_7 => ?_)
      · refine r_iload_n C (pc := 28) rfl rfl dX7_weights_28 ?_
        exact r_iret C (pc := 29) rfl (rfl) dX7_weights_29 ⟨rfl, rfl, by rw [show d = 6 by omega], rfl⟩
      · refine r_iload_n C (pc := 10) rfl rfl dX7_weights_10 ?_
        refine r_aload_n C (pc := 11) rfl rfl dX7_weights_11 ?_
        refine r_get C (pc := 12) (ci := 7) (k := 0) (w := .ref (m + 1)) rfl (by decide) inX7 (by decide) q_654 (Or.inl hd0) hs0 (zl_ref _ _) dX7_weights_12 ?_
        refine r_bipush C (pc := 15) (x := (nI 11)) (by decide) dX7_weights_15 ?_
        refine r_iload_n C (pc := 17) rfl rfl dX7_weights_17 ?_
        refine r_iadd C (pc := 18) (z := (nI (11 + d))) (nI_add _ _) dX7_weights_18 ?_
        refine r_iald C (pc := 19) (x := (nI (M.1 (11 + d)))) (Or.inl hd1) hs1 (by omega) (by omega) (hv.1 (11 + d) (by omega)) dX7_weights_19 ?_
        refine r_iadd C (pc := 20) (z := (nI ((wsn M.1 d) + (M.1 (11 + d))))) (nI_add _ _) dX7_weights_20 ?_
        refine r_istore_n C (pc := 21) (lv2 := [some (.ref m), some (.int (nI ((wsn M.1 d) + (M.1 (11 + d))))), some (.int (nI d))]) rfl (Nat.le_of_ble_eq_true rfl) rfl rfl dX7_weights_21 ?_
        refine r_iinc C (pc := 22) (lv2 := [some (.ref m), some (.int (nI ((wsn M.1 d) + (M.1 (11 + d))))), some (.int (nI (d + 1)))]) (y := (nI (d + 1))) rfl (nI_inc _ _) (Nat.le_of_ble_eq_true rfl) rfl rfl dX7_weights_22 ?_
        refine r_goto C (pc := 25) (tgt := 4) dX7_weights_25 (by decide) ?_
        exact ih (d + 1) (by omega) (by omega)
  refine r_iconst C (pc := 0) (x := (nI 0)) (by decide) dX7_weights_0 ?_
  refine r_istore_n C (pc := 1) (lv2 := [some (.ref m), some (.int (nI 0)), none]) rfl (Nat.le_of_ble_eq_true rfl) rfl rfl dX7_weights_1 ?_
  refine r_iconst C (pc := 2) (x := (nI 0)) (by decide) dX7_weights_2 ?_
  refine r_istore_n C (pc := 3) (lv2 := [some (.ref m), some (.int (nI 0)), some (.int (nI 0))]) rfl (Nat.le_of_ble_eq_true rfl) rfl rfl dX7_weights_3 ?_
  exact loop 7 0 (by omega) (by omega)
