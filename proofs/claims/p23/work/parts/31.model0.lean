/-! the check's own class: its row w against the state -/
def zMD (G : zG) (sh : zH) (N m : Nat) : Prop := G.2.2.1 ≤ m ∧ m + 8 < N ∧ sh m = (7, 14, pts [m + 1 + 2, m + 2 + 2, 0, m + 3 + 2, 0, m + 4 + 2, m + 5 + 2, 0, 0, 0, 0, m + 6 + 2, m + 7 + 2, m + 8 + 2]) ∧ sh (m + 1) = (8, 165, fun _ => 0) ∧ sh (m + 2) = (8, 1320, fun _ => 0) ∧ sh (m + 3) = (8, 330, fun _ => 0) ∧ sh (m + 4) = (8, 12, fun _ => 0) ∧ sh (m + 5) = (8, 12, fun _ => 0) ∧ sh (m + 6) = (8, 4, fun _ => 0) ∧ sh (m + 7) = (8, 4, fun _ => 0) ∧ sh (m + 8) = (8, 165, fun _ => 0)
def lb (r : Nat) : Nat := if r < 3 then 34 + 9 * r else if r = 3 then 61 else 122
def cp (r : Nat) : Nat := if r < 3 then 4 else if r = 3 then 12 else 21
theorem lb_s {r : Nat} (h : r < 3) : lb r = 34 + 9 * r := if_pos h
theorem lb_3 : lb 3 = 61 := rfl
theorem lb_4 : lb 4 = 122 := rfl
theorem cp_s {r : Nat} (h : r < 3) : cp r = 4 := if_pos h
theorem lb_top : ∀ r, r < 5 → 34 ≤ lb r ∧ lb r + 2 * cp r < 165 ∧ cp r ≤ 21 ∧ (lb r + 2 * cp r < 86 ∨ 122 ≤ lb r) := by decide
theorem lb_ap : ∀ r, r < 5 → ∀ j, j < 5 → j ≠ r → lb j + 2 * cp j < lb r ∨ lb r + 2 * cp r < lb j := by decide
def zla (f : Nat → Int32) (a cap : Nat) (l : List Nat) : Prop := f a = nI l.length ∧ l.length ≤ cap ∧ ∀ k, k < l.length → f (a + 1 + 2 * k) = nI (l.getD k 0 / 256) ∧ f (a + 1 + 2 * k + 1) = nI (l.getD k 0 % 256)
theorem zla.kept {f g : Nat → Int32} {a cap : Nat} {l : List Nat} (h : zla f a cap l) (k : ∀ i, a ≤ i → i ≤ a + 2 * cap → g i = f i) : zla g a cap l := ⟨by rw [k a (by omega) (by omega)]; exact h.1, h.2.1, fun j hj => by
  have := h.2.1
  rw [k _ (by omega) (by omega), k _ (by omega) (by omega)]; exact h.2.2 j hj⟩
def knI (o : Option Nat) (x : Nat) : Int32 := if o.isSome then nI x else -9
def zwf (f : Nat → Int32) (M : zMS) : Prop := (∀ i, i < 34 → f i = nI (M.1 i)) ∧ (∀ r, r < 5 → zla f (lb r) (cp r) (M.2.1 r)) ∧ (∀ b, b < 12 → f (86 + b) = knI (M.2.2.2 b) (M.1 (17 + b))) ∧ (∀ b, b < 12 → f (98 + b) = tmI (M.2.2.2 b)) ∧ ∀ b, b < 12 → f (110 + b) = tmI (M.2.2.1 b)
/-- a scalar is written -/
theorem zwf_c {f g : Nat → Int32} {M : zMS} {i x : Nat} (h : zwf f M) (hi : i < 34) (hv : i < 17 ∨ 29 ≤ i) (e : g i = nI x) (k : ∀ j, j ≠ i → g j = f j) : zwf g (upc M.1 i x, M.2) := by
  obtain ⟨h1, h2, h3, h4, h5⟩ := h
  refine ⟨fun j hj => ?_, fun r hr => (h2 r hr).kept (fun j h1 h2 => k j (by have := lb_top r hr; omega)), fun b hb => ?_, fun b hb => by rw [k _ (by omega)]; exact h4 b hb, fun b hb => by rw [k _ (by omega)]; exact h5 b hb⟩
  · show g j = nI (upc M.1 i x j)
    by_cases hji : j = i
    · subst hji; rw [upc_s]; exact e
    · rw [upc_n hji, k j hji]; exact h1 j hj
  · show g (86 + b) = knI (M.2.2.2 b) (upc M.1 i x (17 + b))
    rw [upc_n (by omega), k _ (by omega)]; exact h3 b hb
/-- a list is changed, nothing else -/
theorem zwf_l {f g : Nat → Int32} {M : zMS} {r : Nat} {l : List Nat} (h : zwf f M) (hr : r < 5) (e : zla g (lb r) (cp r) l) (k : ∀ j, (j < lb r ∨ lb r + 2 * cp r < j) → g j = f j) : zwf g (M.1, upl M.2.1 r l, M.2.2) := by
  obtain ⟨h1, h2, h3, h4, h5⟩ := h
  have ht := lb_top r hr
  refine ⟨fun j hj => by rw [k j (by omega)]; exact h1 j hj, fun j hj => ?_, fun b hb => by rw [k _ (by omega)]; exact h3 b hb, fun b hb => by rw [k _ (by omega)]; exact h4 b hb, fun b hb => by rw [k _ (by omega)]; exact h5 b hb⟩
  show zla g (lb j) (cp j) (upl M.2.1 r l j)
  by_cases hjr : j = r
  · subst hjr; rw [upl_s]; exact e
  · rw [upl_n hjr]
    have := lb_ap r hr j hj hjr
    exact (h2 j hj).kept (fun i g1 g2 => k i (by omega))
theorem la_app {f : Nat → Int32} {a cap p : Nat} {l : List Nat} (h : zla f a cap l) (hl : l.length < cap) : zla (upd (upd (upd f (a + 1 + 2 * l.length) (nI (p / 256))) (a + 1 + 2 * l.length + 1) (nI (p % 256))) a (nI (l.length + 1))) a cap (l ++ [p]) := by
  obtain ⟨h1, h2, h3⟩ := h
  refine ⟨by simp [upd], by simp; omega, fun k hk => ?_⟩
  have hk2 : k < l.length + 1 := by simpa using hk
  rw [gd_app]
  by_cases hkl : k < l.length
  · rw [if_pos hkl]
    have := h3 k hkl
    simp only [upd]
    rw [if_neg (by omega), if_neg (by omega), if_neg (by omega), if_neg (by omega), if_neg (by omega), if_neg (by omega)]
    exact this
  · have e : k = l.length := by omega
    subst e
    rw [if_neg hkl, if_pos rfl]
    have e1 : a + 1 + 2 * l.length ≠ a := by omega
    have e2 : a + 1 + 2 * l.length + 1 ≠ a := by omega
    simp [upd, e1, e2]
def fA (v v1 : zV) (m : Nat) : Prop := ∀ b, b ≠ m + 1 → v1 b = v b
theorem fA.rf {v : zV} {m : Nat} : fA v v m := fun _ _ => rfl
theorem fA.z2 {v v1 : zV} {m k : Nat} {x : Int32} (h : fA v v1 m) : fA v (z2 v1 (m + 1) k x) m := fun b hb => by rw [z2_addr hb]; exact h b hb
theorem fA.tr {v v1 v2 : zV} {m : Nat} (h : fA v v1 m) (g : fA v1 v2 m) : fA v v2 m := fun b hb => (g b hb).trans (h b hb)
def fB (v v1 : zV) (m : Nat) : Prop := (∀ b, b ≠ m → b ≠ m + 1 → b ≠ m + 4 → b ≠ m + 5 → v1 b = v b) ∧ v1 m 2 = v m 2 ∧ v1 m 4 = v m 4
theorem fB.rf {v : zV} {m : Nat} : fB v v m := ⟨fun _ _ _ _ _ => rfl, rfl, rfl⟩
theorem fB.tr {v v1 v2 : zV} {m : Nat} (h : fB v v1 m) (g : fB v1 v2 m) : fB v v2 m := ⟨fun b h1 h2 h3 h4 => (g.1 b h1 h2 h3 h4).trans (h.1 b h1 h2 h3 h4), g.2.1.trans h.2.1, g.2.2.trans h.2.2⟩
theorem fA.B {v v1 : zV} {m : Nat} (h : fA v v1 m) : fB v v1 m := ⟨fun b _ h2 _ _ => h b h2, by rw [h m (by omega)], by rw [h m (by omega)]⟩
theorem fB.z {v v1 : zV} {m k : Nat} {x : Int32} (h : fB v v1 m) (h2 : k ≠ 2) (h4 : k ≠ 4) : fB v (z2 v1 m k x) m := ⟨fun b g1 g2 g3 g4 => by rw [z2_addr g1]; exact h.1 b g1 g2 g3 g4, by rw [z2_ne (by omega)]; exact h.2.1, by rw [z2_ne (by omega)]; exact h.2.2⟩
theorem fB.zw {v v1 : zV} {m a k : Nat} {x : Int32} (h : fB v v1 m) (ha : a = m + 1 ∨ a = m + 4 ∨ a = m + 5) : fB v (z2 v1 a k x) m := ⟨fun b g1 g2 g3 g4 => by rw [z2_addr (by omega)]; exact h.1 b g1 g2 g3 g4, by rw [z2_addr (by omega)]; exact h.2.1, by rw [z2_addr (by omega)]; exact h.2.2⟩
theorem lt_of_bit {x b : Nat} (h : x < 2 ^ (b + 1)) (hb : x.testBit b = false) : x < 2 ^ b := by
  apply Nat.lt_of_not_le
  intro hle
  rw [Nat.testBit_eq_decide_div_mod_eq, decide_eq_false_iff_not] at hb
  have h1 : x / 2 ^ b = 1 := by
    apply Nat.div_eq_of_lt_le
    · omega
    · rw [Nat.pow_succ] at h; omega
  rw [h1] at hb
  exact hb rfl
theorem log2_of {x b : Nat} (h : x < 2 ^ (b + 1)) (hb : x.testBit b = true) : Nat.log2 x = b := by
  have h1 : 2 ^ b ≤ x := Nat.ge_two_pow_of_testBit hb
  have h0 : x ≠ 0 := by
    have := Nat.two_pow_pos b
    omega
  have h2 := (Nat.le_log2 h0).mpr h1
  have h3 := (Nat.log2_lt h0).mpr h
  omega
