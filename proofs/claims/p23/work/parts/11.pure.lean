/-! pure rows: lists of packets as numbers, counts of bits -/
theorem gd_ge {ps : List Nat} {j : Nat} (h : ps.length ≤ j) : ps.getD j 0 = 0 := by simp [List.getD, h]
theorem gd_app {ps : List Nat} {p j : Nat} : (ps ++ [p]).getD j 0 = if j < ps.length then ps.getD j 0 else if j = ps.length then p else 0 := by
  rcases Nat.lt_trichotomy j ps.length with h | h | h
  · simp [List.getD, h, List.getElem?_append_left h]
  · subst h; simp [List.getD]
  · rw [if_neg (by omega), if_neg (by omega)]
    exact gd_ge (by simp; omega)
theorem gd_erase {ps : List Nat} {k j : Nat} : (ps.eraseIdx k).getD j 0 = if j < k then ps.getD j 0 else ps.getD (j + 1) 0 := by
  simp only [List.getD, List.getElem?_eraseIdx]
  by_cases h : j < k <;> simp [h]
theorem gd_drop {ps : List Nat} {d j : Nat} : (ps.drop d).getD j 0 = ps.getD (d + j) 0 := by simp [List.getD]
def pops (k : Nat) : Nat → Nat
  | 0 => 0
  | b + 1 => pops k b + k / 2 ^ b % 2
abbrev pop (k : Nat) : Nat := pops k 12
def zpl (v : zV) (a cap : Nat) (ps : List Nat) : Prop := v a 1 = nI ps.length ∧ ps.length ≤ cap ∧ ∀ k, k < ps.length → v (a + 1) k = nI (ps.getD k 0)
def zPL (G : zG) (sh : zH) (N a cap : Nat) : Prop := G.2.2.1 ≤ a ∧ a + 1 < N ∧ cap ≤ 20 ∧ sh a = (1, 2, pts [a + 1 + 2, 0]) ∧ sh (a + 1) = (8, cap, fun _ => 0)
def zfr (v v1 : zV) (a n : Nat) : Prop := ∀ b, (b < a ∨ a + n ≤ b) → v1 b = v b
theorem zfr.rf {v : zV} {a n : Nat} : zfr v v a n := fun _ _ => rfl
theorem zfr.z2 {v v1 : zV} {a n b k : Nat} {x : Int32} (h : zfr v v1 a n) (h1 : a ≤ b) (h2 : b < a + n) : zfr v (z2 v1 b k x) a n := fun q hq => by rw [z2_addr (by omega)]; exact h q hq
theorem zfr.tr {v v1 v2 : zV} {a n : Nat} (h : zfr v v1 a n) (h1 : zfr v1 v2 a n) : zfr v v2 a n := fun q hq => (h1 q hq).trans (h q hq)
theorem zfr.wide {v v1 : zV} {a n b m : Nat} (h : zfr v v1 a n) (h1 : b ≤ a) (h2 : a + n ≤ b + m) : zfr v v1 b m := fun q hq => h q (by omega)
theorem zpl.kept {v v1 : zV} {a cap : Nat} {ps : List Nat} (h : zpl v a cap ps) (h0 : v1 a = v a) (h1 : v1 (a + 1) = v (a + 1)) : zpl v1 a cap ps := ⟨by rw [h0]; exact h.1, h.2.1, fun k hk => by rw [h1]; exact h.2.2 k hk⟩
theorem pl_app {v : zV} {a cap p : Nat} {ps : List Nat} (h : zpl v a cap ps) (hl : ps.length < cap) : zpl (z2 (z2 v (a + 1) ps.length (nI p)) a 1 (nI (ps.length + 1))) a cap (ps ++ [p]) := by
  obtain ⟨h1, h2, h3⟩ := h
  refine ⟨by rw [z2_self, List.length_append]; rfl, by simp; omega, fun k hk => ?_⟩
  have hk' : k < ps.length + 1 := by simpa using hk
  rw [z2_addr (by omega), gd_app]
  by_cases hk2 : k < ps.length
  · rw [z2_ne (by omega), if_pos hk2]; exact h3 k hk2
  · have : k = ps.length := by omega
    subst this
    rw [z2_self, if_neg (by omega), if_pos rfl]
