theorem upc_comm (c : Nat → Nat) {i j x y : Nat} (h : i ≠ j) : upc (upc c i x) j y = upc (upc c j y) i x := by
  funext k
  unfold upc
  by_cases h1 : k = j
  · subst h1; rw [if_pos rfl, if_neg (fun z => h z.symm), if_pos rfl]
  · rw [if_neg h1, if_neg h1]
theorem vln_of {V W : Nat → Nat} {s : Nat} : ∀ n, (∀ b, b < n → V b = W b) → vln V s n = vln W s n
  | 0, _ => rfl
  | n + 1, h => by
    show (if _ then _ else _) = (if _ then _ else _)
    rw [vln_of n (fun b hb => h b (by omega)), h n (Nat.lt_succ_self n)]
theorem mod_s (x n : Nat) : x % 2 ^ (n + 1) = if x.testBit n then x % 2 ^ n ^^^ 2 ^ n else x % 2 ^ n := by
  apply Nat.eq_of_testBit_eq
  intro i
  by_cases hb : x.testBit n = true
  · rw [if_pos hb, Nat.testBit_xor, Nat.testBit_mod_two_pow, Nat.testBit_mod_two_pow, Nat.testBit_two_pow]
    by_cases hi : i = n
    · subst hi; simp [hb]
    · have e1 : decide (i < n + 1) = decide (i < n) := by simp; omega
      have e2 : decide (n = i) = false := by simp; omega
      rw [e1, e2, Bool.xor_false]
  · rw [if_neg hb, Nat.testBit_mod_two_pow, Nat.testBit_mod_two_pow]
    by_cases hi : i = n
    · subst hi
      have : x.testBit i = false := by simpa using hb
      rw [this, Bool.and_false, Bool.and_false]
    · have e1 : decide (i < n + 1) = decide (i < n) := by simp; omega
      rw [e1]
theorem pkn_div {c : Nat → Nat} {x : Nat} (hV : ∀ b, b < 12 → c (17 + b) < 256) : ∀ n, n ≤ 12 → pkn c x n / 256 = x % 2 ^ n
  | 0, _ => by show 0 / 256 = x % 1; rw [Nat.mod_one]
  | n + 1, hn => by
    show (if _ then _ else _) / 256 = _
    rw [mod_s]
    split
    · rw [x_div, pw_div (hV n (by omega)), pkn_div hV n (by omega)]
    · exact pkn_div hV n (by omega)
theorem pkn_mod {c : Nat → Nat} {x : Nat} (hV : ∀ b, b < 12 → c (17 + b) < 256) : ∀ n, n ≤ 12 → pkn c x n % 256 = vln (fun b => c (17 + b)) x n
  | 0, _ => rfl
  | n + 1, hn => by
    show (if _ then _ else _) % 256 = (if _ then _ else _)
    split
    · rw [x_mod, pw_mod (hV n (by omega)), pkn_mod hV n (by omega)]
    · exact pkn_mod hV n (by omega)
theorem upl_upl (ls : Nat → List Nat) (r : Nat) (l l2 : List Nat) : upl (upl ls r l) r l2 = upl ls r l2 := by
  funext j
  unfold upl
  split <;> rfl
theorem upl_id (ls : Nat → List Nat) (r : Nat) : upl ls r (ls r) = ls := by
  funext j
  unfold upl
  split
  · rename_i h; rw [h]
  · rfl
theorem fB.f {v v1 : zV} {m b : Nat} (h : fB v v1 m) (h1 : b ≠ m) (h2 : b ≠ m + 1) (h3 : b ≠ m + 4) (h4 : b ≠ m + 5) : v1 b = v b := h.1 b h1 h2 h3 h4
