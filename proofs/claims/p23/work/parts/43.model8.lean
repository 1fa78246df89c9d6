theorem tkI_9 {how most : Nat} {M : zMS} (h : most < 2 ^ 29) : tkI how most M = -9 ↔ dn how (tks how most 0 M).2 = false := by
  unfold tkI
  have hl := tks_le (how := how) most 0 M
  cases hd : dn how (tks how most 0 M).2 with
  | false => exact ⟨fun _ => rfl, fun _ => rfl⟩
  | true => exact ⟨fun e => absurd e (by rw [if_pos rfl]; exact n9 (by omega)), fun e => by cases e⟩
theorem tks_s {how k n : Nat} {M : zMS} (h : dn how M = false) : tks how (k + 1) n M = tks how k (n + 1) (mTick M) := by
  show (if _ then _ else _) = _
  rw [h]; rfl
theorem tks_d {how k n : Nat} {M : zMS} (h : dn how M = true) : tks how k n M = (n, M) := by
  cases k with
  | zero => rfl
  | succ k => exact if_pos h
theorem zwf_hold {v w : zV} {m : Nat} {M : zMS} (h : zwf (v (m + 1)) M) (e : ∀ j, j < 165 → w (m + 1) j = v (m + 1) j) : zwf (w (m + 1)) M := zwf_same h e
theorem fT_8 {v v1 : zV} {m : Nat} (f : fT v v1 m) : v1 (m + 8) = v (m + 8) := f.1 _ (by omega) (by omega) (by omega) (by omega) (by omega) (by omega)
theorem flN_or (f : Nat → Bool) : ∀ i, i < 2 → flN f ||| 2 ^ i = flN (fun j => if j = i then true else f j) := by
  intro i hi
  rcases (show i = 0 ∨ i = 1 by omega) with rfl | rfl
  · show ((if f 0 = true then 1 else 0) + (if f 1 = true then 2 else 0)) ||| 2 ^ 0 = (if true = true then 1 else 0) + (if f 1 = true then 2 else 0)
    cases f 0 <;> cases f 1 <;> rfl
  · show ((if f 0 = true then 1 else 0) + (if f 1 = true then 2 else 0)) ||| 2 ^ 1 = (if f 0 = true then 1 else 0) + (if true = true then 2 else 0)
    cases f 0 <;> cases f 1 <;> rfl
theorem flN_bit (f : Nat → Bool) : ∀ i, i < 2 → flN f / 2 ^ i % 2 = if f i then 1 else 0 := by
  intro i hi
  rcases (show i = 0 ∨ i = 1 by omega) with rfl | rfl
  · unfold flN
    cases f 0 <;> cases f 1 <;> rfl
  · unfold flN
    cases f 0 <;> cases f 1 <;> rfl
theorem remH_im (M : zMS) (h : zHs) : (remH M h).2.2 = h.2.2 := by
  unfold remH
  split <;> rfl
theorem flN_le (f : Nat → Bool) : flN f ≤ 3 := by
  unfold flN
  cases f 0 <;> cases f 1 <;> decide
theorem bst_lt (M : zMS) : ∀ q, (bst M q).2 ≤ 301
  | 0 => Nat.le_refl _
  | q + 1 => by
    have := bst_lt M q
    unfold bst
    split
    · show (tks 1 300 0 _).1 ≤ 301
      omega
    · exact this
