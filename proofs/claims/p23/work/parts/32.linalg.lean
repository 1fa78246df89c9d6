/-! two ways to hold what packets span: the class's rows and the check's, fully reduced -/
theorem rd_xor (r : Nat → Nat) : ∀ (n x y : Nat), rdp r n (x ^^^ y) = rdp r n x ^^^ rdp r n y
  | 0, _, _ => rfl
  | n + 1, x, y => by
    show rdp r n (if _ then _ else _) = rdp r n (if _ then _ else _) ^^^ rdp r n (if _ then _ else _)
    rw [← rd_xor r n, Nat.testBit_xor]
    congr 1
    cases x.testBit (8 + n) <;> cases y.testBit (8 + n)
    · rfl
    · show x ^^^ y ^^^ r n = x ^^^ (y ^^^ r n)
      exact Nat.xor_assoc _ _ _
    · show x ^^^ y ^^^ r n = x ^^^ r n ^^^ y
      rw [Nat.xor_assoc, Nat.xor_comm y, ← Nat.xor_assoc]
    · show x ^^^ y = x ^^^ r n ^^^ (y ^^^ r n)
      rw [Nat.xor_comm y, Nat.xor_assoc, xcc]
theorem rd_0 (r : Nat → Nat) : ∀ n, rdp r n 0 = 0
  | 0 => rfl
  | n + 1 => by
    show rdp r n (if _ then _ else _) = 0
    rw [if_neg (by rw [Nat.zero_testBit]; decide)]
    exact rd_0 r n
theorem hi_bit {x n k : Nat} (h : x < 2 ^ n) (hk : n ≤ k) : x.testBit k = false := Nat.testBit_lt_two_pow (Nat.lt_of_lt_of_le h (Nat.pow_le_pow_right (by decide) hk))
theorem rd_low {r : Nat → Nat} {n x : Nat} (h : x < 2 ^ (8 + n)) : ∀ m, n ≤ m → rdp r m x = rdp r n x
  | 0, hm => by rw [show n = 0 by omega]
  | m + 1, hm => by
    rcases Nat.lt_or_ge n (m + 1) with h1 | h1
    · show rdp r m (if _ then _ else _) = _
      rw [if_neg (by rw [hi_bit h (show 8 + n ≤ 8 + m by omega)]; decide)]
      exact rd_low h m (by omega)
    · rw [show m + 1 = n by omega]
theorem rd_8 {r : Nat → Nat} {x : Nat} (h : x < 256) (n : Nat) : rdp r n x = x := rd_low (n := 0) h n (Nat.zero_le _)
def ech (r : Nat → Nat) : Prop := ∀ j, j < 12 → r j ≠ 0 → r j < 2 ^ (9 + j) ∧ (r j).testBit (8 + j) = true
theorem ech_0 : ech (fun _ => 0) := fun _ _ h => absurd rfl h
theorem ech_lt {r : Nat → Nat} (h : ech r) {j : Nat} (hj : j < 12) : r j < 2 ^ (9 + j) := by
  rcases Nat.eq_zero_or_pos (r j) with h0 | h0
  · rw [h0]; exact Nat.two_pow_pos _
  · exact (h j hj (by omega)).1
theorem ech_20 {r : Nat → Nat} (h : ech r) {j : Nat} (hj : j < 12) : r j < 2 ^ 20 := Nat.lt_of_lt_of_le (ech_lt h hj) (Nat.pow_le_pow_right (by decide) (by omega))
theorem rd_hi {r : Nat → Nat} (h : ech r) : ∀ (n x : Nat), n ≤ 12 → ∀ k, n ≤ k → (rdp r n x).testBit (8 + k) = x.testBit (8 + k)
  | 0, _, _, _, _ => rfl
  | n + 1, x, hn, k, hk => by
    show (rdp r n (if _ then _ else _)).testBit _ = _
    rw [rd_hi h n _ (by omega) k (by omega)]
    split
    · rw [Nat.testBit_xor, hi_bit (ech_lt h (show n < 12 by omega)) (show 9 + n ≤ 8 + k by omega), Bool.xor_false]
    · rfl
theorem rd_bnd {r : Nat → Nat} (h : ech r) {m : Nat} : ∀ (n x : Nat), n ≤ 12 → n ≤ m → x < 2 ^ (8 + m) → rdp r n x < 2 ^ (8 + m)
  | 0, _, _, _, hx => hx
  | n + 1, x, hn, hm, hx => by
    show rdp r n (if _ then _ else _) < _
    apply rd_bnd h n _ (by omega) (by omega)
    split
    · exact Nat.xor_lt_two_pow hx (Nat.lt_of_lt_of_le (ech_lt h (show n < 12 by omega)) (Nat.pow_le_pow_right (by decide) (by omega)))
    · exact hx
theorem rd_piv {r : Nat → Nat} (h : ech r) : ∀ (n x : Nat), n ≤ 12 → ∀ j, j < n → r j ≠ 0 → (rdp r n x).testBit (8 + j) = false
  | 0, _, _, _, hj, _ => absurd hj (Nat.not_lt_zero _)
  | n + 1, x, hn, j, hj, h0 => by
    show (rdp r n (if _ then _ else _)).testBit _ = _
    by_cases hjn : j = n
    · subst hjn
      rw [rd_hi h j _ (by omega) j (Nat.le_refl _)]
      split
      · rename_i hb
        rw [Nat.testBit_xor, hb, (h j (by omega) h0).2]; rfl
      · rename_i hb
        simpa using hb
    · exact rd_piv h n _ (by omega) j (by omega) h0
theorem rd_fix {r : Nat → Nat} : ∀ (n x : Nat), (∀ j, j < n → r j ≠ 0 → x.testBit (8 + j) = false) → rdp r n x = x
  | 0, _, _ => rfl
  | n + 1, x, h => by
    show rdp r n (if _ then _ else _) = x
    have e : (if x.testBit (8 + n) = true then x ^^^ r n else x) = x := by
      split
      · rename_i hb
        by_cases h0 : r n = 0
        · rw [h0, Nat.xor_zero]
        · rw [h n (Nat.lt_succ_self n) h0] at hb; cases hb
      · rfl
    rw [e]
    exact rd_fix n x (fun j hj => h j (by omega))
theorem rd_row {r : Nat → Nat} (h : ech r) {j : Nat} (hj : j < 12) : rdp r 12 (r j) = 0 := by
  by_cases h0 : r j = 0
  · rw [h0]; exact rd_0 r 12
  · rw [rd_low (n := j + 1) (by rw [show 8 + (j + 1) = 9 + j by omega]; exact (h j hj h0).1) 12 (by omega)]
    show rdp r j (if _ then _ else _) = 0
    rw [if_pos (h j hj h0).2, Nat.xor_self]
    exact rd_0 r j
theorem rd_thru {r s : Nat → Nat} : ∀ (n x : Nat), (∀ j, j < n → rdp s 12 (r j) = 0) → rdp s 12 (rdp r n x) = rdp s 12 x
  | 0, _, _ => rfl
  | n + 1, x, h => by
    have e : rdp r (n + 1) x = rdp r n (if x.testBit (8 + n) then x ^^^ r n else x) := rfl
    rw [e, rd_thru n _ (fun j hj => h j (by omega))]
    split
    · rw [rd_xor, h n (Nat.lt_succ_self n), Nat.xor_zero]
    · rfl
theorem rd_top {r : Nat → Nat} (h : ech r) {t x : Nat} (ht : t < 12) (h0 : r t = 0) (hx : x < 2 ^ (9 + t)) (hb : x.testBit (8 + t) = true) : (rdp r 12 x).testBit (8 + t) = true ∧ rdp r 12 x < 2 ^ (9 + t) := by
  have e : rdp r 12 x = rdp r (t + 1) x := rd_low (n := t + 1) (by rw [show 8 + (t + 1) = 9 + t by omega]; exact hx) 12 (by omega)
  refine ⟨?_, by rw [e, show 9 + t = 8 + (t + 1) by omega]; exact rd_bnd h (t + 1) x (by omega) (Nat.le_refl _) (by rw [show 8 + (t + 1) = 9 + t by omega]; exact hx)⟩
  rw [e]
  show (rdp r t (if _ then _ else _)).testBit _ = true
  rw [if_pos hb, h0, Nat.xor_zero, rd_hi h t x (by omega) t (Nat.le_refl _)]
  exact hb
theorem ech_ups {r : Nat → Nat} (h : ech r) {t x : Nat} (hx : x < 2 ^ (9 + t)) (hb : x.testBit (8 + t) = true) : ech (ups r t x) := by
  intro j hj h0
  unfold ups at h0 ⊢
  by_cases hjt : j = t
  · subst hjt; rw [if_pos rfl]; exact ⟨hx, hb⟩
  · rw [if_neg hjt] at h0 ⊢; exact h j hj h0
theorem ups_s (r : Nat → Nat) (t x : Nat) : ups r t x t = x := if_pos rfl
theorem ups_n {r : Nat → Nat} {t x j : Nat} (h : j ≠ t) : ups r t x j = r j := if_neg h
theorem rd_ups {r : Nat → Nat} (h : ech r) {t x : Nat} (ht : t < 12) (h0 : r t = 0) (hx : x < 2 ^ (9 + t)) (hb : x.testBit (8 + t) = true) (y : Nat) : rdp (ups r t x) 12 y = if (rdp r 12 y).testBit (8 + t) then rdp r 12 y ^^^ rdp r 12 x else rdp r 12 y := by
  have hs := ech_ups h hx hb
  have hr : ∀ j, j < 12 → rdp (ups r t x) 12 (r j) = 0 := fun j hj => by
    by_cases hjt : j = t
    · subst hjt; rw [h0]; exact rd_0 _ 12
    · have e := rd_row hs hj
      rw [ups_n hjt] at e
      exact e
  have h6 := fun z => rd_thru (s := ups r t x) 12 z hr
  have hx0 : rdp (ups r t x) 12 x = 0 := by
    have e := rd_row hs ht
    rw [ups_s] at e
    exact e
  have hxb := (rd_top h ht h0 hx hb).1
  rw [← h6 y]
  split
  · rename_i hy
    have e : rdp (ups r t x) 12 (rdp r 12 y ^^^ rdp r 12 x) = rdp (ups r t x) 12 (rdp r 12 y) := by rw [rd_xor, h6 x, hx0, Nat.xor_zero]
    rw [← e]
    apply rd_fix
    intro j hj hj0
    by_cases hjt : j = t
    · subst hjt; rw [Nat.testBit_xor, hy, hxb]; rfl
    · rw [ups_n hjt] at hj0
      rw [Nat.testBit_xor, rd_piv h 12 _ (Nat.le_refl _) j hj hj0, rd_piv h 12 _ (Nat.le_refl _) j hj hj0]; rfl
  · rename_i hy
    apply rd_fix
    intro j hj hj0
    by_cases hjt : j = t
    · subst hjt; simpa using hy
    · rw [ups_n hjt] at hj0
      exact rd_piv h 12 _ (Nat.le_refl _) j hj hj0
theorem tk_some {r : Nat → Nat} (h : ech r) : ∀ (n x : Nat), n ≤ 12 → x < 2 ^ (8 + n) → ∀ z, tkp r n x = some z → z.2 < 2 ^ (9 + z.1) ∧ rdp r 12 z.2 = rdp r 12 x
  | 0, _, _, _, z, hz => by cases hz
  | n + 1, x, hn, hx, z, hz => by
    have h2 : (if x.testBit (8 + n) then (if r n = 0 then some (n, x) else tkp r n (x ^^^ r n)) else tkp r n x) = some z := hz
    have hx2 : x < 2 ^ (8 + n + 1) := hx
    split at h2
    · rename_i hb
      split at h2
      · cases h2
        exact ⟨by rw [show 9 + n = 8 + n + 1 by omega]; exact hx2, rfl⟩
      · rename_i h0
        have hl : x ^^^ r n < 2 ^ (8 + n) := by
          apply lt_of_bit
          · exact Nat.xor_lt_two_pow hx2 (by rw [show 8 + n + 1 = 9 + n by omega]; exact ech_lt h (by omega))
          · rw [Nat.testBit_xor, hb, (h n (by omega) h0).2]; rfl
        have := tk_some h n _ (by omega) hl z h2
        rw [rd_xor, rd_row h (show n < 12 by omega), Nat.xor_zero] at this
        exact this
    · rename_i hb
      exact tk_some h n x (by omega) (lt_of_bit hx2 (by simpa using hb)) z h2
theorem tk_none {r : Nat → Nat} (h : ech r) : ∀ (n x : Nat), n ≤ 12 → x < 2 ^ (8 + n) → tkp r n x = none → rdp r n x < 256
  | 0, _, _, hx, _ => hx
  | n + 1, x, hn, hx, hz => by
    have h2 : (if x.testBit (8 + n) then (if r n = 0 then some (n, x) else tkp r n (x ^^^ r n)) else tkp r n x) = none := hz
    have hx2 : x < 2 ^ (8 + n + 1) := hx
    show rdp r n (if _ then _ else _) < 256
    split at h2
    · rename_i hb
      rw [if_pos hb]
      split at h2
      · cases h2
      · rename_i h0
        refine tk_none h n _ (by omega) (lt_of_bit ?_ ?_) h2
        · exact Nat.xor_lt_two_pow hx2 (by rw [show 8 + n + 1 = 9 + n by omega]; exact ech_lt h (by omega))
        · rw [Nat.testBit_xor, hb, (h n (by omega) h0).2]; rfl
    · rename_i hb
      rw [if_neg hb]
      exact tk_none h n x (by omega) (lt_of_bit hx2 (by simpa using hb)) h2
theorem dv_bit {x t : Nat} (h : x.testBit (8 + t) = true) : x / 256 ≠ 0 := by
  have := Nat.ge_two_pow_of_testBit h
  have h1 : 2 ^ 8 ≤ 2 ^ (8 + t) := Nat.pow_le_pow_right (by decide) (by omega)
  omega
theorem dv_tb (x t : Nat) : (x / 256).testBit t = x.testBit (8 + t) := by
  rw [show (256 : Nat) = 2 ^ 8 by decide, Nat.testBit_div_two_pow, Nat.add_comm]
theorem dv_lt {x t : Nat} (h : x < 2 ^ (9 + t)) : x / 256 < 2 ^ (t + 1) := by
  rw [Nat.div_lt_iff_lt_mul (by decide), show (256 : Nat) = 2 ^ 8 by decide, ← Nat.pow_add]
  rw [show t + 1 + 8 = 9 + t by omega]
  exact h
def eqv (r s : Nat → Nat) : Prop := ech r ∧ ech s ∧ (∀ j, j < 12 → (r j = 0 ↔ s j = 0)) ∧ ∀ y, rdp r 12 y = rdp s 12 y
def fpt (s : Nat → Nat) (p : Nat) : Nat → Nat := if rdp s 12 p / 256 = 0 then s else ups s (Nat.log2 (rdp s 12 p / 256)) (rdp s 12 p)
def fpr (l : List Nat) : Nat → Nat → Nat
  | 0 => fun _ => 0
  | n + 1 => fpt (fpr l n) (l.getD n 0)
theorem eqv_step {r s : Nat → Nat} (h : eqv r s) {p : Nat} (hp : p < 2 ^ 20) : eqv (tkr r p) (fpt s p) ∧ tkb r p = decide (rdp s 12 p / 256 ≠ 0) := by
  obtain ⟨h1, h2, h3, h4⟩ := h
  cases hz : tkp r 12 p with
  | none =>
    have hl := tk_none h1 12 p (Nat.le_refl _) hp hz
    rw [h4] at hl
    have e0 : rdp s 12 p / 256 = 0 := by omega
    refine ⟨?_, ?_⟩
    · have e : tkr r p = r := by simp only [tkr, hz]
      rw [e, fpt, if_pos e0]
      exact ⟨h1, h2, h3, h4⟩
    · rw [tkb, hz, e0]; rfl
  | some z =>
    obtain ⟨a1, a2, a3⟩ := tkp_ok 12 p z hz
    obtain ⟨b1, b2⟩ := tk_some h1 12 p (Nat.le_refl _) hp z hz
    obtain ⟨c1, c2⟩ := rd_top h1 a1 a2 b1 a3
    rw [b2, h4] at c1 c2
    have e0 := dv_bit c1
    have hlg : Nat.log2 (rdp s 12 p / 256) = z.1 := log2_of (dv_lt c2) (by rw [dv_tb]; exact c1)
    refine ⟨?_, by rw [tkb, hz, decide_eq_true e0]; rfl⟩
    have e : tkr r p = ups r z.1 z.2 := by simp only [tkr, hz]
    rw [e, fpt, if_neg e0, hlg]
    have hx0 : z.2 ≠ 0 := fun h0 => by rw [h0, Nat.zero_testBit] at a3; cases a3
    have hy0 : rdp s 12 p ≠ 0 := fun h0 => by rw [h0, Nat.zero_testBit] at c1; cases c1
    refine ⟨ech_ups h1 b1 a3, ech_ups h2 c2 c1, fun j hj => ?_, fun y => ?_⟩
    · by_cases hjz : j = z.1
      · subst hjz; rw [ups_s, ups_s]; exact ⟨fun h => absurd h hx0, fun h => absurd h hy0⟩
      · rw [ups_n hjz, ups_n hjz]; exact h3 j hj
    · rw [rd_ups h1 a1 a2 b1 a3, rd_ups h2 a1 ((h3 _ a1).mp a2) c2 c1, h4 y, b2, h4 p]
      have e2 : rdp s 12 (rdp s 12 p) = rdp s 12 p := rd_thru 12 p (fun j hj => rd_row h2 hj)
      rw [e2]
theorem eqv_spr {l : List Nat} (h : ∀ q ∈ l, q < 2 ^ 20) : ∀ n, eqv (spr l n) (fpr l n)
  | 0 => ⟨ech_0, ech_0, fun _ _ => Iff.rfl, fun _ => rfl⟩
  | n + 1 => (eqv_step (eqv_spr h n) (gd_lt20 h)).1
theorem tkb_fpr {l : List Nat} (h : ∀ q ∈ l, q < 2 ^ 20) (n : Nat) {p : Nat} (hp : p < 2 ^ 20) : tkb (spr l n) p = decide (rdp (fpr l n) 12 p / 256 ≠ 0) := (eqv_step (eqv_spr h n) hp).2
theorem nov_tkb {l : List Nat} (h : ∀ q ∈ l, q < 2 ^ 20) {p : Nat} (hp : p < 2 ^ 20) : nov l p = tkb (spo l) p := by
  rw [spo, tkb_fpr h _ hp, nov, spo, (eqv_spr h l.length).2.2.2 p]
theorem pk_split (p : Nat) : p / 256 * 256 ^^^ p % 256 = p := by
  apply Nat.eq_of_testBit_eq
  intro i
  rw [Nat.testBit_xor, show (256 : Nat) = 2 ^ 8 by decide, Nat.testBit_mul_two_pow, Nat.testBit_mod_two_pow, Nat.testBit_div_two_pow]
  rcases Nat.lt_or_ge i 8 with h | h
  · simp [h, show ¬ 8 ≤ i by omega]
  · simp [h, show ¬ i < 8 by omega, show i - 8 + 8 = i by omega]
theorem rd_div (r : Nat → Nat) (p : Nat) : rdp r 12 (p / 256 * 256) / 256 = rdp r 12 p / 256 := by
  have h := rd_xor r 12 (p / 256 * 256) (p % 256)
  rw [pk_split, rd_8 (Nat.mod_lt _ (by decide)) 12] at h
  rw [h, x_div, Nat.div_eq_of_lt (Nat.mod_lt p (show 0 < 256 by decide)), Nat.xor_zero]
