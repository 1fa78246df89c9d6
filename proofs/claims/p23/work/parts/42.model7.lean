def ixO (M : zMS) (n : Nat) : Nat := if n = M.1 1 + 1 then 3 else n - 1
theorem lsO_ix (M : zMS) (n : Nat) : lsO M n = M.2.1 (ixO M n) := by
  unfold lsO ixO
  split <;> rfl
theorem ixO_lt {M : zMS} {n : Nat} (hR : M.1 1 ≤ 3) (h2 : n ≤ M.1 1 + 1) : ixO M n < 5 := by
  unfold ixO
  split <;> omega
theorem solv_I {M : zMS} (h : zE M) {b : Nat} (hb : b < 12) : (if rdp (fpr (M.2.1 3) (M.2.1 3).length) 12 (2 ^ (8 + b)) / 256 = 0 then nI (rdp (fpr (M.2.1 3) (M.2.1 3).length) 12 (2 ^ (8 + b)) % 256) else -9) = knI (M.2.2.1 b) (M.1 (17 + b)) := by
  have h20 : ∀ q ∈ M.2.1 3, q < 2 ^ 20 := fun q hq => (h.1.2.2.1 3 (by decide) q hq).1
  rw [← (eqv_spr h20 (M.2.1 3).length).2.2.2]
  unfold knI
  rw [h.2.2.2.1 b hb]
  by_cases hd : rdp (spo (M.2.1 3)) 12 (2 ^ (8 + b)) / 256 = 0
  · rw [decide_eq_true hd, if_pos rfl, if_pos (show rdp (spr (M.2.1 3) (M.2.1 3).length) 12 (2 ^ (8 + b)) / 256 = 0 from hd)]
    exact congrArg nI (rd_val (V := zVl M) (spr_con (h.1.2.2.1 3 (by decide)) _) hb hd)
  · rw [decide_eq_false hd, if_neg (show ¬ rdp (spr (M.2.1 3) (M.2.1 3).length) 12 (2 ^ (8 + b)) / 256 = 0 from hd), if_neg (show ¬ (false = true) by decide)]
theorem zl_ls {M : zMS} (h : zE M) {r : Nat} (hr : r < 5) : ∀ q ∈ M.2.1 r, q < 2 ^ 20 := fun q hq => (h.1.2.2.1 r hr q hq).1
theorem neg_n0 {a : Int32} (h : a < 0) : ¬ nI 0 ≤ a := fun z => absurd (Int32.not_le.mpr h) (fun y => y (nI_0 ▸ z))
theorem nneg {a : Int32} (h : ¬ a < 0) : nI 0 ≤ a := nI_0 ▸ Int32.not_lt.mp h
theorem out_of {a : Int32} {hi : Nat} (hh : hi < 2 ^ 31) (h : ¬ (nI 0 ≤ a ∧ a ≤ nI hi)) : a.toInt < 0 ∨ (hi : Int) < a.toInt := by
  by_cases h0 : a.toInt < 0
  · exact Or.inl h0
  · by_cases h1 : (hi : Int) < a.toInt
    · exact Or.inr h1
    · exfalso
      apply h
      refine ⟨Int32.le_iff_toInt_le.mpr ?_, Int32.le_iff_toInt_le.mpr ?_⟩
      · rw [nI_toInt (by decide)]; omega
      · rw [nI_toInt hh]; omega
