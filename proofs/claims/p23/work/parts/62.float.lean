/-! overhead: at least 1 when the rank isn't 0 -/
def ovc (a k : Nat) : Int32 := Op.cmpValue (FP.fcmp (FP.fdiv (FP.i2f (nI a)) (FP.i2f (nI k))) FP.fconst1) .l
theorem ovc_0 : ∀ j, j < 91 → ∀ k, k < 13 → (k = 0 ∨ 0 + j < k ∨ ¬ ovc (0 + j) k < 0) := by decide +kernel
theorem ovc_1 : ∀ j, j < 91 → ∀ k, k < 13 → (k = 0 ∨ 91 + j < k ∨ ¬ ovc (91 + j) k < 0) := by decide +kernel
theorem ovc_2 : ∀ j, j < 91 → ∀ k, k < 13 → (k = 0 ∨ 182 + j < k ∨ ¬ ovc (182 + j) k < 0) := by decide +kernel
theorem ovc_3 : ∀ j, j < 91 → ∀ k, k < 13 → (k = 0 ∨ 273 + j < k ∨ ¬ ovc (273 + j) k < 0) := by decide +kernel
theorem ovc_4 : ∀ j, j < 91 → ∀ k, k < 13 → (k = 0 ∨ 364 + j < k ∨ ¬ ovc (364 + j) k < 0) := by decide +kernel
theorem ovc_5 : ∀ j, j < 91 → ∀ k, k < 13 → (k = 0 ∨ 455 + j < k ∨ ¬ ovc (455 + j) k < 0) := by decide +kernel
theorem ovc_6 : ∀ j, j < 91 → ∀ k, k < 13 → (k = 0 ∨ 546 + j < k ∨ ¬ ovc (546 + j) k < 0) := by decide +kernel
theorem ovc_7 : ∀ j, j < 91 → ∀ k, k < 13 → (k = 0 ∨ 637 + j < k ∨ ¬ ovc (637 + j) k < 0) := by decide +kernel
theorem ov_ge {a k : Nat} (ha : a ≤ 720) (hk : 0 < k) (hk2 : k ≤ 12) (h : k ≤ a) : ¬ ovc a k < 0 := by
  rcases (show a < 91 ∨ (91 ≤ a ∧ a < 182) ∨ (182 ≤ a ∧ a < 273) ∨ (273 ≤ a ∧ a < 364) ∨ (364 ≤ a ∧ a < 455) ∨ (455 ≤ a ∧ a < 546) ∨ (546 ≤ a ∧ a < 637) ∨ (637 ≤ a ∧ a < 728) by omega) with g | g | g | g | g | g | g | g
  · have e := ovc_0 (a - 0) (by omega) k (by omega)
    rw [show 0 + (a - 0) = a by omega] at e
    rcases e with e | e | e
    · omega
    · omega
    · exact e
  · have e := ovc_1 (a - 91) (by omega) k (by omega)
    rw [show 91 + (a - 91) = a by omega] at e
    rcases e with e | e | e
    · omega
    · omega
    · exact e
  · have e := ovc_2 (a - 182) (by omega) k (by omega)
    rw [show 182 + (a - 182) = a by omega] at e
    rcases e with e | e | e
    · omega
    · omega
    · exact e
  · have e := ovc_3 (a - 273) (by omega) k (by omega)
    rw [show 273 + (a - 273) = a by omega] at e
    rcases e with e | e | e
    · omega
    · omega
    · exact e
  · have e := ovc_4 (a - 364) (by omega) k (by omega)
    rw [show 364 + (a - 364) = a by omega] at e
    rcases e with e | e | e
    · omega
    · omega
    · exact e
  · have e := ovc_5 (a - 455) (by omega) k (by omega)
    rw [show 455 + (a - 455) = a by omega] at e
    rcases e with e | e | e
    · omega
    · omega
    · exact e
  · have e := ovc_6 (a - 546) (by omega) k (by omega)
    rw [show 546 + (a - 546) = a by omega] at e
    rcases e with e | e | e
    · omega
    · omega
    · exact e
  · have e := ovc_7 (a - 637) (by omega) k (by omega)
    rw [show 637 + (a - 637) = a by omega] at e
    rcases e with e | e | e
    · omega
    · omega
    · exact e
theorem ov_z : Op.cmpValue (FP.fcmp FP.fconst0 FP.fconst0) .l = nI 0 := by decide +kernel
