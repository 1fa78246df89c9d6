/-! what else every state keeps to -/
def zE (M : zMS) : Prop := mOK M ∧ (∀ r, r < 5 → ∀ q ∈ M.2.1 r, q < 2 ^ (8 + M.1 0)) ∧ (∀ b, M.1 0 ≤ b → M.2.2.2 b = none) ∧ (∀ b, b < 12 → (M.2.2.1 b).isSome = decide (rdp (spo (M.2.1 3)) 12 (2 ^ (8 + b)) / 256 = 0)) ∧ zW (zVl M) M.2.2.2 (M.2.1 4) ∧ (M.2.1 4).length ≤ M.1 33 ∧ (∀ r, r < 3 → M.1 1 ≤ r → M.2.1 r = []) ∧ (M.1 2 = 0 → M.1 31 = 0 → (∀ r, r < 5 → M.2.1 r = []) ∧ (∀ b, M.2.2.1 b = none) ∧ ∀ b, M.2.2.2 b = none)
def zT (T : Nat) (M : zMS) : Prop := M.1 2 ≤ T ∧ M.1 31 ≤ T ∧ (∀ b t, M.2.2.1 b = some t → t ≤ T) ∧ ∀ b t, M.2.2.2 b = some t → t ≤ T
def mAcc0 (M : zMS) (p : Nat) : zMS := (upc (upc M.1 31 (M.1 31 + 1)) 32 (if tkb (spo (M.2.1 3)) p then M.1 32 else M.1 32 + 1), upl (upl M.2.1 3 (if tkb (spo (M.2.1 3)) p then M.2.1 3 ++ [p] else M.2.1 3)) 4 (plM (zVl M) (M.1 2) p M.2.2.2 (M.2.1 4)).2, (if tkb (spo (M.2.1 3)) p then slv (tkr (spo (M.2.1 3)) p) M.2.2.1 (M.1 2) 12 else M.2.2.1), (plM (zVl M) (M.1 2) p M.2.2.2 (M.2.1 4)).1)
def mNote (M : zMS) : zMS := (upc M.1 33 (max (M.1 33) (M.2.1 4).length), M.2)
theorem mAcc_note (M : zMS) (p : Nat) : mNote (mAcc0 M p) = mAcc M p := by
  dsimp only [mNote, mAcc0, mAcc]
  rw [upc_n (show (33 : Nat) ≠ 32 by decide), upc_n (show (33 : Nat) ≠ 31 by decide), upl_s]
theorem upc_nop {c : Nat → Nat} {i j x : Nat} (h : j ≠ i) : upc (upc c i x) j (c j) = upc c i x := by
  have e := upc_id (upc c i x) j
  rw [upc_n h] at e
  exact e
theorem upl_comm (ls : Nat → List Nat) {i j : Nat} {x y : List Nat} (h : i ≠ j) : upl (upl ls i x) j y = upl (upl ls j y) i x := by
  funext k
  unfold upl
  by_cases h1 : k = j
  · subst h1; rw [if_pos rfl, if_neg (fun z => h z.symm), if_pos rfl]
  · rw [if_neg h1, if_neg h1]
theorem slv_at {r : Nat → Nat} {so : Nat → Option Nat} {t : Nat} : ∀ n b, n ≤ b → slv r so t n b = so b
  | 0, _, _ => rfl
  | n + 1, b, h => by
    show (if _ then lrn (slv r so t n) n t else slv r so t n) b = so b
    have ih := slv_at (r := r) (so := so) (t := t) n b (by omega)
    split
    · unfold lrn
      split
      · exact ih
      · show (if b = n then some t else slv r so t n b) = so b
        rw [if_neg (by omega)]; exact ih
    · exact ih
theorem slv_some {r : Nat → Nat} {so : Nat → Option Nat} {t : Nat} : ∀ n b, (slv r so t n b).isSome = ((so b).isSome || (decide (b < n) && decide (rdp r 12 (2 ^ (8 + b)) / 256 = 0)))
  | 0, b => by
    show (so b).isSome = _
    simp
  | n + 1, b => by
    have ih := slv_some (r := r) (so := so) (t := t) n b
    show ((if _ then lrn (slv r so t n) n t else slv r so t n) b).isSome = _
    by_cases hbn : b = n
    · subst hbn
      rw [slv_at b b (Nat.le_refl b)] at ih
      by_cases h0 : rdp r 12 (2 ^ (8 + b)) / 256 = 0
      · rw [if_pos h0]
        unfold lrn
        rw [slv_at b b (Nat.le_refl b)]
        cases hs : (so b).isSome with
        | true => rw [if_pos rfl, slv_at b b (Nat.le_refl b), hs]; rfl
        | false =>
          rw [if_neg (by decide)]
          simp [upo, h0]
      · rw [if_neg h0, slv_at b b (Nat.le_refl b), decide_eq_false h0, Bool.and_false, Bool.or_false]
    · have e1 : decide (b < n + 1) = decide (b < n) := by simp; omega
      rw [e1, ← ih]
      split
      · unfold lrn
        split
        · rfl
        · simp [upo, hbn]
      · rfl
theorem slv_tm {r : Nat → Nat} {so : Nat → Option Nat} {t T : Nat} (h : ∀ b u, so b = some u → u ≤ T) (ht : t ≤ T) : ∀ n b u, slv r so t n b = some u → u ≤ T
  | 0, b, u, hu => h b u hu
  | n + 1, b, u, hu => by
    have hu2 : (if rdp r 12 (2 ^ (8 + n)) / 256 = 0 then lrn (slv r so t n) n t else slv r so t n) b = some u := hu
    split at hu2
    · unfold lrn at hu2
      split at hu2
      · exact slv_tm h ht n b u hu2
      · unfold upo at hu2
        split at hu2
        · cases hu2; exact ht
        · exact slv_tm h ht n b u hu2
    · exact slv_tm h ht n b u hu2
theorem slv_hi {r : Nat → Nat} {so : Nat → Option Nat} {t K : Nat} (h : ∀ b, K ≤ b → b < 12 → rdp r 12 (2 ^ (8 + b)) / 256 ≠ 0) : ∀ n, K ≤ n → n ≤ 12 → slv r so t n = slv r so t K
  | 0, h1, _ => by rw [show K = 0 by omega]
  | n + 1, h1, h2 => by
    rcases Nat.lt_or_ge K (n + 1) with h3 | h3
    · show (if _ then lrn (slv r so t n) n t else slv r so t n) = _
      rw [if_neg (h n (by omega) (by omega))]
      exact slv_hi h n (by omega) (by omega)
    · rw [show n + 1 = K by omega]
theorem span_hi {l : List Nat} {K : Nat} (hK : K ≤ 12) (h : ∀ q ∈ l, q < 2 ^ (8 + K)) {b : Nat} (hb : K ≤ b) (hb2 : b < 12) : rdp (spo l) 12 (2 ^ (8 + b)) / 256 ≠ 0 := by
  have h20 : ∀ q ∈ l, q < 2 ^ 20 := fun q hq => Nat.lt_of_lt_of_le (h q hq) (Nat.pow_le_pow_right (by decide) (by omega))
  have he := (eqv_spr h20 l.length).1
  have hr : ∀ j, j < 12 → spo l j < 2 ^ (8 + K) := cl_spr (P := fun x => x < 2 ^ (8 + K)) (Nat.two_pow_pos _) (fun _ _ => Nat.xor_lt_two_pow) h l.length
  have h0 : spo l b = 0 := by
    by_cases h1 : spo l b = 0
    · exact h1
    · have h2 := Nat.ge_two_pow_of_testBit (he b hb2 h1).2
      have h3 := hr b hb2
      have h4 : 2 ^ (8 + K) ≤ 2 ^ (8 + b) := Nat.pow_le_pow_right (by decide) (by omega)
      have h5 : 2 ^ (8 + b) ≤ spo l b := h2
      omega
  exact dv_bit (rd_top he hb2 h0 (Nat.pow_lt_pow_right (by decide) (by omega)) (Nat.testBit_two_pow_self)).1
/-- a block is found by elimination -/
theorem zwf_s {f g : Nat → Int32} {M : zMS} {b t : Nat} (h : zwf f M) (hb : b < 12) (e1 : g (110 + b) = nI t) (k : ∀ j, j ≠ 110 + b → g j = f j) : zwf g (M.1, M.2.1, upo M.2.2.1 b t, M.2.2.2) := by
  obtain ⟨h1, h2, h3, h4, h5⟩ := h
  refine ⟨fun j hj => by rw [k j (by omega)]; exact h1 j hj, fun r hr => (h2 r hr).kept (fun j g1 g2 => k j (by have := lb_top r hr; omega)), fun c hc => by rw [k _ (by omega)]; exact h3 c hc, fun c hc => by rw [k _ (by omega)]; exact h4 c hc, fun c hc => ?_⟩
  show g (110 + c) = tmI (upo M.2.2.1 b t c)
  by_cases hcb : c = b
  · subst hcb; rw [e1]; simp [upo, tmI]
  · rw [k _ (by omega)]
    have e : upo M.2.2.1 b t c = M.2.2.1 c := by simp [upo, hcb]
    rw [e]; exact h5 c hc
theorem tmI_9 {o : Option Nat} (h : ∀ t, o = some t → t < 2 ^ 30) : tmI o = -9 ↔ o = none := by
  cases o with
  | none => exact ⟨fun _ => rfl, fun _ => rfl⟩
  | some t => exact ⟨fun e => absurd e (n9 (h t rfl)), fun e => by cases e⟩
theorem tofn_of {V W : Nat → Nat} {kt : Nat → Option Nat} {x : Nat} (e : ∀ b, b < 12 → V b = W b) : ∀ n, n ≤ 12 → tofn V kt x n = tofn W kt x n
  | 0, _ => rfl
  | n + 1, h => by
    rw [tof_s, tof_s, tofn_of e n (by omega)]
    unfold sgl
    rw [e n (by omega)]
theorem plM_of {V W : Nat → Nat} {t x : Nat} {kt : Nat → Option Nat} {wt : List Nat} (e : ∀ b, b < 12 → V b = W b) : plM V t x kt wt = plM W t x kt wt := by
  unfold plM
  rw [tofn_of e 12 (Nat.le_refl 12)]
theorem zW_of {V W : Nat → Nat} {kt : Nat → Option Nat} {wt : List Nat} (e : ∀ b, b < 12 → V b = W b) (h : zW V kt wt) : zW W kt wt := ⟨fun q hq => con_of e (h.1 q hq), h.2⟩
theorem vl_c {M : zMS} {i x : Nat} (h : i < 17 ∨ 29 ≤ i) : ∀ b, b < 12 → zVl (upc M.1 i x, M.2) b = zVl M b := fun b hb => by
  show upc M.1 i x (17 + b) = M.1 (17 + b)
  rw [upc_n (by omega)]
