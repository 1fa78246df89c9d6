/-! the whole state: what is now, and what is kept -/
abbrev zHs : Type := Nat × (Nat → zMS) × (Nat → zMS) × (Nat → Bool)
abbrev zSt : Type := zMS × zHs
def flN (f : Nat → Bool) : Nat := (if f 0 then 1 else 0) + (if f 1 then 2 else 0)
def remH (M : zMS) (h : zHs) : zHs := if h.1 = 8 then (8, (fun i => if i < 7 then h.2.1 (i + 1) else M), h.2.2) else (h.1 + 1, (fun i => if i = h.1 then M else h.2.1 i), h.2.2)
def layM (M : zMS) (K R : Nat) : zMS := (layc M.1 K R, (fun _ => []), (fun _ => none), (fun _ => none))
def zrow (f : Nat → Int32) (i : Nat) : Nat → Int32 := fun j => f (165 * i + j)
def zmh (v : zV) (m : Nat) (h : zHs) : Prop := v m 2 = nI h.1 ∧ h.1 ≤ 8 ∧ (∀ i, i < h.1 → zwf (zrow (v (m + 2)) i) (h.2.1 i)) ∧ v m 4 = nI (flN h.2.2.2) ∧ ∀ i, i < 2 → h.2.2.2 i = true → zwf (zrow (v (m + 3)) i) (h.2.2.1 i)
theorem zmh.kept {v v1 : zV} {m : Nat} {h : zHs} (k : zmh v m h) (e2 : v1 m 2 = v m 2) (e4 : v1 m 4 = v m 4) (f2 : v1 (m + 2) = v (m + 2)) (f3 : v1 (m + 3) = v (m + 3)) : zmh v1 m h := ⟨by rw [e2]; exact k.1, k.2.1, by rw [f2]; exact k.2.2.1, by rw [e4]; exact k.2.2.2.1, by rw [f3]; exact k.2.2.2.2⟩
theorem zmh_T {v v1 : zV} {m : Nat} {h : zHs} (k : zmh v m h) (f : fT v v1 m) : zmh v1 m h := k.kept f.2.1 f.2.2 (f.1 _ (by omega) (by omega) (by omega) (by omega) (by omega) (by omega)) (f.1 _ (by omega) (by omega) (by omega) (by omega) (by omega) (by omega))
theorem fT.fr {v v1 : zV} {m : Nat} (f : fT v v1 m) : zfr v v1 m 9 := fun b hb => f.1 b (by omega) (by omega) (by omega) (by omega) (by omega) (by omega)
theorem zwf_same {f g : Nat → Int32} {M : zMS} (h : zwf f M) (k : ∀ j, j < 165 → g j = f j) : zwf g M := by
  obtain ⟨h1, h2, h3, h4, h5⟩ := h
  exact ⟨fun j hj => by rw [k j (by omega)]; exact h1 j hj, fun r hr => (h2 r hr).kept (fun j g1 g2 => k j (by have := lb_top r hr; omega)), fun b hb => by rw [k _ (by omega)]; exact h3 b hb, fun b hb => by rw [k _ (by omega)]; exact h4 b hb, fun b hb => by rw [k _ (by omega)]; exact h5 b hb⟩
theorem zwf_lay {f : Nat → Int32} {c : Nat → Nat} (h1 : ∀ i, i < 34 → f i = nI (c i)) (h2 : ∀ i, 34 ≤ i → i < 165 → f i = if 86 ≤ i ∧ i < 122 then -9 else 0) : zwf f (c, (fun _ => []), (fun _ => none), (fun _ => none)) := by
  refine ⟨h1, fun r hr => ?_, fun b hb => ?_, fun b hb => ?_, fun b hb => ?_⟩
  · have ht := lb_top r hr
    refine ⟨?_, Nat.zero_le _, fun k hk => absurd hk (Nat.not_lt_zero k)⟩
    rw [h2 _ (by omega) (by omega), if_neg (by omega)]
    rfl
  · rw [h2 _ (by omega) (by omega), if_pos (by omega)]; rfl
  · rw [h2 _ (by omega) (by omega), if_pos (by omega)]; rfl
  · rw [h2 _ (by omega) (by omega), if_pos (by omega)]; rfl
theorem layc_lo {c : Nat → Nat} {K R i : Nat} (h : i < 17) : layc c K R i = if i = 0 then K else if i = 1 then R else if i = 2 then 0 else if 7 ≤ i ∧ i < 11 then (if i - 7 ≤ c 1 ∧ i - 7 ≤ R then c i else 0) else c i := by
  unfold layc
  rw [if_neg (show ¬ (17 ≤ i ∧ i < 29) by omega), if_neg (show ¬ 29 ≤ i by omega)]
theorem layc_hi {c : Nat → Nat} {K R i : Nat} (h : 29 ≤ i) : layc c K R i = 0 := by
  unfold layc
  rw [if_neg (by omega), if_neg (by omega), if_neg (by omega), if_neg (by omega), if_neg (by omega), if_pos h]
def oUndo (S : zSt) : Int32 × zSt := if S.2.1 = 0 then (-2, S) else (nI (S.2.1 - 1), (S.2.2.1 (S.2.1 - 1), (S.2.1 - 1, S.2.2)))
