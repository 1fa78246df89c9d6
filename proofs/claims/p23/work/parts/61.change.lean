/-! the law's own changes, and what they keep -/
theorem and_nn (v : Int32) : nI 0 ≤ v &&& nI 2147483647 := by
  rw [Int32.le_iff_toInt_le, nI_toInt (by decide)]
  have h : (v &&& nI 2147483647).toBitVec.msb = false := by
    rw [Int32.toBitVec_and, BitVec.msb_and]
    have h2 : (nI 2147483647).toBitVec.msb = false := by decide +kernel
    rw [h2, Bool.and_false]
  have h3 := BitVec.toInt_eq_toNat_of_msb h
  show (0 : Int) ≤ (v &&& nI 2147483647).toBitVec.toInt
  rw [h3]
  exact Int.natCast_nonneg _
def lwN (v : Int32) : Nat := nn (v &&& nI 2147483647)
theorem lwN_I (v : Int32) : v &&& nI 2147483647 = nI (lwN v) ∧ lwN v < 2 ^ 31 := I_nn (and_nn v)
def lo_ (v : Int32) (n : Nat) : Nat := lwN v % n
theorem lo_lt (v : Int32) {n : Nat} (h : 0 < n) : lo_ v n < n := Nat.mod_lt _ h
def sr_ (v : Int32) (k : Nat) : Int32 := v >>> (nI k &&& 31)
def chg (v m : Int32) (S : zSt) : Int32 × zSt :=
  if lo_ v 18 = 0 then (if lo_ m 3 = 0 then oBegin (nI (2 + lo_ (sr_ m 2) 11)) (nI (lo_ (sr_ m 6) 4)) S else oSetBlock (nI (lo_ m (S.1.1 0))) (nI (lo_ (sr_ m 4) 256)) S)
  else if lo_ v 18 = 1 then oSetLoss (nI (lo_ m 4)) (nI (lo_ (sr_ m 2) 100)) S
  else if lo_ v 18 = 2 then oSetWeight (nI (1 + lo_ m 6)) (nI (lo_ (sr_ m 3) 10)) S
  else if lo_ v 18 = 3 then oSet (nI 0) (nI (1 + lo_ m 4)) S
  else if lo_ v 18 = 4 then oSet (nI 1) (nI (lo_ m 4)) S
  else if lo_ v 18 = 5 then oSet (nI 2) (nI (lo_ m 2)) S
  else if lo_ v 18 = 6 then oSet (nI 3) (nI (lwN m)) S
  else if lo_ v 18 < 10 then oInject (nI (1 + lo_ m (2 ^ S.1.1 0 - 1))) S
  else if lo_ v 18 = 10 then oUndo S
  else if lo_ v 18 = 11 then (if lo_ m 2 = 0 then oKeep (nI (lo_ (sr_ m 1) 2)) S else oBack (nI (lo_ (sr_ m 1) 2)) S)
  else oRun (nI (1 + lo_ m (if lo_ (sr_ m 6) 3 = 0 then 30 else 6))) S
theorem chg_0a {v m : Int32} {S : zSt} (h : lo_ v 18 = 0) (h2 : lo_ m 3 = 0) : chg v m S = oBegin (nI (2 + lo_ (sr_ m 2) 11)) (nI (lo_ (sr_ m 6) 4)) S := by
  unfold chg
  rw [if_pos h, if_pos h2]
theorem chg_0b {v m : Int32} {S : zSt} (h : lo_ v 18 = 0) (h2 : ¬ lo_ m 3 = 0) : chg v m S = oSetBlock (nI (lo_ m (S.1.1 0))) (nI (lo_ (sr_ m 4) 256)) S := by
  unfold chg
  rw [if_pos h, if_neg h2]
theorem chg_1 {v m : Int32} {S : zSt} (h : lo_ v 18 = 1) : chg v m S = oSetLoss (nI (lo_ m 4)) (nI (lo_ (sr_ m 2) 100)) S := by
  unfold chg
  rw [if_neg (show ¬ lo_ v 18 = 0 by omega), if_pos h]
theorem chg_2 {v m : Int32} {S : zSt} (h : lo_ v 18 = 2) : chg v m S = oSetWeight (nI (1 + lo_ m 6)) (nI (lo_ (sr_ m 3) 10)) S := by
  unfold chg
  rw [if_neg (show ¬ lo_ v 18 = 0 by omega), if_neg (show ¬ lo_ v 18 = 1 by omega), if_pos h]
theorem chg_3 {v m : Int32} {S : zSt} (h : lo_ v 18 = 3) : chg v m S = oSet (nI 0) (nI (1 + lo_ m 4)) S := by
  unfold chg
  rw [if_neg (show ¬ lo_ v 18 = 0 by omega), if_neg (show ¬ lo_ v 18 = 1 by omega), if_neg (show ¬ lo_ v 18 = 2 by omega), if_pos h]
theorem chg_4 {v m : Int32} {S : zSt} (h : lo_ v 18 = 4) : chg v m S = oSet (nI 1) (nI (lo_ m 4)) S := by
  unfold chg
  rw [if_neg (show ¬ lo_ v 18 = 0 by omega), if_neg (show ¬ lo_ v 18 = 1 by omega), if_neg (show ¬ lo_ v 18 = 2 by omega), if_neg (show ¬ lo_ v 18 = 3 by omega), if_pos h]
theorem chg_5 {v m : Int32} {S : zSt} (h : lo_ v 18 = 5) : chg v m S = oSet (nI 2) (nI (lo_ m 2)) S := by
  unfold chg
  rw [if_neg (show ¬ lo_ v 18 = 0 by omega), if_neg (show ¬ lo_ v 18 = 1 by omega), if_neg (show ¬ lo_ v 18 = 2 by omega), if_neg (show ¬ lo_ v 18 = 3 by omega), if_neg (show ¬ lo_ v 18 = 4 by omega), if_pos h]
theorem chg_6 {v m : Int32} {S : zSt} (h : lo_ v 18 = 6) : chg v m S = oSet (nI 3) (nI (lwN m)) S := by
  unfold chg
  rw [if_neg (show ¬ lo_ v 18 = 0 by omega), if_neg (show ¬ lo_ v 18 = 1 by omega), if_neg (show ¬ lo_ v 18 = 2 by omega), if_neg (show ¬ lo_ v 18 = 3 by omega), if_neg (show ¬ lo_ v 18 = 4 by omega), if_neg (show ¬ lo_ v 18 = 5 by omega), if_pos h]
theorem chg_7 {v m : Int32} {S : zSt} (h : 7 ≤ lo_ v 18 ∧ lo_ v 18 < 10) : chg v m S = oInject (nI (1 + lo_ m (2 ^ S.1.1 0 - 1))) S := by
  unfold chg
  rw [if_neg (show ¬ lo_ v 18 = 0 by omega), if_neg (show ¬ lo_ v 18 = 1 by omega), if_neg (show ¬ lo_ v 18 = 2 by omega), if_neg (show ¬ lo_ v 18 = 3 by omega), if_neg (show ¬ lo_ v 18 = 4 by omega), if_neg (show ¬ lo_ v 18 = 5 by omega), if_neg (show ¬ lo_ v 18 = 6 by omega), if_pos (show lo_ v 18 < 10 by omega)]
theorem chg_11a {v m : Int32} {S : zSt} (h : lo_ v 18 = 11) (h2 : lo_ m 2 = 0) : chg v m S = oKeep (nI (lo_ (sr_ m 1) 2)) S := by
  unfold chg
  rw [if_neg (show ¬ lo_ v 18 = 0 by omega), if_neg (show ¬ lo_ v 18 = 1 by omega), if_neg (show ¬ lo_ v 18 = 2 by omega), if_neg (show ¬ lo_ v 18 = 3 by omega), if_neg (show ¬ lo_ v 18 = 4 by omega), if_neg (show ¬ lo_ v 18 = 5 by omega), if_neg (show ¬ lo_ v 18 = 6 by omega), if_neg (show ¬ lo_ v 18 < 10 by omega), if_neg (show ¬ lo_ v 18 = 10 by omega), if_pos h, if_pos h2]
theorem chg_11b {v m : Int32} {S : zSt} (h : lo_ v 18 = 11) (h2 : ¬ lo_ m 2 = 0) : chg v m S = oBack (nI (lo_ (sr_ m 1) 2)) S := by
  unfold chg
  rw [if_neg (show ¬ lo_ v 18 = 0 by omega), if_neg (show ¬ lo_ v 18 = 1 by omega), if_neg (show ¬ lo_ v 18 = 2 by omega), if_neg (show ¬ lo_ v 18 = 3 by omega), if_neg (show ¬ lo_ v 18 = 4 by omega), if_neg (show ¬ lo_ v 18 = 5 by omega), if_neg (show ¬ lo_ v 18 = 6 by omega), if_neg (show ¬ lo_ v 18 < 10 by omega), if_neg (show ¬ lo_ v 18 = 10 by omega), if_pos h, if_neg h2]
theorem chg_12 {v m : Int32} {S : zSt} (h : 11 < lo_ v 18) : chg v m S = oRun (nI (1 + lo_ m (if lo_ (sr_ m 6) 3 = 0 then 30 else 6))) S := by
  unfold chg
  rw [if_neg (show ¬ lo_ v 18 = 0 by omega), if_neg (show ¬ lo_ v 18 = 1 by omega), if_neg (show ¬ lo_ v 18 = 2 by omega), if_neg (show ¬ lo_ v 18 = 3 by omega), if_neg (show ¬ lo_ v 18 = 4 by omega), if_neg (show ¬ lo_ v 18 = 5 by omega), if_neg (show ¬ lo_ v 18 = 6 by omega), if_neg (show ¬ lo_ v 18 < 10 by omega), if_neg (show ¬ lo_ v 18 = 10 by omega), if_neg (show ¬ lo_ v 18 = 11 by omega)]
theorem chg_P {v m : Int32} {S : zSt} {P : Int32 × zSt → Prop} (hv : lo_ v 18 ≠ 10) (p0a : lo_ v 18 = 0 → lo_ m 3 = 0 → P (oBegin (nI (2 + lo_ (sr_ m 2) 11)) (nI (lo_ (sr_ m 6) 4)) S)) (p0b : lo_ v 18 = 0 → ¬ lo_ m 3 = 0 → P (oSetBlock (nI (lo_ m (S.1.1 0))) (nI (lo_ (sr_ m 4) 256)) S)) (p1 : lo_ v 18 = 1 → P (oSetLoss (nI (lo_ m 4)) (nI (lo_ (sr_ m 2) 100)) S)) (p2 : lo_ v 18 = 2 → P (oSetWeight (nI (1 + lo_ m 6)) (nI (lo_ (sr_ m 3) 10)) S)) (p3 : lo_ v 18 = 3 → P (oSet (nI 0) (nI (1 + lo_ m 4)) S)) (p4 : lo_ v 18 = 4 → P (oSet (nI 1) (nI (lo_ m 4)) S)) (p5 : lo_ v 18 = 5 → P (oSet (nI 2) (nI (lo_ m 2)) S)) (p6 : lo_ v 18 = 6 → P (oSet (nI 3) (nI (lwN m)) S)) (p7 : 7 ≤ lo_ v 18 ∧ lo_ v 18 < 10 → P (oInject (nI (1 + lo_ m (2 ^ S.1.1 0 - 1))) S)) (p11a : lo_ v 18 = 11 → lo_ m 2 = 0 → P (oKeep (nI (lo_ (sr_ m 1) 2)) S)) (p11b : lo_ v 18 = 11 → ¬ lo_ m 2 = 0 → P (oBack (nI (lo_ (sr_ m 1) 2)) S)) (p12 : 11 < lo_ v 18 → P (oRun (nI (1 + lo_ m (if lo_ (sr_ m 6) 3 = 0 then 30 else 6))) S)) : P (chg v m S) := by
  rcases (show lo_ v 18 = 0 ∨ lo_ v 18 = 1 ∨ lo_ v 18 = 2 ∨ lo_ v 18 = 3 ∨ lo_ v 18 = 4 ∨ lo_ v 18 = 5 ∨ lo_ v 18 = 6 ∨ (7 ≤ lo_ v 18 ∧ lo_ v 18 < 10) ∨ lo_ v 18 = 11 ∨ 11 < lo_ v 18 by omega) with h | h | h | h | h | h | h | h | h | h
  · by_cases h2 : lo_ m 3 = 0
    · rw [chg_0a h h2]; exact p0a h h2
    · rw [chg_0b h h2]; exact p0b h h2
  · rw [chg_1 h]; exact p1 h
  · rw [chg_2 h]; exact p2 h
  · rw [chg_3 h]; exact p3 h
  · rw [chg_4 h]; exact p4 h
  · rw [chg_5 h]; exact p5 h
  · rw [chg_6 h]; exact p6 h
  · rw [chg_7 h]; exact p7 h
  · by_cases h2 : lo_ m 2 = 0
    · rw [chg_11a h h2]; exact p11a h h2
    · rw [chg_11b h h2]; exact p11b h h2
  · rw [chg_12 h]; exact p12 h
/-- two objects that are alike but for what can be undone -/
def alk (S Z : zSt) : Prop := S.1 = Z.1 ∧ S.2.2.2 = Z.2.2.2
theorem rem_A {M : zMS} {g h : zHs} (e : g.2.2 = h.2.2) : (remH M g).2.2 = (remH M h).2.2 := (remH_im M g).trans (e.trans (remH_im M h).symm)
theorem oBegin_A {a b : Int32} {M : zMS} {g h : zHs} (e : g.2.2 = h.2.2) : (oBegin a b (M, g)).1 = (oBegin a b (M, h)).1 ∧ alk (oBegin a b (M, g)).2 (oBegin a b (M, h)).2 := by
  unfold oBegin
  dsimp only
  split
  · exact ⟨rfl, rfl, rem_A e⟩
  · exact ⟨rfl, rfl, e⟩
theorem oSetBlock_A {a b : Int32} {M : zMS} {g h : zHs} (e : g.2.2 = h.2.2) : (oSetBlock a b (M, g)).1 = (oSetBlock a b (M, h)).1 ∧ alk (oSetBlock a b (M, g)).2 (oSetBlock a b (M, h)).2 := by
  unfold oSetBlock
  dsimp only
  split
  · split
    · exact ⟨rfl, rfl, e⟩
    · exact ⟨rfl, rfl, rem_A e⟩
  · exact ⟨rfl, rfl, e⟩
theorem oSetLoss_A {a b : Int32} {M : zMS} {g h : zHs} (e : g.2.2 = h.2.2) : (oSetLoss a b (M, g)).1 = (oSetLoss a b (M, h)).1 ∧ alk (oSetLoss a b (M, g)).2 (oSetLoss a b (M, h)).2 := by
  unfold oSetLoss
  dsimp only
  split
  · exact ⟨rfl, rfl, rem_A e⟩
  · exact ⟨rfl, rfl, e⟩
theorem oSetWeight_A {a b : Int32} {M : zMS} {g h : zHs} (e : g.2.2 = h.2.2) : (oSetWeight a b (M, g)).1 = (oSetWeight a b (M, h)).1 ∧ alk (oSetWeight a b (M, g)).2 (oSetWeight a b (M, h)).2 := by
  unfold oSetWeight
  dsimp only
  split
  · split
    · exact ⟨rfl, rfl, e⟩
    · exact ⟨rfl, rfl, rem_A e⟩
  · exact ⟨rfl, rfl, e⟩
theorem oSet_A {a b : Int32} {M : zMS} {g h : zHs} (e : g.2.2 = h.2.2) : (oSet a b (M, g)).1 = (oSet a b (M, h)).1 ∧ alk (oSet a b (M, g)).2 (oSet a b (M, h)).2 := by
  unfold oSet
  dsimp only
  split
  · exact ⟨rfl, rfl, rem_A e⟩
  · split
    · exact ⟨rfl, rfl, rem_A e⟩
    · split
      · exact ⟨rfl, rfl, rem_A e⟩
      · split
        · exact ⟨rfl, rfl, rem_A e⟩
        · exact ⟨rfl, rfl, e⟩
theorem oRun_A {a : Int32} {M : zMS} {g h : zHs} (e : g.2.2 = h.2.2) : (oRun a (M, g)).1 = (oRun a (M, h)).1 ∧ alk (oRun a (M, g)).2 (oRun a (M, h)).2 := by
  unfold oRun
  dsimp only
  split
  · exact ⟨rfl, rfl, rem_A e⟩
  · exact ⟨rfl, rfl, e⟩
theorem oInject_A {a : Int32} {M : zMS} {g h : zHs} (e : g.2.2 = h.2.2) : (oInject a (M, g)).1 = (oInject a (M, h)).1 ∧ alk (oInject a (M, g)).2 (oInject a (M, h)).2 := by
  unfold oInject
  dsimp only
  split
  · exact ⟨rfl, rfl, rem_A e⟩
  · exact ⟨rfl, rfl, e⟩
theorem oKeep_A {a : Int32} {M : zMS} {g h : zHs} (e : g.2.2 = h.2.2) : (oKeep a (M, g)).1 = (oKeep a (M, h)).1 ∧ alk (oKeep a (M, g)).2 (oKeep a (M, h)).2 := by
  unfold oKeep
  dsimp only
  split
  · exact ⟨rfl, rfl, by dsimp only; rw [e]⟩
  · exact ⟨rfl, rfl, e⟩
theorem oBack_A {a : Int32} {M : zMS} {g h : zHs} (e : g.2.2 = h.2.2) : (oBack a (M, g)).1 = (oBack a (M, h)).1 ∧ alk (oBack a (M, g)).2 (oBack a (M, h)).2 := by
  unfold oBack
  dsimp only
  rw [e]
  split
  · split
    · exact ⟨rfl, rfl, rem_A e⟩
    · exact ⟨rfl, rfl, e⟩
  · exact ⟨rfl, rfl, e⟩
theorem chg_A {v m : Int32} {S Z : zSt} (hv : lo_ v 18 ≠ 10) (h : alk S Z) : (chg v m S).1 = (chg v m Z).1 ∧ alk (chg v m S).2 (chg v m Z).2 := by
  obtain ⟨M, g⟩ := S
  obtain ⟨M2, g2⟩ := Z
  obtain ⟨h1, e⟩ := h
  have h2 : M = M2 := h1
  subst h2
  have e2 : g.2.2 = g2.2.2 := e
  rcases (show lo_ v 18 = 0 ∨ lo_ v 18 = 1 ∨ lo_ v 18 = 2 ∨ lo_ v 18 = 3 ∨ lo_ v 18 = 4 ∨ lo_ v 18 = 5 ∨ lo_ v 18 = 6 ∨ (7 ≤ lo_ v 18 ∧ lo_ v 18 < 10) ∨ lo_ v 18 = 11 ∨ 11 < lo_ v 18 by omega) with h | h | h | h | h | h | h | h | h | h
  · by_cases h2 : lo_ m 3 = 0
    · rw [chg_0a h h2, chg_0a h h2]; exact oBegin_A e2
    · rw [chg_0b h h2, chg_0b h h2]; exact oSetBlock_A e2
  · rw [chg_1 h, chg_1 h]; exact oSetLoss_A e2
  · rw [chg_2 h, chg_2 h]; exact oSetWeight_A e2
  · rw [chg_3 h, chg_3 h]; exact oSet_A e2
  · rw [chg_4 h, chg_4 h]; exact oSet_A e2
  · rw [chg_5 h, chg_5 h]; exact oSet_A e2
  · rw [chg_6 h, chg_6 h]; exact oSet_A e2
  · rw [chg_7 h, chg_7 h]; exact oInject_A e2
  · by_cases h2 : lo_ m 2 = 0
    · rw [chg_11a h h2, chg_11a h h2]; exact oKeep_A e2
    · rw [chg_11b h h2, chg_11b h h2]; exact oBack_A e2
  · rw [chg_12 h, chg_12 h]; exact oRun_A e2
theorem chg_I {T : Nat} {v m : Int32} {S : zSt} (hv : lo_ v 18 ≠ 10) (h : zI T S) : zI (T + 200) (chg v m S).2 :=
  chg_P (P := fun z => zI (T + 200) z.2) hv (fun _ _ => oBegin_I h) (fun _ _ => oSetBlock_I h) (fun _ => oSetLoss_I h) (fun _ => oSetWeight_I h) (fun _ => oSet_I h) (fun _ => oSet_I h) (fun _ => oSet_I h) (fun _ => oSet_I h) (fun _ => oInject_I h) (fun _ _ => oKeep_I h) (fun _ _ => oBack_I h) (fun _ => oRun_I h)
/-- what else is kept to, with a bound on what arrived -/
def zFA (A : Nat) (M : zMS) : Prop := zF M ∧ M.1 31 ≤ A
def zKK (A : Nat) (S : zSt) : Prop := zFA A S.1 ∧ ∀ i, i < 2 → S.2.2.2.2 i = true → zFA A (S.2.2.2.1 i)
theorem zFA_mono {A B : Nat} {M : zMS} (h : zFA A M) (hu : A ≤ B) : zFA B M := ⟨h.1, Nat.le_trans h.2 hu⟩
theorem zKK_mono {A B : Nat} {S : zSt} (h : zKK A S) (hu : A ≤ B) : zKK B S := ⟨zFA_mono h.1 hu, fun i hi e => zFA_mono (h.2 i hi e) hu⟩
theorem zKK_rem {A B : Nat} {S : zSt} {M : zMS} (h : zKK A S) (hu : A ≤ B) (hM : zFA B M) : zKK B (M, remH S.1 S.2) := by
  refine ⟨hM, ?_⟩
  show ∀ i, i < 2 → (remH S.1 S.2).2.2.2 i = true → zFA B ((remH S.1 S.2).2.2.1 i)
  rw [remH_im]
  exact (zKK_mono h hu).2
theorem zF_c {M : zMS} (g : zF M) {i x : Nat} (h2 : i ≠ 2) (h30 : i < 30) : zF (upc M.1 i x, M.2) := by
  obtain ⟨g1, g2, g3, g4, g5, g6, g7⟩ := g
  have e2 : upc M.1 i x 2 = M.1 2 := upc_n (by omega)
  have e30 : upc M.1 i x 30 = M.1 30 := upc_n (by omega)
  have e31 : upc M.1 i x 31 = M.1 31 := upc_n (by omega)
  have e32 : upc M.1 i x 32 = M.1 32 := upc_n (by omega)
  exact ⟨g1, g2, g3, by dsimp only; rw [e2]; exact g4, by dsimp only; rw [e2]; exact g5, by dsimp only; rw [e31, e32]; exact g6, by dsimp only; rw [e30, e2]; exact g7⟩
theorem zFA_c {A : Nat} {M : zMS} (g : zFA A M) {i x : Nat} (h2 : i ≠ 2) (h30 : i < 30) : zFA A (upc M.1 i x, M.2) := ⟨zF_c g.1 h2 h30, by dsimp only; rw [upc_n (by omega)]; exact g.2⟩
theorem zFA_lay {A K R : Nat} (M : zMS) : zFA A (layM M K R) := by
  have e2 : layc M.1 K R 2 = 0 := by unfold layc; rw [if_neg (by decide), if_neg (by decide), if_pos rfl]
  have eh : ∀ i, 29 ≤ i → layc M.1 K R i = 0 := fun i hi => layc_hi hi
  refine ⟨⟨fun r _ q hq => (by cases hq), fun q hq => (by cases hq), fun q hq => (by cases hq), fun b u hu => (by cases hu), fun b w hw => (by cases hw), ?_, ?_⟩, ?_⟩
  · show layc M.1 K R 31 = layc M.1 K R 32 + 0
    rw [eh 31 (by decide), eh 32 (by decide)]
  · show layc M.1 K R 30 ≤ 4 * layc M.1 K R 2
    rw [eh 30 (by decide)]; exact Nat.zero_le _
  · show layc M.1 K R 31 ≤ A
    rw [eh 31 (by decide)]; exact Nat.zero_le _
theorem zFA_trm {A x : Nat} {M : zMS} (g : zFA A M) : zFA A (trm M x) := by
  obtain ⟨⟨g1, g2, g3, g4, g5, g6, g7⟩, gA⟩ := zFA_c (i := 3) (x := x) g (by decide) (by decide)
  refine ⟨⟨fun r hr q hq => ?_, g2, g3, g4, g5, g6, g7⟩, gA⟩
  have hq2 : q ∈ if r < 3 then (M.2.1 r).drop ((M.2.1 r).length - x) else M.2.1 r := hq
  split at hq2
  · exact g1 r hr q (List.mem_of_mem_drop hq2)
  · exact g1 r hr q hq2
theorem pkS_div {M : zMS} (h : zE M) {s : Nat} (hs : s < 2 ^ M.1 0) : pkS M s / 256 = s := by
  unfold pkS
  rw [pkn_div (mOK_V h.1) (M.1 0) h.1.1.2.1, Nat.mod_eq_of_lt hs]
theorem chg_F {A T : Nat} {v m : Int32} {S : zSt} (hv : lo_ v 18 ≠ 10) (h : zI T S) (g : zKK A S) : zKK (A + 30) (chg v m S).2 := by
  have hE := h.1.1
  have g0 : zKK (A + 30) S := zKK_mono g (by omega)
  have r : ∀ {M : zMS}, zFA (A + 30) M → zKK (A + 30) (M, remH S.1 S.2) := fun hM => zKK_rem g (by omega) hM
  have c : ∀ {i x : Nat}, i ≠ 2 → i < 30 → zKK (A + 30) ((upc S.1.1 i x, S.1.2), remH S.1 S.2) := fun h2 h30 => r (zFA_c g0.1 h2 h30)
  have hK := hE.1.1.1
  have hK2 := hE.1.1.2.1
  have hR := hE.1.1.2.2.1
  have hset : ∀ a b : Int32, zKK (A + 30) (oSet a b S).2 := fun a b => by
    unfold oSet
    split
    · exact r (zFA_trm g0.1)
    · split
      · exact c (by decide) (by decide)
      · split
        · exact c (by decide) (by decide)
        · split
          · exact c (by decide) (by decide)
          · exact g0
  refine chg_P (P := fun z => zKK (A + 30) z.2) hv (fun _ _ => ?_) (fun _ _ => ?_) (fun _ => ?_) (fun _ => ?_) (fun _ => hset _ _) (fun _ => hset _ _) (fun _ => hset _ _) (fun _ => hset _ _) (fun _ => ?_) (fun _ _ => ?_) (fun _ _ => ?_) (fun _ => ?_)
  · unfold oBegin
    split
    · exact r (zFA_lay _)
    · exact g0
  · unfold oSetBlock
    split
    · rename_i hc
      obtain ⟨B, hB1, hB2, ea⟩ := inR hc.1 (by decide) (by omega)
      have e1 : nn (nI (lo_ m (S.1.1 0))) = B := by rw [ea, nn_I (by omega)]
      split
      · exact g0
      · exact c (by omega) (by omega)
    · exact g0
  · unfold oSetLoss
    split
    · rename_i hc
      obtain ⟨B, hB1, hB2, ea⟩ := inR hc.1 (by decide) (by omega)
      have e1 : nn (nI (lo_ m 4)) = B := by rw [ea, nn_I (by omega)]
      exact c (by omega) (by omega)
    · exact g0
  · unfold oSetWeight
    split
    · rename_i hc
      obtain ⟨B, hB1, hB2, ea⟩ := inR hc.1 (by decide) (by decide)
      have e1 : nn (nI (1 + lo_ m 6)) = B := by rw [ea, nn_I (by omega)]
      split
      · exact g0
      · exact c (by omega) (by omega)
    · exact g0
  · unfold oInject
    split
    · rename_i hc
      have h2K : 2 ^ S.1.1 0 ≤ 2 ^ 12 := Nat.pow_le_pow_right (by decide) hK2
      obtain ⟨B, hB1, hB2, ea⟩ := inR hc (by decide) (by omega)
      have e1 : nn (nI (1 + lo_ m (2 ^ S.1.1 0 - 1))) = B := by rw [ea, nn_I (by omega)]
      rw [e1]
      obtain ⟨p1, p2⟩ := pkS_ok hE B
      have h1K : 2 ^ 2 ≤ 2 ^ S.1.1 0 := Nat.pow_le_pow_right (by decide) hK
      refine r ⟨mAcc_F hE g0.1.1 p1 p2 ?_, ?_⟩
      · rw [pkS_div hE (by omega)]; omega
      · have e31 : (mAcc S.1 (pkS S.1 B)).1 31 = S.1.1 31 + 1 := by
          dsimp only [mAcc]
          rw [upc_n (by decide), upc_n (by decide), upc_s]
        rw [e31]
        have := g.1.2
        omega
    · exact g0
  · unfold oKeep
    split
    · refine ⟨g0.1, fun i hi he => ?_⟩
      show zFA (A + 30) (if i = nn (nI (lo_ (sr_ m 1) 2)) then S.1 else S.2.2.2.1 i)
      by_cases hia : i = nn (nI (lo_ (sr_ m 1) 2))
      · rw [if_pos hia]; exact g0.1
      · rw [if_neg hia]
        have he2 : (if i = nn (nI (lo_ (sr_ m 1) 2)) then true else S.2.2.2.2 i) = true := he
        rw [if_neg hia] at he2
        exact g0.2 i hi he2
    · exact g0
  · unfold oBack
    split
    · rename_i hc
      obtain ⟨B, hB1, hB2, ea⟩ := inR hc (by decide) (by decide)
      have e1 : nn (nI (lo_ (sr_ m 1) 2)) = B := by rw [ea, nn_I (by omega)]
      rw [e1]
      split
      · rename_i hf
        exact r (g0.2 B (by omega) hf)
      · exact g0
    · exact g0
  · have hn : nn (nI (1 + lo_ m (if lo_ (sr_ m 6) 3 = 0 then 30 else 6))) ≤ 30 := by
      have h1 : lo_ m (if lo_ (sr_ m 6) 3 = 0 then 30 else 6) < 30 := by
        by_cases h0 : lo_ (sr_ m 6) 3 = 0
        · rw [if_pos h0]; exact lo_lt m (by decide)
        · rw [if_neg h0]
          have := lo_lt m (show 0 < 6 by decide)
          omega
      rw [nn_I (by omega)]
      omega
    generalize nI (1 + lo_ m (if lo_ (sr_ m 6) 3 = 0 then 30 else 6)) = a at hn ⊢
    unfold oRun
    split
    · obtain ⟨k1, k2, k3, k4⟩ := itk_F hE g.1.1 (nn a)
      refine r ⟨k2, ?_⟩
      have := g.1.2
      omega
    · exact g0
/-- forecasts -/
theorem itk_s (M : zMS) : ∀ n, itk n (mTick M) = itk (n + 1) M
  | 0 => rfl
  | n + 1 => by
    show mTick (itk n (mTick M)) = mTick (itk (n + 1) M)
    rw [itk_s M n]
theorem tks_itk {how : Nat} : ∀ (k n : Nat) (M : zMS), ∃ j, j ≤ k ∧ tks how k n M = (n + j, itk j M) ∧ ∀ i, i < j → dn how (itk i M) = false
  | 0, n, M => ⟨0, Nat.le_refl _, rfl, fun i hi => absurd hi (Nat.not_lt_zero i)⟩
  | k + 1, n, M => by
    cases hd : dn how M with
    | true => exact ⟨0, Nat.zero_le _, tks_d hd, fun i hi => absurd hi (Nat.not_lt_zero i)⟩
    | false =>
      obtain ⟨j, h1, h2, h3⟩ := tks_itk k (n + 1) (mTick M) (how := how)
      refine ⟨j + 1, by omega, ?_, fun i hi => ?_⟩
      · rw [tks_s hd, h2, itk_s]
        exact Prod.ext (by dsimp only; omega) rfl
      · cases i with
        | zero => exact hd
        | succ i =>
          rw [← itk_s]
          exact h3 i (by omega)
theorem tkI_all {how k : Nat} (M : zMS) : tkI how k M = -9 ∨ ∃ j, j ≤ k ∧ tkI how k M = nI j ∧ dn how (itk j M) = true ∧ ∀ i, i < j → dn how (itk i M) = false := by
  obtain ⟨j, h1, h2, h3⟩ := tks_itk k 0 M (how := how)
  unfold tkI
  rw [h2]
  dsimp only
  cases hd : dn how (itk j M) with
  | false => left; rfl
  | true =>
    right
    refine ⟨j, h1, ?_, hd, h3⟩
    rw [if_pos rfl, Nat.zero_add]
theorem kept_le {M : zMS} (h : zE M) : (M.2.1 3).length ≤ M.1 0 := by
  have hK := h.1.1.2.1
  have hl := h.2.1 3 (by decide)
  have h20 : ∀ q ∈ M.2.1 3, q < 2 ^ 20 := zl_ls h (by decide)
  have he := (eqv_spr h20 (M.2.1 3).length).1
  have hnz := nvl_nz h.1.2.2.2.1 (M.2.1 3).length (Nat.le_refl _)
  have hr : ∀ j, j < 12 → spo (M.2.1 3) j < 2 ^ (8 + M.1 0) := cl_spr (P := fun x => x < 2 ^ (8 + M.1 0)) (Nat.two_pow_pos _) (fun _ _ => Nat.xor_lt_two_pow) hl (M.2.1 3).length
  have h0 : ∀ j, M.1 0 ≤ j → j < 12 → spo (M.2.1 3) j = 0 := fun j h1 h2 => by
    by_cases hz : spo (M.2.1 3) j = 0
    · exact hz
    · have g2 : 2 ^ (8 + j) ≤ spo (M.2.1 3) j := Nat.ge_two_pow_of_testBit (he j h2 hz).2
      have g3 := hr j h2
      have g4 : 2 ^ (8 + M.1 0) ≤ 2 ^ (8 + j) := Nat.pow_le_pow_right (by decide) (by omega)
      omega
  have hn2 : nzn (spo (M.2.1 3)) (M.1 0) = (M.2.1 3).length := (nzn_hi 12 hK h0).symm.trans hnz
  rw [← hn2]
  exact nzn_le _ _
/-- what told() says of what is known, in one of two ways -/
def wtv (how : Nat) (M : zMS) : Nat := if how = 0 then cntn M.2.2.2 12 else (M.2.1 3).length
theorem wtv_le {how : Nat} {M : zMS} (h : zE M) : wtv how M ≤ M.1 0 := by
  unfold wtv
  split
  · rw [cnt_kt h]; exact cntn_le _ _
  · exact kept_le h
theorem wtv_dn {how : Nat} {M : zMS} (h : zE M) : dn how M = decide (wtv how M = M.1 0) := by
  unfold dn wtv
  by_cases hh : how = 0
  · rw [if_pos hh, if_pos hh]
  · rw [if_neg hh, if_neg hh]
    exact dec_t (whole_iff h).symm
/-- run, then undo -/
theorem undo_run {n : Nat} {S : zSt} (hn : 1 ≤ n) (hn2 : n ≤ 100) (h8 : S.2.1 ≤ 8) : (oRun (nI n) S).1 = nI ((itk n S.1).2.1 3).length ∧ (oRun (nI n) S).2.1 = itk n S.1 ∧ ∃ k, (oUndo (oRun (nI n) S).2).1 = nI k ∧ k ≤ 7 ∧ (oUndo (oRun (nI n) S).2).2.1 = S.1 ∧ (oUndo (oRun (nI n) S).2).2.2.2.2 = S.2.2.2 := by
  have hc : nI 1 ≤ nI n ∧ nI n ≤ nI 100 := ⟨(nI_leI (by decide) (by omega)).mpr hn, (nI_leI (by omega) (by decide)).mpr hn2⟩
  have e : oRun (nI n) S = (nI ((itk n S.1).2.1 3).length, (itk n S.1, remH S.1 S.2)) := by
    unfold oRun
    rw [if_pos hc, nn_I (by omega)]
  rw [e]
  refine ⟨rfl, rfl, ?_⟩
  unfold oUndo remH
  by_cases h : S.2.1 = 8
  · rw [if_pos h]
    exact ⟨7, rfl, Nat.le_refl _, rfl, rfl⟩
  · rw [if_neg h]
    dsimp only
    rw [if_neg (by omega)]
    dsimp only
    refine ⟨S.2.1, by rw [Nat.add_sub_cancel], by omega, ?_, rfl⟩
    rw [Nat.add_sub_cancel, if_pos rfl]
