theorem nI_sub1 (n : Nat) : nI n - nI 1 = tI n := by
  rw [tI, Int32.sub_eq_add_neg]
  rfl
theorem gd_mid {A T : List Nat} {q : Nat} {j : Nat} : (A ++ q :: T).getD j 0 = if j < A.length then A.getD j 0 else if j = A.length then q else T.getD (j - A.length - 1) 0 := by
  by_cases h : j < A.length
  · rw [if_pos h]; simp [List.getD, List.getElem?_append_left h]
  · rw [if_neg h]
    by_cases h2 : j = A.length
    · subst h2; rw [if_pos rfl]; simp [List.getD]
    · rw [if_neg h2]
      obtain ⟨d, rfl⟩ : ∃ d, j = A.length + (d + 1) := ⟨j - A.length - 1, by omega⟩
      rw [show A.length + (d + 1) - A.length - 1 = d by omega]
      simp [List.getD, List.getElem?_append_right]
theorem la_set {f : Nat → Int32} {a cap k q q1 : Nat} {A T : List Nat} (h : zla f a cap (A ++ q :: T)) (hk : A.length = k) : zla (upd (upd f (a + 1 + 2 * k) (nI (q1 / 256))) (a + 1 + 2 * k + 1) (nI (q1 % 256))) a cap (A ++ q1 :: T) := by
  obtain ⟨h1, h2, h3⟩ := h
  have hl : (A ++ q1 :: T).length = (A ++ q :: T).length := by simp
  refine ⟨by rw [hl, ← h1]; simp only [upd]; rw [if_neg (by omega), if_neg (by omega)], by rw [hl]; exact h2, fun j hj => ?_⟩
  rw [hl] at hj
  have h4 := h3 j hj
  by_cases hjk : j = k
  · rw [gd_mid, if_neg (by omega), if_pos (by omega), hjk]
    simp only [upd]
    rw [if_neg (by omega)]
    exact ⟨if_pos trivial, if_pos trivial⟩
  · have u1 : upd (upd f (a + 1 + 2 * k) (nI (q1 / 256))) (a + 1 + 2 * k + 1) (nI (q1 % 256)) (a + 1 + 2 * j) = f (a + 1 + 2 * j) := by
      simp only [upd]
      rw [if_neg (by omega), if_neg (by omega)]
    have u2 : upd (upd f (a + 1 + 2 * k) (nI (q1 / 256))) (a + 1 + 2 * k + 1) (nI (q1 % 256)) (a + 1 + 2 * j + 1) = f (a + 1 + 2 * j + 1) := by
      simp only [upd]
      rw [if_neg (by omega), if_neg (by omega)]
    rw [u1, u2]
    rw [gd_mid] at h4 ⊢
    by_cases hjl : j < A.length
    · rw [if_pos hjl] at h4 ⊢; exact h4
    · rw [if_neg hjl, if_neg (by omega)] at h4 ⊢; exact h4
theorem zwf_set {f : Nat → Int32} {M : zMS} {R : (Nat → Option Nat) × (Nat → Option Nat)} {k q q1 : Nat} {A T : List Nat} (h : zwf f (M.1, upl M.2.1 4 (A ++ q :: T), R)) (hk : A.length = k) : zwf (upd (upd f (122 + 1 + 2 * k) (nI (q1 / 256))) (122 + 1 + 2 * k + 1) (nI (q1 % 256))) (M.1, upl M.2.1 4 (A ++ q1 :: T), R) := by
  have h4 : zla f 122 21 (A ++ q :: T) := by
    have := h.2.1 4 (by decide)
    dsimp only at this
    rw [upl_s] at this
    exact this
  have hl := h4.2.1
  have hlen : k < (A ++ q :: T).length := by simp; omega
  have := zwf_l (g := upd (upd f (122 + 1 + 2 * k) (nI (q1 / 256))) (122 + 1 + 2 * k + 1) (nI (q1 % 256))) (r := 4) h (by decide) (la_set h4 hk) (fun j hj => by
    have hj2 : j < 122 ∨ 122 + 2 * 21 < j := hj
    simp only [upd]
    rw [if_neg (by omega), if_neg (by omega)])
  dsimp only at this
  rw [upl_upl] at this
  exact this
theorem cur_eq {wt T : List Nat} {k : Nat} (h : k < wt.length) : wt.take (k + 1) ++ T = wt.take k ++ wt.getD k 0 :: T := by
  rw [take_s h, List.append_assoc]
  rfl
theorem tk_len {wt : List Nat} {k : Nat} (h : k ≤ wt.length) : (wt.take k).length = k := by
  rw [List.length_take]; omega
theorem er_mid {A T : List Nat} {q k : Nat} (h : A.length = k) : (A ++ q :: T).eraseIdx k = A ++ T := by
  rw [List.eraseIdx_append_of_length_le (by omega), h, Nat.sub_self]
  rfl
theorem tko_d {s : Nat} {wt : List Nat} {k : Nat} (h : k < wt.length) : tko s (wt.drop k) = if tk1 s (wt.getD k 0) / 256 = 0 then tko s (wt.drop (k + 1)) else tk1 s (wt.getD k 0) :: tko s (wt.drop (k + 1)) := by
  have e : wt.drop k = wt.getD k 0 :: wt.drop (k + 1) := by
    rw [List.drop_eq_getElem_cons h]
    simp [List.getD, List.getElem?_eq_getElem h]
  rw [e]
  simp only [tko, List.map_cons]
  by_cases h0 : tk1 s (wt.getD k 0) / 256 = 0
  · rw [if_pos h0, List.filter_cons_of_neg (by rw [h0]; decide)]
  · rw [if_neg h0, List.filter_cons_of_pos (by exact decide_eq_true h0)]
/-- a block is learnt -/
theorem zwf_k {f g : Nat → Int32} {M : zMS} {b t : Nat} (h : zwf f M) (hb : b < 12) (e1 : g (86 + b) = nI (M.1 (17 + b))) (e2 : g (98 + b) = nI t) (k : ∀ j, j ≠ 86 + b → j ≠ 98 + b → g j = f j) : zwf g (M.1, M.2.1, M.2.2.1, upo M.2.2.2 b t) := by
  obtain ⟨h1, h2, h3, h4, h5⟩ := h
  refine ⟨fun j hj => by rw [k j (by omega) (by omega)]; exact h1 j hj, fun r hr => (h2 r hr).kept (fun j g1 g2 => k j (by have := lb_top r hr; omega) (by have := lb_top r hr; omega)), fun c hc => ?_, fun c hc => ?_, fun c hc => by rw [k _ (by omega) (by omega)]; exact h5 c hc⟩
  · show g (86 + c) = knI (upo M.2.2.2 b t c) (M.1 (17 + c))
    by_cases hcb : c = b
    · subst hcb; rw [e1]; simp [upo, knI]
    · rw [k _ (by omega) (by omega)]
      have e : upo M.2.2.2 b t c = M.2.2.2 c := by simp [upo, hcb]
      rw [e]; exact h3 c hc
  · show g (98 + c) = tmI (upo M.2.2.2 b t c)
    by_cases hcb : c = b
    · subst hcb; rw [e2]; simp [upo, tmI]
    · rw [k _ (by omega) (by omega)]
      have e : upo M.2.2.2 b t c = M.2.2.2 c := by simp [upo, hcb]
      rw [e]; exact h4 c hc
/-- what waits knows nothing that is known -/
def zW (V : Nat → Nat) (kt : Nat → Option Nat) (wt : List Nat) : Prop := (∀ q ∈ wt, con V q) ∧ ∀ q ∈ wt, ∀ b, b < 12 → (kt b).isSome = true → q.testBit (8 + b) = false
theorem sg_bit {V : Nat → Nat} {b c : Nat} (hV : V b < 256) : (2 ^ (8 + b) + V b).testBit (8 + c) = decide (b = c) := by
  rw [← dv_tb, pw_div hV, Nat.testBit_two_pow]
theorem zW_tko {V : Nat → Nat} {kt : Nat → Option Nat} {wt : List Nat} {b t : Nat} (h : zW V kt wt) (hb : b < 12) (hV : ∀ b, b < 12 → V b < 256) : zW V (upo kt b t) (tko (2 ^ (8 + b) + V b) wt) := by
  refine ⟨con_tko (con_one hb hV) h.1, fun q hq c hc hs => ?_⟩
  obtain ⟨h1, -⟩ := List.mem_filter.mp hq
  obtain ⟨q0, hq0, rfl⟩ := List.mem_map.mp h1
  have hold : c ≠ b → q0.testBit (8 + c) = false := fun hcb => h.2 q0 hq0 c hc (by simpa [upo, hcb] using hs)
  unfold tk1
  split
  · rename_i h0
    by_cases hcb : c = b
    · subst hcb
      rw [pw_div (hV c hc)] at h0
      rw [← dv_tb]
      exact tb_zero.mp h0
    · exact hold hcb
  · rename_i h0
    rw [Nat.testBit_xor, sg_bit (hV b hb)]
    by_cases hcb : c = b
    · subst hcb
      rw [pw_div (hV c hc)] at h0
      have h2 : (q0 / 256).testBit c = true := tb_pos.mp (Nat.pos_of_ne_zero h0)
      rw [dv_tb] at h2
      rw [h2, decide_eq_true rfl]; rfl
    · rw [hold hcb, decide_eq_false (fun z => hcb z.symm)]; rfl
theorem zW_er {V : Nat → Nat} {kt : Nat → Option Nat} {wt : List Nat} {i : Nat} (h : zW V kt wt) : zW V kt (wt.eraseIdx i) := ⟨con_er h.1, fun q hq => h.2 q (List.mem_of_mem_eraseIdx hq)⟩
theorem cntn_lt {kt : Nat → Option Nat} {b : Nat} (h : (kt b).isSome = false) : ∀ n, b < n → cntn kt n < n
  | 0, hb => absurd hb (Nat.not_lt_zero b)
  | n + 1, hb => by
    show cntn kt n + (if (kt n).isSome then 1 else 0) < n + 1
    by_cases hbn : b = n
    · subst hbn
      have := cntn_le kt b
      rw [h]; simp; omega
    · have := cntn_lt h n (by omega)
      split <;> omega
theorem pl1_s {t n x b : Nat} {kt : Nat → Option Nat} {wt : List Nat} (hx : x / 256 = 2 ^ b) (hb : b < 12) (hk : (kt b).isSome = false) : pl1 t (n + 1) x kt wt = pl1 t n ((tko x wt).getD (rfs (tko x wt)) 0) (upo kt b t) ((tko x wt).eraseIdx (rfs (tko x wt))) := by
  show (if _ then _ else _) = _
  have h2 := Nat.two_pow_pos b
  rw [if_neg (by omega), hx, log2_p b hb]
  unfold lrn
  rw [hk]
  rfl
theorem pl1_0 {t n x : Nat} {kt : Nat → Option Nat} {wt : List Nat} (hx : x / 256 = 0) : pl1 t n x kt wt = (kt, wt) := by
  cases n with
  | zero => rfl
  | succ n => exact if_pos hx
theorem rfs_le : ∀ ps : List Nat, rfs ps ≤ ps.length
  | [] => Nat.le_refl 0
  | q :: t => by
    have := rfs_le t
    show (if _ then 0 else rfs t + 1) ≤ t.length + 1
    split
    · exact Nat.zero_le _
    · exact Nat.succ_le_succ this
theorem rfs_one : ∀ ps : List Nat, rfs ps < ps.length → pop (ps.getD (rfs ps) 0 / 256) = 1
  | [], h => absurd h (Nat.not_lt_zero _)
  | q :: t, h => by
    by_cases h0 : pop (q / 256) = 1
    · have : rfs (q :: t) = 0 := if_pos h0
      rw [this]; exact h0
    · have : rfs (q :: t) = rfs t + 1 := if_neg h0
      rw [this] at h ⊢
      exact rfs_one t (by simpa using h)
def faI (ps : List Nat) : Int32 := if rfs ps < ps.length then nI (rfs ps) else -9
theorem er_ge {ps : List Nat} {k : Nat} (h : ps.length ≤ k) : ps.eraseIdx k = ps := List.eraseIdx_of_length_le h
theorem n9 {n : Nat} (h : n < 2 ^ 30) : nI n ≠ -9 := by
  intro e
  have h1 := nI_toInt (n := n) (by omega)
  rw [e] at h1
  have : (-9 : Int32).toInt = -9 := by decide
  omega
theorem knI_9 {o : Option Nat} {x : Nat} (hx : x < 256) : knI o x = -9 ↔ o.isSome = false := by
  cases o with
  | none => exact ⟨fun _ => rfl, fun _ => rfl⟩
  | some t => exact ⟨fun h => absurd h (n9 (by omega)), fun h => by cases h⟩
theorem tof_s {V : Nat → Nat} {kt : Nat → Option Nat} {x b : Nat} : tofn V kt x (b + 1) = if x.testBit (8 + b) then tofn V kt x b ^^^ sgl V kt b else tofn V kt x b := rfl
theorem tof_hi {V : Nat → Nat} {kt : Nat → Option Nat} {x K : Nat} (hx : x < 2 ^ (8 + K)) : ∀ n, K ≤ n → tofn V kt x n = tofn V kt x K
  | 0, h => by rw [show K = 0 by omega]
  | n + 1, h => by
    rcases Nat.lt_or_ge K (n + 1) with h1 | h1
    · rw [tof_s, hi_bit hx (show 8 + K ≤ 8 + n by omega)]
      exact tof_hi hx n (by omega)
    · rw [show n + 1 = K by omega]
theorem tof_bit {V : Nat → Nat} {kt : Nat → Option Nat} {x : Nat} (hV : ∀ b, b < 12 → V b < 256) : ∀ n, n ≤ 12 → ∀ c, (tofn V kt x n).testBit (8 + c) = (x.testBit (8 + c) && !(decide (c < n) && (kt c).isSome))
  | 0, _, c => by simp [tofn]
  | n + 1, hn, c => by
    have ih := tof_bit (kt := kt) (x := x) hV n (by omega) c
    have e1 : c ≠ n → decide (c < n + 1) = decide (c < n) := fun h => by simp; omega
    rw [tof_s]
    by_cases hb : x.testBit (8 + n) = true
    · rw [if_pos hb, Nat.testBit_xor, ih]
      unfold sgl
      by_cases hs : (kt n).isSome = true
      · rw [if_pos hs, sg_bit (hV n (by omega))]
        by_cases hcn : c = n
        · subst hcn; simp [hb, hs]
        · rw [decide_eq_false (show ¬ n = c from fun z => hcn z.symm), e1 hcn, Bool.xor_false]
      · rw [if_neg hs, Nat.zero_testBit, Bool.xor_false]
        by_cases hcn : c = n
        · subst hcn
          have : (kt c).isSome = false := by simpa using hs
          simp [this]
        · rw [e1 hcn]
    · rw [if_neg hb, ih]
      by_cases hcn : c = n
      · subst hcn
        have : x.testBit (8 + c) = false := by simpa using hb
        rw [this]; rfl
      · rw [e1 hcn]
theorem pop_0 : pop 0 = 0 := by decide
theorem upl4 (M : zMS) (l : List Nat) (kt : Nat → Option Nat) : ((M.1, upl M.2.1 4 l, M.2.2.1, kt) : zMS).2.1 4 = l := by
  show upl M.2.1 4 l 4 = l
  exact upl_s _ _ _
theorem pop_p : ∀ b, b < 12 → pop (2 ^ b) = 1 := by decide +kernel
theorem pop_z {x : Nat} (hx : x < 4096) (h1 : ¬ 1 < pop x) (h2 : pop x ≠ 1) : x = 0 := by
  by_cases h : x = 0
  · exact h
  · have := pop_pos hx h
    omega
theorem drop1_app {l : List Nat} {x : Nat} (h : 0 < l.length) : (l ++ [x]).eraseIdx 0 = l.drop 1 ++ [x] := by
  cases l with
  | nil => cases h
  | cons a t => rfl
theorem zW_unk {V : Nat → Nat} {kt : Nat → Option Nat} {wt : List Nat} (h : zW V kt wt) (hV : ∀ b, b < 12 → V b < 256) (hl : rfs wt < wt.length) : (kt (Nat.log2 (wt.getD (rfs wt) 0 / 256))).isSome = false := by
  obtain ⟨hB, hLB⟩ := con_single (con_gd h.1 (i := rfs wt)) (rfs_one wt hl)
  cases hs : (kt (Nat.log2 (wt.getD (rfs wt) 0 / 256))).isSome with
  | false => rfl
  | true =>
    have h1 := gd_mem (P := fun q => ∀ b, b < 12 → (kt b).isSome = true → q.testBit (8 + b) = false) h.2 hl _ hB hs
    have h3 := congrArg (fun z => Nat.testBit z (8 + Nat.log2 (wt.getD (rfs wt) 0 / 256))) hLB
    rw [h1, sg_bit (V := V) (hV _ hB), decide_eq_true rfl] at h3
    cases h3
