theorem nI_sub1 (n : Nat) : nI n - nI 1 = tI n := by
  rw [tI, Int32.sub_eq_add_neg]
  rfl
theorem gd_mid {A T : List Nat} {q : Nat} {j : Nat} : (A ++ q :: T).getD j 0 = if j < A.length then A.getD j 0 else if j = A.length then q else T.getD (j - A.length - 1) 0 := by
  by_cases h : j < A.length
  · rw [if_pos h]; simp [List.getD, List.getElem?_append_left h]
  · rw [if_neg h]
    by_cases h2 : j = A.length
    · subst h2; rw [if_pos rfl]; simp [List.getD]
    · rw [if_neg h2]
      obtain ⟨d, rfl⟩ : ∃ d, j = A.length + (d + 1) := ⟨j - A.length - 1, by omega⟩
      rw [show A.length + (d + 1) - A.length - 1 = d by omega]
      simp [List.getD, List.getElem?_append_right]
theorem la_set {f : Nat → Int32} {a cap k q q1 : Nat} {A T : List Nat} (h : zla f a cap (A ++ q :: T)) (hk : A.length = k) : zla (upd (upd f (a + 1 + 2 * k) (nI (q1 / 256))) (a + 1 + 2 * k + 1) (nI (q1 % 256))) a cap (A ++ q1 :: T) := by
  obtain ⟨h1, h2, h3⟩ := h
  have hl : (A ++ q1 :: T).length = (A ++ q :: T).length := by simp
  refine ⟨by rw [hl, ← h1]; simp only [upd]; rw [if_neg (by omega), if_neg (by omega)], by rw [hl]; exact h2, fun j hj => ?_⟩
  rw [hl] at hj
  have h4 := h3 j hj
  by_cases hjk : j = k
  · rw [gd_mid, if_neg (by omega), if_pos (by omega), hjk]
    simp only [upd]
    rw [if_neg (by omega)]
    exact ⟨if_pos trivial, if_pos trivial⟩
  · have u1 : upd (upd f (a + 1 + 2 * k) (nI (q1 / 256))) (a + 1 + 2 * k + 1) (nI (q1 % 256)) (a + 1 + 2 * j) = f (a + 1 + 2 * j) := by
      simp only [upd]
      rw [if_neg (by omega), if_neg (by omega)]
    have u2 : upd (upd f (a + 1 + 2 * k) (nI (q1 / 256))) (a + 1 + 2 * k + 1) (nI (q1 % 256)) (a + 1 + 2 * j + 1) = f (a + 1 + 2 * j + 1) := by
      simp only [upd]
      rw [if_neg (by omega), if_neg (by omega)]
    rw [u1, u2]
    rw [gd_mid] at h4 ⊢
    by_cases hjl : j < A.length
    · rw [if_pos hjl] at h4 ⊢; exact h4
    · rw [if_neg hjl, if_neg (by omega)] at h4 ⊢; exact h4
theorem zwf_set {f : Nat → Int32} {M : zMS} {R : (Nat → Option Nat) × (Nat → Option Nat)} {k q q1 : Nat} {A T : List Nat} (h : zwf f (M.1, upl M.2.1 4 (A ++ q :: T), R)) (hk : A.length = k) : zwf (upd (upd f (122 + 1 + 2 * k) (nI (q1 / 256))) (122 + 1 + 2 * k + 1) (nI (q1 % 256))) (M.1, upl M.2.1 4 (A ++ q1 :: T), R) := by
  have h4 : zla f 122 21 (A ++ q :: T) := by
    have := h.2.1 4 (by decide)
    dsimp only at this
    rw [upl_s] at this
    exact this
  have hl := h4.2.1
  have hlen : k < (A ++ q :: T).length := by simp; omega
  have := zwf_l (g := upd (upd f (122 + 1 + 2 * k) (nI (q1 / 256))) (122 + 1 + 2 * k + 1) (nI (q1 % 256))) (r := 4) h (by decide) (la_set h4 hk) (fun j hj => by
    have hj2 : j < 122 ∨ 122 + 2 * 21 < j := hj
    simp only [upd]
    rw [if_neg (by omega), if_neg (by omega)])
  dsimp only at this
  rw [upl_upl] at this
  exact this
theorem cur_eq {wt T : List Nat} {k : Nat} (h : k < wt.length) : wt.take (k + 1) ++ T = wt.take k ++ wt.getD k 0 :: T := by
  rw [take_s h, List.append_assoc]
  rfl
theorem tk_len {wt : List Nat} {k : Nat} (h : k ≤ wt.length) : (wt.take k).length = k := by
  rw [List.length_take]; omega
theorem er_mid {A T : List Nat} {q k : Nat} (h : A.length = k) : (A ++ q :: T).eraseIdx k = A ++ T := by
  rw [List.eraseIdx_append_of_length_le (by omega), h, Nat.sub_self]
  rfl
theorem tko_d {s : Nat} {wt : List Nat} {k : Nat} (h : k < wt.length) : tko s (wt.drop k) = if tk1 s (wt.getD k 0) / 256 = 0 then tko s (wt.drop (k + 1)) else tk1 s (wt.getD k 0) :: tko s (wt.drop (k + 1)) := by
  have e : wt.drop k = wt.getD k 0 :: wt.drop (k + 1) := by
    rw [List.drop_eq_getElem_cons h]
    simp [List.getD, List.getElem?_eq_getElem h]
  rw [e]
  simp only [tko, List.map_cons]
  by_cases h0 : tk1 s (wt.getD k 0) / 256 = 0
  · rw [if_pos h0, List.filter_cons_of_neg (by rw [h0]; decide)]
  · rw [if_neg h0, List.filter_cons_of_pos (by exact decide_eq_true h0)]
/-- a block is learnt -/
theorem zwf_k {f g : Nat → Int32} {M : zMS} {b t : Nat} (h : zwf f M) (hb : b < 12) (e1 : g (86 + b) = nI (M.1 (17 + b))) (e2 : g (98 + b) = nI t) (k : ∀ j, j ≠ 86 + b → j ≠ 98 + b → g j = f j) : zwf g (M.1, M.2.1, M.2.2.1, upo M.2.2.2 b t) := by
  obtain ⟨h1, h2, h3, h4, h5⟩ := h
  refine ⟨fun j hj => by rw [k j (by omega) (by omega)]; exact h1 j hj, fun r hr => (h2 r hr).kept (fun j g1 g2 => k j (by have := lb_top r hr; omega) (by have := lb_top r hr; omega)), fun c hc => ?_, fun c hc => ?_, fun c hc => by rw [k _ (by omega) (by omega)]; exact h5 c hc⟩
  · show g (86 + c) = knI (upo M.2.2.2 b t c) (M.1 (17 + c))
    by_cases hcb : c = b
    · subst hcb; rw [e1]; simp [upo, knI]
    · rw [k _ (by omega) (by omega)]
      have e : upo M.2.2.2 b t c = M.2.2.2 c := by simp [upo, hcb]
      rw [e]; exact h3 c hc
  · show g (98 + c) = tmI (upo M.2.2.2 b t c)
    by_cases hcb : c = b
    · subst hcb; rw [e2]; simp [upo, tmI]
    · rw [k _ (by omega) (by omega)]
      have e : upo M.2.2.2 b t c = M.2.2.2 c := by simp [upo, hcb]
      rw [e]; exact h4 c hc
/-- what waits knows nothing that is known -/
def zW (V : Nat → Nat) (kt : Nat → Option Nat) (wt : List Nat) : Prop := (∀ q ∈ wt, con V q) ∧ ∀ q ∈ wt, ∀ b, b < 12 → (kt b).isSome = true → q.testBit (8 + b) = false
theorem sg_bit {V : Nat → Nat} {b c : Nat} (hV : V b < 256) : (2 ^ (8 + b) + V b).testBit (8 + c) = decide (b = c) := by
  rw [← dv_tb, pw_div hV, Nat.testBit_two_pow]
theorem zW_tko {V : Nat → Nat} {kt : Nat → Option Nat} {wt : List Nat} {b t : Nat} (h : zW V kt wt) (hb : b < 12) (hV : ∀ b, b < 12 → V b < 256) : zW V (upo kt b t) (tko (2 ^ (8 + b) + V b) wt) := by
  refine ⟨con_tko (con_one hb hV) h.1, fun q hq c hc hs => ?_⟩
  obtain ⟨h1, -⟩ := List.mem_filter.mp hq
  obtain ⟨q0, hq0, rfl⟩ := List.mem_map.mp h1
  have hold : c ≠ b → q0.testBit (8 + c) = false := fun hcb => h.2 q0 hq0 c hc (by simpa [upo, hcb] using hs)
  unfold tk1
  split
  · rename_i h0
    by_cases hcb : c = b
    · subst hcb
      rw [pw_div (hV c hc)] at h0
      rw [← dv_tb]
      exact tb_zero.mp h0
    · exact hold hcb
  · rename_i h0
    rw [Nat.testBit_xor, sg_bit (hV b hb)]
    by_cases hcb : c = b
    · subst hcb
      rw [pw_div (hV c hc)] at h0
      have h2 : (q0 / 256).testBit c = true := tb_pos.mp (Nat.pos_of_ne_zero h0)
      rw [dv_tb] at h2
      rw [h2, decide_eq_true rfl]; rfl
    · rw [hold hcb, decide_eq_false (fun z => hcb z.symm)]; rfl
theorem zW_er {V : Nat → Nat} {kt : Nat → Option Nat} {wt : List Nat} {i : Nat} (h : zW V kt wt) : zW V kt (wt.eraseIdx i) := ⟨con_er h.1, fun q hq => h.2 q (List.mem_of_mem_eraseIdx hq)⟩
theorem cntn_lt {kt : Nat → Option Nat} {b : Nat} (h : (kt b).isSome = false) : ∀ n, b < n → cntn kt n < n
  | 0, hb => absurd hb (Nat.not_lt_zero b)
  | n + 1, hb => by
    show cntn kt n + (if (kt n).isSome then 1 else 0) < n + 1
    by_cases hbn : b = n
    · subst hbn
      have := cntn_le kt b
      rw [h]; simp; omega
    · have := cntn_lt h n (by omega)
      split <;> omega
theorem pl1_s {t n x b : Nat} {kt : Nat → Option Nat} {wt : List Nat} (hx : x / 256 = 2 ^ b) (hb : b < 12) (hk : (kt b).isSome = false) : pl1 t (n + 1) x kt wt = pl1 t n ((tko x wt).getD (rfs (tko x wt)) 0) (upo kt b t) ((tko x wt).eraseIdx (rfs (tko x wt))) := by
  show (if _ then _ else _) = _
  have h2 := Nat.two_pow_pos b
  rw [if_neg (by omega), hx, log2_p b hb]
  unfold lrn
  rw [hk]
  rfl
theorem pl1_0 {t n x : Nat} {kt : Nat → Option Nat} {wt : List Nat} (hx : x / 256 = 0) : pl1 t n x kt wt = (kt, wt) := by
  cases n with
  | zero => rfl
  | succ n => exact if_pos hx
theorem rfs_le : ∀ ps : List Nat, rfs ps ≤ ps.length
  | [] => Nat.le_refl 0
  | q :: t => by
    have := rfs_le t
    show (if _ then 0 else rfs t + 1) ≤ t.length + 1
    split
    · exact Nat.zero_le _
    · exact Nat.succ_le_succ this
theorem rfs_one : ∀ ps : List Nat, rfs ps < ps.length → pop (ps.getD (rfs ps) 0 / 256) = 1
  | [], h => absurd h (Nat.not_lt_zero _)
  | q :: t, h => by
    by_cases h0 : pop (q / 256) = 1
    · have : rfs (q :: t) = 0 := if_pos h0
      rw [this]; exact h0
    · have : rfs (q :: t) = rfs t + 1 := if_neg h0
      rw [this] at h ⊢
      exact rfs_one t (by simpa using h)
def faI (ps : List Nat) : Int32 := if rfs ps < ps.length then nI (rfs ps) else -9
theorem er_ge {ps : List Nat} {k : Nat} (h : ps.length ≤ k) : ps.eraseIdx k = ps := List.eraseIdx_of_length_le h
theorem n9 {n : Nat} (h : n < 2 ^ 30) : nI n ≠ -9 := by
  intro e
  have h1 := nI_toInt (n := n) (by omega)
  rw [e] at h1
  have : (-9 : Int32).toInt = -9 := by decide
  omega
theorem knI_9 {o : Option Nat} {x : Nat} (hx : x < 256) : knI o x = -9 ↔ o.isSome = false := by
  cases o with
  | none => exact ⟨fun _ => rfl, fun _ => rfl⟩
  | some t => exact ⟨fun h => absurd h (n9 (by omega)), fun h => by cases h⟩
theorem tof_s {V : Nat → Nat} {kt : Nat → Option Nat} {x b : Nat} : tofn V kt x (b + 1) = if x.testBit (8 + b) then tofn V kt x b ^^^ sgl V kt b else tofn V kt x b := rfl
theorem tof_hi {V : Nat → Nat} {kt : Nat → Option Nat} {x K : Nat} (hx : x < 2 ^ (8 + K)) : ∀ n, K ≤ n → tofn V kt x n = tofn V kt x K
  | 0, h => by rw [show K = 0 by omega]
  | n + 1, h => by
    rcases Nat.lt_or_ge K (n + 1) with h1 | h1
    · rw [tof_s, hi_bit hx (show 8 + K ≤ 8 + n by omega)]
      exact tof_hi hx n (by omega)
    · rw [show n + 1 = K by omega]
theorem tof_bit {V : Nat → Nat} {kt : Nat → Option Nat} {x : Nat} (hV : ∀ b, b < 12 → V b < 256) : ∀ n, n ≤ 12 → ∀ c, (tofn V kt x n).testBit (8 + c) = (x.testBit (8 + c) && !(decide (c < n) && (kt c).isSome))
  | 0, _, c => by simp [tofn]
  | n + 1, hn, c => by
    have ih := tof_bit (kt := kt) (x := x) hV n (by omega) c
    have e1 : c ≠ n → decide (c < n + 1) = decide (c < n) := fun h => by simp; omega
    rw [tof_s]
    by_cases hb : x.testBit (8 + n) = true
    · rw [if_pos hb, Nat.testBit_xor, ih]
      unfold sgl
      by_cases hs : (kt n).isSome = true
      · rw [if_pos hs, sg_bit (hV n (by omega))]
        by_cases hcn : c = n
        · subst hcn; simp [hb, hs]
        · rw [decide_eq_false (show ¬ n = c from fun z => hcn z.symm), e1 hcn, Bool.xor_false]
      · rw [if_neg hs, Nat.zero_testBit, Bool.xor_false]
        by_cases hcn : c = n
        · subst hcn
          have : (kt c).isSome = false := by simpa using hs
          simp [this]
        · rw [e1 hcn]
    · rw [if_neg hb, ih]
      by_cases hcn : c = n
      · subst hcn
        have : x.testBit (8 + c) = false := by simpa using hb
        rw [this]; rfl
      · rw [e1 hcn]
theorem pop_0 : pop 0 = 0 := by decide
theorem upl4 (M : zMS) (l : List Nat) (kt : Nat → Option Nat) : ((M.1, upl M.2.1 4 l, M.2.2.1, kt) : zMS).2.1 4 = l := by
  show upl M.2.1 4 l 4 = l
  exact upl_s _ _ _
theorem pop_p : ∀ b, b < 12 → pop (2 ^ b) = 1 := by decide +kernel
theorem pop_z {x : Nat} (hx : x < 4096) (h1 : ¬ 1 < pop x) (h2 : pop x ≠ 1) : x = 0 := by
  by_cases h : x = 0
  · exact h
  · have := pop_pos hx h
    omega
theorem drop1_app {l : List Nat} {x : Nat} (h : 0 < l.length) : (l ++ [x]).eraseIdx 0 = l.drop 1 ++ [x] := by
  cases l with
  | nil => cases h
  | cons a t => rfl
theorem zW_unk {V : Nat → Nat} {kt : Nat → Option Nat} {wt : List Nat} (h : zW V kt wt) (hV : ∀ b, b < 12 → V b < 256) (hl : rfs wt < wt.length) : (kt (Nat.log2 (wt.getD (rfs wt) 0 / 256))).isSome = false := by
  obtain ⟨hB, hLB⟩ := con_single (con_gd h.1 (i := rfs wt)) (rfs_one wt hl)
  cases hs : (kt (Nat.log2 (wt.getD (rfs wt) 0 / 256))).isSome with
  | false => rfl
  | true =>
    have h1 := gd_mem (P := fun q => ∀ b, b < 12 → (kt b).isSome = true → q.testBit (8 + b) = false) h.2 hl _ hB hs
    have h3 := congrArg (fun z => Nat.testBit z (8 + Nat.log2 (wt.getD (rfs wt) 0 / 256))) hLB
    rw [h1, sg_bit (V := V) (hV _ hB), decide_eq_true rfl] at h3
    cases h3
set_option maxRecDepth 100000 in
set_option maxHeartbeats 4000000 in
theorem m_X7_learn (l : Launch) (G : zG) (sh : zH) (v : zV) (N : Nat) {m : Nat} {M : zMS} {b : Nat} (hp : zMD G sh N m) (hv : zwf (v (m + 1)) M) (hb : b < 12) (hV : M.1 (17 + b) < 256) (hwt : ∀ q ∈ M.2.1 4, q < 2 ^ 20) : zm l G yX7_learn cX7_learn 5 none 2 [.ref m, .int (nI b), .int (nI (M.1 (17 + b)))] sh v N (fun r v1 => r = none ∧ zwf (v1 (m + 1)) (M.1, upl M.2.1 4 (tko (2 ^ (8 + b) + M.1 (17 + b)) (M.2.1 4)), M.2.2.1, upo M.2.2.2 b (M.1 2)) ∧ fA v v1 m) := by
  refine zM.of (by decide) rfl (Nat.le_of_ble_eq_true rfl) ?_
  intro p e s mi args below meth c C
  obtain ⟨hB, hN, hs0, hs1, hs2, hs3, hs4, hs5, hs6, hs7, hs8⟩ := id hp
  have hd0 : G.2.2.1 ≤ m ∧ m < N := ⟨hB, by omega⟩
  have hd1 : G.2.2.1 ≤ m + 1 ∧ m + 1 < N := ⟨by omega, by omega⟩
  have hd2 : G.2.2.1 ≤ m + 2 ∧ m + 2 < N := ⟨by omega, by omega⟩
  have hd3 : G.2.2.1 ≤ m + 3 ∧ m + 3 < N := ⟨by omega, by omega⟩
  have hd4 : G.2.2.1 ≤ m + 4 ∧ m + 4 < N := ⟨by omega, by omega⟩
  have hd5 : G.2.2.1 ≤ m + 5 ∧ m + 5 < N := ⟨by omega, by omega⟩
  have hd6 : G.2.2.1 ≤ m + 6 ∧ m + 6 < N := ⟨by omega, by omega⟩
  have hd7 : G.2.2.1 ≤ m + 7 ∧ m + 7 < N := ⟨by omega, by omega⟩
  have hd8 : G.2.2.1 ≤ m + 8 ∧ m + 8 < N := ⟨by omega, by omega⟩
  have loop : ∀ (k : Nat) (v' : zV), k ≤ (M.2.1 4).length → zwf (v' (m + 1)) (M.1, upl M.2.1 4 ((M.2.1 4).take k ++ tko (2 ^ (8 + b) + M.1 (17 + b)) ((M.2.1 4).drop k)), M.2.2.1, upo M.2.2.2 b (M.1 2)) → fA v v' m → VV p l e ({ frames := 2, cells := 0, slots := 0, locals := 32 * 2 }) s mi args below meth c 0 0 (zQ below (fun r sh1 v1 N1 => sh1 = sh ∧ N1 = N ∧ (r = none ∧ zwf (v1 (m + 1)) (M.1, upl M.2.1 4 (tko (2 ^ (8 + b) + M.1 (17 + b)) (M.2.1 4)), M.2.2.1, upo M.2.2.2 b (M.1 2)) ∧ fA v v1 m)) G args s 0 0) G 5 sh v' N 35 [some (.ref m), some (.int (nI b)), some (.int (nI (M.1 (17 + b)))), some (.int (tI k)), none] [] := by
    intro k
    induction k with
    | zero =>
      intro v' hk e1 e2
      refine r_iload_n C (pc := 35) rfl rfl dX7_learn_35 ?_
      refine r_if_lt C (pc := 36) (tgt := 111) dX7_learn_36 (by decide) (fun c_36 => ?_) (fun c_36 => by exfalso; exact c_36 tI_0)
      exact r_vret C (pc := 111) rfl dX7_learn_111 ⟨rfl, rfl, rfl, (by have h : ((M.2.1 4).take 0 ++ tko (2 ^ (8 + b) + M.1 (17 + b)) ((M.2.1 4).drop 0)) = tko (2 ^ (8 + b) + M.1 (17 + b)) (M.2.1 4) := rfl; rw [h] at e1; exact e1), e2⟩
    | succ k ih =>
      intro v' hk e1 e2
      rw [tI_s k]
      have hkl : k < (M.2.1 4).length := by omega
      have hql : ((M.2.1 4).getD k 0) < 2 ^ 20 := gd_lt20 hwt
      have e1c : zwf (v' (m + 1)) (M.1, upl M.2.1 4 ((M.2.1 4).take k ++ ((M.2.1 4).getD k 0) :: tko (2 ^ (8 + b) + M.1 (17 + b)) ((M.2.1 4).drop (k + 1))), M.2.2.1, upo M.2.2.2 b (M.1 2)) := by rw [← cur_eq hkl]; exact e1
      have e14 : zla (v' (m + 1)) 122 21 ((M.2.1 4).take k ++ ((M.2.1 4).getD k 0) :: tko (2 ^ (8 + b) + M.1 (17 + b)) ((M.2.1 4).drop (k + 1))) := by
        have h := e1c.2.1 4 (by decide)
        rw [upl4] at h
        exact h
      have hgd : ((M.2.1 4).take k ++ ((M.2.1 4).getD k 0) :: tko (2 ^ (8 + b) + M.1 (17 + b)) ((M.2.1 4).drop (k + 1))).getD k 0 = ((M.2.1 4).getD k 0) := by rw [gd_mid, if_neg (by rw [tk_len (by omega)]; omega), if_pos (tk_len (by omega)).symm]
      have hlt : k < ((M.2.1 4).take k ++ ((M.2.1 4).getD k 0) :: tko (2 ^ (8 + b) + M.1 (17 + b)) ((M.2.1 4).drop (k + 1))).length := by rw [List.length_append, tk_len (by omega), List.length_cons]; omega
      have hrow := e14.2.2 k hlt
      rw [hgd] at hrow
      have hcap := e14.2.1
      have hk21 : k < 21 := by omega
      refine r_iload_n C (pc := 35) rfl rfl dX7_learn_35 ?_
      refine n_if_lt C (pc := 36) (by omega) dX7_learn_36 ?_
      refine r_bipush C (pc := 39) (x := (nI 122)) (by decide) dX7_learn_39 ?_
      refine r_iload_n C (pc := 41) rfl rfl dX7_learn_41 ?_
      refine r_callS C (pc := 42) (st := []) (m_X7_setAt l G sh v' N (a := 122) (k := k)) kyX7_setAt q_743 rfl rfl (Nat.le_of_ble_eq_true rfl) ⟨Nat.le_of_ble_eq_true rfl, Nat.le_of_ble_eq_true rfl⟩ ⟨Nat.le_of_ble_eq_true rfl, Nat.le_of_ble_eq_true rfl⟩ dX7_learn_42 (fun r42 v42 hp42 => ?_)
      obtain ⟨rfl, ehp42⟩ := hp42
      refine VV.vq ehp42 ?_
      refine VV.eq (st2 := [.int (nI (122 + 1 + 2 * k))]) rfl ?_
      refine r_istore C (pc := 45) (lv2 := [some (.ref m), some (.int (nI b)), some (.int (nI (M.1 (17 + b)))), some (.int (nI k)), some (.int (nI (122 + 1 + 2 * k)))]) (Nat.le_of_ble_eq_true rfl) rfl rfl dX7_learn_45 ?_
      refine r_aload_n C (pc := 47) rfl rfl dX7_learn_47 ?_
      refine r_get C (pc := 48) (ci := 7) (k := 0) (w := .ref (m + 1)) rfl (by decide) inX7 (by decide) q_654 (Or.inl hd0) hs0 (zl_ref _ _) dX7_learn_48 ?_
      refine r_iload C (pc := 51) rfl dX7_learn_51 ?_
      refine r_iald C (pc := 53) (x := (nI (((M.2.1 4).getD k 0) / 256))) (Or.inl hd1) hs1 (by omega) (by omega) (hrow.1) dX7_learn_53 ?_
      refine r_iload_n C (pc := 54) rfl rfl dX7_learn_54 ?_
      refine r_ishr C (pc := 55) (z := (nI (((M.2.1 4).getD k 0) / 256 / 2 ^ b))) (nI_shr (by omega) (by omega)) dX7_learn_55 ?_
      refine r_iconst C (pc := 56) (x := (nI 1)) (by decide) dX7_learn_56 ?_
      refine r_iand C (pc := 57) (z := (nI (if (((M.2.1 4).getD k 0) / 256).testBit b then 1 else 0))) (by rw [nx_and, tb_bit]) dX7_learn_57 ?_
      refine r_iconst C (pc := 58) (x := (nI 1)) (by decide) dX7_learn_58 ?_
      refine n_icmp_ne C (pc := 59) (tgt := 88) (by split <;> decide) (by decide) dX7_learn_59 (by decide) (fun c_59 => ?_) (fun c_59 => ?_)
      · have hb0 : (((M.2.1 4).getD k 0) / 256).testBit b = false := by
          cases h : (((M.2.1 4).getD k 0) / 256).testBit b with
          | false => rfl
          | true => rw [h] at c_59; simp at c_59
        skip
        refine r_aload_n C (pc := 88) rfl rfl dX7_learn_88 ?_
        refine r_get C (pc := 89) (ci := 7) (k := 0) (w := .ref (m + 1)) rfl (by decide) inX7 (by decide) q_654 (Or.inl hd0) hs0 (zl_ref _ _) dX7_learn_89 ?_
        refine r_iload C (pc := 92) rfl dX7_learn_92 ?_
        refine r_iald C (pc := 94) (x := (nI (((M.2.1 4).getD k 0) / 256))) (Or.inl hd1) hs1 (by omega) (by omega) (hrow.1) dX7_learn_94 ?_
        refine n_if_ne C (pc := 95) (tgt := 105) (by have : 2 ^ b < 4096 := (Nat.pow_lt_pow_right (by decide) hb : 2 ^ b < 2 ^ 12); have : ((M.2.1 4).getD k 0) / 256 ^^^ 2 ^ b < 2 ^ 12 := Nat.xor_lt_two_pow (by omega) (by omega); omega) dX7_learn_95 (by decide) (fun c_95 => ?_) (fun c_95 => ?_)
        · refine r_iinc C (pc := 105) (lv2 := [some (.ref m), some (.int (nI b)), some (.int (nI (M.1 (17 + b)))), some (.int (tI k)), some (.int (nI (122 + 1 + 2 * k)))]) (y := (tI k)) rfl (rfl) (Nat.le_of_ble_eq_true rfl) rfl rfl dX7_learn_105 ?_
          refine r_goto C (pc := 108) (tgt := 35) dX7_learn_108 (by decide) ?_
          refine VV.fg 4 (lv2 := [some (.ref m), some (.int (nI b)), some (.int (nI (M.1 (17 + b)))), some (.int (tI k)), none]) rfl ?_
          have ht1 : tk1 (2 ^ (8 + b) + M.1 (17 + b)) ((M.2.1 4).getD k 0) = ((M.2.1 4).getD k 0) := tk1_0 (by rw [pw_div hV]; exact tb_zero.mpr hb0)
          have htd := tko_d (s := (2 ^ (8 + b) + M.1 (17 + b))) (wt := (M.2.1 4)) (k := k) hkl
          rw [ht1] at htd
          rw [if_neg (show ¬ ((M.2.1 4).getD k 0) / 256 = 0 by omega)] at htd
          exact ih v' (by omega) (by rw [htd]; exact e1c) (e2)
        · refine r_aload_n C (pc := 98) rfl rfl dX7_learn_98 ?_
          refine r_bipush C (pc := 99) (x := (nI 122)) (by decide) dX7_learn_99 ?_
          refine r_iload_n C (pc := 101) rfl rfl dX7_learn_101 ?_
          refine r_callV C (pc := 102) (st := []) (m_X7_drop l G sh v' N (r0 := 4) (k := k) hp e1c (by decide) (by rw [upl4, List.length_append, tk_len (by omega), List.length_cons]; omega)) kyX7_drop q_739 rfl (Or.inl hd0) hs0 (by decide) rfl rfl rfl (Nat.le_of_ble_eq_true rfl) ⟨Nat.le_of_ble_eq_true rfl, Nat.le_of_ble_eq_true rfl⟩ ⟨Nat.le_of_ble_eq_true rfl, Nat.le_of_ble_eq_true rfl⟩ dX7_learn_102 (fun r102 v102 hp102 => ?_)
          obtain ⟨rfl, g1, g2⟩ := hp102
          refine VV.eq (st2 := []) rfl ?_
          rw [upl4] at g1
          dsimp only at g1
          rw [upl_upl, er_mid (tk_len (by omega))] at g1
          refine r_iinc C (pc := 105) (lv2 := [some (.ref m), some (.int (nI b)), some (.int (nI (M.1 (17 + b)))), some (.int (tI k)), some (.int (nI (122 + 1 + 2 * k)))]) (y := (tI k)) rfl (rfl) (Nat.le_of_ble_eq_true rfl) rfl rfl dX7_learn_105 ?_
          refine r_goto C (pc := 108) (tgt := 35) dX7_learn_108 (by decide) ?_
          refine VV.fg 4 (lv2 := [some (.ref m), some (.int (nI b)), some (.int (nI (M.1 (17 + b)))), some (.int (tI k)), none]) rfl ?_
          have ht1 : tk1 (2 ^ (8 + b) + M.1 (17 + b)) ((M.2.1 4).getD k 0) = ((M.2.1 4).getD k 0) := tk1_0 (by rw [pw_div hV]; exact tb_zero.mpr hb0)
          have htd := tko_d (s := (2 ^ (8 + b) + M.1 (17 + b))) (wt := (M.2.1 4)) (k := k) hkl
          rw [ht1] at htd
          rw [if_pos c_95] at htd
          exact ih v102 (by omega) (by rw [htd]; exact g1) ((e2).tr g2)
      · have hb1 : (((M.2.1 4).getD k 0) / 256).testBit b = true := by
          cases h : (((M.2.1 4).getD k 0) / 256).testBit b with
          | true => rfl
          | false => rw [h] at c_59; simp at c_59
        refine r_aload_n C (pc := 62) rfl rfl dX7_learn_62 ?_
        refine r_get C (pc := 63) (ci := 7) (k := 0) (w := .ref (m + 1)) rfl (by decide) inX7 (by decide) q_654 (Or.inl hd0) hs0 (zl_ref _ _) dX7_learn_63 ?_
        refine r_iload C (pc := 66) rfl dX7_learn_66 ?_
        refine r_dup2 C (pc := 68) rfl rfl dX7_learn_68 ?_
        refine r_iald C (pc := 69) (x := (nI (((M.2.1 4).getD k 0) / 256))) (Or.inl hd1) hs1 (by omega) (by omega) (hrow.1) dX7_learn_69 ?_
        refine r_iconst C (pc := 70) (x := (nI 1)) (by decide) dX7_learn_70 ?_
        refine r_iload_n C (pc := 71) rfl rfl dX7_learn_71 ?_
        refine r_ishl C (pc := 72) (z := (nI (2 ^ b))) (nI_shl1 (by omega)) dX7_learn_72 ?_
        refine r_ixor C (pc := 73) (z := (nI ((((M.2.1 4).getD k 0) / 256) ^^^ (2 ^ b)))) (nx_xor _ _) dX7_learn_73 ?_
        refine r_iast C (pc := 74) hd1 hs1 (by omega) (by omega) dX7_learn_74 ?_
        refine VV.gn (fun w74 ew74 => ?_)
        refine r_aload_n C (pc := 75) rfl rfl dX7_learn_75 ?_
        refine r_get C (pc := 76) (ci := 7) (k := 0) (w := .ref (m + 1)) rfl (by decide) inX7 (by decide) q_654 (Or.inl hd0) hs0 (zl_ref _ _) dX7_learn_76 ?_
        refine r_iload C (pc := 79) rfl dX7_learn_79 ?_
        refine r_iconst C (pc := 81) (x := (nI 1)) (by decide) dX7_learn_81 ?_
        refine r_iadd C (pc := 82) (z := (nI ((122 + 1 + 2 * k) + 1))) (nI_add _ _) dX7_learn_82 ?_
        refine r_dup2 C (pc := 83) rfl rfl dX7_learn_83 ?_
        refine r_iald C (pc := 84) (x := (nI (((M.2.1 4).getD k 0) % 256))) (Or.inl hd1) hs1 (by omega) (by omega) (by rw [ew74, z2_ne (by omega)]; exact hrow.2) dX7_learn_84 ?_
        refine r_iload_n C (pc := 85) rfl rfl dX7_learn_85 ?_
        refine r_ixor C (pc := 86) (z := (nI ((((M.2.1 4).getD k 0) % 256) ^^^ (M.1 (17 + b))))) (nx_xor _ _) dX7_learn_86 ?_
        refine r_iast C (pc := 87) hd1 hs1 (by omega) (by omega) dX7_learn_87 ?_
        refine VV.gn (fun w87 ew87 => ?_)
        have h87 : zwf (w87 (m + 1)) (M.1, upl M.2.1 4 ((M.2.1 4).take k ++ (((M.2.1 4).getD k 0) ^^^ (2 ^ (8 + b) + M.1 (17 + b))) :: tko (2 ^ (8 + b) + M.1 (17 + b)) ((M.2.1 4).drop (k + 1))), M.2.2.1, upo M.2.2.2 b (M.1 2)) := by
          have h := zwf_set (q1 := ((M.2.1 4).getD k 0) ^^^ (2 ^ (8 + b) + M.1 (17 + b))) e1c (tk_len (by omega))
          rw [x_div, x_mod, pw_div hV, pw_mod hV] at h
          have e : w87 (m + 1) = upd (upd (v' (m + 1)) (122 + 1 + 2 * k) (nI (((M.2.1 4).getD k 0) / 256 ^^^ 2 ^ b))) (122 + 1 + 2 * k + 1) (nI (((M.2.1 4).getD k 0) % 256 ^^^ M.1 (17 + b))) := by rw [ew87, z2_at, ew74, z2_at]
          rw [e]
          exact h
        have hf87 : fA v w87 m := by rw [ew87, ew74]; exact (e2.z2).z2
        refine r_aload_n C (pc := 88) rfl rfl dX7_learn_88 ?_
        refine r_get C (pc := 89) (ci := 7) (k := 0) (w := .ref (m + 1)) rfl (by decide) inX7 (by decide) q_654 (Or.inl hd0) hs0 (zl_ref _ _) dX7_learn_89 ?_
        refine r_iload C (pc := 92) rfl dX7_learn_92 ?_
        refine r_iald C (pc := 94) (x := (nI (((M.2.1 4).getD k 0) / 256 ^^^ 2 ^ b))) (Or.inl hd1) hs1 (by omega) (by omega) (by rw [ew87, z2_ne (by omega), ew74, z2_self]) dX7_learn_94 ?_
        refine n_if_ne C (pc := 95) (tgt := 105) (by have : 2 ^ b < 4096 := (Nat.pow_lt_pow_right (by decide) hb : 2 ^ b < 2 ^ 12); have : ((M.2.1 4).getD k 0) / 256 ^^^ 2 ^ b < 2 ^ 12 := Nat.xor_lt_two_pow (by omega) (by omega); omega) dX7_learn_95 (by decide) (fun c_95 => ?_) (fun c_95 => ?_)
        · refine r_iinc C (pc := 105) (lv2 := [some (.ref m), some (.int (nI b)), some (.int (nI (M.1 (17 + b)))), some (.int (tI k)), some (.int (nI (122 + 1 + 2 * k)))]) (y := (tI k)) rfl (rfl) (Nat.le_of_ble_eq_true rfl) rfl rfl dX7_learn_105 ?_
          refine r_goto C (pc := 108) (tgt := 35) dX7_learn_108 (by decide) ?_
          refine VV.fg 4 (lv2 := [some (.ref m), some (.int (nI b)), some (.int (nI (M.1 (17 + b)))), some (.int (tI k)), none]) rfl ?_
          have ht1 : tk1 (2 ^ (8 + b) + M.1 (17 + b)) ((M.2.1 4).getD k 0) = ((M.2.1 4).getD k 0) ^^^ (2 ^ (8 + b) + M.1 (17 + b)) := tk1_1 (by rw [pw_div hV]; exact tb_pos.mpr hb1)
          have htd := tko_d (s := (2 ^ (8 + b) + M.1 (17 + b))) (wt := (M.2.1 4)) (k := k) hkl
          rw [ht1] at htd
          rw [if_neg (by rw [x_div, pw_div hV]; omega)] at htd
          exact ih w87 (by omega) (by rw [htd]; exact h87) (hf87)
        · refine r_aload_n C (pc := 98) rfl rfl dX7_learn_98 ?_
          refine r_bipush C (pc := 99) (x := (nI 122)) (by decide) dX7_learn_99 ?_
          refine r_iload_n C (pc := 101) rfl rfl dX7_learn_101 ?_
          refine r_callV C (pc := 102) (st := []) (m_X7_drop l G sh w87 N (r0 := 4) (k := k) hp h87 (by decide) (by rw [upl4, List.length_append, tk_len (by omega), List.length_cons]; omega)) kyX7_drop q_739 rfl (Or.inl hd0) hs0 (by decide) rfl rfl rfl (Nat.le_of_ble_eq_true rfl) ⟨Nat.le_of_ble_eq_true rfl, Nat.le_of_ble_eq_true rfl⟩ ⟨Nat.le_of_ble_eq_true rfl, Nat.le_of_ble_eq_true rfl⟩ dX7_learn_102 (fun r102' v102' hp102' => ?_)
          obtain ⟨rfl, g1, g2⟩ := hp102'
          refine VV.eq (st2 := []) rfl ?_
          rw [upl4] at g1
          dsimp only at g1
          rw [upl_upl, er_mid (tk_len (by omega))] at g1
          refine r_iinc C (pc := 105) (lv2 := [some (.ref m), some (.int (nI b)), some (.int (nI (M.1 (17 + b)))), some (.int (tI k)), some (.int (nI (122 + 1 + 2 * k)))]) (y := (tI k)) rfl (rfl) (Nat.le_of_ble_eq_true rfl) rfl rfl dX7_learn_105 ?_
          refine r_goto C (pc := 108) (tgt := 35) dX7_learn_108 (by decide) ?_
          refine VV.fg 4 (lv2 := [some (.ref m), some (.int (nI b)), some (.int (nI (M.1 (17 + b)))), some (.int (tI k)), none]) rfl ?_
          have ht1 : tk1 (2 ^ (8 + b) + M.1 (17 + b)) ((M.2.1 4).getD k 0) = ((M.2.1 4).getD k 0) ^^^ (2 ^ (8 + b) + M.1 (17 + b)) := tk1_1 (by rw [pw_div hV]; exact tb_pos.mpr hb1)
          have htd := tko_d (s := (2 ^ (8 + b) + M.1 (17 + b))) (wt := (M.2.1 4)) (k := k) hkl
          rw [ht1] at htd
          rw [if_pos (by rw [x_div, pw_div hV]; exact c_95)] at htd
          exact ih v102' (by omega) (by rw [htd]; exact g1) ((hf87).tr g2)
  refine r_aload_n C (pc := 0) rfl rfl dX7_learn_0 ?_
  refine r_get C (pc := 1) (ci := 7) (k := 0) (w := .ref (m + 1)) rfl (by decide) inX7 (by decide) q_654 (Or.inl hd0) hs0 (zl_ref _ _) dX7_learn_1 ?_
  refine r_bipush C (pc := 4) (x := (nI 86)) (by decide) dX7_learn_4 ?_
  refine r_iload_n C (pc := 6) rfl rfl dX7_learn_6 ?_
  refine r_iadd C (pc := 7) (z := (nI (86 + b))) (nI_add _ _) dX7_learn_7 ?_
  refine r_iload_n C (pc := 8) rfl rfl dX7_learn_8 ?_
  refine r_iast C (pc := 9) hd1 hs1 (by omega) (by omega) dX7_learn_9 ?_
  refine VV.gn (fun w9 ew9 => ?_)
  refine r_aload_n C (pc := 10) rfl rfl dX7_learn_10 ?_
  refine r_get C (pc := 11) (ci := 7) (k := 0) (w := .ref (m + 1)) rfl (by decide) inX7 (by decide) q_654 (Or.inl hd0) hs0 (zl_ref _ _) dX7_learn_11 ?_
  refine r_bipush C (pc := 14) (x := (nI 98)) (by decide) dX7_learn_14 ?_
  refine r_iload_n C (pc := 16) rfl rfl dX7_learn_16 ?_
  refine r_iadd C (pc := 17) (z := (nI (98 + b))) (nI_add _ _) dX7_learn_17 ?_
  refine r_aload_n C (pc := 18) rfl rfl dX7_learn_18 ?_
  refine r_get C (pc := 19) (ci := 7) (k := 0) (w := .ref (m + 1)) rfl (by decide) inX7 (by decide) q_654 (Or.inl hd0) hs0 (zl_ref _ _) dX7_learn_19 ?_
  refine r_iconst C (pc := 22) (x := (nI 2)) (by decide) dX7_learn_22 ?_
  refine r_iald C (pc := 23) (x := (nI (M.1 2))) (Or.inl hd1) hs1 (by omega) (by omega) (by rw [ew9, z2_ne (by omega)]; exact hv.1 2 (by decide)) dX7_learn_23 ?_
  refine r_iast C (pc := 24) hd1 hs1 (by omega) (by omega) dX7_learn_24 ?_
  refine VV.gn (fun w24 ew24 => ?_)
  have hrow0 : zwf (w24 (m + 1)) (M.1, M.2.1, M.2.2.1, upo M.2.2.2 b (M.1 2)) := zwf_k hv hb (by rw [ew24, z2_ne (by omega), ew9, z2_self]) (by rw [ew24, z2_self]) (fun j h1 h2 => by rw [ew24, z2_ne (by omega), ew9, z2_ne (by omega)])
  refine r_aload_n C (pc := 25) rfl rfl dX7_learn_25 ?_
  refine r_get C (pc := 26) (ci := 7) (k := 0) (w := .ref (m + 1)) rfl (by decide) inX7 (by decide) q_654 (Or.inl hd0) hs0 (zl_ref _ _) dX7_learn_26 ?_
  refine r_bipush C (pc := 29) (x := (nI 122)) (by decide) dX7_learn_29 ?_
  refine r_iald C (pc := 31) (x := (nI ((M.2.1 4).length))) (Or.inl hd1) hs1 (by omega) (by omega) ((hrow0.2.1 4 (by decide)).1) dX7_learn_31 ?_
  refine r_iconst C (pc := 32) (x := (nI 1)) (by decide) dX7_learn_32 ?_
  refine r_isub C (pc := 33) (z := (tI (M.2.1 4).length)) (nI_sub1 _) dX7_learn_33 ?_
  refine r_istore_n C (pc := 34) (lv2 := [some (.ref m), some (.int (nI b)), some (.int (nI (M.1 (17 + b)))), some (.int (tI (M.2.1 4).length)), none]) rfl (Nat.le_of_ble_eq_true rfl) rfl rfl dX7_learn_34 ?_
  exact loop (M.2.1 4).length w24 (Nat.le_refl _) (by rw [List.take_length, List.drop_length]; show zwf _ (M.1, upl M.2.1 4 ((M.2.1 4) ++ []), _); rw [List.append_nil, upl_id]; exact hrow0) (by rw [ew24, ew9]; exact (fA.rf.z2).z2)
set_option maxRecDepth 100000 in
set_option maxHeartbeats 4000000 in
theorem m_X7_firstAlone (l : Launch) (G : zG) (sh : zH) (v : zV) (N : Nat) {m : Nat} {M : zMS} (hp : zMD G sh N m) (hv : zwf (v (m + 1)) M) (hwt : ∀ q ∈ M.2.1 4, q < 2 ^ 20) : zm l G yX7_firstAlone cX7_firstAlone 2 (some .int) 1 [.ref m] sh v N (fun r v1 => r = some (.int (faI (M.2.1 4))) ∧ v1 = v) := by
  refine zM.of (by decide) rfl (Nat.le_of_ble_eq_true rfl) ?_
  intro p e s mi args below meth c C
  obtain ⟨hB, hN, hs0, hs1, hs2, hs3, hs4, hs5, hs6, hs7, hs8⟩ := id hp
  have hd0 : G.2.2.1 ≤ m ∧ m < N := ⟨hB, by omega⟩
  have hd1 : G.2.2.1 ≤ m + 1 ∧ m + 1 < N := ⟨by omega, by omega⟩
  have hd2 : G.2.2.1 ≤ m + 2 ∧ m + 2 < N := ⟨by omega, by omega⟩
  have hd3 : G.2.2.1 ≤ m + 3 ∧ m + 3 < N := ⟨by omega, by omega⟩
  have hd4 : G.2.2.1 ≤ m + 4 ∧ m + 4 < N := ⟨by omega, by omega⟩
  have hd5 : G.2.2.1 ≤ m + 5 ∧ m + 5 < N := ⟨by omega, by omega⟩
  have hd6 : G.2.2.1 ≤ m + 6 ∧ m + 6 < N := ⟨by omega, by omega⟩
  have hd7 : G.2.2.1 ≤ m + 7 ∧ m + 7 < N := ⟨by omega, by omega⟩
  have hd8 : G.2.2.1 ≤ m + 8 ∧ m + 8 < N := ⟨by omega, by omega⟩
  have hla : zla (v (m + 1)) 122 21 (M.2.1 4) := hv.2.1 4 (by decide)
  have hla2 := hla.2.1
  have loop : ∀ (n k : Nat), (M.2.1 4).length - k < n → k ≤ (M.2.1 4).length → (∀ j, j < k → pop ((M.2.1 4).getD j 0 / 256) ≠ 1) → VV p l e ({ frames := 1, cells := 0, slots := 0, locals := 32 * 1 }) s mi args below meth c 0 0 (zQ below (fun r sh1 v1 N1 => sh1 = sh ∧ N1 = N ∧ (r = some (.int (faI (M.2.1 4))) ∧ v1 = v)) G args s 0 0) G 2 sh v N 2 [some (.ref m), some (.int (nI k))] [] := by
    intro n
    induction n with
    | zero => intro k hm; omega
    | succ n ih =>
      intro k hm hk e1
      refine r_iload_n C (pc := 2) rfl rfl dX7_firstAlone_2 ?_
      refine r_aload_n C (pc := 3) rfl rfl dX7_firstAlone_3 ?_
      refine r_get C (pc := 4) (ci := 7) (k := 0) (w := .ref (m + 1)) rfl (by decide) inX7 (by decide) q_654 (Or.inl hd0) hs0 (zl_ref _ _) dX7_firstAlone_4 ?_
      refine r_bipush C (pc := 7) (x := (nI 122)) (by decide) dX7_firstAlone_7 ?_
      refine r_iald C (pc := 9) (x := (nI ((M.2.1 4).length))) (Or.inl hd1) hs1 (by omega) (by omega) (hla.1) dX7_firstAlone_9 ?_
      refine n_icmp_ge C (pc := 10) (tgt := 39) (by omega) (by omega) dX7_firstAlone_10 (by decide) (fun c_10 => ?_) (fun c_10 => ?_)
      · refine r_bipush C (pc := 39) (x := (-9)) (by decide) dX7_firstAlone_39 ?_
        exact r_iret C (pc := 41) rfl (rfl) dX7_firstAlone_41 ⟨rfl, rfl, by rw [faI, rfs_end _ (fun j hj => e1 j (by omega)), if_neg (by omega)], rfl⟩
      · have hkl : k < (M.2.1 4).length := by omega
        have hql : ((M.2.1 4).getD k 0) < 2 ^ 20 := gd_lt20 hwt
        refine r_aload_n C (pc := 13) rfl rfl dX7_firstAlone_13 ?_
        refine r_get C (pc := 14) (ci := 7) (k := 0) (w := .ref (m + 1)) rfl (by decide) inX7 (by decide) q_654 (Or.inl hd0) hs0 (zl_ref _ _) dX7_firstAlone_14 ?_
        refine r_bipush C (pc := 17) (x := (nI 122)) (by decide) dX7_firstAlone_17 ?_
        refine r_iload_n C (pc := 19) rfl rfl dX7_firstAlone_19 ?_
        refine r_callS C (pc := 20) (st := [.ref (m + 1)]) (m_X7_setAt l G sh v N (a := 122) (k := k)) kyX7_setAt q_743 rfl rfl (Nat.le_of_ble_eq_true rfl) ⟨Nat.le_of_ble_eq_true rfl, Nat.le_of_ble_eq_true rfl⟩ ⟨Nat.le_of_ble_eq_true rfl, Nat.le_of_ble_eq_true rfl⟩ dX7_firstAlone_20 (fun r20 v20 hp20 => ?_)
        obtain ⟨rfl, ehp20⟩ := hp20
        refine VV.vq ehp20 ?_
        refine VV.eq (st2 := [.int (nI (122 + 1 + 2 * k)), .ref (m + 1)]) rfl ?_
        refine r_iald C (pc := 23) (x := (nI (((M.2.1 4).getD k 0) / 256))) (Or.inl hd1) hs1 (by omega) (by omega) ((hla.2.2 k hkl).1) dX7_firstAlone_23 ?_
        refine r_callS C (pc := 24) (st := []) (m_X7_size l G sh v N (x := ((M.2.1 4).getD k 0) / 256) (by omega)) kyX7_size q_802 rfl rfl (Nat.le_of_ble_eq_true rfl) ⟨Nat.le_of_ble_eq_true rfl, Nat.le_of_ble_eq_true rfl⟩ ⟨Nat.le_of_ble_eq_true rfl, Nat.le_of_ble_eq_true rfl⟩ dX7_firstAlone_24 (fun r24 v24 hp24 => ?_)
        obtain ⟨rfl, ehp24⟩ := hp24
        refine VV.vq ehp24 ?_
        refine VV.eq (st2 := [.int (nI (pop (((M.2.1 4).getD k 0) / 256)))]) rfl ?_
        refine r_iconst C (pc := 27) (x := (nI 1)) (by decide) dX7_firstAlone_27 ?_
        refine n_icmp_ne C (pc := 28) (tgt := 33) (by have := pop_le (((M.2.1 4).getD k 0) / 256); omega) (by decide) dX7_firstAlone_28 (by decide) (fun c_28 => ?_) (fun c_28 => ?_)
        · refine r_iinc C (pc := 33) (lv2 := [some (.ref m), some (.int (nI (k + 1)))]) (y := (nI (k + 1))) rfl (nI_inc _ _) (Nat.le_of_ble_eq_true rfl) rfl rfl dX7_firstAlone_33 ?_
          refine r_goto C (pc := 36) (tgt := 2) dX7_firstAlone_36 (by decide) ?_
          exact ih (k + 1) (by omega) (by omega) (fun j hj => by
            by_cases hjk : j = k
            · rw [hjk]; exact c_28
            · exact e1 j (by omega))
        · refine r_iload_n C (pc := 31) rfl rfl dX7_firstAlone_31 ?_
          exact r_iret C (pc := 32) rfl (rfl) dX7_firstAlone_32 ⟨rfl, rfl, by rw [faI, rfs_at _ k e1 hkl c_28, if_pos hkl], rfl⟩
  refine r_iconst C (pc := 0) (x := (nI 0)) (by decide) dX7_firstAlone_0 ?_
  refine r_istore_n C (pc := 1) (lv2 := [some (.ref m), some (.int (nI 0))]) rfl (Nat.le_of_ble_eq_true rfl) rfl rfl dX7_firstAlone_1 ?_
  exact loop ((M.2.1 4).length + 1) 0 (by omega) (by omega) (fun j hj => absurd hj (Nat.not_lt_zero j))
set_option maxRecDepth 100000 in
set_option maxHeartbeats 4000000 in
theorem m_X7_peel (l : Launch) (G : zG) (sh : zH) (v : zV) (N : Nat) {m : Nat} {M : zMS} {x : Nat} (hp : zMD G sh N m) (hv : zwf (v (m + 1)) M) (hk : mOK M) (hx : con (zVl M) x) (hxK : x < 2 ^ (8 + M.1 0)) (hW : zW (zVl M) M.2.2.2 (M.2.1 4)) : zm l G yX7_peel cX7_peel 8 none 3 [.ref m, .int (nI (x / 256)), .int (nI (x % 256))] sh v N (fun r v1 => r = none ∧ zwf (v1 (m + 1)) (M.1, upl M.2.1 4 (plM (zVl M) (M.1 2) x M.2.2.2 (M.2.1 4)).2, M.2.2.1, (plM (zVl M) (M.1 2) x M.2.2.2 (M.2.1 4)).1) ∧ fA v v1 m) := by
  refine zM.of (by decide) rfl (Nat.le_of_ble_eq_true rfl) ?_
  intro p e s mi args below meth c C
  obtain ⟨hB, hN, hs0, hs1, hs2, hs3, hs4, hs5, hs6, hs7, hs8⟩ := id hp
  have hd0 : G.2.2.1 ≤ m ∧ m < N := ⟨hB, by omega⟩
  have hd1 : G.2.2.1 ≤ m + 1 ∧ m + 1 < N := ⟨by omega, by omega⟩
  have hd2 : G.2.2.1 ≤ m + 2 ∧ m + 2 < N := ⟨by omega, by omega⟩
  have hd3 : G.2.2.1 ≤ m + 3 ∧ m + 3 < N := ⟨by omega, by omega⟩
  have hd4 : G.2.2.1 ≤ m + 4 ∧ m + 4 < N := ⟨by omega, by omega⟩
  have hd5 : G.2.2.1 ≤ m + 5 ∧ m + 5 < N := ⟨by omega, by omega⟩
  have hd6 : G.2.2.1 ≤ m + 6 ∧ m + 6 < N := ⟨by omega, by omega⟩
  have hd7 : G.2.2.1 ≤ m + 7 ∧ m + 7 < N := ⟨by omega, by omega⟩
  have hd8 : G.2.2.1 ≤ m + 8 ∧ m + 8 < N := ⟨by omega, by omega⟩
  have hK12 := hk.1.2.1
  have hV : ∀ b, b < 12 → M.1 (17 + b) < 256 := mOK_V hk
  have hx20 := hx.1
  have hcL : con (zVl M) (tofn (zVl M) M.2.2.2 x 12) := con_tof hx hV 12 (Nat.le_refl 12)
  have hL20 := hcL.1
  have hw20 : ∀ q ∈ (M.2.1 4), q < 2 ^ 20 := fun q hq => (hW.1 q hq).1
  have hwl := hk.2.2.2.2.1
  have loopB : ∀ (n : Nat) (kt : Nat → Option Nat) (wt : List Nat) (v' : zV), zW (zVl M) kt wt → pl1 (M.1 2) n (wt.getD (rfs wt) 0) kt (wt.eraseIdx (rfs wt)) = (plM (zVl M) (M.1 2) x M.2.2.2 (M.2.1 4)) → 12 ≤ cntn kt 12 + n → zwf (v' (m + 1)) (M.1, upl M.2.1 4 wt, M.2.2.1, kt) → fA v v' m → VV p l e ({ frames := 3, cells := 0, slots := 0, locals := 32 * 3 }) s mi args below meth c 0 0 (zQ below (fun r sh1 v1 N1 => sh1 = sh ∧ N1 = N ∧ (r = none ∧ zwf (v1 (m + 1)) (M.1, upl M.2.1 4 (plM (zVl M) (M.1 2) x M.2.2.2 (M.2.1 4)).2, M.2.2.1, (plM (zVl M) (M.1 2) x M.2.2.2 (M.2.1 4)).1) ∧ fA v v1 m)) G args s 0 0) G 8 sh v' N 132 [some (.ref m), some (.int (nI (x / 256))), some (.int (nI (x % 256))), none, none, some (.int (faI wt)), none, none] [] := by
    intro n
    induction n with
    | zero =>
      intro kt wt v' hw hpl hcn0 e1 e2
      have e14 : zla (v' (m + 1)) 122 21 wt := by
        have h := e1.2.1 4 (by decide)
        rw [upl4] at h
        exact h
      have hcap := e14.2.1
      refine r_iload C (pc := 132) rfl dX7_peel_132 ?_
      refine r_bipush C (pc := 134) (x := (-9)) (by decide) dX7_peel_134 ?_
      refine r_icmp_eq C (pc := 136) (tgt := 197) dX7_peel_136 (by decide) (fun c_136 => ?_) (fun c_136 => ?_)
      · have hge : ¬ rfs wt < wt.length := fun h => by
          rw [faI, if_pos h] at c_136
          exact n9 (by omega) c_136
        exact r_vret C (pc := 197) rfl dX7_peel_197 ⟨rfl, rfl, rfl, (by rw [er_ge (by omega), gd_ge (by omega), pl1_0 (Nat.zero_div 256)] at hpl; rw [← hpl]; exact e1), e2⟩
      · have hlt : rfs wt < wt.length := by
          rcases Nat.lt_or_ge (rfs wt) wt.length with h | h
          · exact h
          · exact absurd (by rw [faI, if_neg (by omega)]) c_136
        rw [faI, if_pos hlt]
        exact absurd hcn0 (by
          obtain ⟨hB, hLB⟩ := con_single (con_gd hw.1) (rfs_one wt hlt)
          have hunk : (kt (Nat.log2 ((wt.getD (rfs wt) 0) / 256))).isSome = false := zW_unk hw hV hlt
          have := cntn_lt hunk 12 hB
          omega)
    | succ n ih =>
      intro kt wt v' hw hpl hcn0 e1 e2
      have e14 : zla (v' (m + 1)) 122 21 wt := by
        have h := e1.2.1 4 (by decide)
        rw [upl4] at h
        exact h
      have hcap := e14.2.1
      refine r_iload C (pc := 132) rfl dX7_peel_132 ?_
      refine r_bipush C (pc := 134) (x := (-9)) (by decide) dX7_peel_134 ?_
      refine r_icmp_eq C (pc := 136) (tgt := 197) dX7_peel_136 (by decide) (fun c_136 => ?_) (fun c_136 => ?_)
      · have hge : ¬ rfs wt < wt.length := fun h => by
          rw [faI, if_pos h] at c_136
          exact n9 (by omega) c_136
        exact r_vret C (pc := 197) rfl dX7_peel_197 ⟨rfl, rfl, rfl, (by rw [er_ge (by omega), gd_ge (by omega), pl1_0 (Nat.zero_div 256)] at hpl; rw [← hpl]; exact e1), e2⟩
      · have hlt : rfs wt < wt.length := by
          rcases Nat.lt_or_ge (rfs wt) wt.length with h | h
          · exact h
          · exact absurd (by rw [faI, if_neg (by omega)]) c_136
        rw [faI, if_pos hlt]
        refine r_aload_n C (pc := 139) rfl rfl dX7_peel_139 ?_
        refine r_get C (pc := 140) (ci := 7) (k := 0) (w := .ref (m + 1)) rfl (by decide) inX7 (by decide) q_654 (Or.inl hd0) hs0 (zl_ref _ _) dX7_peel_140 ?_
        refine r_bipush C (pc := 143) (x := (nI 122)) (by decide) dX7_peel_143 ?_
        refine r_iload C (pc := 145) rfl dX7_peel_145 ?_
        have hrow := e14.2.2 (rfs wt) hlt
        have hcx : con (zVl M) (wt.getD (rfs wt) 0) := con_gd hw.1
        have hp1 := rfs_one wt hlt
        obtain ⟨hB, hLB⟩ := con_single hcx hp1
        generalize hBe : Nat.log2 ((wt.getD (rfs wt) 0) / 256) = B at hB hLB
        have hVB : M.1 (17 + B) < 256 := hV B hB
        have hL1 : (wt.getD (rfs wt) 0) / 256 = 2 ^ B := by rw [hLB]; exact pw_div hVB
        have hL2 : (wt.getD (rfs wt) 0) % 256 = M.1 (17 + B) := by rw [hLB]; exact pw_mod hVB
        rw [hL1, hL2] at hrow
        have hunk := zW_unk hw hV hlt
        rw [hBe] at hunk
        refine r_callS C (pc := 147) (st := [.ref (m + 1)]) (m_X7_setAt l G sh v' N (a := 122) (k := rfs wt)) kyX7_setAt q_743 rfl rfl (Nat.le_of_ble_eq_true rfl) ⟨Nat.le_of_ble_eq_true rfl, Nat.le_of_ble_eq_true rfl⟩ ⟨Nat.le_of_ble_eq_true rfl, Nat.le_of_ble_eq_true rfl⟩ dX7_peel_147 (fun r147 v147 hp147 => ?_)
        obtain ⟨rfl, ehp147⟩ := hp147
        refine VV.vq ehp147 ?_
        refine VV.eq (st2 := [.int (nI (122 + 1 + 2 * rfs wt)), .ref (m + 1)]) rfl ?_
        refine r_iald C (pc := 150) (x := (nI (2 ^ B))) (Or.inl hd1) hs1 (by omega) (by omega) (hrow.1) dX7_peel_150 ?_
        refine r_istore C (pc := 151) (lv2 := [some (.ref m), some (.int (nI (x / 256))), some (.int (nI (x % 256))), none, none, some (.int (nI (rfs wt))), some (.int (nI (2 ^ B))), none]) (Nat.le_of_ble_eq_true rfl) rfl rfl dX7_peel_151 ?_
        refine r_aload_n C (pc := 153) rfl rfl dX7_peel_153 ?_
        refine r_get C (pc := 154) (ci := 7) (k := 0) (w := .ref (m + 1)) rfl (by decide) inX7 (by decide) q_654 (Or.inl hd0) hs0 (zl_ref _ _) dX7_peel_154 ?_
        refine r_bipush C (pc := 157) (x := (nI 122)) (by decide) dX7_peel_157 ?_
        refine r_iload C (pc := 159) rfl dX7_peel_159 ?_
        refine r_callS C (pc := 161) (st := [.ref (m + 1)]) (m_X7_setAt l G sh v' N (a := 122) (k := rfs wt)) kyX7_setAt q_743 rfl rfl (Nat.le_of_ble_eq_true rfl) ⟨Nat.le_of_ble_eq_true rfl, Nat.le_of_ble_eq_true rfl⟩ ⟨Nat.le_of_ble_eq_true rfl, Nat.le_of_ble_eq_true rfl⟩ dX7_peel_161 (fun r161 v161 hp161 => ?_)
        obtain ⟨rfl, ehp161⟩ := hp161
        refine VV.vq ehp161 ?_
        refine VV.eq (st2 := [.int (nI (122 + 1 + 2 * rfs wt)), .ref (m + 1)]) rfl ?_
        refine r_iconst C (pc := 164) (x := (nI 1)) (by decide) dX7_peel_164 ?_
        refine r_iadd C (pc := 165) (z := (nI ((122 + 1 + 2 * rfs wt) + 1))) (nI_add _ _) dX7_peel_165 ?_
        refine r_iald C (pc := 166) (x := (nI (M.1 (17 + B)))) (Or.inl hd1) hs1 (by omega) (by omega) (hrow.2) dX7_peel_166 ?_
        refine r_istore C (pc := 167) (lv2 := [some (.ref m), some (.int (nI (x / 256))), some (.int (nI (x % 256))), none, none, some (.int (nI (rfs wt))), some (.int (nI (2 ^ B))), some (.int (nI (M.1 (17 + B))))]) (Nat.le_of_ble_eq_true rfl) rfl rfl dX7_peel_167 ?_
        refine r_aload_n C (pc := 169) rfl rfl dX7_peel_169 ?_
        refine r_bipush C (pc := 170) (x := (nI 122)) (by decide) dX7_peel_170 ?_
        refine r_iload C (pc := 172) rfl dX7_peel_172 ?_
        refine r_callV C (pc := 174) (st := []) (m_X7_drop l G sh v' N (r0 := 4) (k := rfs wt) hp e1 (by decide) (by rw [upl4]; exact hlt)) kyX7_drop q_739 rfl (Or.inl hd0) hs0 (by decide) rfl rfl rfl (Nat.le_of_ble_eq_true rfl) ⟨Nat.le_of_ble_eq_true rfl, Nat.le_of_ble_eq_true rfl⟩ ⟨Nat.le_of_ble_eq_true rfl, Nat.le_of_ble_eq_true rfl⟩ dX7_peel_174 (fun r174 v174 hp174 => ?_)
        obtain ⟨rfl, g1, g2⟩ := hp174
        refine VV.eq (st2 := []) rfl ?_
        rw [upl4] at g1
        dsimp only at g1
        rw [upl_upl] at g1
        have hw2 := zW_er (i := rfs wt) hw
        refine r_aload_n C (pc := 177) rfl rfl dX7_peel_177 ?_
        refine r_iload C (pc := 178) rfl dX7_peel_178 ?_
        refine r_callS C (pc := 180) (st := [.ref m]) (m_X7_lowest l G sh v174 N (b0 := B) hB) kyX7_lowest q_813 rfl rfl (Nat.le_of_ble_eq_true rfl) ⟨Nat.le_of_ble_eq_true rfl, Nat.le_of_ble_eq_true rfl⟩ ⟨Nat.le_of_ble_eq_true rfl, Nat.le_of_ble_eq_true rfl⟩ dX7_peel_180 (fun r180 v180 hp180 => ?_)
        obtain ⟨rfl, ehp180⟩ := hp180
        refine VV.vq ehp180 ?_
        refine VV.eq (st2 := [.int (nI B), .ref m]) rfl ?_
        refine r_iload C (pc := 183) rfl dX7_peel_183 ?_
        refine r_callV C (pc := 185) (st := []) (m_X7_learn l G sh v174 N (b := B) hp g1 hB hVB (by rw [upl4]; exact fun q hq => (hw2.1 q hq).1)) kyX7_learn q_816 rfl (Or.inl hd0) hs0 (by decide) rfl rfl rfl (Nat.le_of_ble_eq_true rfl) ⟨Nat.le_of_ble_eq_true rfl, Nat.le_of_ble_eq_true rfl⟩ ⟨Nat.le_of_ble_eq_true rfl, Nat.le_of_ble_eq_true rfl⟩ dX7_peel_185 (fun r185 v185 hp185 => ?_)
        obtain ⟨rfl, g3, g4⟩ := hp185
        refine VV.eq (st2 := []) rfl ?_
        rw [upl4] at g3
        dsimp only at g3
        rw [upl_upl] at g3
        have hW1 : zW (zVl M) (upo kt B (M.1 2)) (tko (2 ^ (8 + B) + M.1 (17 + B)) (wt.eraseIdx (rfs wt))) := zW_tko hw2 hB hV
        refine r_aload_n C (pc := 188) rfl rfl dX7_peel_188 ?_
        refine r_callV C (pc := 189) (st := []) (m_X7_firstAlone l G sh v185 N hp g3 (by rw [upl4]; exact fun q hq => (hW1.1 q hq).1)) kyX7_firstAlone q_820 rfl (Or.inl hd0) hs0 (by decide) rfl rfl rfl (Nat.le_of_ble_eq_true rfl) ⟨Nat.le_of_ble_eq_true rfl, Nat.le_of_ble_eq_true rfl⟩ ⟨Nat.le_of_ble_eq_true rfl, Nat.le_of_ble_eq_true rfl⟩ dX7_peel_189 (fun r189 v189 hp189 => ?_)
        obtain ⟨rfl, ehp189⟩ := hp189
        refine VV.vq ehp189 ?_
        refine VV.eq (st2 := [.int (faI (tko (2 ^ (8 + B) + M.1 (17 + B)) (wt.eraseIdx (rfs wt))))]) rfl ?_
        refine r_istore C (pc := 192) (lv2 := [some (.ref m), some (.int (nI (x / 256))), some (.int (nI (x % 256))), none, none, some (.int (faI (tko (2 ^ (8 + B) + M.1 (17 + B)) (wt.eraseIdx (rfs wt))))), some (.int (nI (2 ^ B))), some (.int (nI (M.1 (17 + B))))]) (Nat.le_of_ble_eq_true rfl) rfl rfl dX7_peel_192 ?_
        refine r_goto C (pc := 194) (tgt := 132) dX7_peel_194 (by decide) ?_
        refine VV.fg 6 (lv2 := [some (.ref m), some (.int (nI (x / 256))), some (.int (nI (x % 256))), none, none, some (.int (faI (tko (2 ^ (8 + B) + M.1 (17 + B)) (wt.eraseIdx (rfs wt))))), none, some (.int (nI (M.1 (17 + B))))]) rfl ?_
        refine VV.fg 7 (lv2 := [some (.ref m), some (.int (nI (x / 256))), some (.int (nI (x % 256))), none, none, some (.int (faI (tko (2 ^ (8 + B) + M.1 (17 + B)) (wt.eraseIdx (rfs wt))))), none, none]) rfl ?_
        refine ih (upo kt B (M.1 2)) (tko (2 ^ (8 + B) + M.1 (17 + B)) (wt.eraseIdx (rfs wt))) v185 hW1 ?_ (by rw [cntn_upo hunk 12, if_pos hB]; omega) g3 ((e2.tr g2).tr g4)
        have h := pl1_s (t := M.1 2) (n := n) (x := (wt.getD (rfs wt) 0)) (wt := wt.eraseIdx (rfs wt)) hL1 hB hunk
        rw [hLB] at h hpl
        exact h.symm.trans hpl
  have phase2 : VV p l e ({ frames := 3, cells := 0, slots := 0, locals := 32 * 3 }) s mi args below meth c 0 0 (zQ below (fun r sh1 v1 N1 => sh1 = sh ∧ N1 = N ∧ (r = none ∧ zwf (v1 (m + 1)) (M.1, upl M.2.1 4 (plM (zVl M) (M.1 2) x M.2.2.2 (M.2.1 4)).2, M.2.2.1, (plM (zVl M) (M.1 2) x M.2.2.2 (M.2.1 4)).1) ∧ fA v v1 m)) G args s 0 0) G 8 sh v N 72 [some (.ref m), some (.int (nI (x / 256))), some (.int (nI (x % 256))), some (.int (nI ((tofn (zVl M) M.2.2.2 x 12) / 256))), some (.int (nI ((tofn (zVl M) M.2.2.2 x 12) % 256))), none, none, none] [] := by
    refine r_iload_n C (pc := 72) rfl rfl dX7_peel_72 ?_
    refine r_callS C (pc := 73) (st := []) (m_X7_size l G sh v N (x := (tofn (zVl M) M.2.2.2 x 12) / 256) (by omega)) kyX7_size q_802 rfl rfl (Nat.le_of_ble_eq_true rfl) ⟨Nat.le_of_ble_eq_true rfl, Nat.le_of_ble_eq_true rfl⟩ ⟨Nat.le_of_ble_eq_true rfl, Nat.le_of_ble_eq_true rfl⟩ dX7_peel_73 (fun r73 v73 hp73 => ?_)
    obtain ⟨rfl, ehp73⟩ := hp73
    refine VV.vq ehp73 ?_
    refine VV.eq (st2 := [.int (nI (pop ((tofn (zVl M) M.2.2.2 x 12) / 256)))]) rfl ?_
    refine r_iconst C (pc := 76) (x := (nI 1)) (by decide) dX7_peel_76 ?_
    refine n_icmp_le C (pc := 77) (tgt := 108) (by have := pop_le ((tofn (zVl M) M.2.2.2 x 12) / 256); omega) (by decide) dX7_peel_77 (by decide) (fun c_77 => ?_) (fun c_77 => ?_)
    · refine r_iload_n C (pc := 108) rfl rfl dX7_peel_108 ?_
      refine r_callS C (pc := 109) (st := []) (m_X7_size l G sh v N (x := (tofn (zVl M) M.2.2.2 x 12) / 256) (by omega)) kyX7_size q_802 rfl rfl (Nat.le_of_ble_eq_true rfl) ⟨Nat.le_of_ble_eq_true rfl, Nat.le_of_ble_eq_true rfl⟩ ⟨Nat.le_of_ble_eq_true rfl, Nat.le_of_ble_eq_true rfl⟩ dX7_peel_109 (fun r109 v109 hp109 => ?_)
      obtain ⟨rfl, ehp109⟩ := hp109
      refine VV.vq ehp109 ?_
      refine VV.eq (st2 := [.int (nI (pop ((tofn (zVl M) M.2.2.2 x 12) / 256)))]) rfl ?_
      refine r_iconst C (pc := 112) (x := (nI 1)) (by decide) dX7_peel_112 ?_
      refine n_icmp_ne C (pc := 113) (tgt := 197) (by have := pop_le ((tofn (zVl M) M.2.2.2 x 12) / 256); omega) (by decide) dX7_peel_113 (by decide) (fun c_113 => ?_) (fun c_113 => ?_)
      · exact r_vret C (pc := 197) rfl dX7_peel_197 ⟨rfl, rfl, rfl, (by have hp0 : (tofn (zVl M) M.2.2.2 x 12) / 256 = 0 := pop_z (by omega) (by omega) (by omega); have hpl : (plM (zVl M) (M.1 2) x M.2.2.2 (M.2.1 4)) = (M.2.2.2, (M.2.1 4)) := (if_neg (by omega)).trans (pl1_0 hp0); rw [hpl, upl_id]; exact hv), fA.rf⟩
      · obtain ⟨hB, hLB⟩ := con_single hcL c_113
        generalize hBe : Nat.log2 ((tofn (zVl M) M.2.2.2 x 12) / 256) = B at hB hLB
        have hVB : M.1 (17 + B) < 256 := hV B hB
        have hL1 : (tofn (zVl M) M.2.2.2 x 12) / 256 = 2 ^ B := by rw [hLB]; exact pw_div hVB
        have hL2 : (tofn (zVl M) M.2.2.2 x 12) % 256 = M.1 (17 + B) := by rw [hLB]; exact pw_mod hVB
        rw [hL1, hL2]
        have hunk : (M.2.2.2 B).isSome = false := by
          have h := tof_bit (V := (zVl M)) (kt := M.2.2.2) (x := x) hV 12 (Nat.le_refl 12) B
          rw [← dv_tb, hL1, Nat.testBit_two_pow, decide_eq_true rfl] at h
          cases hs : (M.2.2.2 B).isSome with
          | false => rfl
          | true => rw [hs, decide_eq_true hB] at h; simp at h
        refine r_aload_n C (pc := 116) rfl rfl dX7_peel_116 ?_
        refine r_iload_n C (pc := 117) rfl rfl dX7_peel_117 ?_
        refine r_callS C (pc := 118) (st := [.ref m]) (m_X7_lowest l G sh v N (b0 := B) hB) kyX7_lowest q_813 rfl rfl (Nat.le_of_ble_eq_true rfl) ⟨Nat.le_of_ble_eq_true rfl, Nat.le_of_ble_eq_true rfl⟩ ⟨Nat.le_of_ble_eq_true rfl, Nat.le_of_ble_eq_true rfl⟩ dX7_peel_118 (fun r118 v118 hp118 => ?_)
        obtain ⟨rfl, ehp118⟩ := hp118
        refine VV.vq ehp118 ?_
        refine VV.eq (st2 := [.int (nI B), .ref m]) rfl ?_
        refine r_iload C (pc := 121) rfl dX7_peel_121 ?_
        refine r_callV C (pc := 123) (st := []) (m_X7_learn l G sh v N (b := B) hp hv hB hVB hw20) kyX7_learn q_816 rfl (Or.inl hd0) hs0 (by decide) rfl rfl rfl (Nat.le_of_ble_eq_true rfl) ⟨Nat.le_of_ble_eq_true rfl, Nat.le_of_ble_eq_true rfl⟩ ⟨Nat.le_of_ble_eq_true rfl, Nat.le_of_ble_eq_true rfl⟩ dX7_peel_123 (fun r123 v123 hp123 => ?_)
        obtain ⟨rfl, g1, g2⟩ := hp123
        refine VV.eq (st2 := []) rfl ?_
        have hW1 : zW (zVl M) (upo M.2.2.2 B (M.1 2)) (tko (2 ^ (8 + B) + M.1 (17 + B)) (M.2.1 4)) := zW_tko hW hB hV
        refine r_aload_n C (pc := 126) rfl rfl dX7_peel_126 ?_
        refine r_callV C (pc := 127) (st := []) (m_X7_firstAlone l G sh v123 N hp g1 (by rw [upl4]; exact fun q hq => (hW1.1 q hq).1)) kyX7_firstAlone q_820 rfl (Or.inl hd0) hs0 (by decide) rfl rfl rfl (Nat.le_of_ble_eq_true rfl) ⟨Nat.le_of_ble_eq_true rfl, Nat.le_of_ble_eq_true rfl⟩ ⟨Nat.le_of_ble_eq_true rfl, Nat.le_of_ble_eq_true rfl⟩ dX7_peel_127 (fun r127 v127 hp127 => ?_)
        obtain ⟨rfl, ehp127⟩ := hp127
        refine VV.vq ehp127 ?_
        refine VV.eq (st2 := [.int (faI (tko (2 ^ (8 + B) + M.1 (17 + B)) (M.2.1 4)))]) rfl ?_
        refine r_istore C (pc := 130) (lv2 := [some (.ref m), some (.int (nI (x / 256))), some (.int (nI (x % 256))), some (.int (nI (2 ^ B))), some (.int (nI (M.1 (17 + B)))), some (.int (faI (tko (2 ^ (8 + B) + M.1 (17 + B)) (M.2.1 4)))), none, none]) (Nat.le_of_ble_eq_true rfl) rfl rfl dX7_peel_130 ?_
        refine VV.fg 3 (lv2 := [some (.ref m), some (.int (nI (x / 256))), some (.int (nI (x % 256))), none, some (.int (nI (M.1 (17 + B)))), some (.int (faI (tko (2 ^ (8 + B) + M.1 (17 + B)) (M.2.1 4)))), none, none]) rfl ?_
        refine VV.fg 4 (lv2 := [some (.ref m), some (.int (nI (x / 256))), some (.int (nI (x % 256))), none, none, some (.int (faI (tko (2 ^ (8 + B) + M.1 (17 + B)) (M.2.1 4)))), none, none]) rfl ?_
        refine loopB 11 (upo M.2.2.2 B (M.1 2)) (tko (2 ^ (8 + B) + M.1 (17 + B)) (M.2.1 4)) v123 hW1 ?_ (by rw [cntn_upo hunk 12, if_pos hB]; omega) g1 g2
        have h := pl1_s (t := M.1 2) (n := 11) (x := (tofn (zVl M) M.2.2.2 x 12)) (wt := (M.2.1 4)) hL1 hB hunk
        have hpl : (plM (zVl M) (M.1 2) x M.2.2.2 (M.2.1 4)) = pl1 (M.1 2) 12 (tofn (zVl M) M.2.2.2 x 12) M.2.2.2 (M.2.1 4) := if_neg (by omega)
        rw [hLB] at h hpl
        exact h.symm.trans hpl.symm
    · refine r_aload_n C (pc := 80) rfl rfl dX7_peel_80 ?_
      refine r_bipush C (pc := 81) (x := (nI 122)) (by decide) dX7_peel_81 ?_
      refine r_iload_n C (pc := 83) rfl rfl dX7_peel_83 ?_
      refine r_iload C (pc := 84) rfl dX7_peel_84 ?_
      refine r_callV C (pc := 86) (st := []) (m_X7_append l G sh v N (r0 := 4) (q := (tofn (zVl M) M.2.2.2 x 12)) hp hv (by decide) (by show (M.2.1 4).length < 21; omega)) kyX7_append q_774 rfl (Or.inl hd0) hs0 (by decide) rfl rfl rfl (Nat.le_of_ble_eq_true rfl) ⟨Nat.le_of_ble_eq_true rfl, Nat.le_of_ble_eq_true rfl⟩ ⟨Nat.le_of_ble_eq_true rfl, Nat.le_of_ble_eq_true rfl⟩ dX7_peel_86 (fun r86 v86 hp86 => ?_)
      obtain ⟨rfl, g1, g2⟩ := hp86
      refine VV.eq (st2 := []) rfl ?_
      have h14 : zla (v86 (m + 1)) 122 21 ((M.2.1 4) ++ [(tofn (zVl M) M.2.2.2 x 12)]) := by
        have h := g1.2.1 4 (by decide)
        dsimp only at h
        rw [upl_s] at h
        exact h
      have hll : ((M.2.1 4) ++ [(tofn (zVl M) M.2.2.2 x 12)]).length = (M.2.1 4).length + 1 := by rw [List.length_append]; rfl
      refine r_aload_n C (pc := 89) rfl rfl dX7_peel_89 ?_
      refine r_get C (pc := 90) (ci := 7) (k := 0) (w := .ref (m + 1)) rfl (by decide) inX7 (by decide) q_654 (Or.inl hd0) hs0 (zl_ref _ _) dX7_peel_90 ?_
      refine r_bipush C (pc := 93) (x := (nI 122)) (by decide) dX7_peel_93 ?_
      refine r_iald C (pc := 95) (x := (nI ((M.2.1 4).length + 1))) (Or.inl hd1) hs1 (by omega) (by omega) (by rw [h14.1, hll]) dX7_peel_95 ?_
      refine r_bipush C (pc := 96) (x := (nI 20)) (by decide) dX7_peel_96 ?_
      refine n_icmp_le C (pc := 98) (tgt := 108) (by omega) (by decide) dX7_peel_98 (by decide) (fun c_98 => ?_) (fun c_98 => ?_)
      · refine r_iload_n C (pc := 108) rfl rfl dX7_peel_108 ?_
        refine r_callS C (pc := 109) (st := []) (m_X7_size l G sh v86 N (x := (tofn (zVl M) M.2.2.2 x 12) / 256) (by omega)) kyX7_size q_802 rfl rfl (Nat.le_of_ble_eq_true rfl) ⟨Nat.le_of_ble_eq_true rfl, Nat.le_of_ble_eq_true rfl⟩ ⟨Nat.le_of_ble_eq_true rfl, Nat.le_of_ble_eq_true rfl⟩ dX7_peel_109 (fun r109' v109' hp109' => ?_)
        obtain ⟨rfl, ehp109'⟩ := hp109'
        refine VV.vq ehp109' ?_
        refine VV.eq (st2 := [.int (nI (pop ((tofn (zVl M) M.2.2.2 x 12) / 256)))]) rfl ?_
        refine r_iconst C (pc := 112) (x := (nI 1)) (by decide) dX7_peel_112 ?_
        refine n_icmp_ne C (pc := 113) (tgt := 197) (by have := pop_le ((tofn (zVl M) M.2.2.2 x 12) / 256); omega) (by decide) dX7_peel_113 (by decide) (fun c_113 => ?_) (fun c_113 => by exfalso; omega)
        exact r_vret C (pc := 197) rfl dX7_peel_197 ⟨rfl, rfl, rfl, (by have hpl : (plM (zVl M) (M.1 2) x M.2.2.2 (M.2.1 4)) = (M.2.2.2, (M.2.1 4).drop ((M.2.1 4).length - 19) ++ [(tofn (zVl M) M.2.2.2 x 12)]) := if_pos c_77; rw [hpl, show (M.2.1 4).length - 19 = 0 by omega]; exact g1), g2⟩
      · refine r_aload_n C (pc := 101) rfl rfl dX7_peel_101 ?_
        refine r_bipush C (pc := 102) (x := (nI 122)) (by decide) dX7_peel_102 ?_
        refine r_iconst C (pc := 104) (x := (nI 0)) (by decide) dX7_peel_104 ?_
        refine r_callV C (pc := 105) (st := []) (m_X7_drop l G sh v86 N (r0 := 4) (k := 0) hp g1 (by decide) (by dsimp only; rw [upl_s, hll]; omega)) kyX7_drop q_739 rfl (Or.inl hd0) hs0 (by decide) rfl rfl rfl (Nat.le_of_ble_eq_true rfl) ⟨Nat.le_of_ble_eq_true rfl, Nat.le_of_ble_eq_true rfl⟩ ⟨Nat.le_of_ble_eq_true rfl, Nat.le_of_ble_eq_true rfl⟩ dX7_peel_105 (fun r105 v105 hp105 => ?_)
        obtain ⟨rfl, g3, g4⟩ := hp105
        refine VV.eq (st2 := []) rfl ?_
        dsimp only at g3
        rw [upl_s, upl_upl] at g3
        refine r_iload_n C (pc := 108) rfl rfl dX7_peel_108 ?_
        refine r_callS C (pc := 109) (st := []) (m_X7_size l G sh v105 N (x := (tofn (zVl M) M.2.2.2 x 12) / 256) (by omega)) kyX7_size q_802 rfl rfl (Nat.le_of_ble_eq_true rfl) ⟨Nat.le_of_ble_eq_true rfl, Nat.le_of_ble_eq_true rfl⟩ ⟨Nat.le_of_ble_eq_true rfl, Nat.le_of_ble_eq_true rfl⟩ dX7_peel_109 (fun r109'' v109'' hp109'' => ?_)
        obtain ⟨rfl, ehp109''⟩ := hp109''
        refine VV.vq ehp109'' ?_
        refine VV.eq (st2 := [.int (nI (pop ((tofn (zVl M) M.2.2.2 x 12) / 256)))]) rfl ?_
        refine r_iconst C (pc := 112) (x := (nI 1)) (by decide) dX7_peel_112 ?_
        refine n_icmp_ne C (pc := 113) (tgt := 197) (by have := pop_le ((tofn (zVl M) M.2.2.2 x 12) / 256); omega) (by decide) dX7_peel_113 (by decide) (fun c_113 => ?_) (fun c_113 => by exfalso; omega)
        exact r_vret C (pc := 197) rfl dX7_peel_197 ⟨rfl, rfl, rfl, (by have hpl : (plM (zVl M) (M.1 2) x M.2.2.2 (M.2.1 4)) = (M.2.2.2, (M.2.1 4).drop ((M.2.1 4).length - 19) ++ [(tofn (zVl M) M.2.2.2 x 12)]) := if_pos c_77; rw [hpl, show (M.2.1 4).length - 19 = 1 by omega, ← drop1_app (by omega)]; exact g3), g2.tr g4⟩
  have loopA : ∀ (n b : Nat), M.1 0 - b < n → b ≤ M.1 0 → VV p l e ({ frames := 3, cells := 0, slots := 0, locals := 32 * 3 }) s mi args below meth c 0 0 (zQ below (fun r sh1 v1 N1 => sh1 = sh ∧ N1 = N ∧ (r = none ∧ zwf (v1 (m + 1)) (M.1, upl M.2.1 4 (plM (zVl M) (M.1 2) x M.2.2.2 (M.2.1 4)).2, M.2.2.1, (plM (zVl M) (M.1 2) x M.2.2.2 (M.2.1 4)).1) ∧ fA v v1 m)) G args s 0 0) G 8 sh v N 8 [some (.ref m), some (.int (nI (x / 256))), some (.int (nI (x % 256))), some (.int (nI ((tofn (zVl M) M.2.2.2 x b) / 256))), some (.int (nI ((tofn (zVl M) M.2.2.2 x b) % 256))), some (.int (nI b)), none, none] [] := by
    intro n
    induction n with
    | zero => intro b hm; omega
    | succ n ih =>
      intro b hm hb
      refine r_iload C (pc := 8) rfl dX7_peel_8 ?_
      refine r_aload_n C (pc := 10) rfl rfl dX7_peel_10 ?_
      refine r_get C (pc := 11) (ci := 7) (k := 0) (w := .ref (m + 1)) rfl (by decide) inX7 (by decide) q_654 (Or.inl hd0) hs0 (zl_ref _ _) dX7_peel_11 ?_
      refine r_iconst C (pc := 14) (x := (nI 0)) (by decide) dX7_peel_14 ?_
      refine r_iald C (pc := 15) (x := (nI (M.1 0))) (Or.inl hd1) hs1 (by omega) (by omega) (hv.1 0 (by decide)) dX7_peel_15 ?_
      refine n_icmp_ge C (pc := 16) (tgt := 72) (by omega) (by omega) dX7_peel_16 (by decide) (fun c_16 => ?_) (fun c_16 => ?_)
      · have hbK : b = M.1 0 := by omega
        rw [hbK, ← tof_hi hxK 12 hK12]
        refine VV.fg 5 (lv2 := [some (.ref m), some (.int (nI (x / 256))), some (.int (nI (x % 256))), some (.int (nI ((tofn (zVl M) M.2.2.2 x 12) / 256))), some (.int (nI ((tofn (zVl M) M.2.2.2 x 12) % 256))), none, none, none]) rfl ?_
        exact phase2
      · have hb12 : b < 12 := by omega
        have hVb : M.1 (17 + b) < 256 := hV b hb12
        refine r_iload_n C (pc := 19) rfl rfl dX7_peel_19 ?_
        refine r_iload C (pc := 20) rfl dX7_peel_20 ?_
        refine r_ishr C (pc := 22) (z := (nI (x / 256 / 2 ^ b))) (nI_shr (by omega) (by omega)) dX7_peel_22 ?_
        refine r_iconst C (pc := 23) (x := (nI 1)) (by decide) dX7_peel_23 ?_
        refine r_iand C (pc := 24) (z := (nI (if x.testBit (8 + b) then 1 else 0))) (by rw [nx_and, tb_bit, ds_tb]) dX7_peel_24 ?_
        refine r_iconst C (pc := 25) (x := (nI 1)) (by decide) dX7_peel_25 ?_
        refine n_icmp_ne C (pc := 26) (tgt := 66) (by split <;> decide) (by decide) dX7_peel_26 (by decide) (fun c_26 => ?_) (fun c_26 => ?_)
        · have hb0 : x.testBit (8 + b) = false := by
            cases h : x.testBit (8 + b) with
            | false => rfl
            | true => rw [h] at c_26; simp at c_26
          refine r_iinc C (pc := 66) (lv2 := [some (.ref m), some (.int (nI (x / 256))), some (.int (nI (x % 256))), some (.int (nI ((tofn (zVl M) M.2.2.2 x b) / 256))), some (.int (nI ((tofn (zVl M) M.2.2.2 x b) % 256))), some (.int (nI (b + 1))), none, none]) (y := (nI (b + 1))) rfl (nI_inc _ _) (Nat.le_of_ble_eq_true rfl) rfl rfl dX7_peel_66 ?_
          refine r_goto C (pc := 69) (tgt := 8) dX7_peel_69 (by decide) ?_
          have hs : (tofn (zVl M) M.2.2.2 x (b + 1)) = (tofn (zVl M) M.2.2.2 x b) := by rw [tof_s, hb0]; rfl
          have := ih (b + 1) (by omega) (by omega)
          rw [hs] at this
          exact this
        · have hb1 : x.testBit (8 + b) = true := by
            cases h : x.testBit (8 + b) with
            | true => rfl
            | false => rw [h] at c_26; simp at c_26
          refine r_aload_n C (pc := 29) rfl rfl dX7_peel_29 ?_
          refine r_get C (pc := 30) (ci := 7) (k := 0) (w := .ref (m + 1)) rfl (by decide) inX7 (by decide) q_654 (Or.inl hd0) hs0 (zl_ref _ _) dX7_peel_30 ?_
          refine r_bipush C (pc := 33) (x := (nI 86)) (by decide) dX7_peel_33 ?_
          refine r_iload C (pc := 35) rfl dX7_peel_35 ?_
          refine r_iadd C (pc := 37) (z := (nI (86 + b))) (nI_add _ _) dX7_peel_37 ?_
          refine r_iald C (pc := 38) (x := (knI (M.2.2.2 b) (M.1 (17 + b)))) (Or.inl hd1) hs1 (by omega) (by omega) (hv.2.2.1 b hb12) dX7_peel_38 ?_
          refine r_bipush C (pc := 39) (x := (-9)) (by decide) dX7_peel_39 ?_
          refine r_icmp_eq C (pc := 41) (tgt := 66) dX7_peel_41 (by decide) (fun c_41 => ?_) (fun c_41 => ?_)
          · refine r_iinc C (pc := 66) (lv2 := [some (.ref m), some (.int (nI (x / 256))), some (.int (nI (x % 256))), some (.int (nI ((tofn (zVl M) M.2.2.2 x b) / 256))), some (.int (nI ((tofn (zVl M) M.2.2.2 x b) % 256))), some (.int (nI (b + 1))), none, none]) (y := (nI (b + 1))) rfl (nI_inc _ _) (Nat.le_of_ble_eq_true rfl) rfl rfl dX7_peel_66 ?_
            refine r_goto C (pc := 69) (tgt := 8) dX7_peel_69 (by decide) ?_
            have hs : (tofn (zVl M) M.2.2.2 x (b + 1)) = (tofn (zVl M) M.2.2.2 x b) := by rw [tof_s, hb1, if_pos rfl, sgl_0.mpr ((knI_9 hVb).mp c_41), Nat.xor_zero]
            have := ih (b + 1) (by omega) (by omega)
            rw [hs] at this
            exact this
          · have hks : (M.2.2.2 b).isSome = true := by
              cases h : (M.2.2.2 b).isSome with
              | true => rfl
              | false => exact absurd ((knI_9 hVb).mpr h) c_41
            refine r_iload_n C (pc := 44) rfl rfl dX7_peel_44 ?_
            refine r_iconst C (pc := 45) (x := (nI 1)) (by decide) dX7_peel_45 ?_
            refine r_iload C (pc := 46) rfl dX7_peel_46 ?_
            refine r_ishl C (pc := 48) (z := (nI (2 ^ b))) (nI_shl1 (by omega)) dX7_peel_48 ?_
            refine r_ixor C (pc := 49) (z := (nI (((tofn (zVl M) M.2.2.2 x b) / 256) ^^^ (2 ^ b)))) (nx_xor _ _) dX7_peel_49 ?_
            refine r_istore_n C (pc := 50) (lv2 := [some (.ref m), some (.int (nI (x / 256))), some (.int (nI (x % 256))), some (.int (nI (((tofn (zVl M) M.2.2.2 x b) / 256) ^^^ (2 ^ b)))), some (.int (nI ((tofn (zVl M) M.2.2.2 x b) % 256))), some (.int (nI b)), none, none]) rfl (Nat.le_of_ble_eq_true rfl) rfl rfl dX7_peel_50 ?_
            refine r_iload C (pc := 51) rfl dX7_peel_51 ?_
            refine r_aload_n C (pc := 53) rfl rfl dX7_peel_53 ?_
            refine r_get C (pc := 54) (ci := 7) (k := 0) (w := .ref (m + 1)) rfl (by decide) inX7 (by decide) q_654 (Or.inl hd0) hs0 (zl_ref _ _) dX7_peel_54 ?_
            refine r_bipush C (pc := 57) (x := (nI 86)) (by decide) dX7_peel_57 ?_
            refine r_iload C (pc := 59) rfl dX7_peel_59 ?_
            refine r_iadd C (pc := 61) (z := (nI (86 + b))) (nI_add _ _) dX7_peel_61 ?_
            refine r_iald C (pc := 62) (x := (nI (M.1 (17 + b)))) (Or.inl hd1) hs1 (by omega) (by omega) (by rw [hv.2.2.1 b hb12, knI, if_pos hks]) dX7_peel_62 ?_
            refine r_ixor C (pc := 63) (z := (nI (((tofn (zVl M) M.2.2.2 x b) % 256) ^^^ (M.1 (17 + b))))) (nx_xor _ _) dX7_peel_63 ?_
            refine r_istore C (pc := 64) (lv2 := [some (.ref m), some (.int (nI (x / 256))), some (.int (nI (x % 256))), some (.int (nI (((tofn (zVl M) M.2.2.2 x b) / 256) ^^^ (2 ^ b)))), some (.int (nI (((tofn (zVl M) M.2.2.2 x b) % 256) ^^^ (M.1 (17 + b))))), some (.int (nI b)), none, none]) (Nat.le_of_ble_eq_true rfl) rfl rfl dX7_peel_64 ?_
            refine r_iinc C (pc := 66) (lv2 := [some (.ref m), some (.int (nI (x / 256))), some (.int (nI (x % 256))), some (.int (nI (((tofn (zVl M) M.2.2.2 x b) / 256) ^^^ (2 ^ b)))), some (.int (nI (((tofn (zVl M) M.2.2.2 x b) % 256) ^^^ (M.1 (17 + b))))), some (.int (nI (b + 1))), none, none]) (y := (nI (b + 1))) rfl (nI_inc _ _) (Nat.le_of_ble_eq_true rfl) rfl rfl dX7_peel_66 ?_
            refine r_goto C (pc := 69) (tgt := 8) dX7_peel_69 (by decide) ?_
            have hs : (tofn (zVl M) M.2.2.2 x (b + 1)) = (tofn (zVl M) M.2.2.2 x b) ^^^ (2 ^ (8 + b) + M.1 (17 + b)) := by rw [tof_s, hb1, if_pos rfl, sgl, if_pos hks]
            have := ih (b + 1) (by omega) (by omega)
            rw [hs, x_div, x_mod, pw_div hVb, pw_mod hVb] at this
            exact this
  refine r_iload_n C (pc := 0) rfl rfl dX7_peel_0 ?_
  refine r_istore_n C (pc := 1) (lv2 := [some (.ref m), some (.int (nI (x / 256))), some (.int (nI (x % 256))), some (.int (nI (x / 256))), none, none, none, none]) rfl (Nat.le_of_ble_eq_true rfl) rfl rfl dX7_peel_1 ?_
  refine r_iload_n C (pc := 2) rfl rfl dX7_peel_2 ?_
  refine r_istore C (pc := 3) (lv2 := [some (.ref m), some (.int (nI (x / 256))), some (.int (nI (x % 256))), some (.int (nI (x / 256))), some (.int (nI (x % 256))), none, none, none]) (Nat.le_of_ble_eq_true rfl) rfl rfl dX7_peel_3 ?_
  refine r_iconst C (pc := 5) (x := (nI 0)) (by decide) dX7_peel_5 ?_
  refine r_istore C (pc := 6) (lv2 := [some (.ref m), some (.int (nI (x / 256))), some (.int (nI (x % 256))), some (.int (nI (x / 256))), some (.int (nI (x % 256))), some (.int (nI 0)), none, none]) (Nat.le_of_ble_eq_true rfl) rfl rfl dX7_peel_6 ?_
  exact loopA (M.1 0 + 1) 0 (by omega) (by omega)
