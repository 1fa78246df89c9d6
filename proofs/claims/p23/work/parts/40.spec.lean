/-! what each call answers and what it leaves -/
def nn (a : Int32) : Nat := a.toNatClampNeg
theorem nn_I {n : Nat} (h : n < 2 ^ 31) : nn (nI n) = n := nI_clamp h
theorem I_nn {a : Int32} (h : nI 0 ≤ a) : a = nI (nn a) ∧ nn a < 2 ^ 31 := by
  have h0 : (0 : Int) ≤ a.toInt := by
    have := Int32.le_iff_toInt_le.mp h
    rw [nI_toInt (by decide)] at this
    exact this
  have h1 := Int32.toInt_lt a
  have h2 : nn a < 2 ^ 31 := by
    unfold nn
    rw [Int32.toNatClampNeg]
    omega
  refine ⟨?_, h2⟩
  apply Int32.toInt_inj.mp
  rw [nI_toInt h2]
  unfold nn
  rw [Int32.toNatClampNeg]
  omega
theorem inR {a : Int32} {lo hi : Nat} (h : nI lo ≤ a ∧ a ≤ nI hi) (hl : lo < 2 ^ 31) (hh : hi < 2 ^ 31) : ∃ n, lo ≤ n ∧ n ≤ hi ∧ a = nI n := by
  have h0 : nI 0 ≤ a := Int32.le_trans ((nI_leI (by decide) hl).mpr (Nat.zero_le _)) h.1
  obtain ⟨h1, h2⟩ := I_nn h0
  rw [h1] at h
  exact ⟨nn a, (nI_leI hl h2).mp h.1, (nI_leI h2 hh).mp h.2, h1⟩
def zL (M : zMS) : Prop := ∀ r, r < 3 → (M.2.1 r).length ≤ M.1 3
def zGd (T : Nat) (M : zMS) : Prop := zE M ∧ zT T M ∧ zL M
theorem mRel_L {M : zMS} {i : Nat} (h : zL M) : zL (mRel M i).2 := by
  intro r hr
  unfold mRel
  split
  · exact h r hr
  · split
    · dsimp only
      rw [upc_n (by decide)]
      exact h r hr
    · show (upl M.2.1 i _ r).length ≤ M.1 3
      by_cases hri : r = i
      · subst hri
        rw [upl_s, List.length_append, List.length_eraseIdx_of_lt (by omega)]
        have := h r hr
        show (M.2.1 r).length - 1 + 1 ≤ _
        omega
      · rw [upl_n hri]; exact h r hr
theorem mSend_L {M : zMS} {n : Nat} (h : zL M) : zL (mSend M n).2 := by
  have h1 : zL (mMk M n).2 := by
    unfold mMk
    split
    · intro r hr
      unfold mSrc
      dsimp only
      rw [upc_n (by decide), upc_n (by decide)]
      exact h r hr
    · exact mRel_L h
  unfold mSend
  split
  · exact h1
  · split
    · intro r hr
      dsimp only
      rw [upc_n (by decide), upc_n (by decide)]
      exact h1 r hr
    · intro r hr
      dsimp only
      rw [upc_n (by decide)]
      exact h1 r hr
theorem mP1_L {M : zMS} (h : zL M) : ∀ n, zL (mP1 M n).1
  | 0 => by
    intro r hr
    show (M.2.1 r).length ≤ upc M.1 2 (M.1 2 + 1) 3
    rw [upc_n (by decide)]
    exact h r hr
  | n + 1 => mSend_L (mP1_L h n)
theorem mSto_L {M : zMS} {i p : Nat} (h : zL M) (h3 : 1 ≤ M.1 3) : zL (mSto M i p) := by
  have key : ∀ l : List Nat, l.length ≤ M.1 3 → zL (M.1, upl M.2.1 i l, M.2.2) := fun l hl r hr => by
    show (upl M.2.1 i l r).length ≤ M.1 3
    by_cases hri : r = i
    · subst hri; rw [upl_s]; exact hl
    · rw [upl_n hri]; exact h r hr
  by_cases hi3 : i < 3
  · have hi := h i hi3
    unfold mSto
    split
    · exact h
    · split
      · rename_i hl; exact key _ (by rw [List.length_append]; exact hl)
      · rename_i hl
        have her : ∀ k, k < (M.2.1 i).length → ((M.2.1 i).eraseIdx k ++ [p]).length ≤ M.1 3 := fun k hk => by
          rw [List.length_append, List.length_eraseIdx_of_lt hk]
          show (M.2.1 i).length - 1 + 1 ≤ _
          omega
        split
        · exact h
        · split
          · exact key _ (her _ (mcb_lt _ _ (by omega)))
          · split
            · refine key _ ?_
              split
              · rw [List.length_eraseIdx_of_lt (by omega)]; omega
              · rw [List.length_append, List.length_eraseIdx_of_lt (by omega)]
                show (M.2.1 i).length - 1 + 1 ≤ _
                omega
            · exact key _ (her 0 (by omega))
  · intro r hr
    rw [mSto_c]
    have e : (mSto M i p).2.1 r = M.2.1 r := by
      unfold mSto
      split
      · rfl
      · split
        · exact upl_n (by omega)
        · split
          · rfl
          · split
            · exact upl_n (by omega)
            · split
              · exact upl_n (by omega)
              · exact upl_n (by omega)
    rw [e]; exact h r hr
theorem mAcc_L {M : zMS} {p : Nat} (h : zL M) : zL (mAcc M p) := by
  intro r hr
  rw [mAcc_c M p 3 (by decide)]
  dsimp only [mAcc]
  rw [upl_n (by omega), upl_n (by omega)]
  exact h r hr
theorem mP2_L {M : zMS} {ol : Nat → Nat} (h : zL M) (h3 : 1 ≤ M.1 3) : ∀ n, zL (mP2 M ol n) ∧ (mP2 M ol n).1 3 = M.1 3
  | 0 => ⟨h, rfl⟩
  | n + 1 => by
    obtain ⟨h1, h2⟩ := mP2_L (ol := ol) h h3 n
    refine ⟨?_, (mArr_c _ _ _ 3 (by decide)).trans h2⟩
    show zL (mArr _ _ _)
    unfold mArr
    split
    · exact h1
    · split
      · exact mAcc_L h1
      · exact mSto_L h1 (by omega)
theorem mTick_L {M : zMS} (hk : mOK M) (h : zL M) : zL (mTick M) := by
  have hR := hk.1.2.2.1
  have c3 := (mP1_ok hk (M.1 1 + 1) (by omega)).2.2 3 (by decide) (by decide) (by decide) (by decide)
  exact (mP2_L (mP1_L h _) (by rw [c3]; exact hk.1.2.2.2.1) _).1
theorem mTick_G {T : Nat} {M : zMS} (h : zGd T M) : zGd (T + 1) (mTick M) := ⟨mTick_E h.1, mTick_T h.1 h.2.1, mTick_L h.1.1 h.2.2⟩
theorem zT_mono {T U : Nat} {M : zMS} (h : zT T M) (hu : T ≤ U) : zT U M := ⟨Nat.le_trans h.1 hu, Nat.le_trans h.2.1 hu, fun b t e => Nat.le_trans (h.2.2.1 b t e) hu, fun b t e => Nat.le_trans (h.2.2.2 b t e) hu⟩
theorem zG_mono {T U : Nat} {M : zMS} (h : zGd T M) (hu : T ≤ U) : zGd U M := ⟨h.1, zT_mono h.2.1 hu, h.2.2⟩
def itk : Nat → zMS → zMS
  | 0, M => M
  | n + 1, M => mTick (itk n M)
theorem itk_G {T : Nat} {M : zMS} (h : zGd T M) : ∀ n, zGd (T + n) (itk n M)
  | 0 => h
  | n + 1 => mTick_G (itk_G h n)
def dn (how : Nat) (M : zMS) : Bool := decide ((if how = 0 then cntn M.2.2.2 12 else cntn M.2.2.1 12) = M.1 0)
def tks (how : Nat) : Nat → Nat → zMS → Nat × zMS
  | 0, n, M => (n, M)
  | k + 1, n, M => if dn how M then (n, M) else tks how k (n + 1) (mTick M)
theorem tks_G {T how : Nat} : ∀ (k n : Nat) (M : zMS), zGd T M → ∃ U, U ≤ T + k ∧ zGd U (tks how k n M).2
  | 0, _, _, h => ⟨T, by omega, h⟩
  | k + 1, n, M, h => by
    unfold tks
    split
    · exact ⟨T, by omega, h⟩
    · obtain ⟨U, h1, h2⟩ := tks_G k (n + 1) (mTick M) (mTick_G h)
      exact ⟨U, by omega, h2⟩
theorem tks_le {how : Nat} : ∀ (k n : Nat) (M : zMS), (tks how k n M).1 ≤ n + k
  | 0, _, _ => Nat.le_refl _
  | k + 1, n, M => by
    unfold tks
    split
    · show n ≤ n + (k + 1); omega
    · have := tks_le k (n + 1) (mTick M) (how := how)
      omega
def tkI (how most : Nat) (M : zMS) : Int32 := if dn how (tks how most 0 M).2 then nI (tks how most 0 M).1 else -9
/-- all is solved just when as many packets are kept as there are blocks -/
theorem nzn_full {r : Nat → Nat} : ∀ n, nzn r n = n → ∀ j, j < n → r j ≠ 0
  | 0, _, _, hj => absurd hj (Nat.not_lt_zero _)
  | n + 1, h, j, hj => by
    have h1 : nzn r n + (if r n = 0 then 0 else 1) = n + 1 := h
    have h2 := nzn_le r n
    by_cases hr : r n = 0
    · rw [if_pos hr] at h1; omega
    · rw [if_neg hr] at h1
      by_cases hjn : j = n
      · rw [hjn]; exact hr
      · exact nzn_full n (by omega) j (by omega)
theorem nzn_all {r : Nat → Nat} : ∀ n, (∀ j, j < n → r j ≠ 0) → nzn r n = n
  | 0, _ => rfl
  | n + 1, h => by
    show nzn r n + (if r n = 0 then 0 else 1) = n + 1
    rw [nzn_all n (fun j hj => h j (by omega)), if_neg (h n (Nat.lt_succ_self n))]
theorem nzn_hi {r : Nat → Nat} {K : Nat} : ∀ n, K ≤ n → (∀ j, K ≤ j → j < n → r j = 0) → nzn r n = nzn r K
  | 0, h, _ => by rw [show K = 0 by omega]
  | n + 1, h, h0 => by
    rcases Nat.lt_or_ge K (n + 1) with h1 | h1
    · show nzn r n + (if r n = 0 then 0 else 1) = _
      rw [if_pos (h0 n (by omega) (Nat.lt_succ_self n)), nzn_hi n (by omega) (fun j g1 g2 => h0 j g1 (by omega))]
      rfl
    · rw [show n + 1 = K by omega]
theorem cntn_hi {t : Nat → Option Nat} {K : Nat} : ∀ n, K ≤ n → (∀ j, K ≤ j → j < n → (t j).isSome = false) → cntn t n = cntn t K
  | 0, h, _ => by rw [show K = 0 by omega]
  | n + 1, h, h0 => by
    rcases Nat.lt_or_ge K (n + 1) with h1 | h1
    · show cntn t n + (if (t n).isSome then 1 else 0) = _
      rw [h0 n (by omega) (Nat.lt_succ_self n), cntn_hi n (by omega) (fun j g1 g2 => h0 j g1 (by omega))]
      rfl
    · rw [show n + 1 = K by omega]
theorem cntn_full {t : Nat → Option Nat} : ∀ n, cntn t n = n → ∀ j, j < n → (t j).isSome = true
  | 0, _, _, hj => absurd hj (Nat.not_lt_zero _)
  | n + 1, h, j, hj => by
    have h1 : cntn t n + (if (t n).isSome then 1 else 0) = n + 1 := h
    have h2 := cntn_le t n
    by_cases hr : (t n).isSome = true
    · rw [if_pos hr] at h1
      by_cases hjn : j = n
      · rw [hjn]; exact hr
      · exact cntn_full n (by omega) j (by omega)
    · rw [if_neg hr] at h1; omega
theorem cntn_all {t : Nat → Option Nat} : ∀ n, (∀ j, j < n → (t j).isSome = true) → cntn t n = n
  | 0, _ => rfl
  | n + 1, h => by
    show cntn t n + (if (t n).isSome then 1 else 0) = n + 1
    rw [cntn_all n (fun j hj => h j (by omega)), if_pos (h n (Nat.lt_succ_self n))]
theorem so_hi {M : zMS} (h : zE M) {b : Nat} (h1 : M.1 0 ≤ b) (h2 : b < 12) : (M.2.2.1 b).isSome = false := by
  rw [h.2.2.2.1 b h2, decide_eq_false (span_hi h.1.1.2.1 (h.2.1 3 (by decide)) h1 h2)]
theorem kt_hi {M : zMS} (h : zE M) {b : Nat} (h1 : M.1 0 ≤ b) : (M.2.2.2 b).isSome = false := by rw [h.2.2.1 b h1]; rfl
theorem cnt_so {M : zMS} (h : zE M) : cntn M.2.2.1 12 = cntn M.2.2.1 (M.1 0) := cntn_hi 12 h.1.1.2.1 (fun _ h1 h2 => so_hi h h1 h2)
theorem cnt_kt {M : zMS} (h : zE M) : cntn M.2.2.2 12 = cntn M.2.2.2 (M.1 0) := cntn_hi 12 h.1.1.2.1 (fun _ h1 _ => kt_hi h h1)
theorem whole_iff {M : zMS} (h : zE M) : (M.2.1 3).length = M.1 0 ↔ cntn M.2.2.1 12 = M.1 0 := by
  have hK := h.1.1.2.1
  have hl := h.2.1 3 (by decide)
  have h20 : ∀ q ∈ M.2.1 3, q < 2 ^ 20 := fun q hq => (h.1.2.2.1 3 (by decide) q hq).1
  have he := (eqv_spr h20 (M.2.1 3).length).1
  have hnz := nvl_nz h.1.2.2.2.1 (M.2.1 3).length (Nat.le_refl _)
  have hr : ∀ j, j < 12 → spo (M.2.1 3) j < 2 ^ (8 + M.1 0) := cl_spr (P := fun x => x < 2 ^ (8 + M.1 0)) (Nat.two_pow_pos _) (fun _ _ => Nat.xor_lt_two_pow) hl (M.2.1 3).length
  have h0 : ∀ j, M.1 0 ≤ j → j < 12 → spo (M.2.1 3) j = 0 := fun j h1 h2 => by
    by_cases hz : spo (M.2.1 3) j = 0
    · exact hz
    · have g2 : 2 ^ (8 + j) ≤ spo (M.2.1 3) j := Nat.ge_two_pow_of_testBit (he j h2 hz).2
      have g3 := hr j h2
      have g4 : 2 ^ (8 + M.1 0) ≤ 2 ^ (8 + j) := Nat.pow_le_pow_right (by decide) (by omega)
      omega
  have hn2 : nzn (spo (M.2.1 3)) (M.1 0) = (M.2.1 3).length := (nzn_hi 12 hK h0).symm.trans hnz
  rw [cnt_so h]
  constructor
  · intro e
    have hp := nzn_full (M.1 0) (hn2.trans e)
    apply cntn_all
    intro b hb
    rw [h.2.2.2.1 b (by omega)]
    apply decide_eq_true
    apply Nat.div_eq_of_lt
    apply Nat.lt_of_not_le
    intro hge
    have hbd : rdp (spo (M.2.1 3)) 12 (2 ^ (8 + b)) < 2 ^ (8 + M.1 0) := by
      have : ∀ (n x : Nat), n ≤ 12 → x < 2 ^ (8 + M.1 0) → rdp (spo (M.2.1 3)) n x < 2 ^ (8 + M.1 0) := by
        intro n
        induction n with
        | zero => intro x _ hx; exact hx
        | succ n ih =>
          intro x hn hx
          show rdp _ n (if _ then _ else _) < _
          apply ih _ (by omega)
          split
          · exact Nat.xor_lt_two_pow hx (hr n (by omega))
          · exact hx
      exact this 12 _ (Nat.le_refl 12) (Nat.pow_lt_pow_right (by decide) (by omega))
    have hall : ∀ j, j < 12 → (rdp (spo (M.2.1 3)) 12 (2 ^ (8 + b))).testBit (8 + j) = false := fun j hj => by
      rcases Nat.lt_or_ge j (M.1 0) with hjK | hjK
      · exact rd_piv he 12 _ (Nat.le_refl 12) j hj (hp j hjK)
      · exact hi_bit hbd (by omega)
    have hz : rdp (spo (M.2.1 3)) 12 (2 ^ (8 + b)) / 256 = 0 := by
      apply Nat.eq_of_testBit_eq
      intro j
      rw [dv_tb, Nat.zero_testBit]
      rcases Nat.lt_or_ge j 12 with hj | hj
      · exact hall j hj
      · exact hi_bit hbd (by omega)
    omega
  · intro e
    have hs := cntn_full (M.1 0) e
    rw [← hn2]
    apply nzn_all
    intro b hb hz
    have h1 := hs b hb
    rw [h.2.2.2.1 b (by omega)] at h1
    exact dv_bit (rd_top he (by omega) hz (Nat.pow_lt_pow_right (by decide) (by omega)) Nat.testBit_two_pow_self).1 (of_decide_eq_true h1)
/-- the calls -/
def zI (T : Nat) (S : zSt) : Prop := zGd T S.1 ∧ S.2.1 ≤ 8 ∧ (∀ i, i < S.2.1 → zGd T (S.2.2.1 i)) ∧ ∀ i, i < 2 → S.2.2.2.2 i = true → zGd T (S.2.2.2.1 i)
def oBegin (a b : Int32) (S : zSt) : Int32 × zSt := if (nI 2 ≤ a ∧ a ≤ nI 12) ∧ (nI 0 ≤ b ∧ b ≤ nI 3) then (nI (S.1.1 2), (layM S.1 (nn a) (nn b), remH S.1 S.2)) else (-1, S)
def oSetBlock (a b : Int32) (S : zSt) : Int32 × zSt := if (nI 0 ≤ a ∧ a ≤ nI (S.1.1 0 - 1)) ∧ (nI 0 ≤ b ∧ b ≤ nI 255) then (if 0 < S.1.1 2 ∨ 0 < S.1.1 31 then (-2, S) else (nI (S.1.1 (17 + nn a)), ((upc S.1.1 (17 + nn a) (nn b), S.1.2), remH S.1 S.2))) else (-1, S)
def oSetLoss (a b : Int32) (S : zSt) : Int32 × zSt := if (nI 0 ≤ a ∧ a ≤ nI (S.1.1 1)) ∧ (nI 0 ≤ b ∧ b ≤ nI 99) then (nI (S.1.1 (7 + nn a)), ((upc S.1.1 (7 + nn a) (nn b), S.1.2), remH S.1 S.2)) else (-1, S)
def oSetWeight (a b : Int32) (S : zSt) : Int32 × zSt := if (nI 1 ≤ a ∧ a ≤ nI 6) ∧ (nI 0 ≤ b ∧ b ≤ nI 9) then (if wsn S.1.1 6 - S.1.1 (11 + (nn a - 1)) + nn b = 0 then (-2, S) else (nI (S.1.1 (11 + (nn a - 1))), ((upc S.1.1 (11 + (nn a - 1)) (nn b), S.1.2), remH S.1 S.2))) else (-1, S)
def trm (M : zMS) (x : Nat) : zMS := (upc M.1 3 x, (fun r => if r < 3 then (M.2.1 r).drop ((M.2.1 r).length - x) else M.2.1 r), M.2.2)
def oSet (a b : Int32) (S : zSt) : Int32 × zSt :=
  if a = nI 0 ∧ (nI 1 ≤ b ∧ b ≤ nI 4) then (nI (S.1.1 3), (trm S.1 (nn b), remH S.1 S.2))
  else if a = nI 1 ∧ (nI 0 ≤ b ∧ b ≤ nI 3) then (nI (S.1.1 4), ((upc S.1.1 4 (nn b), S.1.2), remH S.1 S.2))
  else if a = nI 2 ∧ (nI 0 ≤ b ∧ b ≤ nI 1) then (nI (S.1.1 5), ((upc S.1.1 5 (nn b), S.1.2), remH S.1 S.2))
  else if a = nI 3 ∧ nI 0 ≤ b then (nI (S.1.1 6), ((upc S.1.1 6 (nn b), S.1.2), remH S.1 S.2))
  else (-1, S)
def oRun (a : Int32) (S : zSt) : Int32 × zSt := if nI 1 ≤ a ∧ a ≤ nI 100 then (nI ((itk (nn a) S.1).2.1 3).length, (itk (nn a) S.1, remH S.1 S.2)) else (-1, S)
def pkS (M : zMS) (s : Nat) : Nat := pkn M.1 s (M.1 0)
def oInject (a : Int32) (S : zSt) : Int32 × zSt := if nI 1 ≤ a ∧ a ≤ nI (2 ^ S.1.1 0 - 1) then (nI (if tkb (spo (S.1.2.1 3)) (pkS S.1 (nn a)) then 1 else 0), (mAcc S.1 (pkS S.1 (nn a)), remH S.1 S.2)) else (-1, S)
def tlf (S : zSt) (k : Nat) : Nat := if k < 7 then S.1.1 k else if k < 11 then S.1.1 (22 + k) else if k = 11 then (S.1.2.1 3).length else if k = 12 then cntn S.1.2.2.2 12 else if k = 13 then (S.1.2.1 4).length else if k = 14 then cntn S.1.2.2.1 12 else if k = 15 then S.1.1 33 else S.2.1
def qTold (a : Int32) (S : zSt) : Int32 := if nI 0 ≤ a ∧ a ≤ nI 16 then nI (tlf S (nn a)) else -1
def qBlock (a b : Int32) (S : zSt) : Int32 := if nI 0 ≤ a ∧ a ≤ nI (S.1.1 0 - 1) then (if b = nI 0 then nI (S.1.1 (17 + nn a)) else if b = nI 1 then knI (S.1.2.2.2 (nn a)) (S.1.1 (17 + nn a)) else if b = nI 2 then knI (S.1.2.2.1 (nn a)) (S.1.1 (17 + nn a)) else if b = nI 3 then tmI (S.1.2.2.2 (nn a)) else if b = nI 4 then tmI (S.1.2.2.1 (nn a)) else -1) else -1
def ptI (l : List Nat) (k w : Nat) : Int32 := if l.length ≤ k then -9 else if w = 0 then nI (l.getD k 0 / 256) else if w = 1 then nI (l.getD k 0 % 256) else nI (pop (l.getD k 0 / 256))
def lsO (M : zMS) (n : Nat) : List Nat := if n = M.1 1 + 1 then M.2.1 3 else M.2.1 (n - 1)
def qPacket (a k w : Int32) (S : zSt) : Int32 := if (nI 1 ≤ a ∧ a ≤ nI (S.1.1 1 + 1)) ∧ nI 0 ≤ k ∧ (nI 0 ≤ w ∧ w ≤ nI 2) then ptI (lsO S.1 (nn a)) (nn k) (nn w) else -1
def qWaiting (k w : Int32) (S : zSt) : Int32 := if nI 0 ≤ k ∧ (nI 0 ≤ w ∧ w ≤ nI 2) then ptI (S.1.2.1 4) (nn k) (nn w) else -1
def qNode (a w : Int32) (S : zSt) : Int32 := if (nI 0 ≤ a ∧ a ≤ nI (S.1.1 1 + 1)) ∧ (nI 0 ≤ w ∧ w ≤ nI 2) then (if nn w = 2 then (if S.1.1 1 < nn a then -9 else nI (S.1.1 (7 + nn a))) else if nn a = 0 then nI (S.1.1 0) else if nn w = 0 then nI (lsO S.1 (nn a)).length else nI (rnk (lsO S.1 (nn a)))) else -1
def qNovel (a s : Int32) (S : zSt) : Int32 := if (nI 1 ≤ a ∧ a ≤ nI (S.1.1 1 + 1)) ∧ (nI 1 ≤ s ∧ s ≤ nI (2 ^ S.1.1 0 - 1)) then nI (if nov (lsO S.1 (nn a)) (pkS S.1 (nn s)) then 1 else 0) else -1
def qForecast (a : Int32) (S : zSt) : Int32 := if nI 0 ≤ a ∧ a ≤ nI 1 then tkI (nn a) 300 S.1 else -1
def bst (M : zMS) : Nat → Int32 × Nat
  | 0 => (-9, 301)
  | p + 1 => if dn 1 (tks 1 300 0 (upc M.1 4 p, M.2)).2 = true ∧ (tks 1 300 0 (upc M.1 4 p, M.2)).1 < (bst M p).2 then (nI p, (tks 1 300 0 (upc M.1 4 p, M.2)).1) else bst M p
def qBest (S : zSt) : Int32 := (bst S.1 4).1
def brr (M : zMS) (a t : Nat) : Nat → Int32
  | 0 => -9
  | n + 1 => if dn 1 (tks 1 t 0 (upc M.1 (7 + a) n, M.2)).2 = true then nI n else brr M a t n
def qBear (a t : Int32) (S : zSt) : Int32 := if (nI 0 ≤ a ∧ a ≤ nI (S.1.1 1)) ∧ (nI 0 ≤ t ∧ t ≤ nI 100) then brr S.1 (nn a) (nn t) 100 else -1
def oKeep (a : Int32) (S : zSt) : Int32 × zSt := if nI 0 ≤ a ∧ a ≤ nI 1 then (nI (S.1.1 2), (S.1, S.2.1, S.2.2.1, (fun i => if i = nn a then S.1 else S.2.2.2.1 i), (fun i => if i = nn a then true else S.2.2.2.2 i))) else (-1, S)
def oBack (a : Int32) (S : zSt) : Int32 × zSt := if nI 0 ≤ a ∧ a ≤ nI 1 then (if S.2.2.2.2 (nn a) = true then (nI ((S.2.2.2.1 (nn a)).1 2), (S.2.2.2.1 (nn a), remH S.1 S.2)) else (-2, S)) else (-1, S)
/-- they keep what is kept to -/
theorem zE_c {M : zMS} (h : zE M) {i x : Nat} (hs : sOK (upc M.1 i x)) (hw : 0 < wsn (upc M.1 i x) 6) (h3 : 3 ≤ i) (hi : i < 17) : zE (upc M.1 i x, M.2) := by
  obtain ⟨⟨k1, k2, k3, k4, k5, k6⟩, h2, h3', h4, h5, h6, h7, h8⟩ := h
  have c0 : upc M.1 i x 0 = M.1 0 := upc_n (by omega)
  have c1 : upc M.1 i x 1 = M.1 1 := upc_n (by omega)
  have c2 : upc M.1 i x 2 = M.1 2 := upc_n (by omega)
  have c31 : upc M.1 i x 31 = M.1 31 := upc_n (by omega)
  have c33 : upc M.1 i x 33 = M.1 33 := upc_n (by omega)
  have hV : ∀ b, b < 12 → zVl M b = zVl (upc M.1 i x, M.2) b := fun b hb => by
    show M.1 (17 + b) = upc M.1 i x (17 + b)
    rw [upc_n (by omega)]
  refine ⟨⟨hs, hw, fun r hr q hq => con_of hV (k3 r hr q hq), k4, k5, by dsimp only; rw [c33]; exact k6⟩, by dsimp only; rw [c0]; exact h2, by dsimp only; rw [c0]; exact h3', h4, zW_of hV h5, by dsimp only; rw [c33]; exact h6, by dsimp only; rw [c1]; exact h7, by dsimp only; rw [c2, c31]; exact h8⟩
theorem zT_c {M : zMS} {T i x : Nat} (h : zT T M) (h3 : 3 ≤ i) (hi : i < 31) : zT T (upc M.1 i x, M.2) := ⟨by dsimp only; rw [upc_n (by omega)]; exact h.1, by dsimp only; rw [upc_n (by omega)]; exact h.2.1, h.2.2⟩
theorem zG_c {M : zMS} {T : Nat} (h : zGd T M) {i x : Nat} (hs : sOK (upc M.1 i x)) (hw : 0 < wsn (upc M.1 i x) 6) (h3 : 4 ≤ i) (hi : i < 17) : zGd T (upc M.1 i x, M.2) := ⟨zE_c h.1 hs hw (by omega) hi, zT_c h.2.1 (by omega) (by omega), fun r hr => by dsimp only; rw [upc_n (by omega)]; exact h.2.2 r hr⟩
theorem sOK_c {c : Nat → Nat} (h : sOK c) {i x : Nat} (hv : (i = 3 ∧ 1 ≤ x ∧ x ≤ 4) ∨ (i = 4 ∧ x ≤ 3) ∨ (i = 5 ∧ x ≤ 1) ∨ (i = 6 ∧ x < 2 ^ 31) ∨ (7 ≤ i ∧ i < 11 ∧ x < 100) ∨ (11 ≤ i ∧ i < 17 ∧ x ≤ 9) ∨ (17 ≤ i ∧ i < 29 ∧ x < 256)) : sOK (upc c i x) := by
  obtain ⟨k0, k1, k2, k3, k4, k5, k6, k7, k8, k9, k10⟩ := h
  have e0 : upc c i x 0 = c 0 := upc_n (by omega)
  have e1 : upc c i x 1 = c 1 := upc_n (by omega)
  have g : ∀ j, (j = i ∧ upc c i x j = x) ∨ (j ≠ i ∧ upc c i x j = c j) := fun j => by
    by_cases hj : j = i
    · exact Or.inl ⟨hj, by rw [hj, upc_s]⟩
    · exact Or.inr ⟨hj, upc_n hj⟩
  have g3 := g 3
  have g4 := g 4
  have g5 := g 5
  have g6 := g 6
  refine ⟨by omega, by omega, by omega, by omega, by omega, by omega, by omega, by omega, fun j hj => ?_, fun d hd => ?_, fun b hb => ?_⟩
  · have := g (7 + j); have := k8 j hj; omega
  · have := g (11 + d); have := k9 d hd; omega
  · have := g (17 + b); have := k10 b hb; omega
theorem wsn_c {c : Nat → Nat} {i x : Nat} (h : i < 11 ∨ 17 ≤ i) : wsn (upc c i x) 6 = wsn c 6 := wsn_of (fun j h1 h2 => upc_n (by omega)) 6 (Nat.le_refl 6)
theorem wsn_w {c : Nat → Nat} {d x : Nat} : ∀ n, d < n → wsn (upc c (11 + d) x) n = wsn c n - c (11 + d) + x ∧ c (11 + d) ≤ wsn c n
  | 0, h => absurd h (Nat.not_lt_zero _)
  | n + 1, h => by
    by_cases hd : d = n
    · subst hd
      have e : ∀ k, k ≤ d → wsn (upc c (11 + d) x) k = wsn c k := by
        intro k
        induction k with
        | zero => intro _; rfl
        | succ k ih =>
          intro hk
          show wsn (upc c (11 + d) x) k + upc c (11 + d) x (11 + k) = wsn c k + c (11 + k)
          rw [ih (by omega), upc_n (by omega)]
      refine ⟨?_, Nat.le_add_left _ _⟩
      show wsn (upc c (11 + d) x) d + upc c (11 + d) x (11 + d) = wsn c d + c (11 + d) - c (11 + d) + x
      rw [e d (Nat.le_refl _), upc_s]; omega
    · obtain ⟨h1, h2⟩ := wsn_w (c := c) (x := x) n (show d < n by omega)
      refine ⟨?_, Nat.le_trans h2 (Nat.le_add_right _ _)⟩
      show wsn (upc c (11 + d) x) n + upc c (11 + d) x (11 + n) = wsn c n + c (11 + n) - c (11 + d) + x
      rw [h1, upc_n (by omega)]; omega
theorem layM_G {M : zMS} {T K R : Nat} (h : zGd T M) (hK : 2 ≤ K) (hK2 : K ≤ 12) (hR : R ≤ 3) : zGd T (layM M K R) := by
  obtain ⟨⟨⟨⟨k0, k1, k2, k3, k4, k5, k6, k7, k8, k9, k10⟩, kw, -⟩, -⟩, hT, -⟩ := h
  have e0 : layc M.1 K R 0 = K := by unfold layc; rw [if_pos rfl]
  have e1 : layc M.1 K R 1 = R := by unfold layc; rw [if_neg (by decide), if_pos rfl]
  have e2 : layc M.1 K R 2 = 0 := by unfold layc; rw [if_neg (by decide), if_neg (by decide), if_pos rfl]
  have e3 : ∀ i, 3 ≤ i → i < 7 → layc M.1 K R i = M.1 i := fun i h1 h2 => by
    rw [layc_lo (by omega), if_neg (by omega), if_neg (by omega), if_neg (by omega), if_neg (by omega)]
  have hs : sOK (layc M.1 K R) := ⟨by rw [e0]; exact hK, by rw [e0]; exact hK2, by rw [e1]; exact hR, by rw [e3 3 (by decide) (by decide)]; exact k3, by rw [e3 3 (by decide) (by decide)]; exact k4, by rw [e3 4 (by decide) (by decide)]; exact k5, by rw [e3 5 (by decide) (by decide)]; exact k6, by rw [e3 6 (by decide) (by decide)]; exact k7, fun i hi => by
    rw [layc_l hi]
    split
    · exact k8 i hi
    · decide, fun d hd => by rw [layc_w hd]; exact k9 d hd, fun b hb => by rw [layc_v hb]; omega⟩
  have hw : 0 < wsn (layc M.1 K R) 6 := by
    rw [wsn_of (c := M.1) (fun i h1 h2 => by
      obtain ⟨d, rfl⟩ : ∃ d, i = 11 + d := ⟨i - 11, by omega⟩
      exact layc_w (by omega)) 6 (Nat.le_refl 6)]
    exact kw
  refine ⟨⟨⟨hs, hw, fun r hr q hq => (by cases hq), fun n hn => absurd hn (Nat.not_lt_zero n), Nat.zero_le _, by show layc M.1 K R 33 ≤ 20; rw [layc_hi (by decide)]; decide⟩, fun r hr q hq => (by cases hq), fun _ _ => rfl, fun b hb => ?_, ⟨fun q hq => (by cases hq), fun q hq => (by cases hq)⟩, Nat.zero_le _, fun _ _ _ => rfl, fun _ _ => ⟨fun _ _ => rfl, fun _ => rfl, fun _ => rfl⟩⟩, ⟨by show layc M.1 K R 2 ≤ T; rw [e2]; exact Nat.zero_le _, by show layc M.1 K R 31 ≤ T; rw [layc_hi (by decide)]; exact Nat.zero_le _, fun b t e => (by cases e), fun b t e => (by cases e)⟩, fun r hr => Nat.zero_le _⟩
  have h1 := span_hi (l := []) (K := 0) (by decide) (fun q hq => (by cases hq)) (Nat.zero_le b) hb
  show false = decide _
  exact (decide_eq_false h1).symm
theorem trm_G {M : zMS} {T x : Nat} (h : zGd T M) (h1 : 1 ≤ x) (h4 : x ≤ 4) : zGd T (trm M x) := by
  obtain ⟨hE, hT, hL⟩ := h
  have hE2 := zE_c hE (sOK_c (i := 3) (x := x) hE.1.1 (Or.inl ⟨rfl, h1, h4⟩)) (by rw [wsn_c (by decide)]; exact hE.1.2.1) (by decide) (by decide)
  obtain ⟨⟨k1, k2, k3, k4, k5, k6⟩, g2, g3, g4, g5, g6, g7, g8⟩ := hE2
  have hd : ∀ r, ∀ q ∈ (if r < 3 then (M.2.1 r).drop ((M.2.1 r).length - x) else M.2.1 r), q ∈ M.2.1 r := fun r q hq => by
    split at hq
    · exact List.mem_of_mem_drop hq
    · exact hq
  have he : ∀ r, M.2.1 r = [] → (if r < 3 then (M.2.1 r).drop ((M.2.1 r).length - x) else M.2.1 r) = [] := fun r h => by
    rw [h]
    split
    · exact List.drop_nil
    · rfl
  refine ⟨⟨⟨k1, k2, fun r hr q hq => k3 r hr q (hd r q hq), k4, k5, k6⟩, fun r hr q hq => g2 r hr q (hd r q hq), g3, g4, g5, g6, fun r hr h => he r (g7 r hr h), fun h2 h31 => ⟨fun r hr => he r ((g8 h2 h31).1 r hr), (g8 h2 h31).2⟩⟩, zT_c hT (by decide) (by decide), fun r hr => ?_⟩
  show (if r < 3 then (M.2.1 r).drop ((M.2.1 r).length - x) else M.2.1 r).length ≤ upc M.1 3 x 3
  rw [if_pos hr, upc_s, List.length_drop]; omega
theorem setb_G {M : zMS} {T b x : Nat} (h : zGd T M) (hb : b < 12) (hx : x < 256) (h2 : M.1 2 = 0) (h31 : M.1 31 = 0) : zGd T (upc M.1 (17 + b) x, M.2) := by
  obtain ⟨⟨⟨k1, k2, k3, k4, k5, k6⟩, g2, g3, g4, g5, g6, g7, g8⟩, hT, hL⟩ := h
  obtain ⟨n1, n2, n3⟩ := g8 h2 h31
  have c : ∀ i, i < 17 ∨ 29 ≤ i → upc M.1 (17 + b) x i = M.1 i := fun i hi => upc_n (by omega)
  have hem : ∀ r, r < 5 → ∀ q ∈ M.2.1 r, False := fun r hr q hq => by rw [n1 r hr] at hq; cases hq
  refine ⟨⟨⟨sOK_c k1 (Or.inr (Or.inr (Or.inr (Or.inr (Or.inr (Or.inr ⟨by omega, by omega, hx⟩)))))), by dsimp only; rw [wsn_c (by omega)]; exact k2, fun r hr q hq => (hem r hr q hq).elim, k4, k5, by dsimp only; rw [c 33 (by omega)]; exact k6⟩, fun r hr q hq => (hem r hr q hq).elim, by dsimp only; rw [c 0 (by omega)]; exact g3, g4, ⟨fun q hq => (hem 4 (by decide) q hq).elim, fun q hq => (hem 4 (by decide) q hq).elim⟩, by dsimp only; rw [c 33 (by omega)]; exact g6, by dsimp only; rw [c 1 (by omega)]; exact g7, fun _ _ => ⟨n1, n2, n3⟩⟩, ⟨by dsimp only; rw [c 2 (by omega)]; exact hT.1, by dsimp only; rw [c 31 (by omega)]; exact hT.2.1, hT.2.2⟩, fun r hr => by dsimp only; rw [c 3 (by omega)]; exact hL r hr⟩
theorem zI_mono {T U : Nat} {S : zSt} (h : zI T S) (hu : T ≤ U) : zI U S := ⟨zG_mono h.1 hu, h.2.1, fun i hi => zG_mono (h.2.2.1 i hi) hu, fun i hi e => zG_mono (h.2.2.2 i hi e) hu⟩
theorem zI_rem {T U : Nat} {S : zSt} {M : zMS} (h : zI T S) (hu : T ≤ U) (hM : zGd U M) : zI U (M, remH S.1 S.2) := by
  obtain ⟨h1, h2, h3, h4⟩ := zI_mono h hu
  refine ⟨hM, ?_, ?_, ?_⟩
  · show (remH S.1 S.2).1 ≤ 8
    unfold remH
    split
    · exact Nat.le_refl 8
    · show S.2.1 + 1 ≤ 8; omega
  · show ∀ i, i < (remH S.1 S.2).1 → zGd U ((remH S.1 S.2).2.1 i)
    unfold remH
    split
    · intro i hi
      show zGd U (if i < 7 then _ else _)
      split
      · exact h3 _ (by omega)
      · exact h1
    · intro i hi
      have hi2 : i < S.2.1 + 1 := hi
      show zGd U (if i = S.2.1 then _ else _)
      split
      · exact h1
      · exact h3 i (by omega)
  · show ∀ i, i < 2 → (remH S.1 S.2).2.2.2 i = true → zGd U ((remH S.1 S.2).2.2.1 i)
    unfold remH
    split
    · exact h4
    · exact h4
theorem pkS_ok {M : zMS} (h : zE M) (s : Nat) : con (zVl M) (pkS M s) ∧ pkS M s < 2 ^ (8 + M.1 0) := ⟨con_pkn (mOK_V h.1) _ h.1.1.2.1, pkn_bd (mOK_V h.1) _ h.1.1.2.1⟩
theorem mAcc_G {M : zMS} {T p : Nat} (h : zGd T M) (hp : con (zVl M) p) (hpK : p < 2 ^ (8 + M.1 0)) : zGd (T + 1) (mAcc M p) := ⟨mAcc_E h.1 hp hpK, zT_acc (by have := h.2.1.1; omega) (by have := h.2.1.2.1; omega) (fun b t e => Nat.le_succ_of_le (h.2.1.2.2.1 b t e)) (fun b t e => Nat.le_succ_of_le (h.2.1.2.2.2 b t e)), mAcc_L h.2.2⟩
