/-! the state of a transfer as mathematics, and one tick of it -/
abbrev zMS : Type := (Nat → Nat) × (Nat → List Nat) × (Nat → Option Nat) × (Nat → Option Nat)
def spr (l : List Nat) : Nat → Nat → Nat
  | 0 => fun _ => 0
  | n + 1 => tkr (spr l n) (l.getD n 0)
def spk (l : List Nat) : Nat → Nat
  | 0 => 0
  | n + 1 => spk l n + (if tkb (spr l n) (l.getD n 0) then 1 else 0)
def spo (l : List Nat) : Nat → Nat := spr l l.length
def rnk (l : List Nat) : Nat := spk l l.length
theorem spk_le (l : List Nat) : ∀ n, spk l n ≤ n
  | 0 => Nat.le_refl 0
  | n + 1 => by
    have := spk_le l n
    show spk l n + (if _ then 1 else 0) ≤ n + 1
    split <;> omega
theorem spr_app (l : List Nat) (p : Nat) : ∀ n, n ≤ l.length → spr (l ++ [p]) n = spr l n
  | 0, _ => rfl
  | n + 1, h => by
    show tkr (spr (l ++ [p]) n) ((l ++ [p]).getD n 0) = tkr (spr l n) (l.getD n 0)
    rw [spr_app l p n (by omega), gd_app, if_pos (show n < l.length by omega)]
theorem spo_app (l : List Nat) (p : Nat) : spo (l ++ [p]) = tkr (spo l) p := by
  unfold spo
  rw [List.length_append]
  show tkr (spr (l ++ [p]) l.length) ((l ++ [p]).getD l.length 0) = _
  rw [spr_app l p _ (Nat.le_refl _), gd_app, if_neg (Nat.lt_irrefl _), if_pos rfl]
theorem cl_tkp {P : Nat → Prop} (hx : ∀ a b, P a → P b → P (a ^^^ b)) {r : Nat → Nat} (hr : ∀ j, j < 12 → P (r j)) : ∀ (n x : Nat), n ≤ 12 → P x → ∀ z, tkp r n x = some z → P z.2
  | 0, _, _, _, z, h => by cases h
  | n + 1, x, hn, hx0, z, h => by
    have h2 : (if x.testBit (8 + n) then (if r n = 0 then some (n, x) else tkp r n (x ^^^ r n)) else tkp r n x) = some z := h
    split at h2
    · split at h2
      · cases h2; exact hx0
      · exact cl_tkp hx hr n _ (by omega) (hx _ _ hx0 (hr n (by omega))) z h2
    · exact cl_tkp hx hr n x (by omega) hx0 z h2
theorem cl_tkr {P : Nat → Prop} (hx : ∀ a b, P a → P b → P (a ^^^ b)) {r : Nat → Nat} {p : Nat} (hr : ∀ j, j < 12 → P (r j)) (hp : P p) : ∀ j, j < 12 → P (tkr r p j) := by
  intro j hj
  cases hz : tkp r 12 p with
  | none =>
    have e : tkr r p = r := by simp only [tkr, hz]
    rw [e]; exact hr j hj
  | some z =>
    have e : tkr r p = ups r z.1 z.2 := by simp only [tkr, hz]
    rw [e]
    unfold ups
    split
    · exact cl_tkp hx hr 12 p (Nat.le_refl 12) hp z hz
    · exact hr j hj
theorem cl_spr {P : Nat → Prop} (h0 : P 0) (hx : ∀ a b, P a → P b → P (a ^^^ b)) {l : List Nat} (h : ∀ q ∈ l, P q) : ∀ n, ∀ j, j < 12 → P (spr l n j)
  | 0 => fun _ _ => h0
  | n + 1 => cl_tkr hx (cl_spr h0 hx h n) (by
    rcases Nat.lt_or_ge n l.length with hn | hn
    · exact gd_mem h hn
    · rw [gd_ge hn]; exact h0)
theorem spr_lt {l : List Nat} (h : ∀ q ∈ l, q < 2 ^ 20) (n : Nat) : ∀ j, j < 12 → spr l n j < 2 ^ 20 := cl_spr (P := fun x => x < 2 ^ 20) (by decide) (fun _ _ => xor20) h n
theorem spr_con {V : Nat → Nat} {l : List Nat} (h : ∀ q ∈ l, con V q) (n : Nat) : ∀ j, j < 12 → con V (spr l n j) := cl_spr (con_0 V) (fun _ _ => con_xor) h n
/-- a list of which each packet was novel for those ahead of it -/
def nvl (l : List Nat) : Prop := ∀ n, n < l.length → tkb (spr l n) (l.getD n 0) = true
def nzn (r : Nat → Nat) : Nat → Nat
  | 0 => 0
  | n + 1 => nzn r n + (if r n = 0 then 0 else 1)
theorem nzn_le (r : Nat → Nat) : ∀ n, nzn r n ≤ n
  | 0 => Nat.le_refl 0
  | n + 1 => by
    have := nzn_le r n
    show nzn r n + (if _ then 0 else 1) ≤ n + 1
    split <;> omega
theorem nzn_0 : ∀ n, nzn (fun _ => 0) n = 0
  | 0 => rfl
  | n + 1 => by
    show nzn _ n + (if _ then 0 else 1) = 0
    rw [nzn_0 n]; rfl
theorem nzn_ups {r : Nat → Nat} {t x : Nat} (h : r t = 0) (hx : x ≠ 0) : ∀ n, nzn (ups r t x) n = nzn r n + (if t < n then 1 else 0)
  | 0 => rfl
  | n + 1 => by
    show nzn (ups r t x) n + (if ups r t x n = 0 then 0 else 1) = nzn r n + (if r n = 0 then 0 else 1) + _
    rw [nzn_ups h hx n]
    by_cases hn : n = t
    · subst hn
      have e : ups r n x n = x := by simp [ups]
      rw [e, if_neg hx, h, if_pos rfl, if_neg (Nat.lt_irrefl n), if_pos (Nat.lt_succ_self n)]
    · have e : ups r t x n = r n := by simp [ups, hn]
      have h3 : (if t < n + 1 then 1 else 0 : Nat) = if t < n then 1 else 0 := by
        by_cases htn : t < n
        · rw [if_pos htn, if_pos (show t < n + 1 by omega)]
        · rw [if_neg htn, if_neg (show ¬ t < n + 1 by omega)]
      rw [e, h3, Nat.add_right_comm]
theorem tkp_ok {r : Nat → Nat} : ∀ (n x : Nat) (z : Nat × Nat), tkp r n x = some z → z.1 < n ∧ r z.1 = 0 ∧ z.2.testBit (8 + z.1) = true
  | 0, _, z, h => by cases h
  | n + 1, x, z, h => by
    have h2 : (if x.testBit (8 + n) then (if r n = 0 then some (n, x) else tkp r n (x ^^^ r n)) else tkp r n x) = some z := h
    split at h2
    · rename_i hb
      split at h2
      · rename_i hr
        cases h2; exact ⟨Nat.lt_succ_self n, hr, hb⟩
      · have := tkp_ok n _ z h2
        exact ⟨by omega, this.2⟩
    · have := tkp_ok n _ z h2
      exact ⟨by omega, this.2⟩
theorem nzn_tkr {r : Nat → Nat} {p : Nat} (h : tkb r p = true) : nzn (tkr r p) 12 = nzn r 12 + 1 := by
  cases hz : tkp r 12 p with
  | none => rw [tkb, hz] at h; cases h
  | some z =>
    have e : tkr r p = ups r z.1 z.2 := by simp only [tkr, hz]
    obtain ⟨h1, h2, h3⟩ := tkp_ok 12 p z hz
    have hx : z.2 ≠ 0 := fun h0 => by rw [h0, Nat.zero_testBit] at h3; cases h3
    rw [e, nzn_ups h2 hx 12, if_pos h1]
theorem nvl_nz {l : List Nat} (h : nvl l) : ∀ n, n ≤ l.length → nzn (spr l n) 12 = n
  | 0, _ => nzn_0 12
  | n + 1, hn => by
    show nzn (tkr (spr l n) (l.getD n 0)) 12 = n + 1
    rw [nzn_tkr (h n (by omega)), nvl_nz h n (by omega)]
theorem nvl_k {l : List Nat} (h : nvl l) {p : Nat} (hp : tkb (spo l) p = true) : l.length < 12 := by
  have h1 := nvl_nz h l.length (Nat.le_refl _)
  have h2 := nzn_tkr hp
  have h3 := nzn_le (tkr (spo l) p) 12
  have h4 : nzn (spo l) 12 = l.length := h1
  omega
theorem nvl_spk {l : List Nat} (h : nvl l) : ∀ n, n ≤ l.length → spk l n = n
  | 0, _ => rfl
  | n + 1, hn => by
    show spk l n + (if _ then 1 else 0) = _
    rw [nvl_spk h n (by omega), if_pos (h n (by omega))]
theorem nvl_app {l : List Nat} (h : nvl l) {p : Nat} (hp : tkb (spo l) p = true) : nvl (l ++ [p]) := by
  intro n hn
  have hn2 : n < l.length + 1 := by simpa using hn
  rw [spr_app l p n (by omega), gd_app]
  by_cases hl : n < l.length
  · rw [if_pos hl]; exact h n hl
  · rw [if_neg hl, if_pos (show n = l.length by omega), show n = l.length by omega]; exact hp
/-- the parts of one tick -/
abbrev zVl (M : zMS) : Nat → Nat := fun b => M.1 (17 + b)
def upl (ls : Nat → List Nat) (r : Nat) (l : List Nat) : Nat → List Nat := fun j => if j = r then l else ls j
theorem upl_s (ls : Nat → List Nat) (r : Nat) (l : List Nat) : upl ls r l r = l := by simp [upl]
theorem upl_n {ls : Nat → List Nat} {r j : Nat} {l : List Nat} (h : j ≠ r) : upl ls r l j = ls j := by simp [upl, h]
def mSrc (M : zMS) : Nat × zMS :=
  (pkn M.1 (dsn (M.1 0) (dseed (M.1 6), deg M.1 (drw (M.1 6) (wsn M.1 6)), 0) (M.1 0)).2.2 (M.1 0), upc (upc M.1 29 (M.1 29 + 1)) 6 (dsn (M.1 0) (dseed (M.1 6), deg M.1 (drw (M.1 6) (wsn M.1 6)), 0) (M.1 0)).1, M.2)
def rcs (l : List Nat) (s : Nat) : Nat → Nat × Nat × Bool
  | 0 => (s, 0, false)
  | k + 1 => if drw (rcs l s k).1 2 = 1 then (dseed (rcs l s k).1, (rcs l s k).2.1 ^^^ l.getD k 0, true) else (dseed (rcs l s k).1, (rcs l s k).2.1, (rcs l s k).2.2)
def rcp (l : List Nat) (z : Nat × Nat × Bool) : Nat := if z.2.2 then (if z.2.1 / 256 = 0 then 0 else z.2.1) else l.getD 0 0
def mRel (M : zMS) (i : Nat) : Nat × zMS :=
  if (M.2.1 i).length = 0 then (0, M)
  else if M.1 5 = 1 then (rcp (M.2.1 i) (rcs (M.2.1 i) (M.1 6) (M.2.1 i).length), upc M.1 6 (rcs (M.2.1 i) (M.1 6) (M.2.1 i).length).1, M.2)
  else ((M.2.1 i).getD 0 0, M.1, upl M.2.1 i ((M.2.1 i).eraseIdx 0 ++ [(M.2.1 i).getD 0 0]), M.2.2)
def mMk (M : zMS) (n : Nat) : Nat × zMS := if n = 0 then mSrc M else mRel M (n - 1)
def mSend (M : zMS) (n : Nat) : Nat × zMS :=
  if (mMk M n).1 = 0 then (0, (mMk M n).2)
  else if drw ((mMk M n).2.1 6) 100 < (mMk M n).2.1 (7 + n) then (0, upc (upc (mMk M n).2.1 6 (dseed ((mMk M n).2.1 6))) 30 ((mMk M n).2.1 30 + 1), (mMk M n).2.2)
  else ((mMk M n).1, upc (mMk M n).2.1 6 (dseed ((mMk M n).2.1 6)), (mMk M n).2.2)
def mP1 (M : zMS) : Nat → zMS × (Nat → Nat)
  | 0 => ((upc M.1 2 (M.1 2 + 1), M.2), fun _ => 0)
  | n + 1 => ((mSend (mP1 M n).1 n).2, ups (mP1 M n).2 n (mSend (mP1 M n).1 n).1)
def nov (l : List Nat) (p : Nat) : Bool := decide (rdp (spo l) 12 p / 256 ≠ 0)
def mSto (M : zMS) (i p : Nat) : zMS :=
  if M.1 4 = 2 ∧ nov (M.2.1 i) p = false then M
  else if (M.2.1 i).length < M.1 3 then (M.1, upl M.2.1 i (M.2.1 i ++ [p]), M.2.2)
  else if M.1 4 = 1 then M
  else if M.1 4 = 2 then (M.1, upl M.2.1 i ((M.2.1 i).eraseIdx (mcb (mcc p (M.2.1 i)) (M.2.1 i).length) ++ [p]), M.2.2)
  else if M.1 4 = 3 then (M.1, upl M.2.1 i (if ((M.2.1 i).getD 0 0 ^^^ p) / 256 = 0 then (M.2.1 i).eraseIdx 0 else (M.2.1 i).eraseIdx 0 ++ [(M.2.1 i).getD 0 0 ^^^ p]), M.2.2)
  else (M.1, upl M.2.1 i ((M.2.1 i).eraseIdx 0 ++ [p]), M.2.2)
def mAcc (M : zMS) (p : Nat) : zMS :=
  (upc (upc (upc M.1 31 (M.1 31 + 1)) 32 (if tkb (spo (M.2.1 3)) p then M.1 32 else M.1 32 + 1)) 33 (max (M.1 33) (plM (zVl M) (M.1 2) p M.2.2.2 (M.2.1 4)).2.length),
   upl (upl M.2.1 3 (if tkb (spo (M.2.1 3)) p then M.2.1 3 ++ [p] else M.2.1 3)) 4 (plM (zVl M) (M.1 2) p M.2.2.2 (M.2.1 4)).2,
   (if tkb (spo (M.2.1 3)) p then slv (tkr (spo (M.2.1 3)) p) M.2.2.1 (M.1 2) 12 else M.2.2.1), (plM (zVl M) (M.1 2) p M.2.2.2 (M.2.1 4)).1)
def mArr (M : zMS) (n p : Nat) : zMS := if p = 0 then M else if n = M.1 1 then mAcc M p else mSto M n p
def mP2 (M : zMS) (ol : Nat → Nat) : Nat → zMS
  | 0 => M
  | n + 1 => mArr (mP2 M ol n) n (ol n)
def mTick (M : zMS) : zMS := mP2 (mP1 M (M.1 1 + 1)).1 (mP1 M (M.1 1 + 1)).2 (M.1 1 + 1)
/-- what every state keeps to -/
def mOK (M : zMS) : Prop := sOK M.1 ∧ 0 < wsn M.1 6 ∧ (∀ r, r < 5 → ∀ q ∈ M.2.1 r, con (zVl M) q) ∧ nvl (M.2.1 3) ∧ (M.2.1 4).length ≤ 20 ∧ M.1 33 ≤ 20
theorem sOK_of {c c1 : Nat → Nat} (h : sOK c) (hs : c1 6 < 2 ^ 31) (e : ∀ i, i ≠ 6 → i < 29 → i ≠ 2 → c1 i = c i) : sOK c1 := by
  obtain ⟨k0, k1, k2, k3, k4, k5, k6, k7, k8, k9, k10⟩ := h
  have e0 := e 0 (by decide) (by decide) (by decide)
  have e1 := e 1 (by decide) (by decide) (by decide)
  have e3 := e 3 (by decide) (by decide) (by decide)
  have e4 := e 4 (by decide) (by decide) (by decide)
  have e5 := e 5 (by decide) (by decide) (by decide)
  exact ⟨by omega, by omega, by omega, by omega, by omega, by omega, by omega, hs, fun i hi => by rw [e _ (by omega) (by omega) (by omega)]; exact k8 i hi, fun d hd => by rw [e _ (by omega) (by omega) (by omega)]; exact k9 d hd, fun b hb => by rw [e _ (by omega) (by omega) (by omega)]; exact k10 b hb⟩
theorem wsn_of {c c1 : Nat → Nat} (e : ∀ i, 11 ≤ i → i < 17 → c1 i = c i) : ∀ n, n ≤ 6 → wsn c1 n = wsn c n
  | 0, _ => rfl
  | n + 1, h => by
    show wsn c1 n + c1 (11 + n) = wsn c n + c (11 + n)
    rw [wsn_of e n (by omega), e _ (by omega) (by omega)]
theorem con_of {V W : Nat → Nat} (e : ∀ b, b < 12 → V b = W b) {p : Nat} (h : con V p) : con W p := by
  refine ⟨h.1, h.2.trans ?_⟩
  have key : ∀ n, n ≤ 12 → vln V (p / 256) n = vln W (p / 256) n := by
    intro n
    induction n with
    | zero => intro _; rfl
    | succ n ih =>
      intro hn
      show (if _ then _ else _) = (if _ then _ else _)
      rw [ih (by omega), e n (by omega)]
  exact key 12 (Nat.le_refl 12)
/-- a state of which only the seed, the time and the counts differ, and some lists -/
theorem mOK_of {M N : zMS} (h : mOK M) (hs : N.1 6 < 2 ^ 31) (e : ∀ i, i ≠ 6 → i < 29 → i ≠ 2 → N.1 i = M.1 i) (hl : ∀ r, r < 5 → ∀ q ∈ N.2.1 r, con (zVl M) q) (hn : nvl (N.2.1 3)) (hw : (N.2.1 4).length ≤ 20) (hg : N.1 33 ≤ 20) : mOK N :=
  ⟨sOK_of h.1 hs e, by rw [wsn_of (fun i h1 h2 => e i (by omega) (by omega) (by omega)) 6 (Nat.le_refl 6)]; exact h.2.1, fun r hr q hq => con_of (fun b hb => (e (17 + b) (by omega) (by omega) (by omega)).symm) (hl r hr q hq), hn, hw, hg⟩
theorem con_pkn {c : Nat → Nat} {x : Nat} (hV : ∀ b, b < 12 → c (17 + b) < 256) : ∀ n, n ≤ 12 → con (fun b => c (17 + b)) (pkn c x n)
  | 0, _ => con_0 _
  | n + 1, h => by
    have h1 := con_pkn (x := x) hV n (by omega)
    show con _ (if _ then _ else _)
    split
    · exact con_xor h1 (con_one (V := fun b => c (17 + b)) (by omega) hV)
    · exact h1
theorem mOK_V {M : zMS} (h : mOK M) : ∀ b, b < 12 → zVl M b < 256 := h.1.2.2.2.2.2.2.2.2.2.2
theorem mSrc_ok {M : zMS} (h : mOK M) : mOK (mSrc M).2 ∧ con (zVl M) (mSrc M).1 := by
  have hV := mOK_V h
  have hK := h.1.2.1
  refine ⟨mOK_of h (by dsimp only [mSrc]; rw [upc_s]; exact dsn_seed (z := (dseed (M.1 6), deg M.1 (drw (M.1 6) (wsn M.1 6)), 0)) (dseed_lt (M.1 6)) (M.1 0)) (fun i h1 h2 h3 => by dsimp only [mSrc]; rw [upc_n h1, upc_n (by omega)]) h.2.2.1 h.2.2.2.1 h.2.2.2.2.1 (by dsimp only [mSrc]; rw [upc_n (by decide), upc_n (by decide)]; exact h.2.2.2.2.2), con_pkn hV _ hK⟩
theorem rcs_ok {V : Nat → Nat} {l : List Nat} {s : Nat} (h : ∀ q ∈ l, con V q) (hs : s < 2 ^ 31) : ∀ k, con V (rcs l s k).2.1 ∧ (rcs l s k).1 < 2 ^ 31
  | 0 => ⟨con_0 V, hs⟩
  | k + 1 => by
    have h1 := rcs_ok h hs k
    unfold rcs
    split
    · exact ⟨con_xor h1.1 (con_gd h), dseed_lt _⟩
    · exact ⟨h1.1, dseed_lt _⟩
theorem con_app {V : Nat → Nat} {l : List Nat} {p : Nat} (h : ∀ q ∈ l, con V q) (hp : con V p) : ∀ q ∈ l ++ [p], con V q := by
  intro q hq
  rcases List.mem_append.mp hq with h1 | h1
  · exact h q h1
  · rw [List.mem_singleton.mp h1]; exact hp
theorem con_upl {V : Nat → Nat} {ls : Nat → List Nat} {i : Nat} {l : List Nat} (h : ∀ r, r < 5 → ∀ q ∈ ls r, con V q) (hl : ∀ q ∈ l, con V q) : ∀ r, r < 5 → ∀ q ∈ upl ls i l r, con V q := by
  intro r hr q hq
  by_cases hri : r = i
  · subst hri; rw [upl_s] at hq; exact hl q hq
  · rw [upl_n hri] at hq; exact h r hr q hq
theorem mRel_ok {M : zMS} (h : mOK M) {i : Nat} (hi : i < 3) : mOK (mRel M i).2 ∧ con (zVl M) (mRel M i).1 := by
  have hc := h.2.2.1 i (by omega)
  unfold mRel
  split
  · exact ⟨h, con_0 _⟩
  · split
    · have h1 := rcs_ok hc h.1.2.2.2.2.2.2.2.1 (M.2.1 i).length
      refine ⟨mOK_of h (by dsimp only; rw [upc_s]; exact h1.2) (fun j g1 g2 g3 => by dsimp only; rw [upc_n g1]) h.2.2.1 h.2.2.2.1 h.2.2.2.2.1 (by dsimp only; rw [upc_n (by decide)]; exact h.2.2.2.2.2), ?_⟩
      show con _ (rcp _ _)
      unfold rcp
      split
      · split
        · exact con_0 _
        · exact h1.1
      · exact con_gd hc
    · refine ⟨mOK_of h h.1.2.2.2.2.2.2.2.1 (fun j g1 g2 g3 => rfl) (con_upl h.2.2.1 (con_app (con_er hc) (con_gd hc))) (by show nvl (upl _ i _ 3); rw [upl_n (by omega)]; exact h.2.2.2.1) (by show (upl _ i _ 4).length ≤ 20; rw [upl_n (by omega)]; exact h.2.2.2.2.1) h.2.2.2.2.2, con_gd hc⟩
theorem mMk_ok {M : zMS} (h : mOK M) {n : Nat} (hn : n ≤ 3) : mOK (mMk M n).2 ∧ con (zVl M) (mMk M n).1 := by
  unfold mMk
  split
  · exact mSrc_ok h
  · exact mRel_ok h (by omega)
theorem mSrc_c (M : zMS) : ∀ i, i ≠ 6 → i ≠ 29 → (mSrc M).2.1 i = M.1 i := fun i h1 h2 => by dsimp only [mSrc]; rw [upc_n h1, upc_n h2]
theorem mRel_c (M : zMS) (k : Nat) : ∀ i, i ≠ 6 → (mRel M k).2.1 i = M.1 i := fun i h1 => by
  unfold mRel
  split
  · rfl
  · split
    · dsimp only
      rw [upc_n h1]
    · rfl
theorem mMk_c (M : zMS) (n : Nat) : ∀ i, i ≠ 6 → i ≠ 29 → (mMk M n).2.1 i = M.1 i := fun i h1 h2 => by
  unfold mMk
  split
  · exact mSrc_c M i h1 h2
  · exact mRel_c M (n - 1) i h1
theorem mSend_ok {M : zMS} (h : mOK M) {n : Nat} (hn : n ≤ 3) : mOK (mSend M n).2 ∧ con (zVl M) (mSend M n).1 := by
  have h1 := mMk_ok h hn
  unfold mSend
  split
  · exact ⟨h1.1, con_0 _⟩
  · split
    · exact ⟨mOK_of h1.1 (by dsimp only; rw [upc_n (by decide), upc_s]; exact dseed_lt _) (fun j g1 g2 g3 => by dsimp only; rw [upc_n (by omega), upc_n g1]) h1.1.2.2.1 h1.1.2.2.2.1 h1.1.2.2.2.2.1 (by dsimp only; rw [upc_n (by decide), upc_n (by decide)]; exact h1.1.2.2.2.2.2), con_0 _⟩
    · exact ⟨mOK_of h1.1 (by dsimp only; rw [upc_s]; exact dseed_lt _) (fun j g1 g2 g3 => by dsimp only; rw [upc_n g1]) h1.1.2.2.1 h1.1.2.2.2.1 h1.1.2.2.2.2.1 (by dsimp only; rw [upc_n (by decide)]; exact h1.1.2.2.2.2.2), h1.2⟩
theorem mSend_c (M : zMS) (n : Nat) : ∀ i, i ≠ 6 → i ≠ 29 → i ≠ 30 → (mSend M n).2.1 i = M.1 i := fun i h1 h2 h3 => by
  unfold mSend
  split
  · exact mMk_c M n i h1 h2
  · split
    · dsimp only
      rw [upc_n h3, upc_n h1, mMk_c M n i h1 h2]
    · dsimp only
      rw [upc_n h1, mMk_c M n i h1 h2]
theorem mP1_ok {M : zMS} (h : mOK M) : ∀ n, n ≤ 4 → mOK (mP1 M n).1 ∧ (∀ j, con (zVl M) ((mP1 M n).2 j)) ∧ (∀ i, i ≠ 6 → i ≠ 29 → i ≠ 30 → i ≠ 2 → (mP1 M n).1.1 i = M.1 i)
  | 0, _ => ⟨mOK_of h (by dsimp only [mP1]; rw [upc_n (by decide)]; exact h.1.2.2.2.2.2.2.2.1) (fun j g1 g2 g3 => by dsimp only [mP1]; rw [upc_n g3]) h.2.2.1 h.2.2.2.1 h.2.2.2.2.1 (by dsimp only [mP1]; rw [upc_n (by decide)]; exact h.2.2.2.2.2), fun _ => con_0 _, fun i _ _ _ h2 => upc_n h2⟩
  | n + 1, hn => by
    obtain ⟨h1, h2, h3⟩ := mP1_ok h n (by omega)
    have h4 := mSend_ok h1 (n := n) (by omega)
    refine ⟨h4.1, fun j => ?_, fun i g1 g2 g3 g4 => (mSend_c _ n i g1 g2 g3).trans (h3 i g1 g2 g3 g4)⟩
    show con _ (ups _ n _ j)
    unfold ups
    split
    · exact con_of (fun b hb => h3 (17 + b) (by omega) (by omega) (by omega) (by omega)) h4.2
    · exact h2 j
theorem tko_len (s : Nat) (ps : List Nat) : (tko s ps).length ≤ ps.length := by
  unfold tko
  exact Nat.le_trans (List.length_filter_le _ _) (by rw [List.length_map]; exact Nat.le_refl _)
theorem er_len (ps : List Nat) (i : Nat) : (ps.eraseIdx i).length ≤ ps.length := by
  rw [List.length_eraseIdx]
  split <;> omega
theorem pl1_ok {V : Nat → Nat} {t : Nat} : ∀ (n x : Nat) (kt : Nat → Option Nat) (wt : List Nat), con V x → (∀ q ∈ wt, con V q) → (∀ q ∈ (pl1 t n x kt wt).2, con V q) ∧ (pl1 t n x kt wt).2.length ≤ wt.length
  | 0, _, _, _, _, h => ⟨h, Nat.le_refl _⟩
  | n + 1, x, kt, wt, hx, h => by
    unfold pl1
    split
    · exact ⟨h, Nat.le_refl _⟩
    · have h1 := con_tko hx h
      have h2 := pl1_ok (V := V) (t := t) n ((tko x wt).getD (rfs (tko x wt)) 0) (lrn kt (Nat.log2 (x / 256)) t) ((tko x wt).eraseIdx (rfs (tko x wt))) (con_gd h1) (con_er h1)
      exact ⟨h2.1, Nat.le_trans h2.2 (Nat.le_trans (er_len _ _) (tko_len _ _))⟩
theorem plM_ok {V : Nat → Nat} {t x : Nat} {kt : Nat → Option Nat} {wt : List Nat} (hV : ∀ b, b < 12 → V b < 256) (hx : con V x) (h : ∀ q ∈ wt, con V q) (hl : wt.length ≤ 20) : (∀ q ∈ (plM V t x kt wt).2, con V q) ∧ (plM V t x kt wt).2.length ≤ 20 := by
  have hc := con_tof (tm := kt) hx hV 12 (Nat.le_refl 12)
  unfold plM
  split
  · exact ⟨con_app (fun q hq => h q (List.mem_of_mem_drop hq)) hc, by rw [List.length_append, List.length_drop]; show wt.length - (wt.length - 19) + 1 ≤ 20; omega⟩
  · have := pl1_ok (V := V) (t := t) 12 _ kt wt hc h
    exact ⟨this.1, Nat.le_trans this.2 hl⟩
theorem mSto_ok {M : zMS} (h : mOK M) {i p : Nat} (hi : i < 3) (hp : con (zVl M) p) : mOK (mSto M i p) := by
  have hc := h.2.2.1 i (by omega)
  have key : ∀ l : List Nat, (∀ q ∈ l, con (zVl M) q) → mOK (M.1, upl M.2.1 i l, M.2.2) := fun l hl =>
    mOK_of h h.1.2.2.2.2.2.2.2.1 (fun j g1 g2 g3 => rfl) (con_upl h.2.2.1 hl) (by show nvl (upl _ i _ 3); rw [upl_n (by omega)]; exact h.2.2.2.1) (by show (upl _ i _ 4).length ≤ 20; rw [upl_n (by omega)]; exact h.2.2.2.2.1) h.2.2.2.2.2
  unfold mSto
  split
  · exact h
  · split
    · exact key _ (con_app hc hp)
    · split
      · exact h
      · split
        · exact key _ (con_app (con_er hc) hp)
        · split
          · refine key _ ?_
            split
            · exact con_er hc
            · exact con_app (con_er hc) (con_xor (con_gd hc) hp)
          · exact key _ (con_app (con_er hc) hp)
theorem mAcc_ok {M : zMS} (h : mOK M) {p : Nat} (hp : con (zVl M) p) : mOK (mAcc M p) := by
  have hV := mOK_V h
  have hpl := plM_ok (t := M.1 2) (kt := M.2.2.2) hV hp (h.2.2.1 4 (by decide)) h.2.2.2.2.1
  have hk : (∀ q ∈ (if tkb (spo (M.2.1 3)) p then M.2.1 3 ++ [p] else M.2.1 3), con (zVl M) q) ∧ nvl (if tkb (spo (M.2.1 3)) p then M.2.1 3 ++ [p] else M.2.1 3) := by
    by_cases hb : tkb (spo (M.2.1 3)) p = true
    · rw [if_pos hb]; exact ⟨con_app (h.2.2.1 3 (by decide)) hp, nvl_app h.2.2.2.1 hb⟩
    · rw [if_neg hb]; exact ⟨h.2.2.1 3 (by decide), h.2.2.2.1⟩
  refine mOK_of h (by dsimp only [mAcc]; rw [upc_n (by decide), upc_n (by decide), upc_n (by decide)]; exact h.1.2.2.2.2.2.2.2.1) (fun j g1 g2 g3 => by dsimp only [mAcc]; rw [upc_n (by omega), upc_n (by omega), upc_n (by omega)]) (con_upl (con_upl h.2.2.1 hk.1) hpl.1) (by dsimp only [mAcc]; rw [upl_n (by decide), upl_s]; exact hk.2) (by dsimp only [mAcc]; rw [upl_s]; exact hpl.2) (by
    dsimp only [mAcc]
    rw [upc_s]
    have := h.2.2.2.2.2
    have := hpl.2
    omega)
theorem mArr_ok {M : zMS} (h : mOK M) {n p : Nat} (hn : n ≤ M.1 1) (hp : con (zVl M) p) : mOK (mArr M n p) := by
  have := h.1.2.2.1
  unfold mArr
  split
  · exact h
  · split
    · exact mAcc_ok h hp
    · exact mSto_ok h (by omega) hp
theorem mSto_c (M : zMS) (i p : Nat) : (mSto M i p).1 = M.1 := by
  unfold mSto
  split
  · rfl
  · split
    · rfl
    · split
      · rfl
      · split
        · rfl
        · split <;> rfl
theorem mArr_c (M : zMS) (n p : Nat) : ∀ i, i < 31 → (mArr M n p).1 i = M.1 i := fun i hi => by
  unfold mArr
  split
  · rfl
  · split
    · dsimp only [mAcc]
      rw [upc_n (by omega), upc_n (by omega), upc_n (by omega)]
    · rw [mSto_c]
theorem mP2_ok {M : zMS} (h : mOK M) {ol : Nat → Nat} (ho : ∀ j, con (zVl M) (ol j)) : ∀ n, n ≤ M.1 1 + 1 → mOK (mP2 M ol n) ∧ ∀ i, i < 31 → (mP2 M ol n).1 i = M.1 i
  | 0, _ => ⟨h, fun _ _ => rfl⟩
  | n + 1, hn => by
    obtain ⟨h1, h2⟩ := mP2_ok h ho n (by omega)
    exact ⟨mArr_ok h1 (by rw [h2 1 (by decide)]; omega) (con_of (fun b hb => (h2 (17 + b) (by omega)).symm) (ho n)), fun i hi => (mArr_c _ n _ i hi).trans (h2 i hi)⟩
theorem mTick_ok {M : zMS} (h : mOK M) : mOK (mTick M) := by
  have hR := h.1.2.2.1
  obtain ⟨h1, h2, h3⟩ := mP1_ok h (M.1 1 + 1) (by omega)
  exact (mP2_ok h1 (fun j => con_of (fun b hb => (h3 (17 + b) (by omega) (by omega) (by omega) (by omega)).symm) (h2 j)) (M.1 1 + 1) (by rw [h3 1 (by decide) (by decide) (by decide) (by decide)]; exact Nat.le_refl _)).1
