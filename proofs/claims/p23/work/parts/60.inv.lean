/-! what is spanned, known and counted: what every state keeps to beside zE -/
def spn (r : Nat → Nat) (x : Nat) : Prop := rdp r 12 x / 256 = 0
theorem spn_0 (r : Nat → Nat) : spn r 0 := by
  unfold spn
  rw [rd_0]
theorem spn_xor {r : Nat → Nat} {x y : Nat} (hx : spn r x) (hy : spn r y) : spn r (x ^^^ y) := by
  unfold spn at hx hy ⊢
  rw [rd_xor, x_div, hx, hy, Nat.xor_self]
theorem spn_dv {r : Nat → Nat} {x y : Nat} (e : x / 256 = y / 256) (h : spn r x) : spn r y := by
  unfold spn at h ⊢
  rw [← rd_div r y, ← e, rd_div]
  exact h
theorem spn_gd {r : Nat → Nat} {l : List Nat} {i : Nat} (h : ∀ q ∈ l, spn r q) : spn r (l.getD i 0) := by
  rcases Nat.lt_or_ge i l.length with hi | hi
  · exact gd_mem h hi
  · rw [gd_ge hi]; exact spn_0 r
theorem tkr_self {r : Nat → Nat} (h : ech r) {p : Nat} (hp : p < 2 ^ 20) : spn (tkr r p) p := by
  unfold spn
  cases hz : tkp r 12 p with
  | none =>
    have e : tkr r p = r := by simp only [tkr, hz]
    have := tk_none h 12 p (Nat.le_refl _) hp hz
    rw [e]
    omega
  | some z =>
    have e : tkr r p = ups r z.1 z.2 := by simp only [tkr, hz]
    obtain ⟨a1, a2, a3⟩ := tkp_ok 12 p z hz
    obtain ⟨b1, b2⟩ := tk_some h 12 p (Nat.le_refl _) hp z hz
    obtain ⟨c1, -⟩ := rd_top h a1 a2 b1 a3
    rw [b2] at c1
    have e2 : rdp (ups r z.1 z.2) 12 p = 0 := by rw [rd_ups h a1 a2 b1 a3, if_pos c1, b2, Nat.xor_self]
    rw [e]
    omega
theorem tkr_keep {r : Nat → Nat} (h : ech r) {p y : Nat} (hp : p < 2 ^ 20) (h0 : spn r y) : spn (tkr r p) y := tkr_mono h hp h0
theorem spr_mem {l : List Nat} (h : ∀ q ∈ l, q < 2 ^ 20) : ∀ n, n ≤ l.length → ∀ k, k < n → spn (spr l n) (l.getD k 0)
  | 0, _, k, hk => absurd hk (Nat.not_lt_zero k)
  | n + 1, hn, k, hk => by
    show spn (tkr (spr l n) (l.getD n 0)) (l.getD k 0)
    by_cases hkn : k = n
    · subst hkn; exact tkr_self (eqv_spr h k).1 (gd_lt20 h)
    · exact tkr_keep (eqv_spr h n).1 (gd_lt20 h) (spr_mem h n (by omega) k (by omega))
theorem spo_mem {l : List Nat} (h : ∀ q ∈ l, q < 2 ^ 20) {q : Nat} (hq : q ∈ l) : spn (spo l) q := by
  obtain ⟨i, hi, e⟩ := List.getElem_of_mem hq
  have := spr_mem h l.length (Nat.le_refl _) i hi
  rw [show l.getD i 0 = q by simp [List.getD, hi, e]] at this
  exact this
theorem spo_kp (l : List Nat) (p : Nat) : spo (if tkb (spo l) p then l ++ [p] else l) = tkr (spo l) p := by
  by_cases ht : tkb (spo l) p = true
  · rw [if_pos ht, spo_app]
  · rw [if_neg ht]
    cases hz : tkp (spo l) 12 p with
    | none => simp only [tkr, hz]
    | some z => exact absurd (by rw [tkb, hz]; rfl) ht
theorem sg_div {V : Nat → Nat} {x : Nat} (hV : ∀ b, b < 12 → V b < 256) (hB : Nat.log2 (x / 256) < 12) (h : x = 2 ^ (8 + Nat.log2 (x / 256)) + V (Nat.log2 (x / 256))) : x / 256 = 2 ^ Nat.log2 (x / 256) := by
  have h1 := pw_div (b := Nat.log2 (x / 256)) (hV _ hB)
  rw [← h] at h1
  exact h1
/-- peeling: what is left, what waits and what is known stay spanned -/
theorem pl1_P {V r : Nat → Nat} {t : Nat} (hV : ∀ b, b < 12 → V b < 256) : ∀ (n x : Nat) (kt : Nat → Option Nat) (wt : List Nat), con V x → (x / 256 ≠ 0 → pop (x / 256) = 1) → (∀ q ∈ wt, con V q) → spn r x → (∀ q ∈ wt, spn r q) → (∀ b u, kt b = some u → spn r (2 ^ (8 + b))) → (∀ q ∈ (pl1 t n x kt wt).2, spn r q) ∧ ∀ b u, (pl1 t n x kt wt).1 b = some u → spn r (2 ^ (8 + b))
  | 0, _, _, _, _, _, _, _, hw, hk => ⟨hw, hk⟩
  | n + 1, x, kt, wt, hx, hp, hc, sx, hw, hk => by
    unfold pl1
    split
    · exact ⟨hw, hk⟩
    · rename_i h0
      obtain ⟨hB, hLB⟩ := con_single hx (hp h0)
      have e1 : (2 ^ (8 + Nat.log2 (x / 256))) / 256 = x / 256 := (pw_div (x := 0) (by decide)).trans (sg_div hV hB hLB).symm
      have sp : spn r (2 ^ (8 + Nat.log2 (x / 256))) := spn_dv e1.symm sx
      have hw1 : ∀ q ∈ tko x wt, spn r q := by
        intro q hq
        obtain ⟨h1, -⟩ := List.mem_filter.mp hq
        obtain ⟨y, hy, rfl⟩ := List.mem_map.mp h1
        unfold tk1
        split
        · exact hw y hy
        · exact spn_xor (hw y hy) sx
      have hc1 := con_tko hx hc
      refine pl1_P hV n _ _ _ (con_gd hc1) (rfs_pop _) (con_er hc1) (spn_gd hw1) (fun q hq => hw1 q (List.mem_of_mem_eraseIdx hq)) (fun b u hu => ?_)
      unfold lrn at hu
      split at hu
      · exact hk b u hu
      · unfold upo at hu
        split at hu
        · rename_i hb; rw [hb]; exact sp
        · exact hk b u hu
theorem rfs_no : ∀ ps : List Nat, ps.length ≤ rfs ps → ∀ q ∈ ps, pop (q / 256) ≠ 1
  | [], _, q, hq => by cases hq
  | p :: t, h, q, hq => by
    have h1 : (p :: t).length ≤ if pop (p / 256) = 1 then 0 else rfs t + 1 := h
    split at h1
    · simp at h1
    · rename_i h0
      rcases List.mem_cons.mp hq with rfl | h2
      · exact h0
      · exact rfs_no t (by simpa using h1) q h2
/-- peeling: no single is left waiting -/
theorem pl1_2 {V : Nat → Nat} {t : Nat} (hV : ∀ b, b < 12 → V b < 256) : ∀ (n x : Nat) (kt : Nat → Option Nat) (wt : List Nat), con V x → zW V kt wt → 12 ≤ n + cntn kt 12 → ((x / 256 = 0 ∧ ∀ q ∈ wt, 2 ≤ pop (q / 256)) ∨ (pop (x / 256) = 1 ∧ (kt (Nat.log2 (x / 256))).isSome = false)) → ∀ q ∈ (pl1 t n x kt wt).2, 2 ≤ pop (q / 256)
  | 0, x, kt, wt, hx, hW, hn, h => by
    rcases h with ⟨-, h⟩ | ⟨h1, h2⟩
    · exact h
    · exfalso
      obtain ⟨hB, -⟩ := con_single hx h1
      have := cntn_lt h2 12 hB
      omega
  | n + 1, x, kt, wt, hx, hW, hn, h => by
    rcases h with ⟨h0, h⟩ | ⟨h1, h2⟩
    · rw [pl1_0 h0]; exact h
    · obtain ⟨hB, hLB⟩ := con_single hx h1
      have e2 : x / 256 = 2 ^ Nat.log2 (x / 256) := sg_div hV hB hLB
      rw [pl1_s e2 hB h2]
      have hW1 : zW V (upo kt (Nat.log2 (x / 256)) t) (tko x wt) := by
        have h3 := zW_tko (t := t) hW hB hV
        rw [← hLB] at h3
        exact h3
      refine pl1_2 hV n _ _ _ (con_gd hW1.1) (zW_er hW1) (by rw [cntn_upo h2 12, if_pos hB]; omega) ?_
      by_cases hl : rfs (tko x wt) < (tko x wt).length
      · exact Or.inr ⟨rfs_one _ hl, zW_unk hW1 hV hl⟩
      · refine Or.inl ⟨by rw [gd_ge (by omega)], fun q hq => ?_⟩
        rw [er_ge (by omega)] at hq
        have hno := rfs_no _ (by omega) q hq
        obtain ⟨-, h5⟩ := List.mem_filter.mp hq
        have h6 := of_decide_eq_true h5
        have h7 := pop_pos (show q / 256 < 4096 by have := (hW1.1 q hq).1; omega) h6
        omega
theorem pl1_tv {t : Nat} : ∀ (n x : Nat) (kt : Nat → Option Nat) (wt : List Nat) (b u : Nat), (pl1 t n x kt wt).1 b = some u → kt b = some u ∨ u = t
  | 0, _, _, _, _, _, h => Or.inl h
  | n + 1, x, kt, wt, b, u, h => by
    unfold pl1 at h
    split at h
    · exact Or.inl h
    · rcases pl1_tv n _ _ _ b u h with h1 | h1
      · unfold lrn at h1
        split at h1
        · exact Or.inl h1
        · unfold upo at h1
          split at h1
          · cases h1; exact Or.inr rfl
          · exact Or.inl h1
      · exact Or.inr h1
theorem tof_P {V r : Nat → Nat} {kt : Nat → Option Nat} {x : Nat} (hV : ∀ b, b < 12 → V b < 256) (hk : ∀ b u, kt b = some u → spn r (2 ^ (8 + b))) (hx : spn r x) : ∀ n, n ≤ 12 → spn r (tofn V kt x n)
  | 0, _ => hx
  | n + 1, hn => by
    have h1 := tof_P hV hk hx n (by omega)
    rw [tof_s]
    split
    · refine spn_xor h1 ?_
      unfold sgl
      split
      · rename_i hs
        obtain ⟨u, hu⟩ := Option.isSome_iff_exists.mp hs
        refine spn_dv ?_ (hk n u hu)
        rw [pw_div (hV n (by omega))]
        exact pw_div (x := 0) (by decide)
      · exact spn_0 r
    · exact h1
theorem plM_P {V r : Nat → Nat} {t p : Nat} {kt : Nat → Option Nat} {wt : List Nat} (hV : ∀ b, b < 12 → V b < 256) (hp : con V p) (hW : zW V kt wt) (sp : spn r p) (sw : ∀ q ∈ wt, spn r q) (sk : ∀ b u, kt b = some u → spn r (2 ^ (8 + b))) : (∀ q ∈ (plM V t p kt wt).2, spn r q) ∧ ∀ b u, (plM V t p kt wt).1 b = some u → spn r (2 ^ (8 + b)) := by
  have hc := con_tof (tm := kt) hp hV 12 (Nat.le_refl 12)
  have s1 := tof_P hV sk sp 12 (Nat.le_refl 12)
  unfold plM
  split
  · refine ⟨fun q hq => ?_, sk⟩
    rcases List.mem_append.mp hq with h1 | h1
    · exact sw q (List.mem_of_mem_drop h1)
    · rw [List.mem_singleton.mp h1]; exact s1
  · rename_i hn
    exact pl1_P hV 12 _ _ _ hc (fun h0 => by
      have := pop_pos (show tofn V kt p 12 / 256 < 4096 by have := hc.1; omega) h0
      omega) hW.1 s1 sw sk
theorem plM_2 {V : Nat → Nat} {t p : Nat} {kt : Nat → Option Nat} {wt : List Nat} (hV : ∀ b, b < 12 → V b < 256) (hp : con V p) (hW : zW V kt wt) (h2 : ∀ q ∈ wt, 2 ≤ pop (q / 256)) : ∀ q ∈ (plM V t p kt wt).2, 2 ≤ pop (q / 256) := by
  have hc := con_tof (tm := kt) hp hV 12 (Nat.le_refl 12)
  unfold plM
  split
  · rename_i hn
    intro q hq
    rcases List.mem_append.mp hq with h1 | h1
    · exact h2 q (List.mem_of_mem_drop h1)
    · rw [List.mem_singleton.mp h1]; exact hn
  · rename_i hn
    refine pl1_2 hV 12 _ _ _ hc hW (Nat.le_add_right _ _) ?_
    by_cases h1 : pop (tofn V kt p 12 / 256) = 1
    · refine Or.inr ⟨h1, ?_⟩
      obtain ⟨hB, hLB⟩ := con_single hc h1
      cases hs : (kt (Nat.log2 (tofn V kt p 12 / 256))).isSome with
      | false => rfl
      | true =>
        have h3 := congrArg (fun z => Nat.testBit z (8 + Nat.log2 (tofn V kt p 12 / 256))) hLB
        rw [sg_bit (V := V) (hV _ hB), decide_eq_true rfl, tof_bit hV 12 (Nat.le_refl 12), hs, decide_eq_true hB] at h3
        simp at h3
    · exact Or.inl ⟨pop_z (by have := hc.1; omega) hn h1, h2⟩
theorem plM_tv {V : Nat → Nat} {t p : Nat} {kt : Nat → Option Nat} {wt : List Nat} {b u : Nat} (h : (plM V t p kt wt).1 b = some u) : kt b = some u ∨ u = t := by
  unfold plM at h
  split at h
  · exact Or.inl h
  · exact pl1_tv 12 _ _ _ b u h
theorem slv_keep {r : Nat → Nat} {so : Nat → Option Nat} {t b w : Nat} (h : so b = some w) : ∀ n, slv r so t n b = some w
  | 0 => h
  | n + 1 => by
    have ih := slv_keep (r := r) (t := t) h n
    show (if _ then lrn (slv r so t n) n t else slv r so t n) b = some w
    split
    · unfold lrn
      split
      · exact ih
      · rename_i hs
        show (if b = n then some t else slv r so t n b) = some w
        by_cases hbn : b = n
        · subst hbn; rw [ih] at hs; exact absurd rfl hs
        · rw [if_neg hbn]; exact ih
    · exact ih
def zF (M : zMS) : Prop := (∀ r, r < 4 → ∀ q ∈ M.2.1 r, q / 256 ≠ 0) ∧ (∀ q ∈ M.2.1 4, 2 ≤ pop (q / 256)) ∧ (∀ q ∈ M.2.1 4, spn (spo (M.2.1 3)) q) ∧ (∀ b u, M.2.2.2 b = some u → u ≤ M.1 2 ∧ ∃ w, w ≤ u ∧ M.2.2.1 b = some w) ∧ (∀ b w, M.2.2.1 b = some w → w ≤ M.1 2) ∧ M.1 31 = M.1 32 + (M.2.1 3).length ∧ M.1 30 ≤ 4 * M.1 2
theorem zF_k {M : zMS} (h : zE M) (g : zF M) : ∀ b u, M.2.2.2 b = some u → spn (spo (M.2.1 3)) (2 ^ (8 + b)) := by
  intro b u hu
  obtain ⟨-, w, -, hw⟩ := g.2.2.2.1 b u hu
  have hK := h.1.1.2.1
  have hb : b < 12 := by
    apply Nat.lt_of_not_le
    intro hb
    rw [h.2.2.1 b (by omega)] at hu
    cases hu
  have h4 := h.2.2.2.1 b hb
  rw [hw] at h4
  have h5 : rdp (spo (M.2.1 3)) 12 (2 ^ (8 + b)) / 256 = 0 := of_decide_eq_true h4.symm
  exact h5
theorem nz_con {V : Nat → Nat} {p : Nat} (h : con V p) (h0 : p ≠ 0) : p / 256 ≠ 0 := by
  intro hz
  have h2 := h.2
  rw [hz, vln_0] at h2
  omega
theorem mAcc_F {M : zMS} (h : zE M) (g : zF M) {p : Nat} (hp : con (zVl M) p) (hpK : p < 2 ^ (8 + M.1 0)) (hp0 : p / 256 ≠ 0) : zF (mAcc M p) := by
  have hE := mAcc_E h hp hpK
  have gk := zF_k h g
  obtain ⟨g1, g2, g3, g4, g5, g6, g7⟩ := g
  have hV := mOK_V h.1
  have h20 : ∀ q ∈ M.2.1 3, q < 2 ^ 20 := zl_ls h (by decide)
  have he := (eqv_spr h20 (M.2.1 3).length).1
  have hW := h.2.2.2.2.1
  have hP := plM_P (r := tkr (spo (M.2.1 3)) p) (t := M.1 2) hV hp hW (tkr_self he hp.1) (fun q hq => tkr_keep he hp.1 (g3 q hq)) (fun b u hu => tkr_keep he hp.1 (gk b u hu))
  have e3 : (mAcc M p).2.1 3 = if tkb (spo (M.2.1 3)) p then M.2.1 3 ++ [p] else M.2.1 3 := by
    dsimp only [mAcc]
    rw [upl_n (by decide), upl_s]
  have es : spo ((mAcc M p).2.1 3) = tkr (spo (M.2.1 3)) p := by rw [e3]; exact spo_kp _ _
  have e2 := mAcc_c M p 2 (by decide)
  have hso : ∀ b w, (mAcc M p).2.2.1 b = some w → w ≤ M.1 2 := by
    show ∀ b w, (if tkb (spo (M.2.1 3)) p then slv (tkr (spo (M.2.1 3)) p) M.2.2.1 (M.1 2) 12 else M.2.2.1) b = some w → w ≤ M.1 2
    split
    · exact slv_tm g5 (Nat.le_refl _) 12
    · exact g5
  refine ⟨?_, ?_, ?_, ?_, ?_, ?_, ?_⟩
  · intro r hr q hq
    by_cases hr3 : r = 3
    · subst hr3
      rw [e3] at hq
      split at hq
      · rcases List.mem_append.mp hq with h1 | h1
        · exact g1 3 (by decide) q h1
        · rw [List.mem_singleton.mp h1]; exact hp0
      · exact g1 3 (by decide) q hq
    · have e : (mAcc M p).2.1 r = M.2.1 r := by
        dsimp only [mAcc]
        rw [upl_n (by omega), upl_n (by omega)]
      rw [e] at hq
      exact g1 r hr q hq
  · rw [mAcc_4]
    exact plM_2 hV hp hW g2
  · rw [mAcc_4, es]
    exact hP.1
  · intro b u hu
    rw [e2]
    have hu2 : (plM (zVl M) (M.1 2) p M.2.2.2 (M.2.1 4)).1 b = some u := hu
    rcases plM_tv hu2 with h1 | h1
    · obtain ⟨k1, w, k2, k3⟩ := g4 b u h1
      refine ⟨k1, w, k2, ?_⟩
      show (if tkb (spo (M.2.1 3)) p then slv (tkr (spo (M.2.1 3)) p) M.2.2.1 (M.1 2) 12 else M.2.2.1) b = some w
      split
      · exact slv_keep k3 12
      · exact k3
    · subst h1
      refine ⟨Nat.le_refl _, ?_⟩
      have hs := hP.2 b _ hu2
      have hb : b < 12 := by
        apply Nat.lt_of_not_le
        intro hb
        have hK := hE.1.1.2.1
        have := hE.2.2.1 b (by omega)
        rw [hu] at this
        cases this
      have h4 := hE.2.2.2.1 b hb
      rw [es, decide_eq_true (show rdp (tkr (spo (M.2.1 3)) p) 12 (2 ^ (8 + b)) / 256 = 0 from hs)] at h4
      obtain ⟨w, hw⟩ := Option.isSome_iff_exists.mp h4
      exact ⟨w, hso b w hw, hw⟩
  · intro b w hw
    rw [e2]
    exact hso b w hw
  · have e31 : (mAcc M p).1 31 = M.1 31 + 1 := by
      dsimp only [mAcc]
      rw [upc_n (by decide), upc_n (by decide), upc_s]
    have e32 : (mAcc M p).1 32 = if tkb (spo (M.2.1 3)) p then M.1 32 else M.1 32 + 1 := by
      dsimp only [mAcc]
      rw [upc_n (by decide), upc_s]
    rw [e31, e32, e3]
    split
    · rw [List.length_append]
      show M.1 31 + 1 = M.1 32 + ((M.2.1 3).length + 1)
      omega
    · omega
  · rw [e2, mAcc_c M p 30 (by decide)]
    exact g7
/-- the parts of a tick -/
theorem mSend_30 (M : zMS) (n : Nat) : (mSend M n).2.1 30 ≤ M.1 30 + 1 := by
  have h1 : (mMk M n).2.1 30 = M.1 30 := by
    unfold mMk
    split
    · exact mSrc_c M 30 (by decide) (by decide)
    · exact mRel_c M _ 30 (by decide)
  unfold mSend
  split
  · dsimp only; omega
  · split
    · dsimp only
      rw [upc_s]; omega
    · dsimp only
      rw [upc_n (by decide)]; omega
theorem mP1_30 (M : zMS) : ∀ n, (mP1 M n).1.1 30 ≤ M.1 30 + n
  | 0 => by
    show upc M.1 2 (M.1 2 + 1) 30 ≤ _
    rw [upc_n (by decide)]
    exact Nat.le_refl _
  | n + 1 => by
    have h1 := mP1_30 M n
    have h2 := mSend_30 (mP1 M n).1 n
    show (mSend (mP1 M n).1 n).2.1 30 ≤ _
    omega
def zN3 (M : zMS) : Prop := ∀ r, r < 3 → ∀ q ∈ M.2.1 r, q / 256 ≠ 0
theorem zN3_l {M : zMS} {c : Nat → Nat} (h : zN3 M) {i : Nat} {l : List Nat} (hl : ∀ q ∈ l, q / 256 ≠ 0) : zN3 (c, upl M.2.1 i l, M.2.2) := by
  intro r hr q hq
  have hq2 : q ∈ upl M.2.1 i l r := hq
  by_cases hri : r = i
  · subst hri; rw [upl_s] at hq2; exact hl q hq2
  · rw [upl_n hri] at hq2; exact h r hr q hq2
theorem mRel_N {M : zMS} {i : Nat} (hi : i < 3) (h : zN3 M) : zN3 (mRel M i).2 := by
  unfold mRel
  split
  · exact h
  · rename_i hl
    split
    · exact h
    · refine zN3_l h (fun q hq => ?_)
      rcases List.mem_append.mp hq with h1 | h1
      · exact h i hi q (List.mem_of_mem_eraseIdx h1)
      · rw [List.mem_singleton.mp h1]
        exact gd_mem (h i hi) (by omega)
theorem mSend_N {M : zMS} {n : Nat} (hn : n ≤ 3) (h : zN3 M) : zN3 (mSend M n).2 := by
  have h1 : zN3 (mMk M n).2 := by
    unfold mMk
    split
    · exact h
    · exact mRel_N (by omega) h
  unfold mSend
  split
  · exact h1
  · split
    · exact h1
    · exact h1
theorem mP1_N {M : zMS} (h : zN3 M) : ∀ n, n ≤ 4 → zN3 (mP1 M n).1
  | 0, _ => h
  | n + 1, hn => mSend_N (by omega) (mP1_N h n (by omega))
theorem mSto_N {M : zMS} {i p : Nat} (hi : i < 3) (h : zN3 M) (hp : p / 256 ≠ 0) : zN3 (mSto M i p) := by
  have ha : ∀ l : List Nat, (∀ q ∈ l, q / 256 ≠ 0) → ∀ z, z / 256 ≠ 0 → ∀ q ∈ l ++ [z], q / 256 ≠ 0 := fun l hl z hz q hq => by
    rcases List.mem_append.mp hq with h1 | h1
    · exact hl q h1
    · rw [List.mem_singleton.mp h1]; exact hz
  have he : ∀ k, ∀ q ∈ (M.2.1 i).eraseIdx k, q / 256 ≠ 0 := fun k q hq => h i hi q (List.mem_of_mem_eraseIdx hq)
  unfold mSto
  split
  · exact h
  · split
    · exact zN3_l h (ha _ (h i hi) p hp)
    · split
      · exact h
      · split
        · exact zN3_l h (ha _ (he _) p hp)
        · split
          · refine zN3_l h ?_
            split
            · exact he 0
            · rename_i hz
              exact ha _ (he 0) _ hz
          · exact zN3_l h (ha _ (he 0) p hp)
theorem mP2_N {M : zMS} {ol : Nat → Nat} (hR : M.1 1 ≤ 3) (h : zN3 M) (ho : ∀ j, con (zVl M) (ol j)) : ∀ n, n ≤ M.1 1 → (mP2 M ol n).1 = M.1 ∧ zN3 (mP2 M ol n)
  | 0, _ => ⟨rfl, h⟩
  | n + 1, hn => by
    obtain ⟨h1, h2⟩ := mP2_N hR h ho n (by omega)
    show (mArr (mP2 M ol n) n (ol n)).1 = M.1 ∧ zN3 (mArr (mP2 M ol n) n (ol n))
    unfold mArr
    split
    · exact ⟨h1, h2⟩
    · rename_i h0
      rw [if_neg (by rw [h1]; omega)]
      exact ⟨(mSto_c _ _ _).trans h1, mSto_N (by omega) h2 (nz_con (ho n) h0)⟩
theorem mS2_F {M : zMS} (h : zE M) (g : zF M) : zF (mS2 M) ∧ (mS2 M).1 0 = M.1 0 := by
  have hk := h.1
  have hR := hk.1.2.2.1
  obtain ⟨-, -, a1, a2, a31, a22⟩ := mS2_all h
  obtain ⟨h1, h2, h3⟩ := mP1_ok hk (M.1 1 + 1) (by omega)
  obtain ⟨p1, p2⟩ := mP1_k hk h.2.1 (M.1 1 + 1) (Nat.le_refl _)
  have c0 := h3 0 (by decide) (by decide) (by decide) (by decide)
  have c1 := h3 1 (by decide) (by decide) (by decide) (by decide)
  have c32 := h3 32 (by decide) (by decide) (by decide) (by decide)
  have hV : ∀ b, b < 12 → zVl M b = zVl (mP1 M (M.1 1 + 1)).1 b := fun b hb => (h3 (17 + b) (by omega) (by omega) (by omega) (by omega)).symm
  obtain ⟨k2, k3⟩ := mP2_k (M := (mP1 M (M.1 1 + 1)).1) (ol := (mP1 M (M.1 1 + 1)).2) (by rw [c0]; exact p2.2.2) (by rw [c1]; exact hR) (by rw [c0]; exact p1) (M.1 1) (by rw [c1]; exact Nat.le_refl _)
  obtain ⟨g1, g2, g3, g4, g5, g6, g7⟩ := g
  obtain ⟨-, n3⟩ := mP2_N (M := (mP1 M (M.1 1 + 1)).1) (ol := (mP1 M (M.1 1 + 1)).2) (by rw [c1]; exact hR) (mP1_N (fun r hr => g1 r (by omega)) (M.1 1 + 1) (by omega)) (fun j => con_of hV (h2 j)) (M.1 1) (by rw [c1]; exact Nat.le_refl _)
  have l3 : (mS2 M).2.1 3 = M.2.1 3 := (k3.2.1 3 (by rw [c1]; exact hR)).trans (p2.2.1 3 hR)
  have l4 : (mS2 M).2.1 4 = M.2.1 4 := (k3.2.1 4 (by rw [c1]; omega)).trans (p2.2.1 4 (by omega))
  have e : (mS2 M).1 = (mP1 M (M.1 1 + 1)).1.1 := k2
  have e30 : (mS2 M).1 30 ≤ M.1 30 + 4 := by
    rw [e]
    have := mP1_30 M (M.1 1 + 1)
    omega
  refine ⟨⟨fun r hr q hq => ?_, by rw [l4]; exact g2, by rw [l4, l3]; exact g3, fun b u hu => ?_, fun b w hw => ?_, by rw [a31, l3, e, c32]; exact g6, by rw [a2]; omega⟩, by rw [e, c0]⟩
  · by_cases hr3 : r = 3
    · subst hr3; rw [l3] at hq; exact g1 3 (by decide) q hq
    · exact n3 r (by omega) q hq
  · rw [a22] at hu ⊢
    obtain ⟨k1, k2⟩ := g4 b u hu
    exact ⟨by rw [a2]; omega, k2⟩
  · rw [a22] at hw
    have := g5 b w hw
    rw [a2]; omega
theorem mTick_F {M : zMS} (h : zE M) (g : zF M) : zF (mTick M) ∧ (mTick M).1 0 = M.1 0 ∧ (mTick M).1 31 ≤ M.1 31 + 1 := by
  obtain ⟨h1, h2, -, -, h31, -⟩ := mS2_all h
  obtain ⟨f1, f0⟩ := mS2_F h g
  rw [mTick_2 h.1]
  split
  · exact ⟨f1, f0, by omega⟩
  · rename_i h0
    refine ⟨mAcc_F h1 f1 (h2 _).1 (h2 _).2 (nz_con (h2 _).1 h0), (mAcc_c _ _ 0 (by decide)).trans f0, ?_⟩
    dsimp only [mAcc]
    rw [upc_n (by decide), upc_n (by decide), upc_s]
    omega
theorem itk_F {M : zMS} (h : zE M) (g : zF M) : ∀ n, zE (itk n M) ∧ zF (itk n M) ∧ (itk n M).1 0 = M.1 0 ∧ (itk n M).1 31 ≤ M.1 31 + n
  | 0 => ⟨h, g, rfl, Nat.le_refl _⟩
  | n + 1 => by
    obtain ⟨h1, h2, h3, h4⟩ := itk_F h g n
    obtain ⟨k1, k2, k3⟩ := mTick_F h1 h2
    exact ⟨mTick_E h1, k1, k2.trans h3, by show (mTick (itk n M)).1 31 ≤ _; omega⟩
