theorem pkn_bd {c : Nat → Nat} {x : Nat} (hV : ∀ b, b < 12 → c (17 + b) < 256) : ∀ n, n ≤ 12 → pkn c x n < 2 ^ (8 + n)
  | 0, _ => by show 0 < 2 ^ 8; decide
  | n + 1, h => by
    have h1 := pkn_bd (x := x) hV n (by omega)
    have h2 : pkn c x n < 2 ^ (8 + (n + 1)) := Nat.lt_trans h1 (Nat.pow_lt_pow_right (by decide) (by omega))
    show (if _ then _ else _) < _
    split
    · refine Nat.xor_lt_two_pow h2 ?_
      have h3 := hV n (by omega)
      have h4 : 2 ^ (8 + (n + 1)) = 2 * 2 ^ (8 + n) := by rw [show 8 + (n + 1) = 8 + n + 1 by omega, Nat.pow_succ]; omega
      have h5 : 2 ^ 8 ≤ 2 ^ (8 + n) := Nat.pow_le_pow_right (by decide) (by omega)
      omega
    · exact h2
theorem bd_gd {B : Nat} {l : List Nat} {i : Nat} (h : ∀ q ∈ l, q < 2 ^ B) : l.getD i 0 < 2 ^ B := by
  rcases Nat.lt_or_ge i l.length with hi | hi
  · exact gd_mem (P := fun q => q < 2 ^ B) h hi
  · rw [gd_ge hi]; exact Nat.two_pow_pos _
theorem bd_er {B : Nat} {l : List Nat} {i : Nat} (h : ∀ q ∈ l, q < 2 ^ B) : ∀ q ∈ l.eraseIdx i, q < 2 ^ B := fun q hq => h q (List.mem_of_mem_eraseIdx hq)
theorem bd_app {B : Nat} {l : List Nat} {p : Nat} (h : ∀ q ∈ l, q < 2 ^ B) (hp : p < 2 ^ B) : ∀ q ∈ l ++ [p], q < 2 ^ B := by
  intro q hq
  rcases List.mem_append.mp hq with h1 | h1
  · exact h q h1
  · rw [List.mem_singleton.mp h1]; exact hp
theorem bd_upl {B : Nat} {ls : Nat → List Nat} {i : Nat} {l : List Nat} (h : ∀ r, r < 5 → ∀ q ∈ ls r, q < 2 ^ B) (hl : ∀ q ∈ l, q < 2 ^ B) : ∀ r, r < 5 → ∀ q ∈ upl ls i l r, q < 2 ^ B := by
  intro r hr q hq
  by_cases hri : r = i
  · subst hri; rw [upl_s] at hq; exact hl q hq
  · rw [upl_n hri] at hq; exact h r hr q hq
theorem rcs_b {B : Nat} {l : List Nat} {s : Nat} (h : ∀ q ∈ l, q < 2 ^ B) : ∀ k, (rcs l s k).2.1 < 2 ^ B
  | 0 => Nat.two_pow_pos _
  | k + 1 => by
    have h1 := rcs_b (s := s) h k
    unfold rcs
    split
    · exact Nat.xor_lt_two_pow h1 (bd_gd h)
    · exact h1
/-- N came of M by the source's and the relays' doing -/
def zKp (M N : zMS) : Prop := N.2.2 = M.2.2 ∧ (∀ r, M.1 1 ≤ r → N.2.1 r = M.2.1 r) ∧ ∀ r, r < 5 → ∀ q ∈ N.2.1 r, q < 2 ^ (8 + M.1 0)
theorem mMk_k {M : zMS} (hk : mOK M) (hb : ∀ r, r < 5 → ∀ q ∈ M.2.1 r, q < 2 ^ (8 + M.1 0)) {n : Nat} (hn : n ≤ M.1 1) : (mMk M n).1 < 2 ^ (8 + M.1 0) ∧ zKp M (mMk M n).2 := by
  have h3 := hk.1.2.2.1
  unfold mMk
  split
  · exact ⟨pkn_bd (mOK_V hk) _ hk.1.2.1, rfl, fun _ _ => rfl, hb⟩
  · unfold mRel
    have hl := hb (n - 1) (by omega)
    split
    · exact ⟨Nat.two_pow_pos _, rfl, fun _ _ => rfl, hb⟩
    · split
      · refine ⟨?_, rfl, fun _ _ => rfl, hb⟩
        show rcp _ _ < _
        unfold rcp
        split
        · split
          · exact Nat.two_pow_pos _
          · exact rcs_b hl _
        · exact bd_gd hl
      · exact ⟨bd_gd hl, rfl, fun r hr => upl_n (by omega), bd_upl hb (bd_app (bd_er hl) (bd_gd hl))⟩
theorem mSend_k {M : zMS} (hk : mOK M) (hb : ∀ r, r < 5 → ∀ q ∈ M.2.1 r, q < 2 ^ (8 + M.1 0)) {n : Nat} (hn : n ≤ M.1 1) : (mSend M n).1 < 2 ^ (8 + M.1 0) ∧ zKp M (mSend M n).2 := by
  have h1 := mMk_k hk hb hn
  unfold mSend
  split
  · exact ⟨Nat.two_pow_pos _, h1.2⟩
  · split
    · exact ⟨Nat.two_pow_pos _, h1.2⟩
    · exact h1
theorem mP1_k {M : zMS} (hk : mOK M) (hb : ∀ r, r < 5 → ∀ q ∈ M.2.1 r, q < 2 ^ (8 + M.1 0)) : ∀ n, n ≤ M.1 1 + 1 → (∀ j, (mP1 M n).2 j < 2 ^ (8 + M.1 0)) ∧ zKp M (mP1 M n).1
  | 0, _ => ⟨fun _ => Nat.two_pow_pos _, rfl, fun _ _ => rfl, hb⟩
  | n + 1, hn => by
    have hR := hk.1.2.2.1
    obtain ⟨h1, h2, h3, h4⟩ := mP1_k hk hb n (by omega)
    obtain ⟨k1, k2, k3⟩ := mP1_ok hk n (by omega)
    have c0 := k3 0 (by decide) (by decide) (by decide) (by decide)
    have c1 := k3 1 (by decide) (by decide) (by decide) (by decide)
    have h5 := mSend_k (n := n) k1 (by rw [c0]; exact h4) (by rw [c1]; omega)
    obtain ⟨g1, g2, g3, g4⟩ := h5
    rw [c0] at g1 g4
    rw [c1] at g3
    refine ⟨fun j => ?_, g2.trans h2, fun r hr => (g3 r hr).trans (h3 r hr), g4⟩
    show ups _ n _ j < _
    unfold ups
    split
    · exact g1
    · exact h1 j
theorem mSto_k {M : zMS} (hb : ∀ r, r < 5 → ∀ q ∈ M.2.1 r, q < 2 ^ (8 + M.1 0)) {i p : Nat} (hi : i < M.1 1) (hR : M.1 1 ≤ 3) (hp : p < 2 ^ (8 + M.1 0)) : zKp M (mSto M i p) := by
  have hl := hb i (by omega)
  have key : ∀ l : List Nat, (∀ q ∈ l, q < 2 ^ (8 + M.1 0)) → zKp M (M.1, upl M.2.1 i l, M.2.2) := fun l h => ⟨rfl, fun r hr => upl_n (by omega), bd_upl hb h⟩
  have k0 : zKp M M := ⟨rfl, fun _ _ => rfl, hb⟩
  unfold mSto
  split
  · exact k0
  · split
    · exact key _ (bd_app hl hp)
    · split
      · exact k0
      · split
        · exact key _ (bd_app (bd_er hl) hp)
        · split
          · refine key _ ?_
            split
            · exact bd_er hl
            · exact bd_app (bd_er hl) (Nat.xor_lt_two_pow (bd_gd hl) hp)
          · exact key _ (bd_app (bd_er hl) hp)
theorem mP2_k {M : zMS} {ol : Nat → Nat} (hb : ∀ r, r < 5 → ∀ q ∈ M.2.1 r, q < 2 ^ (8 + M.1 0)) (hR : M.1 1 ≤ 3) (ho : ∀ j, ol j < 2 ^ (8 + M.1 0)) : ∀ n, n ≤ M.1 1 → (mP2 M ol n).1 = M.1 ∧ zKp M (mP2 M ol n)
  | 0, _ => ⟨rfl, rfl, fun _ _ => rfl, hb⟩
  | n + 1, hn => by
    obtain ⟨h1, h2, h3, h4⟩ := mP2_k hb hR ho n (by omega)
    show (mArr (mP2 M ol n) n (ol n)).1 = M.1 ∧ zKp M (mArr (mP2 M ol n) n (ol n))
    unfold mArr
    split
    · exact ⟨h1, h2, h3, h4⟩
    · rw [if_neg (by rw [h1]; omega)]
      obtain ⟨g1, g2, g3⟩ := mSto_k (M := mP2 M ol n) (i := n) (p := ol n) (by rw [h1]; exact h4) (by rw [h1]; omega) (by rw [h1]; exact hR) (by rw [h1]; exact ho n)
      rw [h1] at g2 g3
      exact ⟨(mSto_c _ _ _).trans h1, g1.trans h2, fun r hr => (g2 r hr).trans (h3 r hr), g3⟩
theorem zE_k {M N : zMS} (h : zE M) (hN : mOK N) (c0 : N.1 0 = M.1 0) (c1 : N.1 1 = M.1 1) (c33 : N.1 33 = M.1 33) (hv : ∀ b, b < 12 → N.1 (17 + b) = M.1 (17 + b)) (k : zKp M N) (em : N.1 2 ≠ 0) : zE N := by
  obtain ⟨h1, h2, h3, h4, h5, h6, h7, h8⟩ := h
  obtain ⟨k1, k2, k3⟩ := k
  have hR := h1.1.2.2.1
  refine ⟨hN, by rw [c0]; exact k3, by rw [k1, c0]; exact h3, by rw [k1, k2 3 hR]; exact h4, ?_, by rw [k2 4 (by omega), c33]; exact h6, fun r hr h => by rw [c1] at h; rw [k2 r h]; exact h7 r hr h, fun h => absurd h em⟩
  rw [k1, k2 4 (by omega)]
  exact zW_of (fun b hb => (hv b hb).symm) h5
theorem tof_bd {V : Nat → Nat} {kt : Nat → Option Nat} {x K : Nat} (hV : ∀ b, b < 12 → V b < 256) (hx : x < 2 ^ (8 + K)) : ∀ n, n ≤ 12 → tofn V kt x n < 2 ^ (8 + K)
  | 0, _ => hx
  | n + 1, hn => by
    have ih := tof_bd (kt := kt) hV hx n (by omega)
    rw [tof_s]
    split
    · rename_i hb
      refine Nat.xor_lt_two_pow ih ?_
      have h1 := Nat.ge_two_pow_of_testBit hb
      have hnK : 8 + n < 8 + K := by
        apply Nat.lt_of_not_le
        intro h
        have := Nat.pow_le_pow_right (show 0 < 2 by decide) h
        omega
      unfold sgl
      split
      · have h3 := hV n (by omega)
        have h4 : 2 ^ (8 + n + 1) ≤ 2 ^ (8 + K) := Nat.pow_le_pow_right (by decide) (by omega)
        have h5 : 2 ^ 8 ≤ 2 ^ (8 + n) := Nat.pow_le_pow_right (by decide) (by omega)
        rw [Nat.pow_succ] at h4
        omega
      · exact Nat.two_pow_pos _
    · exact ih
theorem bd_tko {B s : Nat} {ps : List Nat} (hs : s < 2 ^ B) (h : ∀ q ∈ ps, q < 2 ^ B) : ∀ q ∈ tko s ps, q < 2 ^ B := by
  intro q hq
  obtain ⟨h1, -⟩ := List.mem_filter.mp hq
  obtain ⟨x, hx, rfl⟩ := List.mem_map.mp h1
  unfold tk1
  split
  · exact h x hx
  · exact Nat.xor_lt_two_pow (h x hx) hs
theorem pl1_bd {K t : Nat} : ∀ (n x : Nat) (kt : Nat → Option Nat) (wt : List Nat), x < 2 ^ (8 + K) → (∀ q ∈ wt, q < 2 ^ (8 + K)) → (∀ b, K ≤ b → kt b = none) → (∀ q ∈ (pl1 t n x kt wt).2, q < 2 ^ (8 + K)) ∧ ∀ b, K ≤ b → (pl1 t n x kt wt).1 b = none
  | 0, _, _, _, _, h, hk => ⟨h, hk⟩
  | n + 1, x, kt, wt, hx, h, hk => by
    unfold pl1
    split
    · exact ⟨h, hk⟩
    · rename_i h0
      have h1 := bd_tko hx h
      have hl : Nat.log2 (x / 256) < K := by
        rw [Nat.log2_lt h0]
        rw [Nat.div_lt_iff_lt_mul (by decide), show (256 : Nat) = 2 ^ 8 by decide, ← Nat.pow_add, Nat.add_comm K 8]
        exact hx
      refine pl1_bd n _ _ _ (bd_gd h1) (bd_er h1) (fun b hb => ?_)
      unfold lrn
      split
      · exact hk b hb
      · show (if b = _ then _ else kt b) = none
        rw [if_neg (by omega)]
        exact hk b hb
theorem zW_le {V : Nat → Nat} {k1 k2 : Nat → Option Nat} {wt : List Nat} (h : zW V k2 wt) (e : ∀ b, (k1 b).isSome = true → (k2 b).isSome = true) : zW V k1 wt := ⟨h.1, fun q hq b hb hs => h.2 q hq b hb (e b hs)⟩
theorem pl1_W {V : Nat → Nat} {t : Nat} (hV : ∀ b, b < 12 → V b < 256) : ∀ (n x : Nat) (kt : Nat → Option Nat) (wt : List Nat), con V x → (x / 256 ≠ 0 → pop (x / 256) = 1) → zW V kt wt → zW V (pl1 t n x kt wt).1 (pl1 t n x kt wt).2
  | 0, _, _, _, _, _, h => h
  | n + 1, x, kt, wt, hx, hp, h => by
    unfold pl1
    split
    · exact h
    · rename_i h0
      obtain ⟨hB, hLB⟩ := con_single hx (hp h0)
      have h1 : zW V (lrn kt (Nat.log2 (x / 256)) t) (tko x wt) := by
        have h2 := zW_tko (t := t) h hB hV
        rw [← hLB] at h2
        refine zW_le h2 (fun b hs => ?_)
        unfold lrn at hs
        show (if b = _ then some t else kt b).isSome = true
        split at hs
        · split
          · rfl
          · exact hs
        · exact hs
      exact pl1_W hV n _ _ _ (con_gd h1.1) (rfs_pop _) (zW_er h1)
theorem pl1_tm {t T : Nat} (ht : t ≤ T) : ∀ (n x : Nat) (kt : Nat → Option Nat) (wt : List Nat), (∀ b u, kt b = some u → u ≤ T) → ∀ b u, (pl1 t n x kt wt).1 b = some u → u ≤ T
  | 0, _, _, _, h => h
  | n + 1, x, kt, wt, h => by
    unfold pl1
    split
    · exact h
    · refine pl1_tm ht n _ _ _ (fun b u hu => ?_)
      unfold lrn at hu
      split at hu
      · exact h b u hu
      · unfold upo at hu
        split at hu
        · cases hu; exact ht
        · exact h b u hu
theorem tkr_mono {r : Nat → Nat} (h : ech r) {p y : Nat} (hp : p < 2 ^ 20) (h0 : rdp r 12 y / 256 = 0) : rdp (tkr r p) 12 y / 256 = 0 := by
  cases hz : tkp r 12 p with
  | none =>
    have e : tkr r p = r := by simp only [tkr, hz]
    rw [e]; exact h0
  | some z =>
    have e : tkr r p = ups r z.1 z.2 := by simp only [tkr, hz]
    obtain ⟨a1, a2, a3⟩ := tkp_ok 12 p z hz
    obtain ⟨b1, b2⟩ := tk_some h 12 p (Nat.le_refl _) hp z hz
    rw [e, rd_ups h a1 a2 b1 a3, if_neg (fun hb => dv_bit hb h0)]
    exact h0
theorem mAcc_c (M : zMS) (p : Nat) : ∀ i, i < 31 → (mAcc M p).1 i = M.1 i := fun i hi => by
  dsimp only [mAcc]
  rw [upc_n (by omega), upc_n (by omega), upc_n (by omega)]
theorem mAcc_4 (M : zMS) (p : Nat) : (mAcc M p).2.1 4 = (plM (zVl M) (M.1 2) p M.2.2.2 (M.2.1 4)).2 := by
  dsimp only [mAcc]
  rw [upl_s]
theorem mAcc_33 (M : zMS) (p : Nat) : (mAcc M p).1 33 = max (M.1 33) (plM (zVl M) (M.1 2) p M.2.2.2 (M.2.1 4)).2.length := by
  dsimp only [mAcc]
  rw [upc_s]
theorem mAcc_E {M : zMS} (h : zE M) {p : Nat} (hp : con (zVl M) p) (hpK : p < 2 ^ (8 + M.1 0)) : zE (mAcc M p) := by
  obtain ⟨h1, h2, h3, h4, h5, h6, h7, h8⟩ := h
  have hV := mOK_V h1
  have hk20 : ∀ q ∈ M.2.1 3, q < 2 ^ 20 := fun q hq => (h1.2.2.1 3 (by decide) q hq).1
  have hpl2 : zW (zVl M) (plM (zVl M) (M.1 2) p M.2.2.2 (M.2.1 4)).1 (plM (zVl M) (M.1 2) p M.2.2.2 (M.2.1 4)).2 ∧ (∀ q ∈ (plM (zVl M) (M.1 2) p M.2.2.2 (M.2.1 4)).2, q < 2 ^ (8 + M.1 0)) ∧ (∀ b, M.1 0 ≤ b → (plM (zVl M) (M.1 2) p M.2.2.2 (M.2.1 4)).1 b = none) := by
    have hc := con_tof (tm := M.2.2.2) hp hV 12 (Nat.le_refl 12)
    have hb2 := tof_bd (kt := M.2.2.2) hV hpK 12 (Nat.le_refl 12)
    unfold plM
    split
    · refine ⟨⟨con_app (fun q hq => h5.1 q (List.mem_of_mem_drop hq)) hc, fun q hq b hb hs => ?_⟩, bd_app (fun q hq => h2 4 (by decide) q (List.mem_of_mem_drop hq)) hb2, h3⟩
      rcases List.mem_append.mp hq with h1 | h1
      · exact h5.2 q (List.mem_of_mem_drop h1) b hb hs
      · rw [List.mem_singleton.mp h1, tof_bit hV 12 (Nat.le_refl 12), hs, decide_eq_true hb]
        simp
    · rename_i hn
      have h1 := pl1_bd (t := M.1 2) 12 _ M.2.2.2 (M.2.1 4) hb2 (h2 4 (by decide)) h3
      exact ⟨pl1_W hV 12 _ _ _ hc (fun h0 => by
        have := pop_pos (show tofn (zVl M) M.2.2.2 p 12 / 256 < 4096 by have := hc.1; omega) h0
        omega) h5, h1.1, h1.2⟩
  have c0 := mAcc_c M p 0 (by decide)
  have c1 := mAcc_c M p 1 (by decide)
  have hkp : ∀ q ∈ (if tkb (spo (M.2.1 3)) p then M.2.1 3 ++ [p] else M.2.1 3), q < 2 ^ (8 + M.1 0) := by
    split
    · exact bd_app (h2 3 (by decide)) hpK
    · exact h2 3 (by decide)
  refine ⟨mAcc_ok h1 hp, ?_, ?_, ?_, ?_, ?_, ?_, ?_⟩
  · rw [c0]; exact bd_upl (bd_upl h2 hkp) hpl2.2.1
  · rw [c0]; exact hpl2.2.2
  · intro b hb
    show ((if tkb (spo (M.2.1 3)) p then slv (tkr (spo (M.2.1 3)) p) M.2.2.1 (M.1 2) 12 else M.2.2.1) b).isSome = decide (rdp (spo (upl (upl M.2.1 3 (if tkb (spo (M.2.1 3)) p then M.2.1 3 ++ [p] else M.2.1 3)) 4 (plM (zVl M) (M.1 2) p M.2.2.2 (M.2.1 4)).2 3)) 12 (2 ^ (8 + b)) / 256 = 0)
    rw [upl_n (show (3 : Nat) ≠ 4 by decide), upl_s]
    by_cases ht : tkb (spo (M.2.1 3)) p = true
    · rw [if_pos ht, if_pos ht, slv_some, h4 b hb, decide_eq_true hb, Bool.true_and, spo_app]
      by_cases hd : rdp (spo (M.2.1 3)) 12 (2 ^ (8 + b)) / 256 = 0
      · rw [decide_eq_true hd, decide_eq_true (tkr_mono (r := spo (M.2.1 3)) (eqv_spr hk20 _).1 hp.1 hd)]; rfl
      · rw [decide_eq_false hd, Bool.false_or]
    · rw [if_neg ht, if_neg ht]; exact h4 b hb
  · rw [mAcc_4]
    exact zW_of (fun b hb => (mAcc_c M p (17 + b) (by omega)).symm) hpl2.1
  · rw [mAcc_4, mAcc_33]; exact Nat.le_max_right _ _
  · intro r hr hR
    rw [c1] at hR
    dsimp only [mAcc]
    rw [upl_n (by omega), upl_n (by omega)]
    exact h7 r hr hR
  · intro _ h31
    exfalso
    have : (mAcc M p).1 31 = M.1 31 + 1 := by
      dsimp only [mAcc]
      rw [upc_n (by decide), upc_n (by decide), upc_s]
    omega
theorem zT_acc {M : zMS} {p T : Nat} (h2 : M.1 2 ≤ T) (h31 : M.1 31 + 1 ≤ T) (hs : ∀ b t, M.2.2.1 b = some t → t ≤ T) (hk : ∀ b t, M.2.2.2 b = some t → t ≤ T) : zT T (mAcc M p) := by
  refine ⟨by rw [mAcc_c M p 2 (by decide)]; exact h2, ?_, ?_, ?_⟩
  · dsimp only [mAcc]
    rw [upc_n (by decide), upc_n (by decide), upc_s]; exact h31
  · show ∀ b t, (if tkb (spo (M.2.1 3)) p then slv (tkr (spo (M.2.1 3)) p) M.2.2.1 (M.1 2) 12 else M.2.2.1) b = some t → t ≤ T
    split
    · exact slv_tm hs h2 12
    · exact hs
  · show ∀ b t, (plM (zVl M) (M.1 2) p M.2.2.2 (M.2.1 4)).1 b = some t → t ≤ T
    unfold plM
    split
    · exact hk
    · exact pl1_tm h2 12 _ _ _ hk
theorem mNote_id {M : zMS} (h : (M.2.1 4).length ≤ M.1 33) : mNote M = M := by
  dsimp only [mNote]
  rw [Nat.max_eq_left h, upc_id]
/-- the state before the last link's packet comes -/
def mS2 (M : zMS) : zMS := mP2 (mP1 M (M.1 1 + 1)).1 (mP1 M (M.1 1 + 1)).2 (M.1 1)
def mOL (M : zMS) : Nat → Nat := (mP1 M (M.1 1 + 1)).2
theorem mTick_2 {M : zMS} (hk : mOK M) : mTick M = if mOL M (M.1 1) = 0 then mS2 M else mAcc (mS2 M) (mOL M (M.1 1)) := by
  have hR := hk.1.2.2.1
  obtain ⟨h1, h2, h3⟩ := mP1_ok hk (M.1 1 + 1) (by omega)
  have hc1 := h3 1 (by decide) (by decide) (by decide) (by decide)
  have hq := (mP2_ok h1 (fun j => con_of (fun b hb => (h3 (17 + b) (by omega) (by omega) (by omega) (by omega)).symm) (h2 j)) (M.1 1) (by omega)).2 1 (by decide)
  show mArr (mS2 M) (M.1 1) (mOL M (M.1 1)) = _
  unfold mArr
  split
  · rfl
  · exact if_pos (by show M.1 1 = (mS2 M).1 1; exact (hq.trans hc1).symm)
theorem mS2_all {M : zMS} (h : zE M) : zE (mS2 M) ∧ (∀ j, con (zVl (mS2 M)) (mOL M j) ∧ mOL M j < 2 ^ (8 + (mS2 M).1 0)) ∧ (mS2 M).1 1 = M.1 1 ∧ (mS2 M).1 2 = M.1 2 + 1 ∧ (mS2 M).1 31 = M.1 31 ∧ (mS2 M).2.2 = M.2.2 := by
  have hk := h.1
  have hR := hk.1.2.2.1
  obtain ⟨h1, h2, h3⟩ := mP1_ok hk (M.1 1 + 1) (by omega)
  obtain ⟨g1, g2⟩ := mP1_k hk h.2.1 (M.1 1 + 1) (Nat.le_refl _)
  have c0 := h3 0 (by decide) (by decide) (by decide) (by decide)
  have c1 := h3 1 (by decide) (by decide) (by decide) (by decide)
  have hV : ∀ b, b < 12 → zVl M b = zVl (mP1 M (M.1 1 + 1)).1 b := fun b hb => (h3 (17 + b) (by omega) (by omega) (by omega) (by omega)).symm
  have k1 := mP2_ok h1 (fun j => con_of hV (h2 j)) (M.1 1) (by omega)
  obtain ⟨k2, k3⟩ := mP2_k (M := (mP1 M (M.1 1 + 1)).1) (ol := (mP1 M (M.1 1 + 1)).2) (by rw [c0]; exact g2.2.2) (by rw [c1]; exact hR) (by rw [c0]; exact g1) (M.1 1) (by rw [c1]; exact Nat.le_refl _)
  have hkp : zKp M (mS2 M) := ⟨k3.1.trans g2.1, fun r hr => (k3.2.1 r (by rw [c1]; exact hr)).trans (g2.2.1 r hr), by have := k3.2.2; rw [c0] at this; exact this⟩
  have e : (mS2 M).1 = (mP1 M (M.1 1 + 1)).1.1 := k2
  have t2 : ∀ n, n ≤ 4 → (mP1 M n).1.1 2 = M.1 2 + 1 := by
    intro n
    induction n with
    | zero => intro _; show upc M.1 2 (M.1 2 + 1) 2 = _; exact upc_s _ _ _
    | succ n ih =>
      intro hn
      show (mSend (mP1 M n).1 n).2.1 2 = _
      rw [mSend_c _ n 2 (by decide) (by decide) (by decide)]
      exact ih (by omega)
  have e2 : (mS2 M).1 2 = M.1 2 + 1 := by rw [e]; exact t2 _ (by omega)
  refine ⟨zE_k h k1.1 (by rw [e, c0]) (by rw [e, c1]) (by rw [e, h3 33 (by decide) (by decide) (by decide) (by decide)]) (fun b hb => by rw [e]; exact (hV b hb).symm) hkp (by omega), fun j => ⟨?_, ?_⟩, by rw [e, c1], e2, by rw [e, h3 31 (by decide) (by decide) (by decide) (by decide)], hkp.1⟩
  · exact con_of (fun b hb => by show M.1 (17 + b) = (mS2 M).1 (17 + b); rw [e]; exact hV b hb) (h2 j)
  · rw [e, c0]; exact g1 j
theorem mTick_E {M : zMS} (h : zE M) : zE (mTick M) := by
  obtain ⟨h1, h2, -⟩ := mS2_all h
  rw [mTick_2 h.1]
  split
  · exact h1
  · exact mAcc_E h1 (h2 _).1 (h2 _).2
theorem mTick_T {M : zMS} {T : Nat} (h : zE M) (hT : zT T M) : zT (T + 1) (mTick M) := by
  obtain ⟨h1, h2, e1, e2, e3, e4⟩ := mS2_all h
  obtain ⟨t1, t2, t3, t4⟩ := hT
  rw [mTick_2 h.1]
  split
  · exact ⟨by omega, by omega, by rw [e4]; exact fun b t hb => Nat.le_succ_of_le (t3 b t hb), by rw [e4]; exact fun b t hb => Nat.le_succ_of_le (t4 b t hb)⟩
  · exact zT_acc (by omega) (by omega) (by rw [e4]; exact fun b t hb => Nat.le_succ_of_le (t3 b t hb)) (by rw [e4]; exact fun b t hb => Nat.le_succ_of_le (t4 b t hb))
