/-! what else every state keeps to -/
def zE (M : zMS) : Prop := mOK M ∧ (∀ r, r < 5 → ∀ q ∈ M.2.1 r, q < 2 ^ (8 + M.1 0)) ∧ (∀ b, M.1 0 ≤ b → M.2.2.2 b = none) ∧ (∀ b, b < 12 → (M.2.2.1 b).isSome = decide (rdp (spo (M.2.1 3)) 12 (2 ^ (8 + b)) / 256 = 0)) ∧ zW (zVl M) M.2.2.2 (M.2.1 4) ∧ (M.2.1 4).length ≤ M.1 33 ∧ (∀ r, r < 3 → M.1 1 ≤ r → M.2.1 r = []) ∧ (M.1 2 = 0 → M.1 31 = 0 → (∀ r, r < 5 → M.2.1 r = []) ∧ (∀ b, M.2.2.1 b = none) ∧ ∀ b, M.2.2.2 b = none)
def zT (T : Nat) (M : zMS) : Prop := M.1 2 ≤ T ∧ M.1 31 ≤ T ∧ (∀ b t, M.2.2.1 b = some t → t ≤ T) ∧ ∀ b t, M.2.2.2 b = some t → t ≤ T
def mAcc0 (M : zMS) (p : Nat) : zMS := (upc (upc M.1 31 (M.1 31 + 1)) 32 (if tkb (spo (M.2.1 3)) p then M.1 32 else M.1 32 + 1), upl (upl M.2.1 3 (if tkb (spo (M.2.1 3)) p then M.2.1 3 ++ [p] else M.2.1 3)) 4 (plM (zVl M) (M.1 2) p M.2.2.2 (M.2.1 4)).2, (if tkb (spo (M.2.1 3)) p then slv (tkr (spo (M.2.1 3)) p) M.2.2.1 (M.1 2) 12 else M.2.2.1), (plM (zVl M) (M.1 2) p M.2.2.2 (M.2.1 4)).1)
def mNote (M : zMS) : zMS := (upc M.1 33 (max (M.1 33) (M.2.1 4).length), M.2)
theorem mAcc_note (M : zMS) (p : Nat) : mNote (mAcc0 M p) = mAcc M p := by
  dsimp only [mNote, mAcc0, mAcc]
  rw [upc_n (show (33 : Nat) ≠ 32 by decide), upc_n (show (33 : Nat) ≠ 31 by decide), upl_s]
theorem upc_nop {c : Nat → Nat} {i j x : Nat} (h : j ≠ i) : upc (upc c i x) j (c j) = upc c i x := by
  have e := upc_id (upc c i x) j
  rw [upc_n h] at e
  exact e
theorem upl_comm (ls : Nat → List Nat) {i j : Nat} {x y : List Nat} (h : i ≠ j) : upl (upl ls i x) j y = upl (upl ls j y) i x := by
  funext k
  unfold upl
  by_cases h1 : k = j
  · subst h1; rw [if_pos rfl, if_neg (fun z => h z.symm), if_pos rfl]
  · rw [if_neg h1, if_neg h1]
theorem slv_at {r : Nat → Nat} {so : Nat → Option Nat} {t : Nat} : ∀ n b, n ≤ b → slv r so t n b = so b
  | 0, _, _ => rfl
  | n + 1, b, h => by
    show (if _ then lrn (slv r so t n) n t else slv r so t n) b = so b
    have ih := slv_at (r := r) (so := so) (t := t) n b (by omega)
    split
    · unfold lrn
      split
      · exact ih
      · show (if b = n then some t else slv r so t n b) = so b
        rw [if_neg (by omega)]; exact ih
    · exact ih
theorem slv_some {r : Nat → Nat} {so : Nat → Option Nat} {t : Nat} : ∀ n b, (slv r so t n b).isSome = ((so b).isSome || (decide (b < n) && decide (rdp r 12 (2 ^ (8 + b)) / 256 = 0)))
  | 0, b => by
    show (so b).isSome = _
    simp
  | n + 1, b => by
    have ih := slv_some (r := r) (so := so) (t := t) n b
    show ((if _ then lrn (slv r so t n) n t else slv r so t n) b).isSome = _
    by_cases hbn : b = n
    · subst hbn
      rw [slv_at b b (Nat.le_refl b)] at ih
      by_cases h0 : rdp r 12 (2 ^ (8 + b)) / 256 = 0
      · rw [if_pos h0]
        unfold lrn
        rw [slv_at b b (Nat.le_refl b)]
        cases hs : (so b).isSome with
        | true => rw [if_pos rfl, slv_at b b (Nat.le_refl b), hs]; rfl
        | false =>
          rw [if_neg (by decide)]
          simp [upo, h0]
      · rw [if_neg h0, slv_at b b (Nat.le_refl b), decide_eq_false h0, Bool.and_false, Bool.or_false]
    · have e1 : decide (b < n + 1) = decide (b < n) := by simp; omega
      rw [e1, ← ih]
      split
      · unfold lrn
        split
        · rfl
        · simp [upo, hbn]
      · rfl
theorem slv_tm {r : Nat → Nat} {so : Nat → Option Nat} {t T : Nat} (h : ∀ b u, so b = some u → u ≤ T) (ht : t ≤ T) : ∀ n b u, slv r so t n b = some u → u ≤ T
  | 0, b, u, hu => h b u hu
  | n + 1, b, u, hu => by
    have hu2 : (if rdp r 12 (2 ^ (8 + n)) / 256 = 0 then lrn (slv r so t n) n t else slv r so t n) b = some u := hu
    split at hu2
    · unfold lrn at hu2
      split at hu2
      · exact slv_tm h ht n b u hu2
      · unfold upo at hu2
        split at hu2
        · cases hu2; exact ht
        · exact slv_tm h ht n b u hu2
    · exact slv_tm h ht n b u hu2
theorem slv_hi {r : Nat → Nat} {so : Nat → Option Nat} {t K : Nat} (h : ∀ b, K ≤ b → b < 12 → rdp r 12 (2 ^ (8 + b)) / 256 ≠ 0) : ∀ n, K ≤ n → n ≤ 12 → slv r so t n = slv r so t K
  | 0, h1, _ => by rw [show K = 0 by omega]
  | n + 1, h1, h2 => by
    rcases Nat.lt_or_ge K (n + 1) with h3 | h3
    · show (if _ then lrn (slv r so t n) n t else slv r so t n) = _
      rw [if_neg (h n (by omega) (by omega))]
      exact slv_hi h n (by omega) (by omega)
    · rw [show n + 1 = K by omega]
theorem span_hi {l : List Nat} {K : Nat} (hK : K ≤ 12) (h : ∀ q ∈ l, q < 2 ^ (8 + K)) {b : Nat} (hb : K ≤ b) (hb2 : b < 12) : rdp (spo l) 12 (2 ^ (8 + b)) / 256 ≠ 0 := by
  have h20 : ∀ q ∈ l, q < 2 ^ 20 := fun q hq => Nat.lt_of_lt_of_le (h q hq) (Nat.pow_le_pow_right (by decide) (by omega))
  have he := (eqv_spr h20 l.length).1
  have hr : ∀ j, j < 12 → spo l j < 2 ^ (8 + K) := cl_spr (P := fun x => x < 2 ^ (8 + K)) (Nat.two_pow_pos _) (fun _ _ => Nat.xor_lt_two_pow) h l.length
  have h0 : spo l b = 0 := by
    by_cases h1 : spo l b = 0
    · exact h1
    · have h2 := Nat.ge_two_pow_of_testBit (he b hb2 h1).2
      have h3 := hr b hb2
      have h4 : 2 ^ (8 + K) ≤ 2 ^ (8 + b) := Nat.pow_le_pow_right (by decide) (by omega)
      have h5 : 2 ^ (8 + b) ≤ spo l b := h2
      omega
  exact dv_bit (rd_top he hb2 h0 (Nat.pow_lt_pow_right (by decide) (by omega)) (Nat.testBit_two_pow_self)).1
/-- a block is found by elimination -/
theorem zwf_s {f g : Nat → Int32} {M : zMS} {b t : Nat} (h : zwf f M) (hb : b < 12) (e1 : g (110 + b) = nI t) (k : ∀ j, j ≠ 110 + b → g j = f j) : zwf g (M.1, M.2.1, upo M.2.2.1 b t, M.2.2.2) := by
  obtain ⟨h1, h2, h3, h4, h5⟩ := h
  refine ⟨fun j hj => by rw [k j (by omega)]; exact h1 j hj, fun r hr => (h2 r hr).kept (fun j g1 g2 => k j (by have := lb_top r hr; omega)), fun c hc => by rw [k _ (by omega)]; exact h3 c hc, fun c hc => by rw [k _ (by omega)]; exact h4 c hc, fun c hc => ?_⟩
  show g (110 + c) = tmI (upo M.2.2.1 b t c)
  by_cases hcb : c = b
  · subst hcb; rw [e1]; simp [upo, tmI]
  · rw [k _ (by omega)]
    have e : upo M.2.2.1 b t c = M.2.2.1 c := by simp [upo, hcb]
    rw [e]; exact h5 c hc
theorem tmI_9 {o : Option Nat} (h : ∀ t, o = some t → t < 2 ^ 30) : tmI o = -9 ↔ o = none := by
  cases o with
  | none => exact ⟨fun _ => rfl, fun _ => rfl⟩
  | some t => exact ⟨fun e => absurd e (n9 (h t rfl)), fun e => by cases e⟩
theorem tofn_of {V W : Nat → Nat} {kt : Nat → Option Nat} {x : Nat} (e : ∀ b, b < 12 → V b = W b) : ∀ n, n ≤ 12 → tofn V kt x n = tofn W kt x n
  | 0, _ => rfl
  | n + 1, h => by
    rw [tof_s, tof_s, tofn_of e n (by omega)]
    unfold sgl
    rw [e n (by omega)]
theorem plM_of {V W : Nat → Nat} {t x : Nat} {kt : Nat → Option Nat} {wt : List Nat} (e : ∀ b, b < 12 → V b = W b) : plM V t x kt wt = plM W t x kt wt := by
  unfold plM
  rw [tofn_of e 12 (Nat.le_refl 12)]
theorem zW_of {V W : Nat → Nat} {kt : Nat → Option Nat} {wt : List Nat} (e : ∀ b, b < 12 → V b = W b) (h : zW V kt wt) : zW W kt wt := ⟨fun q hq => con_of e (h.1 q hq), h.2⟩
theorem vl_c {M : zMS} {i x : Nat} (h : i < 17 ∨ 29 ≤ i) : ∀ b, b < 12 → zVl (upc M.1 i x, M.2) b = zVl M b := fun b hb => by
  show upc M.1 i x (17 + b) = M.1 (17 + b)
  rw [upc_n (by omega)]
set_option maxRecDepth 100000 in
set_option maxHeartbeats 4000000 in
theorem m_X7_arriveAtReceiver (l : Launch) (G : zG) (sh : zH) (v : zV) (N : Nat) {m : Nat} {M : zMS} {x T : Nat} (hp : zMD G sh N m) (hv : zwf (v (m + 1)) M) (hk : mOK M) (hx : con (zVl M) x) (hxK : x < 2 ^ (8 + M.1 0)) (hbd : ∀ q ∈ (M.2.1 3), q < 2 ^ (8 + M.1 0)) (hW : zW (zVl M) M.2.2.2 (M.2.1 4)) (hT : zT T M) (hT2 : T < 2 ^ 30) : zm l G yX7_arriveAtReceiver cX7_arriveAtReceiver 5 (some .int) 4 [.ref m, .int (nI (x / 256)), .int (nI (x % 256))] sh v N (fun r v1 => r = some (.int (nI (if tkb (spo (M.2.1 3)) x then 1 else 0))) ∧ zwf (v1 (m + 1)) (mAcc0 M x) ∧ fB v v1 m) := by
  refine zM.of (by decide) rfl (Nat.le_of_ble_eq_true rfl) ?_
  intro p e s mi args below meth c C
  obtain ⟨hB, hN, hs0, hs1, hs2, hs3, hs4, hs5, hs6, hs7, hs8⟩ := id hp
  have hd0 : G.2.2.1 ≤ m ∧ m < N := ⟨hB, by omega⟩
  have hd1 : G.2.2.1 ≤ m + 1 ∧ m + 1 < N := ⟨by omega, by omega⟩
  have hd2 : G.2.2.1 ≤ m + 2 ∧ m + 2 < N := ⟨by omega, by omega⟩
  have hd3 : G.2.2.1 ≤ m + 3 ∧ m + 3 < N := ⟨by omega, by omega⟩
  have hd4 : G.2.2.1 ≤ m + 4 ∧ m + 4 < N := ⟨by omega, by omega⟩
  have hd5 : G.2.2.1 ≤ m + 5 ∧ m + 5 < N := ⟨by omega, by omega⟩
  have hd6 : G.2.2.1 ≤ m + 6 ∧ m + 6 < N := ⟨by omega, by omega⟩
  have hd7 : G.2.2.1 ≤ m + 7 ∧ m + 7 < N := ⟨by omega, by omega⟩
  have hd8 : G.2.2.1 ≤ m + 8 ∧ m + 8 < N := ⟨by omega, by omega⟩
  have hK12 := hk.1.2.1
  have hkl : ∀ q ∈ M.2.1 3, q < 2 ^ 20 := fun q hq => (hk.2.2.1 3 (by decide) q hq).1
  have h2l : ∀ q ∈ ((M.2.1 3) ++ [x]), q < 2 ^ 20 := fun q hq => by
    rcases List.mem_append.mp hq with h | h
    · exact hkl q h
    · rw [List.mem_singleton.mp h]; exact hx.1
  have h2K : ∀ q ∈ ((M.2.1 3) ++ [x]), q < 2 ^ (8 + M.1 0) := fun q hq => by
    rcases List.mem_append.mp hq with h | h
    · exact hbd q h
    · rw [List.mem_singleton.mp h]; exact hxK
  refine r_aload_n C (pc := 0) rfl rfl dX7_arriveAtReceiver_0 ?_
  refine r_get C (pc := 1) (ci := 7) (k := 0) (w := .ref (m + 1)) rfl (by decide) inX7 (by decide) q_654 (Or.inl hd0) hs0 (zl_ref _ _) dX7_arriveAtReceiver_1 ?_
  refine r_bipush C (pc := 4) (x := (nI 31)) (by decide) dX7_arriveAtReceiver_4 ?_
  refine r_dup2 C (pc := 6) rfl rfl dX7_arriveAtReceiver_6 ?_
  refine r_iald C (pc := 7) (x := (nI (M.1 31))) (Or.inl hd1) hs1 (by omega) (by omega) (hv.1 31 (by decide)) dX7_arriveAtReceiver_7 ?_
  refine r_iconst C (pc := 8) (x := (nI 1)) (by decide) dX7_arriveAtReceiver_8 ?_
  refine r_iadd C (pc := 9) (z := (nI ((M.1 31) + 1))) (nI_add _ _) dX7_arriveAtReceiver_9 ?_
  refine r_iast C (pc := 10) hd1 hs1 (by omega) (by omega) dX7_arriveAtReceiver_10 ?_
  refine VV.gn (fun w10 ew10 => ?_)
  have e10 : zwf (w10 (m + 1)) ((upc M.1 31 (M.1 31 + 1)), M.2) := zwf_c hv (by decide) (by decide) (by rw [ew10, z2_self]) (fun j hj => by rw [ew10, z2_ne (by omega)])
  have hVc := vl_c (M := M) (i := 31) (x := M.1 31 + 1) (by decide)
  have hk1 : mOK ((upc M.1 31 (M.1 31 + 1)), M.2) := mOK_of hk (by dsimp only; rw [upc_n (by decide)]; exact hk.1.2.2.2.2.2.2.2.1) (fun i h1 h2 h3 => upc_n (by omega)) hk.2.2.1 hk.2.2.2.1 hk.2.2.2.2.1 (by dsimp only; rw [upc_n (by decide)]; exact hk.2.2.2.2.2)
  refine r_aload_n C (pc := 11) rfl rfl dX7_arriveAtReceiver_11 ?_
  refine r_iload_n C (pc := 12) rfl rfl dX7_arriveAtReceiver_12 ?_
  refine r_iload_n C (pc := 13) rfl rfl dX7_arriveAtReceiver_13 ?_
  refine r_callV C (pc := 14) (st := []) (m_X7_peel l G sh w10 N (x := x) hp e10 hk1 (con_of (fun b hb => (hVc b hb).symm) hx) (by dsimp only; rw [upc_n (by decide)]; exact hxK) (zW_of (fun b hb => (hVc b hb).symm) hW)) kyX7_peel q_809 rfl (Or.inl hd0) hs0 (by decide) rfl rfl rfl (Nat.le_of_ble_eq_true rfl) ⟨Nat.le_of_ble_eq_true rfl, Nat.le_of_ble_eq_true rfl⟩ ⟨Nat.le_of_ble_eq_true rfl, Nat.le_of_ble_eq_true rfl⟩ dX7_arriveAtReceiver_14 (fun r14 v14 hp14 => ?_)
  obtain ⟨rfl, g1, g2⟩ := hp14
  refine VV.eq (st2 := []) rfl ?_
  rw [plM_of hVc] at g1
  dsimp only at g1
  rw [upc_n (show (2 : Nat) ≠ 31 by decide)] at g1
  have hf14 : fB v v14 m := (by rw [ew10]; exact fB.rf.zw (Or.inl rfl) : fB v w10 m).tr g2.B
  refine r_aload_n C (pc := 17) rfl rfl dX7_arriveAtReceiver_17 ?_
  refine r_bipush C (pc := 18) (x := (nI 61)) (by decide) dX7_arriveAtReceiver_18 ?_
  refine r_iload_n C (pc := 20) rfl rfl dX7_arriveAtReceiver_20 ?_
  refine r_callV C (pc := 21) (st := []) (m_X7_isNovel l G sh v14 N (r0 := 3) (x := x) hp g1 (by decide) hkl hx.1) kyX7_isNovel q_782 rfl (Or.inl hd0) hs0 (by decide) rfl rfl rfl (Nat.le_of_ble_eq_true rfl) ⟨Nat.le_of_ble_eq_true rfl, Nat.le_of_ble_eq_true rfl⟩ ⟨Nat.le_of_ble_eq_true rfl, Nat.le_of_ble_eq_true rfl⟩ dX7_arriveAtReceiver_21 (fun r21 v21 hp21 => ?_)
  obtain ⟨rfl, g3, g4⟩ := hp21
  refine VV.eq (st2 := [.int (zb (nov (M.2.1 3) x))]) rfl ?_
  rw [nov_tkb hkl hx.1]
  have g5 : zwf (v21 (m + 1)) ((upc M.1 31 (M.1 31 + 1)), upl M.2.1 4 (plM (zVl M) (M.1 2) x M.2.2.2 (M.2.1 4)).2, M.2.2.1, (plM (zVl M) (M.1 2) x M.2.2.2 (M.2.1 4)).1) := by rw [g3]; exact g1
  refine n_ifb_ne C (pc := 24) (tgt := 40) dX7_arriveAtReceiver_24 (by decide) (fun c_24 => ?_) (fun c_24 => ?_)
  · refine r_aload_n C (pc := 40) rfl rfl dX7_arriveAtReceiver_40 ?_
    refine r_bipush C (pc := 41) (x := (nI 61)) (by decide) dX7_arriveAtReceiver_41 ?_
    refine r_iload_n C (pc := 43) rfl rfl dX7_arriveAtReceiver_43 ?_
    refine r_iload_n C (pc := 44) rfl rfl dX7_arriveAtReceiver_44 ?_
    refine r_callV C (pc := 45) (st := []) (m_X7_append l G sh v21 N (r0 := 3) (q := x) hp g5 (by decide) (nvl_k hk.2.2.2.1 c_24)) kyX7_append q_774 rfl (Or.inl hd0) hs0 (by decide) rfl rfl rfl (Nat.le_of_ble_eq_true rfl) ⟨Nat.le_of_ble_eq_true rfl, Nat.le_of_ble_eq_true rfl⟩ ⟨Nat.le_of_ble_eq_true rfl, Nat.le_of_ble_eq_true rfl⟩ dX7_arriveAtReceiver_45 (fun r45 v45 hp45 => ?_)
    obtain ⟨rfl, g6, g7⟩ := hp45
    refine VV.eq (st2 := []) rfl ?_
    dsimp only at g6
    rw [upl_n (show (3 : Nat) ≠ 4 by decide)] at g6
    refine r_aload_n C (pc := 48) rfl rfl dX7_arriveAtReceiver_48 ?_
    refine r_bipush C (pc := 49) (x := (nI 61)) (by decide) dX7_arriveAtReceiver_49 ?_
    refine r_callV C (pc := 51) (st := []) (m_X7_layBase l G sh v45 N (r0 := 3) hp g6 (by decide) (by dsimp only; rw [upl_s]; exact h2l)) kyX7_layBase q_786 rfl (Or.inl hd0) hs0 (by decide) rfl rfl rfl (Nat.le_of_ble_eq_true rfl) ⟨Nat.le_of_ble_eq_true rfl, Nat.le_of_ble_eq_true rfl⟩ ⟨Nat.le_of_ble_eq_true rfl, Nat.le_of_ble_eq_true rfl⟩ dX7_arriveAtReceiver_51 (fun r51 v51 hp51 => ?_)
    obtain ⟨rfl, g8, g9, g10⟩ := hp51
    refine VV.eq (st2 := [.int (nI (rnk ((M.2.1 3) ++ [x])))]) rfl ?_
    dsimp only at g9
    rw [upl_s] at g9
    refine r_istore_n C (pc := 54) (lv2 := [some (.ref m), some (.int (nI (x / 256))), some (.int (nI (x % 256))), some (.int (nI (rnk ((M.2.1 3) ++ [x])))), none]) rfl (Nat.le_of_ble_eq_true rfl) rfl rfl dX7_arriveAtReceiver_54 ?_
    refine r_iconst C (pc := 55) (x := (nI 0)) (by decide) dX7_arriveAtReceiver_55 ?_
    refine r_istore C (pc := 56) (lv2 := [some (.ref m), some (.int (nI (x / 256))), some (.int (nI (x % 256))), some (.int (nI (rnk ((M.2.1 3) ++ [x])))), some (.int (nI 0))]) (Nat.le_of_ble_eq_true rfl) rfl rfl dX7_arriveAtReceiver_56 ?_
    have hrd : ∀ y, rdp (fpr ((M.2.1 3) ++ [x]) ((M.2.1 3) ++ [x]).length) 12 y = rdp (tkr (spo (M.2.1 3)) x) 12 y := fun y => by
      rw [← spo_app]
      exact ((eqv_spr h2l _).2.2.2 y).symm
    have hsp : ∀ b, M.1 0 ≤ b → b < 12 → rdp (tkr (spo (M.2.1 3)) x) 12 (2 ^ (8 + b)) / 256 ≠ 0 := fun b h1 h2 => by
      rw [← spo_app]
      exact span_hi hK12 h2K h1 h2
    have hsT : ∀ b t, M.2.2.1 b = some t → t < 2 ^ 30 := fun b t h => Nat.lt_of_le_of_lt (hT.2.2.1 b t h) hT2
    have loop : ∀ (n b : Nat) (v' : zV), M.1 0 - b < n → b ≤ M.1 0 → zwf (v' (m + 1)) ((upc M.1 31 (M.1 31 + 1)), (upl (upl M.2.1 4 (plM (zVl M) (M.1 2) x M.2.2.2 (M.2.1 4)).2) 3 ((M.2.1 3) ++ [x])), (slv (tkr (spo (M.2.1 3)) x) M.2.2.1 (M.1 2) b), (plM (zVl M) (M.1 2) x M.2.2.2 (M.2.1 4)).1) → zbs v' m (fpr ((M.2.1 3) ++ [x]) ((M.2.1 3) ++ [x]).length) → fB v v' m → VV p l e ({ frames := 4, cells := 0, slots := 0, locals := 32 * 4 }) s mi args below meth c 0 0 (zQ below (fun r sh1 v1 N1 => sh1 = sh ∧ N1 = N ∧ (r = some (.int (nI (if tkb (spo (M.2.1 3)) x then 1 else 0))) ∧ zwf (v1 (m + 1)) (mAcc0 M x) ∧ fB v v1 m)) G args s 0 0) G 5 sh v' N 58 [some (.ref m), some (.int (nI (x / 256))), some (.int (nI (x % 256))), some (.int (nI (rnk ((M.2.1 3) ++ [x])))), some (.int (nI b))] [] := by
      intro n
      induction n with
      | zero => intro b v' hm; omega
      | succ n ih =>
        intro b v' hm hb e1 e2 e3
        refine r_iload C (pc := 58) rfl dX7_arriveAtReceiver_58 ?_
        refine r_aload_n C (pc := 60) rfl rfl dX7_arriveAtReceiver_60 ?_
        refine r_get C (pc := 61) (ci := 7) (k := 0) (w := .ref (m + 1)) rfl (by decide) inX7 (by decide) q_654 (Or.inl hd0) hs0 (zl_ref _ _) dX7_arriveAtReceiver_61 ?_
        refine r_iconst C (pc := 64) (x := (nI 0)) (by decide) dX7_arriveAtReceiver_64 ?_
        refine r_iald C (pc := 65) (x := (nI (M.1 0))) (Or.inl hd1) hs1 (by omega) (by omega) (by rw [e1.1 0 (by decide)]; dsimp only; rw [upc_n (by decide)]) dX7_arriveAtReceiver_65 ?_
        refine n_icmp_ge C (pc := 66) (tgt := 117) (by omega) (by omega) dX7_arriveAtReceiver_66 (by decide) (fun c_66 => ?_) (fun c_66 => ?_)
        · refine r_iconst C (pc := 117) (x := (nI 1)) (by decide) dX7_arriveAtReceiver_117 ?_
          exact r_iret C (pc := 118) rfl (rfl) dX7_arriveAtReceiver_118 ⟨rfl, rfl, (by rw [if_pos c_24]), (by have hbK : b = M.1 0 := (by omega); rw [hbK, ← slv_hi (r := (tkr (spo (M.2.1 3)) x)) (so := M.2.2.1) (t := M.1 2) hsp 12 hK12 (Nat.le_refl 12)] at e1; unfold mAcc0; rw [if_pos c_24, if_pos c_24, if_pos c_24, upl_comm _ (show (3 : Nat) ≠ 4 by decide), upc_nop (show (32 : Nat) ≠ 31 by decide)]; exact e1), e3⟩
        · have hb12 : b < 12 := by omega
          refine r_aload_n C (pc := 69) rfl rfl dX7_arriveAtReceiver_69 ?_
          refine r_get C (pc := 70) (ci := 7) (k := 0) (w := .ref (m + 1)) rfl (by decide) inX7 (by decide) q_654 (Or.inl hd0) hs0 (zl_ref _ _) dX7_arriveAtReceiver_70 ?_
          refine r_bipush C (pc := 73) (x := (nI 110)) (by decide) dX7_arriveAtReceiver_73 ?_
          refine r_iload C (pc := 75) rfl dX7_arriveAtReceiver_75 ?_
          refine r_iadd C (pc := 77) (z := (nI (110 + b))) (nI_add _ _) dX7_arriveAtReceiver_77 ?_
          refine r_iald C (pc := 78) (x := (tmI (M.2.2.1 b))) (Or.inl hd1) hs1 (by omega) (by omega) (by rw [e1.2.2.2.2 b hb12]; dsimp only; rw [slv_at b b (Nat.le_refl b)]) dX7_arriveAtReceiver_78 ?_
          refine r_bipush C (pc := 79) (x := (-9)) (by decide) dX7_arriveAtReceiver_79 ?_
          refine r_icmp_ne C (pc := 81) (tgt := 111) dX7_arriveAtReceiver_81 (by decide) (fun c_81 => ?_) (fun c_81 => ?_)
          · refine r_iinc C (pc := 111) (lv2 := [some (.ref m), some (.int (nI (x / 256))), some (.int (nI (x % 256))), some (.int (nI (rnk ((M.2.1 3) ++ [x])))), some (.int (nI (b + 1)))]) (y := (nI (b + 1))) rfl (nI_inc _ _) (Nat.le_of_ble_eq_true rfl) rfl rfl dX7_arriveAtReceiver_111 ?_
            refine r_goto C (pc := 114) (tgt := 58) dX7_arriveAtReceiver_114 (by decide) ?_
            have hs : (slv (tkr (spo (M.2.1 3)) x) M.2.2.1 (M.1 2) (b + 1)) = (slv (tkr (spo (M.2.1 3)) x) M.2.2.1 (M.1 2) b) := by
              show (if _ then lrn (slv (tkr (spo (M.2.1 3)) x) M.2.2.1 (M.1 2) b) b (M.1 2) else (slv (tkr (spo (M.2.1 3)) x) M.2.2.1 (M.1 2) b)) = _
              split
              · unfold lrn
                rw [if_pos (by rw [slv_at b b (Nat.le_refl b)]; cases h : M.2.2.1 b with | none => exact absurd ((tmI_9 (hsT b)).mpr h) c_81 | some t => rfl)]
              · rfl
            have := ih (b + 1) v' (by omega) (by omega)
            rw [hs] at this
            exact this e1 e2 e3
          · refine r_aload_n C (pc := 84) rfl rfl dX7_arriveAtReceiver_84 ?_
            refine r_iload C (pc := 85) rfl dX7_arriveAtReceiver_85 ?_
            refine r_callV C (pc := 87) (st := []) (m_X7_solved l G sh v' N hp e2 (eqv_spr h2l _).2.1 hb12) kyX7_solved q_824 rfl (Or.inl hd0) hs0 (by decide) rfl rfl rfl (Nat.le_of_ble_eq_true rfl) ⟨Nat.le_of_ble_eq_true rfl, Nat.le_of_ble_eq_true rfl⟩ ⟨Nat.le_of_ble_eq_true rfl, Nat.le_of_ble_eq_true rfl⟩ dX7_arriveAtReceiver_87 (fun r87 v87 hp87 => ?_)
            obtain ⟨rfl, g4⟩ := hp87
            refine VV.eq (st2 := [.int (if (rdp (fpr ((M.2.1 3) ++ [x]) ((M.2.1 3) ++ [x]).length) 12 (2 ^ (8 + b))) / 256 = 0 then nI ((rdp (fpr ((M.2.1 3) ++ [x]) ((M.2.1 3) ++ [x]).length) 12 (2 ^ (8 + b))) % 256) else -9)]) rfl ?_
            refine r_bipush C (pc := 90) (x := (-9)) (by decide) dX7_arriveAtReceiver_90 ?_
            refine r_icmp_eq C (pc := 92) (tgt := 111) dX7_arriveAtReceiver_92 (by decide) (fun c_92 => ?_) (fun c_92 => ?_)
            · refine r_iinc C (pc := 111) (lv2 := [some (.ref m), some (.int (nI (x / 256))), some (.int (nI (x % 256))), some (.int (nI (rnk ((M.2.1 3) ++ [x])))), some (.int (nI (b + 1)))]) (y := (nI (b + 1))) rfl (nI_inc _ _) (Nat.le_of_ble_eq_true rfl) rfl rfl dX7_arriveAtReceiver_111 ?_
              refine r_goto C (pc := 114) (tgt := 58) dX7_arriveAtReceiver_114 (by decide) ?_
              have hs : (slv (tkr (spo (M.2.1 3)) x) M.2.2.1 (M.1 2) (b + 1)) = (slv (tkr (spo (M.2.1 3)) x) M.2.2.1 (M.1 2) b) := by
                show (if _ then lrn (slv (tkr (spo (M.2.1 3)) x) M.2.2.1 (M.1 2) b) b (M.1 2) else (slv (tkr (spo (M.2.1 3)) x) M.2.2.1 (M.1 2) b)) = _
                rw [if_neg (fun z => by rw [← hrd] at z; rw [if_pos z] at c_92; exact n9 (by omega) c_92)]
              have := ih (b + 1) v87 (by omega) (by omega)
              rw [hs] at this
              exact this (by rw [g4.1 _ (by omega)]; exact e1) (e2.kept (g4.1 _ (by omega)) (g4.1 _ (by omega))) (e3.tr g4.B)
            · refine r_aload_n C (pc := 95) rfl rfl dX7_arriveAtReceiver_95 ?_
              refine r_get C (pc := 96) (ci := 7) (k := 0) (w := .ref (m + 1)) rfl (by decide) inX7 (by decide) q_654 (Or.inl hd0) hs0 (zl_ref _ _) dX7_arriveAtReceiver_96 ?_
              refine r_bipush C (pc := 99) (x := (nI 110)) (by decide) dX7_arriveAtReceiver_99 ?_
              refine r_iload C (pc := 101) rfl dX7_arriveAtReceiver_101 ?_
              refine r_iadd C (pc := 103) (z := (nI (110 + b))) (nI_add _ _) dX7_arriveAtReceiver_103 ?_
              refine r_aload_n C (pc := 104) rfl rfl dX7_arriveAtReceiver_104 ?_
              refine r_get C (pc := 105) (ci := 7) (k := 0) (w := .ref (m + 1)) rfl (by decide) inX7 (by decide) q_654 (Or.inl hd0) hs0 (zl_ref _ _) dX7_arriveAtReceiver_105 ?_
              refine r_iconst C (pc := 108) (x := (nI 2)) (by decide) dX7_arriveAtReceiver_108 ?_
              refine r_iald C (pc := 109) (x := (nI (M.1 2))) (Or.inl hd1) hs1 (by omega) (by omega) (by rw [g4.1 _ (by omega), e1.1 2 (by decide)]; dsimp only; rw [upc_n (by decide)]) dX7_arriveAtReceiver_109 ?_
              refine r_iast C (pc := 110) hd1 hs1 (by omega) (by omega) dX7_arriveAtReceiver_110 ?_
              refine VV.gn (fun w110 ew110 => ?_)
              refine r_iinc C (pc := 111) (lv2 := [some (.ref m), some (.int (nI (x / 256))), some (.int (nI (x % 256))), some (.int (nI (rnk ((M.2.1 3) ++ [x])))), some (.int (nI (b + 1)))]) (y := (nI (b + 1))) rfl (nI_inc _ _) (Nat.le_of_ble_eq_true rfl) rfl rfl dX7_arriveAtReceiver_111 ?_
              refine r_goto C (pc := 114) (tgt := 58) dX7_arriveAtReceiver_114 (by decide) ?_
              have hz : (rdp (fpr ((M.2.1 3) ++ [x]) ((M.2.1 3) ++ [x]).length) 12 (2 ^ (8 + b))) / 256 = 0 := by
                by_cases h : (rdp (fpr ((M.2.1 3) ++ [x]) ((M.2.1 3) ++ [x]).length) 12 (2 ^ (8 + b))) / 256 = 0
                · exact h
                · exact absurd (if_neg h) c_92
              have hs : (slv (tkr (spo (M.2.1 3)) x) M.2.2.1 (M.1 2) (b + 1)) = upo (slv (tkr (spo (M.2.1 3)) x) M.2.2.1 (M.1 2) b) b (M.1 2) := by
                show (if _ then lrn (slv (tkr (spo (M.2.1 3)) x) M.2.2.1 (M.1 2) b) b (M.1 2) else (slv (tkr (spo (M.2.1 3)) x) M.2.2.1 (M.1 2) b)) = _
                rw [if_pos (by rw [← hrd]; exact hz)]
                unfold lrn
                rw [if_neg (by rw [slv_at b b (Nat.le_refl b), (tmI_9 (hsT b)).mp c_81]; decide)]
              have := ih (b + 1) w110 (by omega) (by omega)
              rw [hs] at this
              exact this (zwf_s (M := ((upc M.1 31 (M.1 31 + 1)), (upl (upl M.2.1 4 (plM (zVl M) (M.1 2) x M.2.2.2 (M.2.1 4)).2) 3 ((M.2.1 3) ++ [x])), (slv (tkr (spo (M.2.1 3)) x) M.2.2.1 (M.1 2) b), (plM (zVl M) (M.1 2) x M.2.2.2 (M.2.1 4)).1)) (by rw [← g4.1 (m + 1) (by omega)] at e1; exact e1) hb12 (by rw [ew110, z2_self]) (fun j hj => by rw [ew110, z2_ne (by omega)])) (by rw [ew110]; exact (e2.kept (g4.1 _ (by omega)) (g4.1 _ (by omega))).kept (z2_addr (by omega)) (z2_addr (by omega))) (by rw [ew110]; exact (e3.tr g4.B).zw (Or.inl rfl))
    exact loop (M.1 0 + 1) 0 v51 (by omega) (by omega) (by rw [g8]; exact g6) g9 (((hf14.tr g4).tr g7.B).tr g10)
  · refine r_aload_n C (pc := 27) rfl rfl dX7_arriveAtReceiver_27 ?_
    refine r_get C (pc := 28) (ci := 7) (k := 0) (w := .ref (m + 1)) rfl (by decide) inX7 (by decide) q_654 (Or.inl hd0) hs0 (zl_ref _ _) dX7_arriveAtReceiver_28 ?_
    refine r_bipush C (pc := 31) (x := (nI 32)) (by decide) dX7_arriveAtReceiver_31 ?_
    refine r_dup2 C (pc := 33) rfl rfl dX7_arriveAtReceiver_33 ?_
    refine r_iald C (pc := 34) (x := (nI (M.1 32))) (Or.inl hd1) hs1 (by omega) (by omega) (by rw [g5.1 32 (by decide)]; dsimp only; rw [upc_n (by decide)]) dX7_arriveAtReceiver_34 ?_
    refine r_iconst C (pc := 35) (x := (nI 1)) (by decide) dX7_arriveAtReceiver_35 ?_
    refine r_iadd C (pc := 36) (z := (nI ((M.1 32) + 1))) (nI_add _ _) dX7_arriveAtReceiver_36 ?_
    refine r_iast C (pc := 37) hd1 hs1 (by omega) (by omega) dX7_arriveAtReceiver_37 ?_
    refine VV.gn (fun w37 ew37 => ?_)
    refine r_iconst C (pc := 38) (x := (nI 0)) (by decide) dX7_arriveAtReceiver_38 ?_
    exact r_iret C (pc := 39) rfl (rfl) dX7_arriveAtReceiver_39 ⟨rfl, rfl, (by rw [c_24]; rfl), (by unfold mAcc0; rw [c_24, if_neg (by decide), if_neg (by decide), if_neg (by decide), upl_id]; exact zwf_c g5 (by decide) (by decide) (by rw [ew37, z2_self]) (fun j hj => by rw [ew37, z2_ne (by omega)])), by rw [ew37]; exact (hf14.tr g4).zw (Or.inl rfl)⟩
