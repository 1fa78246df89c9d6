theorem tkI_9 {how most : Nat} {M : zMS} (h : most < 2 ^ 29) : tkI how most M = -9 ↔ dn how (tks how most 0 M).2 = false := by
  unfold tkI
  have hl := tks_le (how := how) most 0 M
  cases hd : dn how (tks how most 0 M).2 with
  | false => exact ⟨fun _ => rfl, fun _ => rfl⟩
  | true => exact ⟨fun e => absurd e (by rw [if_pos rfl]; exact n9 (by omega)), fun e => by cases e⟩
theorem tks_s {how k n : Nat} {M : zMS} (h : dn how M = false) : tks how (k + 1) n M = tks how k (n + 1) (mTick M) := by
  show (if _ then _ else _) = _
  rw [h]; rfl
theorem tks_d {how k n : Nat} {M : zMS} (h : dn how M = true) : tks how k n M = (n, M) := by
  cases k with
  | zero => rfl
  | succ k => exact if_pos h
theorem zwf_hold {v w : zV} {m : Nat} {M : zMS} (h : zwf (v (m + 1)) M) (e : ∀ j, j < 165 → w (m + 1) j = v (m + 1) j) : zwf (w (m + 1)) M := zwf_same h e
theorem fT_8 {v v1 : zV} {m : Nat} (f : fT v v1 m) : v1 (m + 8) = v (m + 8) := f.1 _ (by omega) (by omega) (by omega) (by omega) (by omega) (by omega)
theorem flN_or (f : Nat → Bool) : ∀ i, i < 2 → flN f ||| 2 ^ i = flN (fun j => if j = i then true else f j) := by
  intro i hi
  rcases (show i = 0 ∨ i = 1 by omega) with rfl | rfl
  · show ((if f 0 = true then 1 else 0) + (if f 1 = true then 2 else 0)) ||| 2 ^ 0 = (if true = true then 1 else 0) + (if f 1 = true then 2 else 0)
    cases f 0 <;> cases f 1 <;> rfl
  · show ((if f 0 = true then 1 else 0) + (if f 1 = true then 2 else 0)) ||| 2 ^ 1 = (if f 0 = true then 1 else 0) + (if true = true then 2 else 0)
    cases f 0 <;> cases f 1 <;> rfl
theorem flN_bit (f : Nat → Bool) : ∀ i, i < 2 → flN f / 2 ^ i % 2 = if f i then 1 else 0 := by
  intro i hi
  rcases (show i = 0 ∨ i = 1 by omega) with rfl | rfl
  · unfold flN
    cases f 0 <;> cases f 1 <;> rfl
  · unfold flN
    cases f 0 <;> cases f 1 <;> rfl
theorem remH_im (M : zMS) (h : zHs) : (remH M h).2.2 = h.2.2 := by
  unfold remH
  split <;> rfl
theorem flN_le (f : Nat → Bool) : flN f ≤ 3 := by
  unfold flN
  cases f 0 <;> cases f 1 <;> decide
theorem bst_lt (M : zMS) : ∀ q, (bst M q).2 ≤ 301
  | 0 => Nat.le_refl _
  | q + 1 => by
    have := bst_lt M q
    unfold bst
    split
    · show (tks 1 300 0 _).1 ≤ 301
      omega
    · exact this
set_option maxRecDepth 100000 in
set_option maxHeartbeats 4000000 in
theorem m_X7_isWhole (l : Launch) (G : zG) (sh : zH) (v : zV) (N : Nat) {m : Nat} {M : zMS} {T : Nat} {x : Nat} (hp : zMD G sh N m) (hv : zwf (v (m + 1)) M) (hG : zGd T M) (hx : x ≤ 1) : zm l G yX7_isWhole cX7_isWhole 2 (some .boolean) 1 [.ref m, .int (nI x)] sh v N (fun r v1 => r = some (.int (zb (dn x M))) ∧ v1 = v) := by
  refine zM.of (by decide) rfl (Nat.le_of_ble_eq_true rfl) ?_
  intro p e s mi args below meth c C
  obtain ⟨hB, hN, hs0, hs1, hs2, hs3, hs4, hs5, hs6, hs7, hs8⟩ := id hp
  have hd0 : G.2.2.1 ≤ m ∧ m < N := ⟨hB, by omega⟩
  have hd1 : G.2.2.1 ≤ m + 1 ∧ m + 1 < N := ⟨by omega, by omega⟩
  have hd2 : G.2.2.1 ≤ m + 2 ∧ m + 2 < N := ⟨by omega, by omega⟩
  have hd3 : G.2.2.1 ≤ m + 3 ∧ m + 3 < N := ⟨by omega, by omega⟩
  have hd4 : G.2.2.1 ≤ m + 4 ∧ m + 4 < N := ⟨by omega, by omega⟩
  have hd5 : G.2.2.1 ≤ m + 5 ∧ m + 5 < N := ⟨by omega, by omega⟩
  have hd6 : G.2.2.1 ≤ m + 6 ∧ m + 6 < N := ⟨by omega, by omega⟩
  have hd7 : G.2.2.1 ≤ m + 7 ∧ m + 7 < N := ⟨by omega, by omega⟩
  have hd8 : G.2.2.1 ≤ m + 8 ∧ m + 8 < N := ⟨by omega, by omega⟩
  have hE : zE M := hG.1
  have hk : mOK M := hE.1
  have hK12 := hk.1.2.1
  have hla : zla (v (m + 1)) 61 12 (M.2.1 3) := hv.2.1 3 (by decide)
  have hla2 := hla.2.1
  refine r_iload_n C (pc := 0) rfl rfl dX7_isWhole_0 ?_
  refine n_if_ne C (pc := 1) (tgt := 11) (by omega) dX7_isWhole_1 (by decide) (fun c_1 => ?_) (fun c_1 => ?_)
  · refine r_aload_n C (pc := 11) rfl rfl dX7_isWhole_11 ?_
    refine r_get C (pc := 12) (ci := 7) (k := 0) (w := .ref (m + 1)) rfl (by decide) inX7 (by decide) q_654 (Or.inl hd0) hs0 (zl_ref _ _) dX7_isWhole_12 ?_
    refine r_bipush C (pc := 15) (x := (nI 61)) (by decide) dX7_isWhole_15 ?_
    refine r_iald C (pc := 17) (x := (nI ((M.2.1 3).length))) (Or.inl hd1) hs1 (by decide) (by omega) (hla.1) dX7_isWhole_17 ?_
    refine r_aload_n C (pc := 18) rfl rfl dX7_isWhole_18 ?_
    refine r_get C (pc := 19) (ci := 7) (k := 0) (w := .ref (m + 1)) rfl (by decide) inX7 (by decide) q_654 (Or.inl hd0) hs0 (zl_ref _ _) dX7_isWhole_19 ?_
    refine r_iconst C (pc := 22) (x := (nI 0)) (by decide) dX7_isWhole_22 ?_
    refine r_iald C (pc := 23) (x := (nI (M.1 0))) (Or.inl hd1) hs1 (by omega) (by omega) (hv.1 0 (by decide)) dX7_isWhole_23 ?_
    refine n_icmp_ne C (pc := 24) (tgt := 31) (by have := cntn_le M.2.2.2 12; omega) (by omega) dX7_isWhole_24 (by decide) (fun c_24 => ?_) (fun c_24 => ?_)
    · refine r_iconst C (pc := 31) (x := (nI 0)) (by decide) dX7_isWhole_31 ?_
      exact r_iret C (pc := 32) rfl (rfl) dX7_isWhole_32 ⟨rfl, rfl, by rw [dn, decide_eq_false (by rw [show (if x = 0 then cntn M.2.2.2 12 else cntn M.2.2.1 12) = cntn M.2.2.1 12 from if_neg (by omega)]; exact fun z => c_24 ((whole_iff hE).mpr z))]; rfl, rfl⟩
    · refine r_iconst C (pc := 27) (x := (nI 1)) (by decide) dX7_isWhole_27 ?_
      refine r_goto C (pc := 28) (tgt := 32) dX7_isWhole_28 (by decide) ?_
      exact r_iret C (pc := 32) rfl (rfl) dX7_isWhole_32 ⟨rfl, rfl, by rw [dn, decide_eq_true (by rw [show (if x = 0 then cntn M.2.2.2 12 else cntn M.2.2.1 12) = cntn M.2.2.1 12 from if_neg (by omega)]; exact (whole_iff hE).mp c_24)]; rfl, rfl⟩
  · refine r_aload_n C (pc := 4) rfl rfl dX7_isWhole_4 ?_
    refine r_callV C (pc := 5) (st := []) ((by have z := m_X7_known l G sh v N hp hv hK12 (mOK_V hk); rw [← cnt_kt hE] at z; exact z)) kyX7_known q_848 rfl (Or.inl hd0) hs0 (by decide) rfl rfl rfl (Nat.le_of_ble_eq_true rfl) ⟨Nat.le_of_ble_eq_true rfl, Nat.le_of_ble_eq_true rfl⟩ ⟨Nat.le_of_ble_eq_true rfl, Nat.le_of_ble_eq_true rfl⟩ dX7_isWhole_5 (fun r5 v5 hp5 => ?_)
    obtain ⟨rfl, ehp5⟩ := hp5
    refine VV.vq ehp5 ?_
    refine VV.eq (st2 := [.int (nI (cntn M.2.2.2 12))]) rfl ?_
    refine r_goto C (pc := 8) (tgt := 18) dX7_isWhole_8 (by decide) ?_
    refine r_aload_n C (pc := 18) rfl rfl dX7_isWhole_18 ?_
    refine r_get C (pc := 19) (ci := 7) (k := 0) (w := .ref (m + 1)) rfl (by decide) inX7 (by decide) q_654 (Or.inl hd0) hs0 (zl_ref _ _) dX7_isWhole_19 ?_
    refine r_iconst C (pc := 22) (x := (nI 0)) (by decide) dX7_isWhole_22 ?_
    refine r_iald C (pc := 23) (x := (nI (M.1 0))) (Or.inl hd1) hs1 (by omega) (by omega) (hv.1 0 (by decide)) dX7_isWhole_23 ?_
    refine n_icmp_ne C (pc := 24) (tgt := 31) (by have := cntn_le M.2.2.2 12; omega) (by omega) dX7_isWhole_24 (by decide) (fun c_24 => ?_) (fun c_24 => ?_)
    · refine r_iconst C (pc := 31) (x := (nI 0)) (by decide) dX7_isWhole_31 ?_
      exact r_iret C (pc := 32) rfl (rfl) dX7_isWhole_32 ⟨rfl, rfl, by rw [dn, decide_eq_false (by rw [show (if x = 0 then cntn M.2.2.2 12 else cntn M.2.2.1 12) = cntn M.2.2.2 12 from if_pos c_1]; exact c_24)]; rfl, rfl⟩
    · refine r_iconst C (pc := 27) (x := (nI 1)) (by decide) dX7_isWhole_27 ?_
      refine r_goto C (pc := 28) (tgt := 32) dX7_isWhole_28 (by decide) ?_
      exact r_iret C (pc := 32) rfl (rfl) dX7_isWhole_32 ⟨rfl, rfl, by rw [dn, decide_eq_true (by rw [show (if x = 0 then cntn M.2.2.2 12 else cntn M.2.2.1 12) = cntn M.2.2.2 12 from if_pos c_1]; exact c_24)]; rfl, rfl⟩
set_option maxRecDepth 100000 in
set_option maxHeartbeats 4000000 in
theorem m_X7_ticksTo (l : Launch) (G : zG) (sh : zH) (v : zV) (N : Nat) {m : Nat} {M : zMS} {T : Nat} {x y : Nat} (hp : zMD G sh N m) (hv : zwf (v (m + 1)) M) (hG : zGd T M) (hx : x ≤ 1) (hy : y ≤ 300) (hT : T + 500 < 2 ^ 30) : zm l G yX7_ticksTo cX7_ticksTo 4 (some .int) 6 [.ref m, .int (nI x), .int (nI y)] sh v N (fun r v1 => r = some (.int (tkI x y M)) ∧ fT v v1 m) := by
  refine zM.of (by decide) rfl (Nat.le_of_ble_eq_true rfl) ?_
  intro p e s mi args below meth c C
  obtain ⟨hB, hN, hs0, hs1, hs2, hs3, hs4, hs5, hs6, hs7, hs8⟩ := id hp
  have hd0 : G.2.2.1 ≤ m ∧ m < N := ⟨hB, by omega⟩
  have hd1 : G.2.2.1 ≤ m + 1 ∧ m + 1 < N := ⟨by omega, by omega⟩
  have hd2 : G.2.2.1 ≤ m + 2 ∧ m + 2 < N := ⟨by omega, by omega⟩
  have hd3 : G.2.2.1 ≤ m + 3 ∧ m + 3 < N := ⟨by omega, by omega⟩
  have hd4 : G.2.2.1 ≤ m + 4 ∧ m + 4 < N := ⟨by omega, by omega⟩
  have hd5 : G.2.2.1 ≤ m + 5 ∧ m + 5 < N := ⟨by omega, by omega⟩
  have hd6 : G.2.2.1 ≤ m + 6 ∧ m + 6 < N := ⟨by omega, by omega⟩
  have hd7 : G.2.2.1 ≤ m + 7 ∧ m + 7 < N := ⟨by omega, by omega⟩
  have hd8 : G.2.2.1 ≤ m + 8 ∧ m + 8 < N := ⟨by omega, by omega⟩
  have fin : ∀ (n : Nat) (M' : zMS) (v' : zV), tks x y 0 M = (n, M') → zGd (T + n) M' → zwf (v' (m + 1)) M' → fT v v' m → VV p l e ({ frames := 6, cells := 0, slots := 0, locals := 32 * 6 }) s mi args below meth c 0 0 (zQ below (fun r sh1 v1 N1 => sh1 = sh ∧ N1 = N ∧ (r = some (.int (tkI x y M)) ∧ fT v v1 m)) G args s 0 0) G 4 sh v' N 25 [some (.ref m), some (.int (nI x)), some (.int (nI y)), some (.int (nI n))] [] := by
    intro n M' v' hz hG1 e1 e2
    refine r_aload_n C (pc := 25) rfl rfl dX7_ticksTo_25 ?_
    refine r_iload_n C (pc := 26) rfl rfl dX7_ticksTo_26 ?_
    refine r_callV C (pc := 27) (st := []) (m_X7_isWhole l G sh v' N (x := x) hp e1 hG1 hx) kyX7_isWhole q_904 rfl (Or.inl hd0) hs0 (by decide) rfl rfl rfl (Nat.le_of_ble_eq_true rfl) ⟨Nat.le_of_ble_eq_true rfl, Nat.le_of_ble_eq_true rfl⟩ ⟨Nat.le_of_ble_eq_true rfl, Nat.le_of_ble_eq_true rfl⟩ dX7_ticksTo_27 (fun r27 v27 hp27 => ?_)
    obtain ⟨rfl, ehp27⟩ := hp27
    refine VV.vq ehp27 ?_
    refine VV.eq (st2 := [.int (zb (dn x M'))]) rfl ?_
    refine n_ifb_eq C (pc := 30) (tgt := 37) dX7_ticksTo_30 (by decide) (fun c_30 => ?_) (fun c_30 => ?_)
    · refine r_bipush C (pc := 37) (x := (-9)) (by decide) dX7_ticksTo_37 ?_
      exact r_iret C (pc := 39) rfl (rfl) dX7_ticksTo_39 ⟨rfl, rfl, by rw [tkI, hz]; dsimp only; rw [c_30]; rfl, e2⟩
    · refine r_iload_n C (pc := 33) rfl rfl dX7_ticksTo_33 ?_
      refine r_goto C (pc := 34) (tgt := 39) dX7_ticksTo_34 (by decide) ?_
      exact r_iret C (pc := 39) rfl (rfl) dX7_ticksTo_39 ⟨rfl, rfl, by rw [tkI, hz]; dsimp only; rw [c_30]; rfl, e2⟩
  have loop : ∀ (d n : Nat) (M' : zMS) (v' : zV), y - n < d → n ≤ y → tks x (y - n) n M' = tks x y 0 M → zGd (T + n) M' → zwf (v' (m + 1)) M' → fT v v' m → VV p l e ({ frames := 6, cells := 0, slots := 0, locals := 32 * 6 }) s mi args below meth c 0 0 (zQ below (fun r sh1 v1 N1 => sh1 = sh ∧ N1 = N ∧ (r = some (.int (tkI x y M)) ∧ fT v v1 m)) G args s 0 0) G 4 sh v' N 2 [some (.ref m), some (.int (nI x)), some (.int (nI y)), some (.int (nI n))] [] := by
    intro d
    induction d with
    | zero => intro n M' v' hm; omega
    | succ d ih =>
      intro n M' v' hm hn hz hG1 e1 e2
      refine r_iload_n C (pc := 2) rfl rfl dX7_ticksTo_2 ?_
      refine r_iload_n C (pc := 3) rfl rfl dX7_ticksTo_3 ?_
      refine n_icmp_ge C (pc := 4) (tgt := 25) (by omega) (by omega) dX7_ticksTo_4 (by decide) (fun c_4 => ?_) (fun c_4 => ?_)
      · exact fin n M' v' (by rw [show y - n = 0 by omega] at hz; exact hz.symm) hG1 e1 e2
      · refine r_aload_n C (pc := 7) rfl rfl dX7_ticksTo_7 ?_
        refine r_iload_n C (pc := 8) rfl rfl dX7_ticksTo_8 ?_
        refine r_callV C (pc := 9) (st := []) (m_X7_isWhole l G sh v' N (x := x) hp e1 hG1 hx) kyX7_isWhole q_904 rfl (Or.inl hd0) hs0 (by decide) rfl rfl rfl (Nat.le_of_ble_eq_true rfl) ⟨Nat.le_of_ble_eq_true rfl, Nat.le_of_ble_eq_true rfl⟩ ⟨Nat.le_of_ble_eq_true rfl, Nat.le_of_ble_eq_true rfl⟩ dX7_ticksTo_9 (fun r9 v9 hp9 => ?_)
        obtain ⟨rfl, ehp9⟩ := hp9
        refine VV.vq ehp9 ?_
        refine VV.eq (st2 := [.int (zb (dn x M'))]) rfl ?_
        refine n_ifb_ne C (pc := 12) (tgt := 25) dX7_ticksTo_12 (by decide) (fun c_12 => ?_) (fun c_12 => ?_)
        · exact fin n M' v' (by rw [tks_d c_12] at hz; exact hz.symm) hG1 e1 e2
        · refine r_aload_n C (pc := 15) rfl rfl dX7_ticksTo_15 ?_
          refine r_callV C (pc := 16) (st := []) (m_X7_tick l G sh v' N (T := T + n) hp e1 hG1.1 hG1.2.1 (by omega)) kyX7_tick q_750 rfl (Or.inl hd0) hs0 (by decide) rfl rfl rfl (Nat.le_of_ble_eq_true rfl) ⟨Nat.le_of_ble_eq_true rfl, Nat.le_of_ble_eq_true rfl⟩ ⟨Nat.le_of_ble_eq_true rfl, Nat.le_of_ble_eq_true rfl⟩ dX7_ticksTo_16 (fun r16 v16 hp16 => ?_)
          obtain ⟨rfl, g4, g5⟩ := hp16
          refine VV.eq (st2 := []) rfl ?_
          refine r_iinc C (pc := 19) (lv2 := [some (.ref m), some (.int (nI x)), some (.int (nI y)), some (.int (nI (n + 1)))]) (y := (nI (n + 1))) rfl (nI_inc _ _) (Nat.le_of_ble_eq_true rfl) rfl rfl dX7_ticksTo_19 ?_
          refine r_goto C (pc := 22) (tgt := 2) dX7_ticksTo_22 (by decide) ?_
          exact ih (n + 1) (mTick M') v16 (by omega) (by omega) (by rw [show y - n = y - (n + 1) + 1 by omega, tks_s c_12] at hz; exact hz) (mTick_G hG1) g4 (e2.tr g5)
  refine r_iconst C (pc := 0) (x := (nI 0)) (by decide) dX7_ticksTo_0 ?_
  refine r_istore_n C (pc := 1) (lv2 := [some (.ref m), some (.int (nI x)), some (.int (nI y)), some (.int (nI 0))]) rfl (Nat.le_of_ble_eq_true rfl) rfl rfl dX7_ticksTo_1 ?_
  exact loop (y + 1) 0 M v (by omega) (by omega) rfl hG hv fT.rf
set_option maxRecDepth 100000 in
set_option maxHeartbeats 4000000 in
theorem m_X7_forecast (l : Launch) (G : zG) (sh : zH) (v : zV) (N : Nat) {m : Nat} {M : zMS} {h : zHs} {T : Nat} {a : Int32} (hp : zMD G sh N m) (hv : zwf (v (m + 1)) M) (hh : zmh v m h) (hI : zI T (M, h)) (hT : T + 1000 < 2 ^ 30) : zm l G yX7_forecast cX7_forecast 3 (some .int) 7 [.ref m, .int a] sh v N (fun r v1 => r = some (.int (qForecast a (M, h))) ∧ zwf (v1 (m + 1)) M ∧ zmh v1 m h ∧ zfr v v1 m 9) := by
  refine zM.of (by decide) rfl (Nat.le_of_ble_eq_true rfl) ?_
  intro p e s mi args below meth c C
  obtain ⟨hB, hN, hs0, hs1, hs2, hs3, hs4, hs5, hs6, hs7, hs8⟩ := id hp
  have hd0 : G.2.2.1 ≤ m ∧ m < N := ⟨hB, by omega⟩
  have hd1 : G.2.2.1 ≤ m + 1 ∧ m + 1 < N := ⟨by omega, by omega⟩
  have hd2 : G.2.2.1 ≤ m + 2 ∧ m + 2 < N := ⟨by omega, by omega⟩
  have hd3 : G.2.2.1 ≤ m + 3 ∧ m + 3 < N := ⟨by omega, by omega⟩
  have hd4 : G.2.2.1 ≤ m + 4 ∧ m + 4 < N := ⟨by omega, by omega⟩
  have hd5 : G.2.2.1 ≤ m + 5 ∧ m + 5 < N := ⟨by omega, by omega⟩
  have hd6 : G.2.2.1 ≤ m + 6 ∧ m + 6 < N := ⟨by omega, by omega⟩
  have hd7 : G.2.2.1 ≤ m + 7 ∧ m + 7 < N := ⟨by omega, by omega⟩
  have hd8 : G.2.2.1 ≤ m + 8 ∧ m + 8 < N := ⟨by omega, by omega⟩
  have hE : zE M := hI.1.1
  have hk : mOK M := hE.1
  have hK2 := hk.1.1
  have hK12 := hk.1.2.1
  have hR3 := hk.1.2.2.1
  refine r_iload_n C (pc := 0) rfl rfl dX7_forecast_0 ?_
  refine r_iconst C (pc := 1) (x := (nI 0)) (by decide) dX7_forecast_1 ?_
  refine r_iconst C (pc := 2) (x := (nI 1)) (by decide) dX7_forecast_2 ?_
  refine r_callS C (pc := 3) (st := []) (m_X7_isIn l G sh v N (x := a) (lo := (nI 0)) (hi := (nI 1))) kyX7_isIn q_701 rfl rfl (Nat.le_of_ble_eq_true rfl) ⟨Nat.le_of_ble_eq_true rfl, Nat.le_of_ble_eq_true rfl⟩ ⟨Nat.le_of_ble_eq_true rfl, Nat.le_of_ble_eq_true rfl⟩ dX7_forecast_3 (fun r3 v3 hp3 => ?_)
  obtain ⟨rfl, ehp3⟩ := hp3
  refine VV.vq ehp3 ?_
  refine VV.eq (st2 := [.int (zb (decide ((nI 0) ≤ a ∧ a ≤ (nI 1))))]) rfl ?_
  refine n_ifb_ne C (pc := 6) (tgt := 11) dX7_forecast_6 (by decide) (fun c_6 => ?_) (fun c_6 => ?_)
  · have hc1 := (of_decide_eq_true c_6)
    obtain ⟨x, hx1, hx2, rfl⟩ := inR (of_decide_eq_true c_6) (by omega) (by omega)
    refine r_aload_n C (pc := 11) rfl rfl dX7_forecast_11 ?_
    refine r_callV C (pc := 12) (st := []) (m_X7_hold l G sh v N hp) kyX7_hold q_896 rfl (Or.inl hd0) hs0 (by decide) rfl rfl rfl (Nat.le_of_ble_eq_true rfl) ⟨Nat.le_of_ble_eq_true rfl, Nat.le_of_ble_eq_true rfl⟩ ⟨Nat.le_of_ble_eq_true rfl, Nat.le_of_ble_eq_true rfl⟩ dX7_forecast_12 (fun r12 v12 hp12 => ?_)
    obtain ⟨rfl, g1, g2⟩ := hp12
    refine VV.eq (st2 := []) rfl ?_
    refine r_aload_n C (pc := 15) rfl rfl dX7_forecast_15 ?_
    refine r_iload_n C (pc := 16) rfl rfl dX7_forecast_16 ?_
    refine r_sipush C (pc := 17) (x := (nI 300)) (by decide) dX7_forecast_17 ?_
    refine r_callV C (pc := 20) (st := []) (m_X7_ticksTo l G sh v12 N (x := x) (y := 300) hp (by rw [g2 _ (by omega)]; exact hv) hI.1 (by omega) (by decide) (by omega)) kyX7_ticksTo q_900 rfl (Or.inl hd0) hs0 (by decide) rfl rfl rfl (Nat.le_of_ble_eq_true rfl) ⟨Nat.le_of_ble_eq_true rfl, Nat.le_of_ble_eq_true rfl⟩ ⟨Nat.le_of_ble_eq_true rfl, Nat.le_of_ble_eq_true rfl⟩ dX7_forecast_20 (fun r20 v20 hp20 => ?_)
    obtain ⟨rfl, g3⟩ := hp20
    refine VV.eq (st2 := [.int (tkI x 300 M)]) rfl ?_
    refine r_istore_n C (pc := 23) (lv2 := [some (.ref m), some (.int (nI x)), some (.int (tkI x 300 M))]) rfl (Nat.le_of_ble_eq_true rfl) rfl rfl dX7_forecast_23 ?_
    refine r_aload_n C (pc := 24) rfl rfl dX7_forecast_24 ?_
    refine r_callV C (pc := 25) (st := []) (m_X7_release l G sh v20 N hp) kyX7_release q_908 rfl (Or.inl hd0) hs0 (by decide) rfl rfl rfl (Nat.le_of_ble_eq_true rfl) ⟨Nat.le_of_ble_eq_true rfl, Nat.le_of_ble_eq_true rfl⟩ ⟨Nat.le_of_ble_eq_true rfl, Nat.le_of_ble_eq_true rfl⟩ dX7_forecast_25 (fun r25 v25 hp25 => ?_)
    obtain ⟨rfl, g4, g5⟩ := hp25
    refine VV.eq (st2 := []) rfl ?_
    refine r_iload_n C (pc := 28) rfl rfl dX7_forecast_28 ?_
    exact r_iret C (pc := 29) rfl (rfl) dX7_forecast_29 ⟨rfl, rfl, (by have ho : qForecast (nI x) (M, h) = tkI x 300 M := (if_pos hc1).trans (by rw [nn_I (by omega)]); rw [ho]), zwf_same hv (fun j hj => by rw [g4 j hj, fT_8 g3, g1 j hj]), (by
    refine zmh.kept (v := v20) (zmh_T (hh.kept ?_ ?_ ?_ ?_ : zmh v12 m h) g3) ?_ ?_ ?_ ?_
    all_goals first | (rw [g2 _ (by omega)]) | (rw [g5 _ (by omega)])), fun b hb => by rw [g5 b (by omega), g3.fr b hb, g2 b (by omega)]⟩
  · refine r_iconst C (pc := 9) (x := (-1)) (by decide) dX7_forecast_9 ?_
    exact r_iret C (pc := 10) rfl (rfl) dX7_forecast_10 ⟨rfl, rfl, (by have ho : qForecast a (M, h) = -1 := if_neg (fun z => (of_decide_eq_false c_6) z); rw [ho]), hv, hh, zfr.rf⟩
set_option maxRecDepth 100000 in
set_option maxHeartbeats 4000000 in
theorem m_X7_bestPolicy (l : Launch) (G : zG) (sh : zH) (v : zV) (N : Nat) {m : Nat} {M : zMS} {h : zHs} {T : Nat} (hp : zMD G sh N m) (hv : zwf (v (m + 1)) M) (hh : zmh v m h) (hI : zI T (M, h)) (hT : T + 1000 < 2 ^ 30) : zm l G yX7_bestPolicy cX7_bestPolicy 5 (some .int) 7 [.ref m] sh v N (fun r v1 => r = some (.int (qBest (M, h))) ∧ zwf (v1 (m + 1)) M ∧ zmh v1 m h ∧ zfr v v1 m 9) := by
  refine zM.of (by decide) rfl (Nat.le_of_ble_eq_true rfl) ?_
  intro p e s mi args below meth c C
  obtain ⟨hB, hN, hs0, hs1, hs2, hs3, hs4, hs5, hs6, hs7, hs8⟩ := id hp
  have hd0 : G.2.2.1 ≤ m ∧ m < N := ⟨hB, by omega⟩
  have hd1 : G.2.2.1 ≤ m + 1 ∧ m + 1 < N := ⟨by omega, by omega⟩
  have hd2 : G.2.2.1 ≤ m + 2 ∧ m + 2 < N := ⟨by omega, by omega⟩
  have hd3 : G.2.2.1 ≤ m + 3 ∧ m + 3 < N := ⟨by omega, by omega⟩
  have hd4 : G.2.2.1 ≤ m + 4 ∧ m + 4 < N := ⟨by omega, by omega⟩
  have hd5 : G.2.2.1 ≤ m + 5 ∧ m + 5 < N := ⟨by omega, by omega⟩
  have hd6 : G.2.2.1 ≤ m + 6 ∧ m + 6 < N := ⟨by omega, by omega⟩
  have hd7 : G.2.2.1 ≤ m + 7 ∧ m + 7 < N := ⟨by omega, by omega⟩
  have hd8 : G.2.2.1 ≤ m + 8 ∧ m + 8 < N := ⟨by omega, by omega⟩
  have hE : zE M := hI.1.1
  have hk : mOK M := hE.1
  have hK2 := hk.1.1
  have hK12 := hk.1.2.1
  have hR3 := hk.1.2.2.1
  have loop : ∀ (n q : Nat) (v' : zV), 4 - q < n → q ≤ 4 → zwf (v' (m + 1)) M → (∀ j, j < 165 → v' (m + 8) j = v (m + 1) j) → zmh v' m h → zfr v v' m 9 → VV p l e ({ frames := 7, cells := 0, slots := 0, locals := 32 * 7 }) s mi args below meth c 0 0 (zQ below (fun r sh1 v1 N1 => sh1 = sh ∧ N1 = N ∧ (r = some (.int (qBest (M, h))) ∧ zwf (v1 (m + 1)) M ∧ zmh v1 m h ∧ zfr v v1 m 9)) G args s 0 0) G 5 sh v' N 13 [some (.ref m), some (.int ((bst M q).1)), some (.int (nI ((bst M q).2))), some (.int (nI q)), none] [] := by
    intro n
    induction n with
    | zero => intro q v' hm; omega
    | succ n ih =>
      intro q v' hm hq e1 e2 e3 e4
      refine r_iload_n C (pc := 13) rfl rfl dX7_bestPolicy_13 ?_
      refine r_iconst C (pc := 14) (x := (nI 4)) (by decide) dX7_bestPolicy_14 ?_
      refine n_icmp_ge C (pc := 15) (tgt := 63) (by omega) (by decide) dX7_bestPolicy_15 (by decide) (fun c_15 => ?_) (fun c_15 => ?_)
      · refine r_iload_n C (pc := 63) rfl rfl dX7_bestPolicy_63 ?_
        exact r_iret C (pc := 64) rfl (rfl) dX7_bestPolicy_64 ⟨rfl, rfl, (by rw [show q = 4 by omega]; rfl), e1, e3, e4⟩
      · refine r_aload_n C (pc := 18) rfl rfl dX7_bestPolicy_18 ?_
        refine r_get C (pc := 19) (ci := 7) (k := 0) (w := .ref (m + 1)) rfl (by decide) inX7 (by decide) q_654 (Or.inl hd0) hs0 (zl_ref _ _) dX7_bestPolicy_19 ?_
        refine r_iconst C (pc := 22) (x := (nI 4)) (by decide) dX7_bestPolicy_22 ?_
        refine r_iload_n C (pc := 23) rfl rfl dX7_bestPolicy_23 ?_
        refine r_iast C (pc := 24) hd1 hs1 (by decide) (by omega) dX7_bestPolicy_24 ?_
        refine VV.gn (fun w24 ew24 => ?_)
        have hq4 : q < 4 := by omega
        have hGq : zGd T ((upc M.1 4 q, M.2) : zMS) := zG_c hI.1 (sOK_c hk.1 (Or.inr (Or.inl ⟨rfl, by omega⟩))) (by rw [wsn_c (by decide)]; exact hk.2.1) (by decide) (by decide)
        have hrq : zwf (w24 (m + 1)) ((upc M.1 4 q, M.2) : zMS) := zwf_c e1 (by decide) (by decide) (by rw [ew24, z2_self]) (fun j hj => by rw [ew24, z2_ne (by omega)])
        refine r_aload_n C (pc := 25) rfl rfl dX7_bestPolicy_25 ?_
        refine r_iconst C (pc := 26) (x := (nI 1)) (by decide) dX7_bestPolicy_26 ?_
        refine r_sipush C (pc := 27) (x := (nI 300)) (by decide) dX7_bestPolicy_27 ?_
        refine r_callV C (pc := 30) (st := []) (m_X7_ticksTo l G sh w24 N (x := 1) (y := 300) hp hrq hGq (by decide) (by decide) (by omega)) kyX7_ticksTo q_900 rfl (Or.inl hd0) hs0 (by decide) rfl rfl rfl (Nat.le_of_ble_eq_true rfl) ⟨Nat.le_of_ble_eq_true rfl, Nat.le_of_ble_eq_true rfl⟩ ⟨Nat.le_of_ble_eq_true rfl, Nat.le_of_ble_eq_true rfl⟩ dX7_bestPolicy_30 (fun r30 v30 hp30 => ?_)
        obtain ⟨rfl, g3⟩ := hp30
        refine VV.eq (st2 := [.int (tkI 1 300 ((upc M.1 4 q, M.2) : zMS))]) rfl ?_
        refine r_istore C (pc := 33) (lv2 := [some (.ref m), some (.int ((bst M q).1)), some (.int (nI ((bst M q).2))), some (.int (nI q)), some (.int (tkI 1 300 ((upc M.1 4 q, M.2) : zMS)))]) (Nat.le_of_ble_eq_true rfl) rfl rfl dX7_bestPolicy_33 ?_
        refine r_aload_n C (pc := 35) rfl rfl dX7_bestPolicy_35 ?_
        refine r_callV C (pc := 36) (st := []) (m_X7_release l G sh v30 N hp) kyX7_release q_908 rfl (Or.inl hd0) hs0 (by decide) rfl rfl rfl (Nat.le_of_ble_eq_true rfl) ⟨Nat.le_of_ble_eq_true rfl, Nat.le_of_ble_eq_true rfl⟩ ⟨Nat.le_of_ble_eq_true rfl, Nat.le_of_ble_eq_true rfl⟩ dX7_bestPolicy_36 (fun r36 v36 hp36 => ?_)
        obtain ⟨rfl, g4, g5⟩ := hp36
        refine VV.eq (st2 := []) rfl ?_
        refine r_iload C (pc := 39) rfl dX7_bestPolicy_39 ?_
        refine r_bipush C (pc := 41) (x := (-9)) (by decide) dX7_bestPolicy_41 ?_
        refine r_icmp_eq C (pc := 43) (tgt := 57) dX7_bestPolicy_43 (by decide) (fun c_43 => ?_) (fun c_43 => ?_)
        · refine r_iinc C (pc := 57) (lv2 := [some (.ref m), some (.int ((bst M q).1)), some (.int (nI ((bst M q).2))), some (.int (nI (q + 1))), some (.int (tkI 1 300 ((upc M.1 4 q, M.2) : zMS)))]) (y := (nI (q + 1))) rfl (nI_inc _ _) (Nat.le_of_ble_eq_true rfl) rfl rfl dX7_bestPolicy_57 ?_
          refine r_goto C (pc := 60) (tgt := 13) dX7_bestPolicy_60 (by decide) ?_
          have hs : bst M (q + 1) = bst M q := if_neg (fun z => by rw [(tkI_9 (by decide)).mp c_43] at z; exact absurd z.1 (by decide))
          refine VV.fg 4 (lv2 := [some (.ref m), some (.int ((bst M q).1)), some (.int (nI ((bst M q).2))), some (.int (nI (q + 1))), none]) rfl ?_
          have := ih (q + 1) v36 (by omega) (by omega) (zwf_same hv (fun j hj => by rw [g4 j hj, fT_8 g3, ew24, z2_addr (by omega), e2 j hj])) (fun j hj => by rw [g5 _ (by omega), fT_8 g3, ew24, z2_addr (by omega)]; exact e2 j hj) ?_ (fun b hb => by rw [g5 b (by omega), g3.fr b hb, ew24, z2_addr (by omega)]; exact e4 b hb)
          · rw [hs] at this
            exact this
          · refine zmh.kept (v := v30) (zmh_T (e3.kept ?_ ?_ ?_ ?_ : zmh w24 m h) g3) ?_ ?_ ?_ ?_
            all_goals first | (rw [ew24, z2_addr (by omega)]) | (rw [g5 _ (by omega)])
        · have hdn : dn 1 (tks 1 300 0 ((upc M.1 4 q, M.2) : zMS)).2 = true := by
            cases hd : dn 1 (tks 1 300 0 ((upc M.1 4 q, M.2) : zMS)).2 with
            | true => rfl
            | false => exact absurd ((tkI_9 (by decide)).mpr hd) c_43
          have htk : tkI 1 300 ((upc M.1 4 q, M.2) : zMS) = nI (tks 1 300 0 ((upc M.1 4 q, M.2) : zMS)).1 := by rw [tkI, hdn]; rfl
          rw [htk]
          have hzl := tks_le (how := 1) 300 0 ((upc M.1 4 q, M.2) : zMS)
          have hbl := bst_lt M q
          refine r_iload C (pc := 46) rfl dX7_bestPolicy_46 ?_
          refine r_iload_n C (pc := 48) rfl rfl dX7_bestPolicy_48 ?_
          refine n_icmp_ge C (pc := 49) (tgt := 57) (by omega) (by omega) dX7_bestPolicy_49 (by decide) (fun c_49 => ?_) (fun c_49 => ?_)
          · refine r_iinc C (pc := 57) (lv2 := [some (.ref m), some (.int ((bst M q).1)), some (.int (nI ((bst M q).2))), some (.int (nI (q + 1))), some (.int (nI ((tks 1 300 0 ((upc M.1 4 q, M.2) : zMS)).1)))]) (y := (nI (q + 1))) rfl (nI_inc _ _) (Nat.le_of_ble_eq_true rfl) rfl rfl dX7_bestPolicy_57 ?_
            refine r_goto C (pc := 60) (tgt := 13) dX7_bestPolicy_60 (by decide) ?_
            have hs : bst M (q + 1) = bst M q := if_neg (fun z => by have := z.2; omega)
            refine VV.fg 4 (lv2 := [some (.ref m), some (.int ((bst M q).1)), some (.int (nI ((bst M q).2))), some (.int (nI (q + 1))), none]) rfl ?_
            have := ih (q + 1) v36 (by omega) (by omega) (zwf_same hv (fun j hj => by rw [g4 j hj, fT_8 g3, ew24, z2_addr (by omega), e2 j hj])) (fun j hj => by rw [g5 _ (by omega), fT_8 g3, ew24, z2_addr (by omega)]; exact e2 j hj) ?_ (fun b hb => by rw [g5 b (by omega), g3.fr b hb, ew24, z2_addr (by omega)]; exact e4 b hb)
            · rw [hs] at this
              exact this
            · refine zmh.kept (v := v30) (zmh_T (e3.kept ?_ ?_ ?_ ?_ : zmh w24 m h) g3) ?_ ?_ ?_ ?_
              all_goals first | (rw [ew24, z2_addr (by omega)]) | (rw [g5 _ (by omega)])
          · refine r_iload_n C (pc := 52) rfl rfl dX7_bestPolicy_52 ?_
            refine r_istore_n C (pc := 53) (lv2 := [some (.ref m), some (.int (nI q)), some (.int (nI ((bst M q).2))), some (.int (nI q)), some (.int (nI ((tks 1 300 0 ((upc M.1 4 q, M.2) : zMS)).1)))]) rfl (Nat.le_of_ble_eq_true rfl) rfl rfl dX7_bestPolicy_53 ?_
            refine r_iload C (pc := 54) rfl dX7_bestPolicy_54 ?_
            refine r_istore_n C (pc := 56) (lv2 := [some (.ref m), some (.int (nI q)), some (.int (nI ((tks 1 300 0 ((upc M.1 4 q, M.2) : zMS)).1))), some (.int (nI q)), some (.int (nI ((tks 1 300 0 ((upc M.1 4 q, M.2) : zMS)).1)))]) rfl (Nat.le_of_ble_eq_true rfl) rfl rfl dX7_bestPolicy_56 ?_
            refine r_iinc C (pc := 57) (lv2 := [some (.ref m), some (.int (nI q)), some (.int (nI ((tks 1 300 0 ((upc M.1 4 q, M.2) : zMS)).1))), some (.int (nI (q + 1))), some (.int (nI ((tks 1 300 0 ((upc M.1 4 q, M.2) : zMS)).1)))]) (y := (nI (q + 1))) rfl (nI_inc _ _) (Nat.le_of_ble_eq_true rfl) rfl rfl dX7_bestPolicy_57 ?_
            refine r_goto C (pc := 60) (tgt := 13) dX7_bestPolicy_60 (by decide) ?_
            have hs : bst M (q + 1) = (nI q, (tks 1 300 0 ((upc M.1 4 q, M.2) : zMS)).1) := if_pos ⟨hdn, c_49⟩
            refine VV.fg 4 (lv2 := [some (.ref m), some (.int (nI q)), some (.int (nI ((tks 1 300 0 ((upc M.1 4 q, M.2) : zMS)).1))), some (.int (nI (q + 1))), none]) rfl ?_
            have := ih (q + 1) v36 (by omega) (by omega) (zwf_same hv (fun j hj => by rw [g4 j hj, fT_8 g3, ew24, z2_addr (by omega), e2 j hj])) (fun j hj => by rw [g5 _ (by omega), fT_8 g3, ew24, z2_addr (by omega)]; exact e2 j hj) ?_ (fun b hb => by rw [g5 b (by omega), g3.fr b hb, ew24, z2_addr (by omega)]; exact e4 b hb)
            · rw [hs] at this
              exact this
            · refine zmh.kept (v := v30) (zmh_T (e3.kept ?_ ?_ ?_ ?_ : zmh w24 m h) g3) ?_ ?_ ?_ ?_
              all_goals first | (rw [ew24, z2_addr (by omega)]) | (rw [g5 _ (by omega)])
  refine r_aload_n C (pc := 0) rfl rfl dX7_bestPolicy_0 ?_
  refine r_callV C (pc := 1) (st := []) (m_X7_hold l G sh v N hp) kyX7_hold q_896 rfl (Or.inl hd0) hs0 (by decide) rfl rfl rfl (Nat.le_of_ble_eq_true rfl) ⟨Nat.le_of_ble_eq_true rfl, Nat.le_of_ble_eq_true rfl⟩ ⟨Nat.le_of_ble_eq_true rfl, Nat.le_of_ble_eq_true rfl⟩ dX7_bestPolicy_1 (fun r1 v1 hp1 => ?_)
  obtain ⟨rfl, g1, g2⟩ := hp1
  refine VV.eq (st2 := []) rfl ?_
  refine r_bipush C (pc := 4) (x := (-9)) (by decide) dX7_bestPolicy_4 ?_
  refine r_istore_n C (pc := 6) (lv2 := [some (.ref m), some (.int (-9)), none, none, none]) rfl (Nat.le_of_ble_eq_true rfl) rfl rfl dX7_bestPolicy_6 ?_
  refine r_sipush C (pc := 7) (x := (nI 301)) (by decide) dX7_bestPolicy_7 ?_
  refine r_istore_n C (pc := 10) (lv2 := [some (.ref m), some (.int (-9)), some (.int (nI 301)), none, none]) rfl (Nat.le_of_ble_eq_true rfl) rfl rfl dX7_bestPolicy_10 ?_
  refine r_iconst C (pc := 11) (x := (nI 0)) (by decide) dX7_bestPolicy_11 ?_
  refine r_istore_n C (pc := 12) (lv2 := [some (.ref m), some (.int (-9)), some (.int (nI 301)), some (.int (nI 0)), none]) rfl (Nat.le_of_ble_eq_true rfl) rfl rfl dX7_bestPolicy_12 ?_
  exact loop 5 0 v1 (by omega) (by omega) (zwf_same hv (fun j hj => by rw [g2 _ (by omega)])) (fun j hj => g1 j hj) (hh.kept (by rw [g2 _ (by omega)]) (by rw [g2 _ (by omega)]) (g2 _ (by omega)) (g2 _ (by omega))) (fun b hb => g2 b (by omega))
set_option maxRecDepth 100000 in
set_option maxHeartbeats 4000000 in
theorem m_X7_bearable (l : Launch) (G : zG) (sh : zH) (v : zV) (N : Nat) {m : Nat} {M : zMS} {h : zHs} {T : Nat} {a b : Int32} (hp : zMD G sh N m) (hv : zwf (v (m + 1)) M) (hh : zmh v m h) (hI : zI T (M, h)) (hT : T + 1000 < 2 ^ 30) : zm l G yX7_bearable cX7_bearable 5 (some .int) 7 [.ref m, .int a, .int b] sh v N (fun r v1 => r = some (.int (qBear a b (M, h))) ∧ zwf (v1 (m + 1)) M ∧ zmh v1 m h ∧ zfr v v1 m 9) := by
  refine zM.of (by decide) rfl (Nat.le_of_ble_eq_true rfl) ?_
  intro p e s mi args below meth c C
  obtain ⟨hB, hN, hs0, hs1, hs2, hs3, hs4, hs5, hs6, hs7, hs8⟩ := id hp
  have hd0 : G.2.2.1 ≤ m ∧ m < N := ⟨hB, by omega⟩
  have hd1 : G.2.2.1 ≤ m + 1 ∧ m + 1 < N := ⟨by omega, by omega⟩
  have hd2 : G.2.2.1 ≤ m + 2 ∧ m + 2 < N := ⟨by omega, by omega⟩
  have hd3 : G.2.2.1 ≤ m + 3 ∧ m + 3 < N := ⟨by omega, by omega⟩
  have hd4 : G.2.2.1 ≤ m + 4 ∧ m + 4 < N := ⟨by omega, by omega⟩
  have hd5 : G.2.2.1 ≤ m + 5 ∧ m + 5 < N := ⟨by omega, by omega⟩
  have hd6 : G.2.2.1 ≤ m + 6 ∧ m + 6 < N := ⟨by omega, by omega⟩
  have hd7 : G.2.2.1 ≤ m + 7 ∧ m + 7 < N := ⟨by omega, by omega⟩
  have hd8 : G.2.2.1 ≤ m + 8 ∧ m + 8 < N := ⟨by omega, by omega⟩
  have hE : zE M := hI.1.1
  have hk : mOK M := hE.1
  have hK2 := hk.1.1
  have hK12 := hk.1.2.1
  have hR3 := hk.1.2.2.1
  refine r_iload_n C (pc := 0) rfl rfl dX7_bearable_0 ?_
  refine r_iconst C (pc := 1) (x := (nI 0)) (by decide) dX7_bearable_1 ?_
  refine r_aload_n C (pc := 2) rfl rfl dX7_bearable_2 ?_
  refine r_get C (pc := 3) (ci := 7) (k := 0) (w := .ref (m + 1)) rfl (by decide) inX7 (by decide) q_654 (Or.inl hd0) hs0 (zl_ref _ _) dX7_bearable_3 ?_
  refine r_iconst C (pc := 6) (x := (nI 1)) (by decide) dX7_bearable_6 ?_
  refine r_iald C (pc := 7) (x := (nI (M.1 1))) (Or.inl hd1) hs1 (by omega) (by omega) (hv.1 1 (by decide)) dX7_bearable_7 ?_
  refine r_callS C (pc := 8) (st := []) (m_X7_isIn l G sh v N (x := a) (lo := (nI 0)) (hi := (nI (M.1 1)))) kyX7_isIn q_701 rfl rfl (Nat.le_of_ble_eq_true rfl) ⟨Nat.le_of_ble_eq_true rfl, Nat.le_of_ble_eq_true rfl⟩ ⟨Nat.le_of_ble_eq_true rfl, Nat.le_of_ble_eq_true rfl⟩ dX7_bearable_8 (fun r8 v8 hp8 => ?_)
  obtain ⟨rfl, ehp8⟩ := hp8
  refine VV.vq ehp8 ?_
  refine VV.eq (st2 := [.int (zb (decide ((nI 0) ≤ a ∧ a ≤ (nI (M.1 1)))))]) rfl ?_
  refine n_ifb_eq C (pc := 11) (tgt := 24) dX7_bearable_11 (by decide) (fun c_11 => ?_) (fun c_11 => ?_)
  · refine r_iconst C (pc := 24) (x := (-1)) (by decide) dX7_bearable_24 ?_
    exact r_iret C (pc := 25) rfl (rfl) dX7_bearable_25 ⟨rfl, rfl, (by have ho : qBear a b (M, h) = -1 := if_neg (fun z => (of_decide_eq_false c_11) z.1); rw [ho]), hv, hh, zfr.rf⟩
  · refine r_iload_n C (pc := 14) rfl rfl dX7_bearable_14 ?_
    refine r_iconst C (pc := 15) (x := (nI 0)) (by decide) dX7_bearable_15 ?_
    refine r_bipush C (pc := 16) (x := (nI 100)) (by decide) dX7_bearable_16 ?_
    refine r_callS C (pc := 18) (st := []) (m_X7_isIn l G sh v N (x := b) (lo := (nI 0)) (hi := (nI 100))) kyX7_isIn q_701 rfl rfl (Nat.le_of_ble_eq_true rfl) ⟨Nat.le_of_ble_eq_true rfl, Nat.le_of_ble_eq_true rfl⟩ ⟨Nat.le_of_ble_eq_true rfl, Nat.le_of_ble_eq_true rfl⟩ dX7_bearable_18 (fun r18 v18 hp18 => ?_)
    obtain ⟨rfl, ehp18⟩ := hp18
    refine VV.vq ehp18 ?_
    refine VV.eq (st2 := [.int (zb (decide ((nI 0) ≤ b ∧ b ≤ (nI 100))))]) rfl ?_
    refine n_ifb_ne C (pc := 21) (tgt := 26) dX7_bearable_21 (by decide) (fun c_21 => ?_) (fun c_21 => ?_)
    · have hc1 := (of_decide_eq_true c_11)
      have hc2 := (of_decide_eq_true c_21)
      obtain ⟨B, hB1, hB2, rfl⟩ := inR (of_decide_eq_true c_11) (by omega) (by omega)
      obtain ⟨x, hx1, hx2, rfl⟩ := inR (of_decide_eq_true c_21) (by omega) (by omega)
      have hq : qBear (nI B) (nI x) (M, h) = brr M B x 100 := (if_pos ⟨hc1, hc2⟩).trans (by rw [nn_I (by omega), nn_I (by omega)])
      refine r_aload_n C (pc := 26) rfl rfl dX7_bearable_26 ?_
      refine r_callV C (pc := 27) (st := []) (m_X7_hold l G sh v N hp) kyX7_hold q_896 rfl (Or.inl hd0) hs0 (by decide) rfl rfl rfl (Nat.le_of_ble_eq_true rfl) ⟨Nat.le_of_ble_eq_true rfl, Nat.le_of_ble_eq_true rfl⟩ ⟨Nat.le_of_ble_eq_true rfl, Nat.le_of_ble_eq_true rfl⟩ dX7_bearable_27 (fun r27 v27 hp27 => ?_)
      obtain ⟨rfl, g1, g2⟩ := hp27
      refine VV.eq (st2 := []) rfl ?_
      refine r_bipush C (pc := 30) (x := (nI 99)) (by decide) dX7_bearable_30 ?_
      refine r_istore_n C (pc := 32) (lv2 := [some (.ref m), some (.int (nI B)), some (.int (nI x)), some (.int (nI 99)), none]) rfl (Nat.le_of_ble_eq_true rfl) rfl rfl dX7_bearable_32 ?_
      rw [show nI 99 = tI 100 by decide]
      have loop : ∀ (n : Nat) (v' : zV), n ≤ 100 → brr M B x n = brr M B x 100 → zwf (v' (m + 1)) M → (∀ j, j < 165 → v' (m + 8) j = v (m + 1) j) → zmh v' m h → zfr v v' m 9 → VV p l e ({ frames := 7, cells := 0, slots := 0, locals := 32 * 7 }) s mi args below meth c 0 0 (zQ below (fun r sh1 v1 N1 => sh1 = sh ∧ N1 = N ∧ (r = some (.int (qBear (nI B) (nI x) (M, h))) ∧ zwf (v1 (m + 1)) M ∧ zmh v1 m h ∧ zfr v v1 m 9)) G args s 0 0) G 5 sh v' N 33 [some (.ref m), some (.int (nI B)), some (.int (nI x)), some (.int (tI n)), none] [] := by
        intro n
        induction n with
        | zero =>
          intro v' hn hbr e1 e2 e3 e4
          refine r_iload_n C (pc := 33) rfl rfl dX7_bearable_33 ?_
          refine r_if_lt C (pc := 34) (tgt := 74) dX7_bearable_34 (by decide) (fun c_34 => ?_) (fun c_34 => by exfalso; exact c_34 tI_0)
          refine r_bipush C (pc := 74) (x := (-9)) (by decide) dX7_bearable_74 ?_
          exact r_iret C (pc := 76) rfl (rfl) dX7_bearable_76 ⟨rfl, rfl, (by rw [hq, ← hbr]; rfl), e1, e3, e4⟩
        | succ n ih =>
          intro v' hn hbr e1 e2 e3 e4
          rw [tI_s n]
          refine r_iload_n C (pc := 33) rfl rfl dX7_bearable_33 ?_
          refine n_if_lt C (pc := 34) (by omega) dX7_bearable_34 ?_
          refine r_aload_n C (pc := 37) rfl rfl dX7_bearable_37 ?_
          refine r_get C (pc := 38) (ci := 7) (k := 0) (w := .ref (m + 1)) rfl (by decide) inX7 (by decide) q_654 (Or.inl hd0) hs0 (zl_ref _ _) dX7_bearable_38 ?_
          refine r_bipush C (pc := 41) (x := (nI 7)) (by decide) dX7_bearable_41 ?_
          refine r_iload_n C (pc := 43) rfl rfl dX7_bearable_43 ?_
          refine r_iadd C (pc := 44) (z := (nI (7 + B))) (nI_add _ _) dX7_bearable_44 ?_
          refine r_iload_n C (pc := 45) rfl rfl dX7_bearable_45 ?_
          refine r_iast C (pc := 46) hd1 hs1 (by omega) (by omega) dX7_bearable_46 ?_
          refine VV.gn (fun w46 ew46 => ?_)
          have hGq : zGd T ((upc M.1 (7 + B) n, M.2) : zMS) := zG_c hI.1 (sOK_c hk.1 (Or.inr (Or.inr (Or.inr (Or.inr (Or.inl ⟨by omega, by omega, by omega⟩)))))) (by rw [wsn_c (by omega)]; exact hk.2.1) (by omega) (by omega)
          have hrq : zwf (w46 (m + 1)) ((upc M.1 (7 + B) n, M.2) : zMS) := zwf_c e1 (by omega) (by omega) (by rw [ew46, z2_self]) (fun j hj => by rw [ew46, z2_ne (by omega)])
          refine r_aload_n C (pc := 47) rfl rfl dX7_bearable_47 ?_
          refine r_iconst C (pc := 48) (x := (nI 1)) (by decide) dX7_bearable_48 ?_
          refine r_iload_n C (pc := 49) rfl rfl dX7_bearable_49 ?_
          refine r_callV C (pc := 50) (st := []) (m_X7_ticksTo l G sh w46 N (x := 1) (y := x) hp hrq hGq (by decide) (by omega) (by omega)) kyX7_ticksTo q_900 rfl (Or.inl hd0) hs0 (by decide) rfl rfl rfl (Nat.le_of_ble_eq_true rfl) ⟨Nat.le_of_ble_eq_true rfl, Nat.le_of_ble_eq_true rfl⟩ ⟨Nat.le_of_ble_eq_true rfl, Nat.le_of_ble_eq_true rfl⟩ dX7_bearable_50 (fun r50 v50 hp50 => ?_)
          obtain ⟨rfl, g3⟩ := hp50
          refine VV.eq (st2 := [.int (tkI 1 x ((upc M.1 (7 + B) n, M.2) : zMS))]) rfl ?_
          refine r_istore C (pc := 53) (lv2 := [some (.ref m), some (.int (nI B)), some (.int (nI x)), some (.int (nI n)), some (.int (tkI 1 x ((upc M.1 (7 + B) n, M.2) : zMS)))]) (Nat.le_of_ble_eq_true rfl) rfl rfl dX7_bearable_53 ?_
          refine r_aload_n C (pc := 55) rfl rfl dX7_bearable_55 ?_
          refine r_callV C (pc := 56) (st := []) (m_X7_release l G sh v50 N hp) kyX7_release q_908 rfl (Or.inl hd0) hs0 (by decide) rfl rfl rfl (Nat.le_of_ble_eq_true rfl) ⟨Nat.le_of_ble_eq_true rfl, Nat.le_of_ble_eq_true rfl⟩ ⟨Nat.le_of_ble_eq_true rfl, Nat.le_of_ble_eq_true rfl⟩ dX7_bearable_56 (fun r56 v56 hp56 => ?_)
          obtain ⟨rfl, g4, g5⟩ := hp56
          refine VV.eq (st2 := []) rfl ?_
          have r1 : zwf (v56 (m + 1)) M := zwf_same hv (fun j hj => by rw [g4 j hj, fT_8 g3, ew46, z2_addr (by omega), e2 j hj])
          have r2 : ∀ j, j < 165 → v56 (m + 8) j = v (m + 1) j := fun j hj => by rw [g5 _ (by omega), fT_8 g3, ew46, z2_addr (by omega)]; exact e2 j hj
          have r4 : zfr v v56 m 9 := fun b hb => by rw [g5 b (by omega), g3.fr b hb, ew46, z2_addr (by omega)]; exact e4 b hb
          have r3 : zmh v56 m h := by
            refine zmh.kept (v := v50) (zmh_T (e3.kept ?_ ?_ ?_ ?_ : zmh w46 m h) g3) ?_ ?_ ?_ ?_
            all_goals first | (rw [ew46, z2_addr (by omega)]) | (rw [g5 _ (by omega)])
          refine r_iload C (pc := 59) rfl dX7_bearable_59 ?_
          refine r_bipush C (pc := 61) (x := (-9)) (by decide) dX7_bearable_61 ?_
          refine r_icmp_eq C (pc := 63) (tgt := 68) dX7_bearable_63 (by decide) (fun c_63 => ?_) (fun c_63 => ?_)
          · refine r_iinc C (pc := 68) (lv2 := [some (.ref m), some (.int (nI B)), some (.int (nI x)), some (.int (tI n)), some (.int (tkI 1 x ((upc M.1 (7 + B) n, M.2) : zMS)))]) (y := (tI n)) rfl (rfl) (Nat.le_of_ble_eq_true rfl) rfl rfl dX7_bearable_68 ?_
            refine r_goto C (pc := 71) (tgt := 33) dX7_bearable_71 (by decide) ?_
            have hd : dn 1 (tks 1 x 0 ((upc M.1 (7 + B) n, M.2) : zMS)).2 = false := (tkI_9 (by omega)).mp c_63
            have hs : brr M B x (n + 1) = brr M B x n := if_neg (fun z => by rw [hd] at z; cases z)
            refine VV.fg 4 (lv2 := [some (.ref m), some (.int (nI B)), some (.int (nI x)), some (.int (tI n)), none]) rfl ?_
            exact ih v56 (by omega) (hs.symm.trans hbr) r1 r2 r3 r4
          · refine r_iload_n C (pc := 66) rfl rfl dX7_bearable_66 ?_
            exact r_iret C (pc := 67) rfl (rfl) dX7_bearable_67 ⟨rfl, rfl, (by rw [hq, ← hbr, show brr M B x (n + 1) = nI n from if_pos (by cases hd : dn 1 (tks 1 x 0 ((upc M.1 (7 + B) n, M.2) : zMS)).2 with | true => rfl | false => exact absurd ((tkI_9 (by omega)).mpr hd) c_63)]), r1, r3, r4⟩
      exact loop 100 v27 (Nat.le_refl _) rfl (zwf_same hv (fun j hj => by rw [g2 _ (by omega)])) (fun j hj => g1 j hj) (hh.kept (by rw [g2 _ (by omega)]) (by rw [g2 _ (by omega)]) (g2 _ (by omega)) (g2 _ (by omega))) (fun b hb => g2 b (by omega))
    · refine r_iconst C (pc := 24) (x := (-1)) (by decide) dX7_bearable_24 ?_
      exact r_iret C (pc := 25) rfl (rfl) dX7_bearable_25 ⟨rfl, rfl, (by have ho : qBear a b (M, h) = -1 := if_neg (fun z => (of_decide_eq_false c_21) z.2); rw [ho]), hv, hh, zfr.rf⟩
set_option maxRecDepth 100000 in
set_option maxHeartbeats 4000000 in
theorem m_X7_isImage (l : Launch) (G : zG) (sh : zH) (v : zV) (N : Nat) {a : Int32}  : zm l G yX7_isImage cX7_isImage 1 (some .boolean) 1 [.int a] sh v N (fun r v1 => r = some (.int (zb (decide ((nI 0) ≤ a ∧ a ≤ (nI 1))))) ∧ v1 = v) := by
  refine zM.of (by decide) rfl (Nat.le_of_ble_eq_true rfl) ?_
  intro p e s mi args below meth c C
  refine r_iload_n C (pc := 0) rfl rfl dX7_isImage_0 ?_
  refine r_iconst C (pc := 1) (x := (nI 0)) (by decide) dX7_isImage_1 ?_
  refine r_iconst C (pc := 2) (x := (nI 1)) (by decide) dX7_isImage_2 ?_
  refine r_callS C (pc := 3) (st := []) (m_X7_isIn l G sh v N (x := a) (lo := (nI 0)) (hi := (nI 1))) kyX7_isIn q_701 rfl rfl (Nat.le_of_ble_eq_true rfl) ⟨Nat.le_of_ble_eq_true rfl, Nat.le_of_ble_eq_true rfl⟩ ⟨Nat.le_of_ble_eq_true rfl, Nat.le_of_ble_eq_true rfl⟩ dX7_isImage_3 (fun r3 v3 hp3 => ?_)
  obtain ⟨rfl, ehp3⟩ := hp3
  refine VV.vq ehp3 ?_
  refine VV.eq (st2 := [.int (zb (decide ((nI 0) ≤ a ∧ a ≤ (nI 1))))]) rfl ?_
  exact r_iret C (pc := 6) rfl (zb_nar _) dX7_isImage_6 ⟨rfl, rfl, rfl, rfl⟩
set_option maxRecDepth 100000 in
set_option maxHeartbeats 4000000 in
theorem m_X7_keep (l : Launch) (G : zG) (sh : zH) (v : zV) (N : Nat) {m : Nat} {M : zMS} {h : zHs} {T : Nat} {a : Int32} (hp : zMD G sh N m) (hv : zwf (v (m + 1)) M) (hh : zmh v m h) (hI : zI T (M, h)) (hT : T + 1000 < 2 ^ 30) : zm l G yX7_keep cX7_keep 3 (some .int) 2 [.ref m, .int a] sh v N (fun r v1 => r = some (.int (oKeep a (M, h)).1) ∧ zwf (v1 (m + 1)) (oKeep a (M, h)).2.1 ∧ zmh v1 m (oKeep a (M, h)).2.2 ∧ zfr v v1 m 9) := by
  refine zM.of (by decide) rfl (Nat.le_of_ble_eq_true rfl) ?_
  intro p e s mi args below meth c C
  obtain ⟨hB, hN, hs0, hs1, hs2, hs3, hs4, hs5, hs6, hs7, hs8⟩ := id hp
  have hd0 : G.2.2.1 ≤ m ∧ m < N := ⟨hB, by omega⟩
  have hd1 : G.2.2.1 ≤ m + 1 ∧ m + 1 < N := ⟨by omega, by omega⟩
  have hd2 : G.2.2.1 ≤ m + 2 ∧ m + 2 < N := ⟨by omega, by omega⟩
  have hd3 : G.2.2.1 ≤ m + 3 ∧ m + 3 < N := ⟨by omega, by omega⟩
  have hd4 : G.2.2.1 ≤ m + 4 ∧ m + 4 < N := ⟨by omega, by omega⟩
  have hd5 : G.2.2.1 ≤ m + 5 ∧ m + 5 < N := ⟨by omega, by omega⟩
  have hd6 : G.2.2.1 ≤ m + 6 ∧ m + 6 < N := ⟨by omega, by omega⟩
  have hd7 : G.2.2.1 ≤ m + 7 ∧ m + 7 < N := ⟨by omega, by omega⟩
  have hd8 : G.2.2.1 ≤ m + 8 ∧ m + 8 < N := ⟨by omega, by omega⟩
  have hE : zE M := hI.1.1
  have hk : mOK M := hE.1
  have hK2 := hk.1.1
  have hK12 := hk.1.2.1
  have hR3 := hk.1.2.2.1
  refine r_iload_n C (pc := 0) rfl rfl dX7_keep_0 ?_
  refine r_callS C (pc := 1) (st := []) (m_X7_isImage l G sh v N (a := a)) kyX7_isImage q_924 rfl rfl (Nat.le_of_ble_eq_true rfl) ⟨Nat.le_of_ble_eq_true rfl, Nat.le_of_ble_eq_true rfl⟩ ⟨Nat.le_of_ble_eq_true rfl, Nat.le_of_ble_eq_true rfl⟩ dX7_keep_1 (fun r1 v1 hp1 => ?_)
  obtain ⟨rfl, ehp1⟩ := hp1
  refine VV.vq ehp1 ?_
  refine VV.eq (st2 := [.int (zb (decide ((nI 0) ≤ a ∧ a ≤ (nI 1))))]) rfl ?_
  refine n_ifb_ne C (pc := 4) (tgt := 9) dX7_keep_4 (by decide) (fun c_4 => ?_) (fun c_4 => ?_)
  · have hc1 := (of_decide_eq_true c_4)
    obtain ⟨x, hx1, hx2, rfl⟩ := inR (of_decide_eq_true c_4) (by omega) (by omega)
    have ho : oKeep (nI x) (M, h) = (nI (M.1 2), (M, h.1, h.2.1, (fun i => if i = x then M else h.2.2.1 i), (fun i => if i = x then true else h.2.2.2 i))) := (if_pos hc1).trans (by rw [nn_I (by omega)])
    refine r_iconst C (pc := 9) (x := (nI 0)) (by decide) dX7_keep_9 ?_
    refine r_istore_n C (pc := 10) (lv2 := [some (.ref m), some (.int (nI x)), some (.int (nI 0))]) rfl (Nat.le_of_ble_eq_true rfl) rfl rfl dX7_keep_10 ?_
    have loop : ∀ (n k : Nat) (v' : zV), 165 - k < n → k ≤ 165 → (∀ j, j < k → v' (m + 3) (165 * x + j) = v (m + 1) j) → (∀ b, b ≠ m + 3 → v' b = v b) → (∀ j, (j < 165 * x ∨ 165 * x + 165 ≤ j) → v' (m + 3) j = v (m + 3) j) → VV p l e ({ frames := 2, cells := 0, slots := 0, locals := 32 * 2 }) s mi args below meth c 0 0 (zQ below (fun r sh1 v1 N1 => sh1 = sh ∧ N1 = N ∧ (r = some (.int (oKeep (nI x) (M, h)).1) ∧ zwf (v1 (m + 1)) (oKeep (nI x) (M, h)).2.1 ∧ zmh v1 m (oKeep (nI x) (M, h)).2.2 ∧ zfr v v1 m 9)) G args s 0 0) G 3 sh v' N 11 [some (.ref m), some (.int (nI x)), some (.int (nI k))] [] := by
      intro n
      induction n with
      | zero => intro k v' hm; omega
      | succ n ih =>
        intro k v' hm hk e1 e2 e3
        refine r_iload_n C (pc := 11) rfl rfl dX7_keep_11 ?_
        refine r_sipush C (pc := 12) (x := (nI 165)) (by decide) dX7_keep_12 ?_
        refine n_icmp_ge C (pc := 15) (tgt := 42) (by omega) (by decide) dX7_keep_15 (by decide) (fun c_15 => ?_) (fun c_15 => ?_)
        · refine r_aload_n C (pc := 42) rfl rfl dX7_keep_42 ?_
          refine r_dup C (pc := 43) rfl dX7_keep_43 ?_
          refine r_get C (pc := 44) (ci := 7) (k := 4) (w := .int (nI (flN h.2.2.2))) rfl (by decide) inX7 (by decide) q_658 (Or.inl hd0) hs0 (zl_i (by rw [e2 _ (by omega)]; exact hh.2.2.2.1)) dX7_keep_44 ?_
          refine r_iconst C (pc := 47) (x := (nI 1)) (by decide) dX7_keep_47 ?_
          refine r_iload_n C (pc := 48) rfl rfl dX7_keep_48 ?_
          refine r_ishl C (pc := 49) (z := (nI (2 ^ x))) (nI_shl1 (by omega)) dX7_keep_49 ?_
          refine r_ior C (pc := 50) (z := (nI ((flN h.2.2.2) ||| (2 ^ x)))) (nx_or _ _) dX7_keep_50 ?_
          refine r_put C (pc := 51) (ci := 7) (k := 4) rfl (by decide) inX7 tyX7_ok nmX7 (by decide) rfl pfI rfl q_658 hd0 hs0 dX7_keep_51 ?_
          refine VV.gn (fun w51 ew51 => ?_)
          refine r_aload_n C (pc := 54) rfl rfl dX7_keep_54 ?_
          refine r_get C (pc := 55) (ci := 7) (k := 0) (w := .ref (m + 1)) rfl (by decide) inX7 (by decide) q_654 (Or.inl hd0) hs0 (zl_ref _ _) dX7_keep_55 ?_
          refine r_iconst C (pc := 58) (x := (nI 2)) (by decide) dX7_keep_58 ?_
          refine r_iald C (pc := 59) (x := (nI (M.1 2))) (Or.inl hd1) hs1 (by omega) (by omega) (by rw [ew51, z2_addr (by omega), e2 _ (by omega)]; exact hv.1 2 (by decide)) dX7_keep_59 ?_
          exact r_iret C (pc := 60) rfl (rfl) dX7_keep_60 ⟨rfl, rfl, (by rw [ho]), (by
          rw [ho, ew51, z2_addr (by omega), e2 _ (by omega)]; exact hv), (by
          rw [ho]
          refine ⟨by rw [ew51, z2_ne (by omega), e2 _ (by omega)]; exact hh.1, hh.2.1, by rw [ew51, z2_addr (by omega), e2 _ (by omega)]; exact hh.2.2.1, by rw [ew51, z2_self]; exact congrArg nI (flN_or _ x (by omega)), fun i hi hf => ?_⟩
          rw [ew51, z2_addr (by omega)]
          show zwf _ (if i = x then M else h.2.2.1 i)
          by_cases hix : i = x
          · subst hix
            rw [if_pos rfl]
            exact zwf_same hv (fun j hj => e1 j (by omega))
          · rw [if_neg hix]
            refine zwf_same (hh.2.2.2.2 i hi (by have hf2 : (if i = x then true else h.2.2.2 i) = true := hf; rw [if_neg hix] at hf2; exact hf2)) (fun j hj => e3 _ (by omega))), fun b hb => by rw [ew51, z2_addr (by omega), e2 b (by omega)]⟩
        · refine r_aload_n C (pc := 18) rfl rfl dX7_keep_18 ?_
          refine r_get C (pc := 19) (ci := 7) (k := 3) (w := .ref (m + 3)) rfl (by decide) inX7 (by decide) q_657 (Or.inl hd0) hs0 (zl_ref _ _) dX7_keep_19 ?_
          refine r_sipush C (pc := 22) (x := (nI 165)) (by decide) dX7_keep_22 ?_
          refine r_iload_n C (pc := 25) rfl rfl dX7_keep_25 ?_
          refine r_imul C (pc := 26) (z := (nI (165 * x))) (pk_mul _ _) dX7_keep_26 ?_
          refine r_iload_n C (pc := 27) rfl rfl dX7_keep_27 ?_
          refine r_iadd C (pc := 28) (z := (nI ((165 * x) + k))) (nI_add _ _) dX7_keep_28 ?_
          refine r_aload_n C (pc := 29) rfl rfl dX7_keep_29 ?_
          refine r_get C (pc := 30) (ci := 7) (k := 0) (w := .ref (m + 1)) rfl (by decide) inX7 (by decide) q_654 (Or.inl hd0) hs0 (zl_ref _ _) dX7_keep_30 ?_
          refine r_iload_n C (pc := 33) rfl rfl dX7_keep_33 ?_
          refine r_iald C (pc := 34) (x := (v (m + 1) k)) (Or.inl hd1) hs1 (by omega) (by omega) (by rw [e2 _ (by omega)]) dX7_keep_34 ?_
          refine r_iast C (pc := 35) hd3 hs3 (by omega) (by omega) dX7_keep_35 ?_
          refine VV.gn (fun w35 ew35 => ?_)
          refine r_iinc C (pc := 36) (lv2 := [some (.ref m), some (.int (nI x)), some (.int (nI (k + 1)))]) (y := (nI (k + 1))) rfl (nI_inc _ _) (Nat.le_of_ble_eq_true rfl) rfl rfl dX7_keep_36 ?_
          refine r_goto C (pc := 39) (tgt := 11) dX7_keep_39 (by decide) ?_
          exact ih (k + 1) w35 (by omega) (by omega) (fun j hj => by
            rw [ew35]
            by_cases hjk : j = k
            · subst hjk; rw [z2_self]
            · rw [z2_ne (by omega)]; exact e1 j (by omega)) (fun b hb => by rw [ew35, z2_addr hb]; exact e2 b hb) (fun j hj => by rw [ew35, z2_ne (by omega)]; exact e3 j hj)
    exact loop 166 0 v (by omega) (by omega) (fun j hj => absurd hj (Nat.not_lt_zero j)) (fun _ _ => rfl) (fun _ _ => rfl)
  · refine r_iconst C (pc := 7) (x := (-1)) (by decide) dX7_keep_7 ?_
    exact r_iret C (pc := 8) rfl (rfl) dX7_keep_8 ⟨rfl, rfl, (by have ho : oKeep a (M, h) = (-1, (M, h)) := if_neg (fun z => (of_decide_eq_false c_4) z); rw [ho]; exact ⟨rfl, hv, hh, zfr.rf⟩)⟩
set_option maxRecDepth 100000 in
set_option maxHeartbeats 4000000 in
theorem m_X7_back (l : Launch) (G : zG) (sh : zH) (v : zV) (N : Nat) {m : Nat} {M : zMS} {h : zHs} {T : Nat} {a : Int32} (hp : zMD G sh N m) (hv : zwf (v (m + 1)) M) (hh : zmh v m h) (hI : zI T (M, h)) (hT : T + 1000 < 2 ^ 30) : zm l G yX7_back cX7_back 3 (some .int) 2 [.ref m, .int a] sh v N (fun r v1 => r = some (.int (oBack a (M, h)).1) ∧ zwf (v1 (m + 1)) (oBack a (M, h)).2.1 ∧ zmh v1 m (oBack a (M, h)).2.2 ∧ zfr v v1 m 9) := by
  refine zM.of (by decide) rfl (Nat.le_of_ble_eq_true rfl) ?_
  intro p e s mi args below meth c C
  obtain ⟨hB, hN, hs0, hs1, hs2, hs3, hs4, hs5, hs6, hs7, hs8⟩ := id hp
  have hd0 : G.2.2.1 ≤ m ∧ m < N := ⟨hB, by omega⟩
  have hd1 : G.2.2.1 ≤ m + 1 ∧ m + 1 < N := ⟨by omega, by omega⟩
  have hd2 : G.2.2.1 ≤ m + 2 ∧ m + 2 < N := ⟨by omega, by omega⟩
  have hd3 : G.2.2.1 ≤ m + 3 ∧ m + 3 < N := ⟨by omega, by omega⟩
  have hd4 : G.2.2.1 ≤ m + 4 ∧ m + 4 < N := ⟨by omega, by omega⟩
  have hd5 : G.2.2.1 ≤ m + 5 ∧ m + 5 < N := ⟨by omega, by omega⟩
  have hd6 : G.2.2.1 ≤ m + 6 ∧ m + 6 < N := ⟨by omega, by omega⟩
  have hd7 : G.2.2.1 ≤ m + 7 ∧ m + 7 < N := ⟨by omega, by omega⟩
  have hd8 : G.2.2.1 ≤ m + 8 ∧ m + 8 < N := ⟨by omega, by omega⟩
  have hE : zE M := hI.1.1
  have hk : mOK M := hE.1
  have hK2 := hk.1.1
  have hK12 := hk.1.2.1
  have hR3 := hk.1.2.2.1
  refine r_iload_n C (pc := 0) rfl rfl dX7_back_0 ?_
  refine r_callS C (pc := 1) (st := []) (m_X7_isImage l G sh v N (a := a)) kyX7_isImage q_924 rfl rfl (Nat.le_of_ble_eq_true rfl) ⟨Nat.le_of_ble_eq_true rfl, Nat.le_of_ble_eq_true rfl⟩ ⟨Nat.le_of_ble_eq_true rfl, Nat.le_of_ble_eq_true rfl⟩ dX7_back_1 (fun r1 v1 hp1 => ?_)
  obtain ⟨rfl, ehp1⟩ := hp1
  refine VV.vq ehp1 ?_
  refine VV.eq (st2 := [.int (zb (decide ((nI 0) ≤ a ∧ a ≤ (nI 1))))]) rfl ?_
  refine n_ifb_ne C (pc := 4) (tgt := 9) dX7_back_4 (by decide) (fun c_4 => ?_) (fun c_4 => ?_)
  · have hc1 := (of_decide_eq_true c_4)
    obtain ⟨x, hx1, hx2, rfl⟩ := inR (of_decide_eq_true c_4) (by omega) (by omega)
    have hx2 : x < 2 := by omega
    refine r_aload_n C (pc := 9) rfl rfl dX7_back_9 ?_
    refine r_get C (pc := 10) (ci := 7) (k := 4) (w := .int (nI (flN h.2.2.2))) rfl (by decide) inX7 (by decide) q_658 (Or.inl hd0) hs0 (zl_i (hh.2.2.2.1)) dX7_back_10 ?_
    refine r_iload_n C (pc := 13) rfl rfl dX7_back_13 ?_
    refine r_ishr C (pc := 14) (z := (nI (flN h.2.2.2 / 2 ^ x))) (nI_shr (by have := flN_le h.2.2.2; omega) (by omega)) dX7_back_14 ?_
    refine r_iconst C (pc := 15) (x := (nI 1)) (by decide) dX7_back_15 ?_
    refine r_iand C (pc := 16) (z := (nI (if h.2.2.2 x then 1 else 0))) (by rw [nx_and, Nat.and_one_is_mod, flN_bit _ x hx2]) dX7_back_16 ?_
    refine n_if_ne C (pc := 17) (tgt := 23) (by split <;> decide) dX7_back_17 (by decide) (fun c_17 => ?_) (fun c_17 => ?_)
    · have hf : h.2.2.2 x = true := by
        cases hz : h.2.2.2 x with
        | true => rfl
        | false => rw [hz] at c_17; exact absurd c_17 (by decide)
      have ho : oBack (nI x) (M, h) = (nI ((h.2.2.1 x).1 2), (h.2.2.1 x, remH M h)) := ((if_pos hc1).trans (by rw [nn_I (by omega)])).trans (if_pos hf)
      refine r_aload_n C (pc := 23) rfl rfl dX7_back_23 ?_
      refine r_callV C (pc := 24) (st := []) (m_X7_remember l G sh v N hp hv hh) kyX7_remember q_704 rfl (Or.inl hd0) hs0 (by decide) rfl rfl rfl (Nat.le_of_ble_eq_true rfl) ⟨Nat.le_of_ble_eq_true rfl, Nat.le_of_ble_eq_true rfl⟩ ⟨Nat.le_of_ble_eq_true rfl, Nat.le_of_ble_eq_true rfl⟩ dX7_back_24 (fun r24 v24 hp24 => ?_)
      obtain ⟨rfl, g1, g2, g3⟩ := hp24
      refine VV.eq (st2 := []) rfl ?_
      have hz := g1.2.2.2.2 x hx2
      rw [remH_im] at hz
      have g1im := hz hf
      refine r_iconst C (pc := 27) (x := (nI 0)) (by decide) dX7_back_27 ?_
      refine r_istore_n C (pc := 28) (lv2 := [some (.ref m), some (.int (nI x)), some (.int (nI 0))]) rfl (Nat.le_of_ble_eq_true rfl) rfl rfl dX7_back_28 ?_
      have loop : ∀ (n k : Nat) (v' : zV), 165 - k < n → k ≤ 165 → (∀ j, j < k → v' (m + 1) j = v24 (m + 3) (165 * x + j)) → (∀ b, b ≠ m + 1 → v' b = v24 b) → VV p l e ({ frames := 2, cells := 0, slots := 0, locals := 32 * 2 }) s mi args below meth c 0 0 (zQ below (fun r sh1 v1 N1 => sh1 = sh ∧ N1 = N ∧ (r = some (.int (oBack (nI x) (M, h)).1) ∧ zwf (v1 (m + 1)) (oBack (nI x) (M, h)).2.1 ∧ zmh v1 m (oBack (nI x) (M, h)).2.2 ∧ zfr v v1 m 9)) G args s 0 0) G 3 sh v' N 29 [some (.ref m), some (.int (nI x)), some (.int (nI k))] [] := by
        intro n
        induction n with
        | zero => intro k v' hm; omega
        | succ n ih =>
          intro k v' hm hk e1 e2
          refine r_iload_n C (pc := 29) rfl rfl dX7_back_29 ?_
          refine r_sipush C (pc := 30) (x := (nI 165)) (by decide) dX7_back_30 ?_
          refine n_icmp_ge C (pc := 33) (tgt := 60) (by omega) (by decide) dX7_back_33 (by decide) (fun c_33 => ?_) (fun c_33 => ?_)
          · refine r_aload_n C (pc := 60) rfl rfl dX7_back_60 ?_
            refine r_get C (pc := 61) (ci := 7) (k := 0) (w := .ref (m + 1)) rfl (by decide) inX7 (by decide) q_654 (Or.inl hd0) hs0 (zl_ref _ _) dX7_back_61 ?_
            refine r_iconst C (pc := 64) (x := (nI 2)) (by decide) dX7_back_64 ?_
            refine r_iald C (pc := 65) (x := (nI ((h.2.2.1 x).1 2))) (Or.inl hd1) hs1 (by omega) (by omega) (by rw [e1 2 (by omega)]; exact g1im.1 2 (by decide)) dX7_back_65 ?_
            exact r_iret C (pc := 66) rfl (rfl) dX7_back_66 ⟨rfl, rfl, (by rw [ho]), (by
            rw [ho]; exact zwf_same g1im (fun j hj => e1 j (by omega))), (by
            rw [ho]; exact g1.kept (by rw [e2 _ (by omega)]) (by rw [e2 _ (by omega)]) (e2 _ (by omega)) (e2 _ (by omega))), fun b hb => by rw [e2 b (by omega)]; exact g3 b hb⟩
          · refine r_aload_n C (pc := 36) rfl rfl dX7_back_36 ?_
            refine r_get C (pc := 37) (ci := 7) (k := 0) (w := .ref (m + 1)) rfl (by decide) inX7 (by decide) q_654 (Or.inl hd0) hs0 (zl_ref _ _) dX7_back_37 ?_
            refine r_iload_n C (pc := 40) rfl rfl dX7_back_40 ?_
            refine r_aload_n C (pc := 41) rfl rfl dX7_back_41 ?_
            refine r_get C (pc := 42) (ci := 7) (k := 3) (w := .ref (m + 3)) rfl (by decide) inX7 (by decide) q_657 (Or.inl hd0) hs0 (zl_ref _ _) dX7_back_42 ?_
            refine r_sipush C (pc := 45) (x := (nI 165)) (by decide) dX7_back_45 ?_
            refine r_iload_n C (pc := 48) rfl rfl dX7_back_48 ?_
            refine r_imul C (pc := 49) (z := (nI (165 * x))) (pk_mul _ _) dX7_back_49 ?_
            refine r_iload_n C (pc := 50) rfl rfl dX7_back_50 ?_
            refine r_iadd C (pc := 51) (z := (nI ((165 * x) + k))) (nI_add _ _) dX7_back_51 ?_
            refine r_iald C (pc := 52) (x := (v24 (m + 3) (165 * x + k))) (Or.inl hd3) hs3 (by omega) (by omega) (by rw [e2 _ (by omega)]) dX7_back_52 ?_
            refine r_iast C (pc := 53) hd1 hs1 (by omega) (by omega) dX7_back_53 ?_
            refine VV.gn (fun w53 ew53 => ?_)
            refine r_iinc C (pc := 54) (lv2 := [some (.ref m), some (.int (nI x)), some (.int (nI (k + 1)))]) (y := (nI (k + 1))) rfl (nI_inc _ _) (Nat.le_of_ble_eq_true rfl) rfl rfl dX7_back_54 ?_
            refine r_goto C (pc := 57) (tgt := 29) dX7_back_57 (by decide) ?_
            exact ih (k + 1) w53 (by omega) (by omega) (fun j hj => by
              rw [ew53]
              by_cases hjk : j = k
              · subst hjk; rw [z2_self]
              · rw [z2_ne (by omega)]; exact e1 j (by omega)) (fun b hb => by rw [ew53, z2_addr hb]; exact e2 b hb)
      exact loop 166 0 v24 (by omega) (by omega) (fun j hj => absurd hj (Nat.not_lt_zero j)) (fun _ _ => rfl)
    · have hf : ¬ h.2.2.2 x = true := fun hz => by rw [hz] at c_17; exact absurd c_17 (by decide)
      refine r_bipush C (pc := 20) (x := (-2)) (by decide) dX7_back_20 ?_
      exact r_iret C (pc := 22) rfl (rfl) dX7_back_22 ⟨rfl, rfl, (by have ho : oBack (nI x) (M, h) = (-2, (M, h)) := ((if_pos hc1).trans (by rw [nn_I (by omega)])).trans (if_neg hf); rw [ho]; exact ⟨rfl, hv, hh, zfr.rf⟩)⟩
  · refine r_iconst C (pc := 7) (x := (-1)) (by decide) dX7_back_7 ?_
    exact r_iret C (pc := 8) rfl (rfl) dX7_back_8 ⟨rfl, rfl, (by have ho : oBack a (M, h) = (-1, (M, h)) := if_neg (fun z => (of_decide_eq_false c_4) z); rw [ho]; exact ⟨rfl, hv, hh, zfr.rf⟩)⟩
