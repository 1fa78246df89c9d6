theorem upc_comm (c : Nat → Nat) {i j x y : Nat} (h : i ≠ j) : upc (upc c i x) j y = upc (upc c j y) i x := by
  funext k
  unfold upc
  by_cases h1 : k = j
  · subst h1; rw [if_pos rfl, if_neg (fun z => h z.symm), if_pos rfl]
  · rw [if_neg h1, if_neg h1]
theorem vln_of {V W : Nat → Nat} {s : Nat} : ∀ n, (∀ b, b < n → V b = W b) → vln V s n = vln W s n
  | 0, _ => rfl
  | n + 1, h => by
    show (if _ then _ else _) = (if _ then _ else _)
    rw [vln_of n (fun b hb => h b (by omega)), h n (Nat.lt_succ_self n)]
theorem mod_s (x n : Nat) : x % 2 ^ (n + 1) = if x.testBit n then x % 2 ^ n ^^^ 2 ^ n else x % 2 ^ n := by
  apply Nat.eq_of_testBit_eq
  intro i
  by_cases hb : x.testBit n = true
  · rw [if_pos hb, Nat.testBit_xor, Nat.testBit_mod_two_pow, Nat.testBit_mod_two_pow, Nat.testBit_two_pow]
    by_cases hi : i = n
    · subst hi; simp [hb]
    · have e1 : decide (i < n + 1) = decide (i < n) := by simp; omega
      have e2 : decide (n = i) = false := by simp; omega
      rw [e1, e2, Bool.xor_false]
  · rw [if_neg hb, Nat.testBit_mod_two_pow, Nat.testBit_mod_two_pow]
    by_cases hi : i = n
    · subst hi
      have : x.testBit i = false := by simpa using hb
      rw [this, Bool.and_false, Bool.and_false]
    · have e1 : decide (i < n + 1) = decide (i < n) := by simp; omega
      rw [e1]
theorem pkn_div {c : Nat → Nat} {x : Nat} (hV : ∀ b, b < 12 → c (17 + b) < 256) : ∀ n, n ≤ 12 → pkn c x n / 256 = x % 2 ^ n
  | 0, _ => by show 0 / 256 = x % 1; rw [Nat.mod_one]
  | n + 1, hn => by
    show (if _ then _ else _) / 256 = _
    rw [mod_s]
    split
    · rw [x_div, pw_div (hV n (by omega)), pkn_div hV n (by omega)]
    · exact pkn_div hV n (by omega)
theorem pkn_mod {c : Nat → Nat} {x : Nat} (hV : ∀ b, b < 12 → c (17 + b) < 256) : ∀ n, n ≤ 12 → pkn c x n % 256 = vln (fun b => c (17 + b)) x n
  | 0, _ => rfl
  | n + 1, hn => by
    show (if _ then _ else _) % 256 = (if _ then _ else _)
    split
    · rw [x_mod, pw_mod (hV n (by omega)), pkn_mod hV n (by omega)]
    · exact pkn_mod hV n (by omega)
theorem upl_upl (ls : Nat → List Nat) (r : Nat) (l l2 : List Nat) : upl (upl ls r l) r l2 = upl ls r l2 := by
  funext j
  unfold upl
  split <;> rfl
theorem m_X7_append2 (l : Launch) (G : zG) (sh : zH) (v : zV) (N : Nat) {m : Nat} {M : zMS} {r0 q : Nat} {li : List Nat} (hp : zMD G sh N m) (hv : zwf (v (m + 1)) (M.1, upl M.2.1 r0 li, M.2.2)) (hr : r0 < 5) (hl : li.length < cp r0) : zm l G yX7_append cX7_append 4 none 1 [.ref m, .int (nI (lb r0)), .int (nI (q / 256)), .int (nI (q % 256))] sh v N (fun r v1 => r = none ∧ zwf (v1 (m + 1)) (M.1, upl M.2.1 r0 (li ++ [q]), M.2.2) ∧ fA v v1 m) := by
  have h := m_X7_append l G sh v N (q := q) hp hv hr (by dsimp only; rw [upl_s]; exact hl)
  dsimp only at h
  rw [upl_s, upl_upl] at h
  exact h
theorem upl_id (ls : Nat → List Nat) (r : Nat) : upl ls r (ls r) = ls := by
  funext j
  unfold upl
  split
  · rename_i h; rw [h]
  · rfl
theorem fB.f {v v1 : zV} {m b : Nat} (h : fB v v1 m) (h1 : b ≠ m) (h2 : b ≠ m + 1) (h3 : b ≠ m + 4) (h4 : b ≠ m + 5) : v1 b = v b := h.1 b h1 h2 h3 h4
set_option maxRecDepth 100000 in
set_option maxHeartbeats 4000000 in
theorem m_X7_makeAtSource (l : Launch) (G : zG) (sh : zH) (v : zV) (N : Nat) {m : Nat} {M : zMS} (hp : zMD G sh N m) (hv : zwf (v (m + 1)) M) (hk : mOK M) : zm l G yX7_makeAtSource cX7_makeAtSource 4 none 1 [.ref m] sh v N (fun r v1 => r = none ∧ zwf (v1 (m + 1)) (mSrc M).2 ∧ v1 m 9 = nI ((mSrc M).1 / 256) ∧ v1 m 10 = nI ((mSrc M).1 % 256) ∧ fB v v1 m) := by
  refine zM.of (by decide) rfl (Nat.le_of_ble_eq_true rfl) ?_
  intro p e s mi args below meth c C
  obtain ⟨hB, hN, hs0, hs1, hs2, hs3, hs4, hs5, hs6, hs7, hs8⟩ := id hp
  have hd0 : G.2.2.1 ≤ m ∧ m < N := ⟨hB, by omega⟩
  have hd1 : G.2.2.1 ≤ m + 1 ∧ m + 1 < N := ⟨by omega, by omega⟩
  have hd2 : G.2.2.1 ≤ m + 2 ∧ m + 2 < N := ⟨by omega, by omega⟩
  have hd3 : G.2.2.1 ≤ m + 3 ∧ m + 3 < N := ⟨by omega, by omega⟩
  have hd4 : G.2.2.1 ≤ m + 4 ∧ m + 4 < N := ⟨by omega, by omega⟩
  have hd5 : G.2.2.1 ≤ m + 5 ∧ m + 5 < N := ⟨by omega, by omega⟩
  have hd6 : G.2.2.1 ≤ m + 6 ∧ m + 6 < N := ⟨by omega, by omega⟩
  have hd7 : G.2.2.1 ≤ m + 7 ∧ m + 7 < N := ⟨by omega, by omega⟩
  have hd8 : G.2.2.1 ≤ m + 8 ∧ m + 8 < N := ⟨by omega, by omega⟩
  have hK12 := hk.1.2.1
  have hVl : ∀ b, b < 12 → M.1 (17 + b) < 256 := hk.1.2.2.2.2.2.2.2.2.2.2
  have hw0 := hk.2.1
  have hwle := wsn_le hk.1.2.2.2.2.2.2.2.2.2.1 6 (Nat.le_refl 6)
  have hsd : ∀ b, (dsn (M.1 0) (dseed (M.1 6), (deg M.1 (drw (M.1 6) (wsn M.1 6))), 0) b).1 < 2 ^ 31 := dsn_seed (z := (dseed (M.1 6), (deg M.1 (drw (M.1 6) (wsn M.1 6))), 0)) (dseed_lt (M.1 6))
  have fin : ∀ v' : zV, zwf (v' (m + 1)) ((upc M.1 6 (dsn (M.1 0) (dseed (M.1 6), (deg M.1 (drw (M.1 6) (wsn M.1 6))), 0) (M.1 0)).1), M.2) → v' m 9 = nI (dsn (M.1 0) (dseed (M.1 6), (deg M.1 (drw (M.1 6) (wsn M.1 6))), 0) (M.1 0)).2.2 → fB v v' m → VV p l e ({ frames := 1, cells := 0, slots := 0, locals := 32 * 1 }) s mi args below meth c 0 0 (zQ below (fun r sh1 v1 N1 => sh1 = sh ∧ N1 = N ∧ (r = none ∧ zwf (v1 (m + 1)) (mSrc M).2 ∧ v1 m 9 = nI ((mSrc M).1 / 256) ∧ v1 m 10 = nI ((mSrc M).1 % 256) ∧ fB v v1 m)) G args s 0 0) G 4 sh v' N 121 [some (.ref m), none, none, some (.int (nI (M.1 0)))] [] := by
    intro v' e1 e2 e3
    have hset := dsn_set (K := M.1 0) (z := (dseed (M.1 6), (deg M.1 (drw (M.1 6) (wsn M.1 6))), 0)) rfl (M.1 0)
    have hset2 : (dsn (M.1 0) (dseed (M.1 6), (deg M.1 (drw (M.1 6) (wsn M.1 6))), 0) (M.1 0)).2.2 < 2 ^ 12 := Nat.lt_of_lt_of_le hset (Nat.pow_le_pow_right (by decide) hK12)
    refine r_aload_n C (pc := 121) rfl rfl dX7_makeAtSource_121 ?_
    refine r_aload_n C (pc := 122) rfl rfl dX7_makeAtSource_122 ?_
    refine r_aload_n C (pc := 123) rfl rfl dX7_makeAtSource_123 ?_
    refine r_get C (pc := 124) (ci := 7) (k := 9) (w := .int (nI ((dsn (M.1 0) (dseed (M.1 6), (deg M.1 (drw (M.1 6) (wsn M.1 6))), 0) (M.1 0)).2.2))) rfl (by decide) inX7 (by decide) q_663 (Or.inl hd0) hs0 (zl_i (e2)) dX7_makeAtSource_124 ?_
    refine r_callV C (pc := 127) (st := [.ref m]) (m_X7_valueOf l G sh v' N (x := (dsn (M.1 0) (dseed (M.1 6), (deg M.1 (drw (M.1 6) (wsn M.1 6))), 0) (M.1 0)).2.2) hp e1 (by omega) (by dsimp only; rw [upc_n (by decide)]; exact hK12)) kyX7_valueOf q_766 rfl (Or.inl hd0) hs0 (by decide) rfl rfl rfl (Nat.le_of_ble_eq_true rfl) ⟨Nat.le_of_ble_eq_true rfl, Nat.le_of_ble_eq_true rfl⟩ ⟨Nat.le_of_ble_eq_true rfl, Nat.le_of_ble_eq_true rfl⟩ dX7_makeAtSource_127 (fun r127 v127 hp127 => ?_)
    obtain ⟨rfl, ehp127⟩ := hp127
    refine VV.vq ehp127 ?_
    refine VV.eq (st2 := [.int (nI (vln (zVl (((upc M.1 6 (dsn (M.1 0) (dseed (M.1 6), (deg M.1 (drw (M.1 6) (wsn M.1 6))), 0) (M.1 0)).1), M.2) : zMS)) (dsn (M.1 0) (dseed (M.1 6), (deg M.1 (drw (M.1 6) (wsn M.1 6))), 0) (M.1 0)).2.2 ((upc M.1 6 (dsn (M.1 0) (dseed (M.1 6), (deg M.1 (drw (M.1 6) (wsn M.1 6))), 0) (M.1 0)).1) 0))), .ref m]) rfl ?_
    rw [show (upc M.1 6 (dsn (M.1 0) (dseed (M.1 6), (deg M.1 (drw (M.1 6) (wsn M.1 6))), 0) (M.1 0)).1) 0 = M.1 0 from upc_n (by decide), vln_of (W := zVl M) (M.1 0) (fun b hb => by show upc M.1 6 _ (17 + b) = M.1 (17 + b); exact upc_n (by omega))]
    refine r_put C (pc := 130) (ci := 7) (k := 10) rfl (by decide) inX7 tyX7_ok nmX7 (by decide) rfl pfI rfl q_664 hd0 hs0 dX7_makeAtSource_130 ?_
    refine VV.gn (fun w130 ew130 => ?_)
    refine r_aload_n C (pc := 133) rfl rfl dX7_makeAtSource_133 ?_
    refine r_get C (pc := 134) (ci := 7) (k := 0) (w := .ref (m + 1)) rfl (by decide) inX7 (by decide) q_654 (Or.inl hd0) hs0 (zl_ref _ _) dX7_makeAtSource_134 ?_
    refine r_bipush C (pc := 137) (x := (nI 29)) (by decide) dX7_makeAtSource_137 ?_
    refine r_dup2 C (pc := 139) rfl rfl dX7_makeAtSource_139 ?_
    refine r_iald C (pc := 140) (x := (nI (M.1 29))) (Or.inl hd1) hs1 (by omega) (by omega) (by rw [ew130, z2_addr (by omega)]; have h := e1.1 29 (by decide); dsimp only at h; rw [upc_n (by decide)] at h; exact h) dX7_makeAtSource_140 ?_
    refine r_iconst C (pc := 141) (x := (nI 1)) (by decide) dX7_makeAtSource_141 ?_
    refine r_iadd C (pc := 142) (z := (nI ((M.1 29) + 1))) (nI_add _ _) dX7_makeAtSource_142 ?_
    refine r_iast C (pc := 143) hd1 hs1 (by omega) (by omega) dX7_makeAtSource_143 ?_
    refine VV.gn (fun w143 ew143 => ?_)
    exact r_vret C (pc := 144) rfl dX7_makeAtSource_144 ⟨rfl, rfl, rfl, (by
      have h29 := zwf_c (g := w143 (m + 1)) (i := 29) (x := M.1 29 + 1) e1 (by decide) (by decide) (by rw [ew143, z2_self]) (fun j hj => by rw [ew143, z2_ne (by omega), ew130, z2_addr (by omega)])
      dsimp only at h29
      rw [upc_comm _ (show (6 : Nat) ≠ 29 by decide)] at h29
      exact h29), (by
      rw [ew143, z2_addr (by omega), ew130, z2_ne (by omega), e2]
      show _ = nI (pkn M.1 (dsn (M.1 0) (dseed (M.1 6), (deg M.1 (drw (M.1 6) (wsn M.1 6))), 0) (M.1 0)).2.2 (M.1 0) / 256)
      rw [pkn_div hVl _ hK12, Nat.mod_eq_of_lt hset]), (by
      rw [ew143, z2_addr (by omega), ew130, z2_self]
      show _ = nI (pkn M.1 (dsn (M.1 0) (dseed (M.1 6), (deg M.1 (drw (M.1 6) (wsn M.1 6))), 0) (M.1 0)).2.2 (M.1 0) % 256)
      rw [pkn_mod hVl _ hK12]), by rw [ew143, ew130]; exact (e3.z (by decide) (by decide)).zw (Or.inl rfl)⟩
  have loop2 : ∀ (n b : Nat) (v' : zV), M.1 0 - b < n → b ≤ M.1 0 → zwf (v' (m + 1)) ((upc M.1 6 (dsn (M.1 0) (dseed (M.1 6), (deg M.1 (drw (M.1 6) (wsn M.1 6))), 0) b).1), M.2) → v' m 9 = nI (dsn (M.1 0) (dseed (M.1 6), (deg M.1 (drw (M.1 6) (wsn M.1 6))), 0) b).2.2 → fB v v' m → VV p l e ({ frames := 1, cells := 0, slots := 0, locals := 32 * 1 }) s mi args below meth c 0 0 (zQ below (fun r sh1 v1 N1 => sh1 = sh ∧ N1 = N ∧ (r = none ∧ zwf (v1 (m + 1)) (mSrc M).2 ∧ v1 m 9 = nI ((mSrc M).1 / 256) ∧ v1 m 10 = nI ((mSrc M).1 % 256) ∧ fB v v1 m)) G args s 0 0) G 4 sh v' N 74 [some (.ref m), none, some (.int (nI ((dsn (M.1 0) (dseed (M.1 6), (deg M.1 (drw (M.1 6) (wsn M.1 6))), 0) b).2.1))), some (.int (nI b))] [] := by
    intro n
    induction n with
    | zero => intro b v' hm; omega
    | succ n ih =>
      intro b v' hm hb e1 e2 e3
      refine r_iload_n C (pc := 74) rfl rfl dX7_makeAtSource_74 ?_
      refine r_aload_n C (pc := 75) rfl rfl dX7_makeAtSource_75 ?_
      refine r_get C (pc := 76) (ci := 7) (k := 0) (w := .ref (m + 1)) rfl (by decide) inX7 (by decide) q_654 (Or.inl hd0) hs0 (zl_ref _ _) dX7_makeAtSource_76 ?_
      refine r_iconst C (pc := 79) (x := (nI 0)) (by decide) dX7_makeAtSource_79 ?_
      refine r_iald C (pc := 80) (x := (nI (M.1 0))) (Or.inl hd1) hs1 (by omega) (by omega) (by have h := e1.1 0 (by decide); dsimp only at h; rw [upc_n (by decide)] at h; exact h) dX7_makeAtSource_80 ?_
      refine n_icmp_ge C (pc := 81) (tgt := 121) (by omega) (by omega) dX7_makeAtSource_81 (by decide) (fun c_81 => ?_) (fun c_81 => ?_)
      · have hbK : b = M.1 0 := by omega
        rw [hbK] at e1 e2 ⊢
        refine VV.fg 2 (lv2 := [some (.ref m), none, none, some (.int (nI (M.1 0)))]) rfl ?_
        exact fin v' e1 e2 e3
      · refine r_aload_n C (pc := 84) rfl rfl dX7_makeAtSource_84 ?_
        refine r_aload_n C (pc := 85) rfl rfl dX7_makeAtSource_85 ?_
        refine r_get C (pc := 86) (ci := 7) (k := 0) (w := .ref (m + 1)) rfl (by decide) inX7 (by decide) q_654 (Or.inl hd0) hs0 (zl_ref _ _) dX7_makeAtSource_86 ?_
        refine r_iconst C (pc := 89) (x := (nI 0)) (by decide) dX7_makeAtSource_89 ?_
        refine r_iald C (pc := 90) (x := (nI (M.1 0))) (Or.inl hd1) hs1 (by omega) (by omega) (by have h := e1.1 0 (by decide); dsimp only at h; rw [upc_n (by decide)] at h; exact h) dX7_makeAtSource_90 ?_
        refine r_iload_n C (pc := 91) rfl rfl dX7_makeAtSource_91 ?_
        refine r_isub C (pc := 92) (z := (nI ((M.1 0) - b))) (pk_sub (by omega)) dX7_makeAtSource_92 ?_
        have hop := dsn_op (K := M.1 0) (z := (dseed (M.1 6), (deg M.1 (drw (M.1 6) (wsn M.1 6))), 0)) b
        have hdgl : (deg M.1 (drw (M.1 6) (wsn M.1 6))) ≤ 12 := Nat.le_trans (Nat.min_le_right _ _) hK12
        have hop2 : (dsn (M.1 0) (dseed (M.1 6), (deg M.1 (drw (M.1 6) (wsn M.1 6))), 0) b).2.1 ≤ 12 := Nat.le_trans hop hdgl
        have hdr := drw_lt (dsn (M.1 0) (dseed (M.1 6), (deg M.1 (drw (M.1 6) (wsn M.1 6))), 0) b).1 (n := M.1 0 - b) (by omega)
        refine r_callV C (pc := 93) (st := []) (m_X7_draw l G sh v' N (n := M.1 0 - b) hp e1 (by dsimp only; rw [upc_s]; exact hsd b) (by omega) (by omega)) kyX7_draw q_758 rfl (Or.inl hd0) hs0 (by decide) rfl rfl rfl (Nat.le_of_ble_eq_true rfl) ⟨Nat.le_of_ble_eq_true rfl, Nat.le_of_ble_eq_true rfl⟩ ⟨Nat.le_of_ble_eq_true rfl, Nat.le_of_ble_eq_true rfl⟩ dX7_makeAtSource_93 (fun r93 v93 hp93 => ?_)
        obtain ⟨rfl, g4, g5⟩ := hp93
        refine VV.eq (st2 := [.int (nI (drw ((upc M.1 6 (dsn (M.1 0) (dseed (M.1 6), (deg M.1 (drw (M.1 6) (wsn M.1 6))), 0) b).1) 6) (M.1 0 - b)))]) rfl ?_
        dsimp only at g4
        rw [upc_s, upc_upc] at g4
        rw [show (upc M.1 6 (dsn (M.1 0) (dseed (M.1 6), (deg M.1 (drw (M.1 6) (wsn M.1 6))), 0) b).1) 6 = (dsn (M.1 0) (dseed (M.1 6), (deg M.1 (drw (M.1 6) (wsn M.1 6))), 0) b).1 from upc_s _ _ _]
        refine r_iload_n C (pc := 96) rfl rfl dX7_makeAtSource_96 ?_
        refine n_icmp_ge C (pc := 97) (tgt := 115) (by omega) (by omega) dX7_makeAtSource_97 (by decide) (fun c_97 => ?_) (fun c_97 => ?_)
        · refine r_iinc C (pc := 115) (lv2 := [some (.ref m), none, some (.int (nI ((dsn (M.1 0) (dseed (M.1 6), (deg M.1 (drw (M.1 6) (wsn M.1 6))), 0) b).2.1))), some (.int (nI (b + 1)))]) (y := (nI (b + 1))) rfl (nI_inc _ _) (Nat.le_of_ble_eq_true rfl) rfl rfl dX7_makeAtSource_115 ?_
          refine r_goto C (pc := 118) (tgt := 74) dX7_makeAtSource_118 (by decide) ?_
          have hs : (dsn (M.1 0) (dseed (M.1 6), (deg M.1 (drw (M.1 6) (wsn M.1 6))), 0) (b + 1)) = (dseed (dsn (M.1 0) (dseed (M.1 6), (deg M.1 (drw (M.1 6) (wsn M.1 6))), 0) b).1, (dsn (M.1 0) (dseed (M.1 6), (deg M.1 (drw (M.1 6) (wsn M.1 6))), 0) b).2.1, (dsn (M.1 0) (dseed (M.1 6), (deg M.1 (drw (M.1 6) (wsn M.1 6))), 0) b).2.2) := if_neg (by omega)
          have := ih (b + 1) v93 (by omega) (by omega)
          rw [hs] at this
          exact this (g4) (by rw [g5 m (by omega)]; exact e2) (e3.tr g5.B)
        · refine r_aload_n C (pc := 100) rfl rfl dX7_makeAtSource_100 ?_
          refine r_dup C (pc := 101) rfl dX7_makeAtSource_101 ?_
          refine r_get C (pc := 102) (ci := 7) (k := 9) (w := .int (nI ((dsn (M.1 0) (dseed (M.1 6), (deg M.1 (drw (M.1 6) (wsn M.1 6))), 0) b).2.2))) rfl (by decide) inX7 (by decide) q_663 (Or.inl hd0) hs0 (zl_i (by rw [g5 m (by omega)]; exact e2)) dX7_makeAtSource_102 ?_
          refine r_iconst C (pc := 105) (x := (nI 1)) (by decide) dX7_makeAtSource_105 ?_
          refine r_iload_n C (pc := 106) rfl rfl dX7_makeAtSource_106 ?_
          refine r_ishl C (pc := 107) (z := (nI (2 ^ b))) (nI_shl1 (by omega)) dX7_makeAtSource_107 ?_
          refine r_ior C (pc := 108) (z := (nI (((dsn (M.1 0) (dseed (M.1 6), (deg M.1 (drw (M.1 6) (wsn M.1 6))), 0) b).2.2) ||| (2 ^ b)))) (nx_or _ _) dX7_makeAtSource_108 ?_
          refine r_put C (pc := 109) (ci := 7) (k := 9) rfl (by decide) inX7 tyX7_ok nmX7 (by decide) rfl pfI rfl q_663 hd0 hs0 dX7_makeAtSource_109 ?_
          refine VV.gn (fun w109 ew109 => ?_)
          refine r_iinc C (pc := 112) (lv2 := [some (.ref m), none, some (.int (nI ((dsn (M.1 0) (dseed (M.1 6), (deg M.1 (drw (M.1 6) (wsn M.1 6))), 0) b).2.1 - 1))), some (.int (nI b))]) (y := (nI ((dsn (M.1 0) (dseed (M.1 6), (deg M.1 (drw (M.1 6) (wsn M.1 6))), 0) b).2.1 - 1))) rfl (nI_decp (by omega)) (Nat.le_of_ble_eq_true rfl) rfl rfl dX7_makeAtSource_112 ?_
          refine r_iinc C (pc := 115) (lv2 := [some (.ref m), none, some (.int (nI ((dsn (M.1 0) (dseed (M.1 6), (deg M.1 (drw (M.1 6) (wsn M.1 6))), 0) b).2.1 - 1))), some (.int (nI (b + 1)))]) (y := (nI (b + 1))) rfl (nI_inc _ _) (Nat.le_of_ble_eq_true rfl) rfl rfl dX7_makeAtSource_115 ?_
          refine r_goto C (pc := 118) (tgt := 74) dX7_makeAtSource_118 (by decide) ?_
          have hs : (dsn (M.1 0) (dseed (M.1 6), (deg M.1 (drw (M.1 6) (wsn M.1 6))), 0) (b + 1)) = (dseed (dsn (M.1 0) (dseed (M.1 6), (deg M.1 (drw (M.1 6) (wsn M.1 6))), 0) b).1, (dsn (M.1 0) (dseed (M.1 6), (deg M.1 (drw (M.1 6) (wsn M.1 6))), 0) b).2.1 - 1, (dsn (M.1 0) (dseed (M.1 6), (deg M.1 (drw (M.1 6) (wsn M.1 6))), 0) b).2.2 ||| 2 ^ b) := if_pos c_97
          have := ih (b + 1) w109 (by omega) (by omega)
          rw [hs] at this
          exact this (by rw [ew109, z2_addr (by omega)]; exact g4) (by rw [ew109, z2_self]) (by rw [ew109]; exact (e3.tr g5.B).z (by decide) (by decide))
  refine r_aload_n C (pc := 0) rfl rfl dX7_makeAtSource_0 ?_
  refine r_aload_n C (pc := 1) rfl rfl dX7_makeAtSource_1 ?_
  refine r_callV C (pc := 2) (st := [.ref m]) (m_X7_weights l G sh v N hp hv) kyX7_weights q_728 rfl (Or.inl hd0) hs0 (by decide) rfl rfl rfl (Nat.le_of_ble_eq_true rfl) ⟨Nat.le_of_ble_eq_true rfl, Nat.le_of_ble_eq_true rfl⟩ ⟨Nat.le_of_ble_eq_true rfl, Nat.le_of_ble_eq_true rfl⟩ dX7_makeAtSource_2 (fun r2 v2 hp2 => ?_)
  obtain ⟨rfl, ehp2⟩ := hp2
  refine VV.vq ehp2 ?_
  refine VV.eq (st2 := [.int (nI (wsn M.1 6)), .ref m]) rfl ?_
  refine r_callV C (pc := 5) (st := []) (m_X7_draw l G sh v N (n := wsn M.1 6) hp hv hk.1.2.2.2.2.2.2.2.1 hw0 (by omega)) kyX7_draw q_758 rfl (Or.inl hd0) hs0 (by decide) rfl rfl rfl (Nat.le_of_ble_eq_true rfl) ⟨Nat.le_of_ble_eq_true rfl, Nat.le_of_ble_eq_true rfl⟩ ⟨Nat.le_of_ble_eq_true rfl, Nat.le_of_ble_eq_true rfl⟩ dX7_makeAtSource_5 (fun r5 v5 hp5 => ?_)
  obtain ⟨rfl, g2, g3⟩ := hp5
  refine VV.eq (st2 := [.int (nI (drw (M.1 6) (wsn M.1 6)))]) rfl ?_
  refine r_istore_n C (pc := 8) (lv2 := [some (.ref m), some (.int (nI (drw (M.1 6) (wsn M.1 6)))), none, none]) rfl (Nat.le_of_ble_eq_true rfl) rfl rfl dX7_makeAtSource_8 ?_
  refine r_iconst C (pc := 9) (x := (nI 1)) (by decide) dX7_makeAtSource_9 ?_
  refine r_istore_n C (pc := 10) (lv2 := [some (.ref m), some (.int (nI (drw (M.1 6) (wsn M.1 6)))), some (.int (nI 1)), none]) rfl (Nat.le_of_ble_eq_true rfl) rfl rfl dX7_makeAtSource_10 ?_
  have hXl : (drw (M.1 6) (wsn M.1 6)) < wsn M.1 6 := drw_lt _ hw0
  have phase2 : VV p l e ({ frames := 1, cells := 0, slots := 0, locals := 32 * 1 }) s mi args below meth c 0 0 (zQ below (fun r sh1 v1 N1 => sh1 = sh ∧ N1 = N ∧ (r = none ∧ zwf (v1 (m + 1)) (mSrc M).2 ∧ v1 m 9 = nI ((mSrc M).1 / 256) ∧ v1 m 10 = nI ((mSrc M).1 % 256) ∧ fB v v1 m)) G args s 0 0) G 4 sh v5 N 66 [some (.ref m), none, none, none] [.int (nI (deg M.1 (drw (M.1 6) (wsn M.1 6))))] := by
    refine r_istore_n C (pc := 66) (lv2 := [some (.ref m), none, some (.int (nI (deg M.1 (drw (M.1 6) (wsn M.1 6))))), none]) rfl (Nat.le_of_ble_eq_true rfl) rfl rfl dX7_makeAtSource_66 ?_
    refine r_aload_n C (pc := 67) rfl rfl dX7_makeAtSource_67 ?_
    refine r_iconst C (pc := 68) (x := (nI 0)) (by decide) dX7_makeAtSource_68 ?_
    refine r_put C (pc := 69) (ci := 7) (k := 9) rfl (by decide) inX7 tyX7_ok nmX7 (by decide) rfl pfI rfl q_663 hd0 hs0 dX7_makeAtSource_69 ?_
    refine VV.gn (fun w69 ew69 => ?_)
    refine r_iconst C (pc := 72) (x := (nI 0)) (by decide) dX7_makeAtSource_72 ?_
    refine r_istore_n C (pc := 73) (lv2 := [some (.ref m), none, some (.int (nI (deg M.1 (drw (M.1 6) (wsn M.1 6))))), some (.int (nI 0))]) rfl (Nat.le_of_ble_eq_true rfl) rfl rfl dX7_makeAtSource_73 ?_
    exact loop2 (M.1 0 + 1) 0 w69 (by omega) (by omega) (by rw [ew69, z2_addr (by omega)]; exact g2) (by rw [ew69, z2_self]; rfl) (by rw [ew69]; exact g3.B.z (by decide) (by decide))
  have loop1 : ∀ (n e0 : Nat), 6 - e0 < n → e0 ≤ 5 → wsn M.1 e0 ≤ (drw (M.1 6) (wsn M.1 6)) → fdg M.1 (drw (M.1 6) (wsn M.1 6)) (5 - e0) (e0 + 1) = fdg M.1 (drw (M.1 6) (wsn M.1 6)) 5 1 → VV p l e ({ frames := 1, cells := 0, slots := 0, locals := 32 * 1 }) s mi args below meth c 0 0 (zQ below (fun r sh1 v1 N1 => sh1 = sh ∧ N1 = N ∧ (r = none ∧ zwf (v1 (m + 1)) (mSrc M).2 ∧ v1 m 9 = nI ((mSrc M).1 / 256) ∧ v1 m 10 = nI ((mSrc M).1 % 256) ∧ fB v v1 m)) G args s 0 0) G 4 sh v5 N 11 [some (.ref m), some (.int (nI ((drw (M.1 6) (wsn M.1 6)) - wsn M.1 e0))), some (.int (nI (e0 + 1))), none] [] := by
    intro n
    induction n with
    | zero => intro e0 hm; omega
    | succ n ih =>
      intro e0 hm he hx0 hfd
      have hws : wsn M.1 (e0 + 1) = wsn M.1 e0 + M.1 (11 + e0) := rfl
      have hwl : M.1 (11 + e0) ≤ 9 := hk.1.2.2.2.2.2.2.2.2.2.1 e0 (by omega)
      refine r_iload_n C (pc := 11) rfl rfl dX7_makeAtSource_11 ?_
      refine r_aload_n C (pc := 12) rfl rfl dX7_makeAtSource_12 ?_
      refine r_get C (pc := 13) (ci := 7) (k := 0) (w := .ref (m + 1)) rfl (by decide) inX7 (by decide) q_654 (Or.inl hd0) hs0 (zl_ref _ _) dX7_makeAtSource_13 ?_
      refine r_bipush C (pc := 16) (x := (nI 11)) (by decide) dX7_makeAtSource_16 ?_
      refine r_iload_n C (pc := 18) rfl rfl dX7_makeAtSource_18 ?_
      refine r_iadd C (pc := 19) (z := (nI (11 + (e0 + 1)))) (nI_add _ _) dX7_makeAtSource_19 ?_
      refine r_iconst C (pc := 20) (x := (nI 1)) (by decide) dX7_makeAtSource_20 ?_
      refine r_isub C (pc := 21) (z := (nI (11 + e0))) ((pk_sub (by omega)).trans (congrArg nI (by omega))) dX7_makeAtSource_21 ?_
      refine r_iald C (pc := 22) (x := (nI (M.1 (11 + e0)))) (Or.inl hd1) hs1 (by omega) (by omega) ((g2.1 (11 + e0) (by omega)).trans (congrArg nI (upc_n (show 11 + e0 ≠ 6 by omega)))) dX7_makeAtSource_22 ?_
      refine n_icmp_lt C (pc := 23) (tgt := 46) (by omega) (by omega) dX7_makeAtSource_23 (by decide) (fun c_23 => ?_) (fun c_23 => ?_)
      · have hout : fdg M.1 (drw (M.1 6) (wsn M.1 6)) (5 - e0) (e0 + 1) = e0 + 1 := by
          cases hz : 5 - e0 with
          | zero => rfl
          | succ z =>
            show (if _ then e0 + 1 else _) = _
            exact if_pos (by omega)
        refine r_iload_n C (pc := 46) rfl rfl dX7_makeAtSource_46 ?_
        refine r_aload_n C (pc := 47) rfl rfl dX7_makeAtSource_47 ?_
        refine r_get C (pc := 48) (ci := 7) (k := 0) (w := .ref (m + 1)) rfl (by decide) inX7 (by decide) q_654 (Or.inl hd0) hs0 (zl_ref _ _) dX7_makeAtSource_48 ?_
        refine r_iconst C (pc := 51) (x := (nI 0)) (by decide) dX7_makeAtSource_51 ?_
        refine r_iald C (pc := 52) (x := (nI (M.1 0))) (Or.inl hd1) hs1 (by omega) (by omega) (by have h := g2.1 0 (by decide); dsimp only at h; rw [upc_n (by decide)] at h; exact h) dX7_makeAtSource_52 ?_
        refine n_icmp_le C (pc := 53) (tgt := 65) (by omega) (by omega) dX7_makeAtSource_53 (by decide) (fun c_53 => ?_) (fun c_53 => ?_)
        · refine r_iload_n C (pc := 65) rfl rfl dX7_makeAtSource_65 ?_
          have hdg : deg M.1 (drw (M.1 6) (wsn M.1 6)) = e0 + 1 := by
            show min (fdg M.1 (drw (M.1 6) (wsn M.1 6)) 5 1) (M.1 0) = _
            rw [← hfd, hout]
            rw [Nat.min_eq_left (by omega)]
          refine VV.fg 1 (lv2 := [some (.ref m), none, some (.int (nI (e0 + 1))), none]) rfl ?_
          refine VV.fg 2 (lv2 := [some (.ref m), none, none, none]) rfl ?_
          rw [← hdg]
          exact phase2
        · refine r_aload_n C (pc := 56) rfl rfl dX7_makeAtSource_56 ?_
          refine r_get C (pc := 57) (ci := 7) (k := 0) (w := .ref (m + 1)) rfl (by decide) inX7 (by decide) q_654 (Or.inl hd0) hs0 (zl_ref _ _) dX7_makeAtSource_57 ?_
          refine r_iconst C (pc := 60) (x := (nI 0)) (by decide) dX7_makeAtSource_60 ?_
          refine r_iald C (pc := 61) (x := (nI (M.1 0))) (Or.inl hd1) hs1 (by omega) (by omega) (by have h := g2.1 0 (by decide); dsimp only at h; rw [upc_n (by decide)] at h; exact h) dX7_makeAtSource_61 ?_
          refine r_goto C (pc := 62) (tgt := 66) dX7_makeAtSource_62 (by decide) ?_
          have hdg : deg M.1 (drw (M.1 6) (wsn M.1 6)) = M.1 0 := by
            show min (fdg M.1 (drw (M.1 6) (wsn M.1 6)) 5 1) (M.1 0) = _
            rw [← hfd, hout]
            rw [Nat.min_eq_right (by omega)]
          refine VV.fg 1 (lv2 := [some (.ref m), none, some (.int (nI (e0 + 1))), none]) rfl ?_
          refine VV.fg 2 (lv2 := [some (.ref m), none, none, none]) rfl ?_
          rw [← hdg]
          exact phase2
      · have he5 : e0 < 5 := by
          rcases Nat.lt_or_ge e0 5 with h | h
          · exact h
          · have h5 : e0 = 5 := by omega
            subst h5
            have h6 : wsn M.1 (5 + 1) = wsn M.1 6 := rfl
            omega
        have hfd2 : fdg M.1 (drw (M.1 6) (wsn M.1 6)) (5 - (e0 + 1)) (e0 + 1 + 1) = fdg M.1 (drw (M.1 6) (wsn M.1 6)) 5 1 := by
          rw [← hfd, show 5 - e0 = 5 - (e0 + 1) + 1 by omega]
          show _ = (if _ then e0 + 1 else _)
          rw [if_neg (by omega)]
        refine r_iload_n C (pc := 26) rfl rfl dX7_makeAtSource_26 ?_
        refine r_aload_n C (pc := 27) rfl rfl dX7_makeAtSource_27 ?_
        refine r_get C (pc := 28) (ci := 7) (k := 0) (w := .ref (m + 1)) rfl (by decide) inX7 (by decide) q_654 (Or.inl hd0) hs0 (zl_ref _ _) dX7_makeAtSource_28 ?_
        refine r_bipush C (pc := 31) (x := (nI 11)) (by decide) dX7_makeAtSource_31 ?_
        refine r_iload_n C (pc := 33) rfl rfl dX7_makeAtSource_33 ?_
        refine r_iadd C (pc := 34) (z := (nI (11 + (e0 + 1)))) (nI_add _ _) dX7_makeAtSource_34 ?_
        refine r_iconst C (pc := 35) (x := (nI 1)) (by decide) dX7_makeAtSource_35 ?_
        refine r_isub C (pc := 36) (z := (nI (11 + e0))) ((pk_sub (by omega)).trans (congrArg nI (by omega))) dX7_makeAtSource_36 ?_
        refine r_iald C (pc := 37) (x := (nI (M.1 (11 + e0)))) (Or.inl hd1) hs1 (by omega) (by omega) ((g2.1 (11 + e0) (by omega)).trans (congrArg nI (upc_n (show 11 + e0 ≠ 6 by omega)))) dX7_makeAtSource_37 ?_
        refine r_isub C (pc := 38) (z := (nI ((drw (M.1 6) (wsn M.1 6)) - wsn M.1 (e0 + 1)))) ((pk_sub (by omega)).trans (congrArg nI (by omega))) dX7_makeAtSource_38 ?_
        refine r_istore_n C (pc := 39) (lv2 := [some (.ref m), some (.int (nI ((drw (M.1 6) (wsn M.1 6)) - wsn M.1 (e0 + 1)))), some (.int (nI (e0 + 1))), none]) rfl (Nat.le_of_ble_eq_true rfl) rfl rfl dX7_makeAtSource_39 ?_
        refine r_iinc C (pc := 40) (lv2 := [some (.ref m), some (.int (nI ((drw (M.1 6) (wsn M.1 6)) - wsn M.1 (e0 + 1)))), some (.int (nI (e0 + 1 + 1))), none]) (y := (nI (e0 + 1 + 1))) rfl (nI_inc _ _) (Nat.le_of_ble_eq_true rfl) rfl rfl dX7_makeAtSource_40 ?_
        refine r_goto C (pc := 43) (tgt := 11) dX7_makeAtSource_43 (by decide) ?_
        exact ih (e0 + 1) (by omega) (by omega) (by omega) hfd2
  exact loop1 7 0 (by omega) (by omega) (Nat.zero_le _) rfl
set_option maxRecDepth 100000 in
set_option maxHeartbeats 4000000 in
theorem m_X7_makeAtRelay (l : Launch) (G : zG) (sh : zH) (v : zV) (N : Nat) {m : Nat} {M : zMS} {r0 : Nat} (hp : zMD G sh N m) (hv : zwf (v (m + 1)) M) (hk : mOK M) (hr3 : r0 < 3) : zm l G yX7_makeAtRelay cX7_makeAtRelay 6 none 2 [.ref m, .int (nI (lb r0))] sh v N (fun r v1 => r = none ∧ zwf (v1 (m + 1)) (mRel M r0).2 ∧ v1 m 9 = nI ((mRel M r0).1 / 256) ∧ ((mRel M r0).1 ≠ 0 → v1 m 10 = nI ((mRel M r0).1 % 256)) ∧ fB v v1 m) := by
  refine zM.of (by decide) rfl (Nat.le_of_ble_eq_true rfl) ?_
  intro p e s mi args below meth c C
  obtain ⟨hB, hN, hs0, hs1, hs2, hs3, hs4, hs5, hs6, hs7, hs8⟩ := id hp
  have hd0 : G.2.2.1 ≤ m ∧ m < N := ⟨hB, by omega⟩
  have hd1 : G.2.2.1 ≤ m + 1 ∧ m + 1 < N := ⟨by omega, by omega⟩
  have hd2 : G.2.2.1 ≤ m + 2 ∧ m + 2 < N := ⟨by omega, by omega⟩
  have hd3 : G.2.2.1 ≤ m + 3 ∧ m + 3 < N := ⟨by omega, by omega⟩
  have hd4 : G.2.2.1 ≤ m + 4 ∧ m + 4 < N := ⟨by omega, by omega⟩
  have hd5 : G.2.2.1 ≤ m + 5 ∧ m + 5 < N := ⟨by omega, by omega⟩
  have hd6 : G.2.2.1 ≤ m + 6 ∧ m + 6 < N := ⟨by omega, by omega⟩
  have hd7 : G.2.2.1 ≤ m + 7 ∧ m + 7 < N := ⟨by omega, by omega⟩
  have hd8 : G.2.2.1 ≤ m + 8 ∧ m + 8 < N := ⟨by omega, by omega⟩
  have ht := lb_top r0 (by omega)
  have hcp : cp r0 = 4 := cp_s hr3
  have hla := hv.2.1 r0 (by omega)
  have hla2 := hla.2.1
  have hk5 := hk.1.2.2.2.2.2.2.1
  have hrk := rcs_ok (hk.2.2.1 r0 (by omega)) hk.1.2.2.2.2.2.2.2.1
  refine r_aload_n C (pc := 0) rfl rfl dX7_makeAtRelay_0 ?_
  refine r_iconst C (pc := 1) (x := (nI 0)) (by decide) dX7_makeAtRelay_1 ?_
  refine r_put C (pc := 2) (ci := 7) (k := 9) rfl (by decide) inX7 tyX7_ok nmX7 (by decide) rfl pfI rfl q_663 hd0 hs0 dX7_makeAtRelay_2 ?_
  refine VV.gn (fun w2 ew2 => ?_)
  refine r_aload_n C (pc := 5) rfl rfl dX7_makeAtRelay_5 ?_
  refine r_iconst C (pc := 6) (x := (nI 0)) (by decide) dX7_makeAtRelay_6 ?_
  refine r_put C (pc := 7) (ci := 7) (k := 10) rfl (by decide) inX7 tyX7_ok nmX7 (by decide) rfl pfI rfl q_664 hd0 hs0 dX7_makeAtRelay_7 ?_
  refine VV.gn (fun w7 ew7 => ?_)
  have hw : w7 (m + 1) = v (m + 1) := by rw [ew7, z2_addr (by omega), ew2, z2_addr (by omega)]
  have hv7 : zwf (w7 (m + 1)) M := by rw [hw]; exact hv
  have hf7 : fB v w7 m := by rw [ew7, ew2]; exact ((fB.rf).z (by decide) (by decide)).z (by decide) (by decide)
  refine r_aload_n C (pc := 10) rfl rfl dX7_makeAtRelay_10 ?_
  refine r_get C (pc := 11) (ci := 7) (k := 0) (w := .ref (m + 1)) rfl (by decide) inX7 (by decide) q_654 (Or.inl hd0) hs0 (zl_ref _ _) dX7_makeAtRelay_11 ?_
  refine r_iload_n C (pc := 14) rfl rfl dX7_makeAtRelay_14 ?_
  refine r_iald C (pc := 15) (x := (nI ((M.2.1 r0).length))) (Or.inl hd1) hs1 (by omega) (by omega) (by rw [hw]; exact hla.1) dX7_makeAtRelay_15 ?_
  refine n_if_ne C (pc := 16) (tgt := 20) (by omega) dX7_makeAtRelay_16 (by decide) (fun c_16 => ?_) (fun c_16 => ?_)
  · refine r_aload_n C (pc := 20) rfl rfl dX7_makeAtRelay_20 ?_
    refine r_get C (pc := 21) (ci := 7) (k := 0) (w := .ref (m + 1)) rfl (by decide) inX7 (by decide) q_654 (Or.inl hd0) hs0 (zl_ref _ _) dX7_makeAtRelay_21 ?_
    refine r_iload_n C (pc := 24) rfl rfl dX7_makeAtRelay_24 ?_
    refine r_iconst C (pc := 25) (x := (nI 0)) (by decide) dX7_makeAtRelay_25 ?_
    refine r_callS C (pc := 26) (st := [.ref (m + 1)]) (m_X7_setAt l G sh w7 N (a := lb r0) (k := 0)) kyX7_setAt q_743 rfl rfl (Nat.le_of_ble_eq_true rfl) ⟨Nat.le_of_ble_eq_true rfl, Nat.le_of_ble_eq_true rfl⟩ ⟨Nat.le_of_ble_eq_true rfl, Nat.le_of_ble_eq_true rfl⟩ dX7_makeAtRelay_26 (fun r26 v26 hp26 => ?_)
    obtain ⟨rfl, ehp26⟩ := hp26
    refine VV.vq ehp26 ?_
    refine VV.eq (st2 := [.int (nI (lb r0 + 1 + 2 * 0)), .ref (m + 1)]) rfl ?_
    refine r_iald C (pc := 29) (x := (nI (((M.2.1 r0).getD 0 0) / 256))) (Or.inl hd1) hs1 (by omega) (by omega) (by rw [hw]; exact (hla.2.2 0 c_16).1) dX7_makeAtRelay_29 ?_
    refine r_istore_n C (pc := 30) (lv2 := [some (.ref m), some (.int (nI (lb r0))), some (.int (nI (((M.2.1 r0).getD 0 0) / 256))), none, none, none]) rfl (Nat.le_of_ble_eq_true rfl) rfl rfl dX7_makeAtRelay_30 ?_
    refine r_aload_n C (pc := 31) rfl rfl dX7_makeAtRelay_31 ?_
    refine r_get C (pc := 32) (ci := 7) (k := 0) (w := .ref (m + 1)) rfl (by decide) inX7 (by decide) q_654 (Or.inl hd0) hs0 (zl_ref _ _) dX7_makeAtRelay_32 ?_
    refine r_iload_n C (pc := 35) rfl rfl dX7_makeAtRelay_35 ?_
    refine r_iconst C (pc := 36) (x := (nI 0)) (by decide) dX7_makeAtRelay_36 ?_
    refine r_callS C (pc := 37) (st := [.ref (m + 1)]) (m_X7_setAt l G sh w7 N (a := lb r0) (k := 0)) kyX7_setAt q_743 rfl rfl (Nat.le_of_ble_eq_true rfl) ⟨Nat.le_of_ble_eq_true rfl, Nat.le_of_ble_eq_true rfl⟩ ⟨Nat.le_of_ble_eq_true rfl, Nat.le_of_ble_eq_true rfl⟩ dX7_makeAtRelay_37 (fun r37 v37 hp37 => ?_)
    obtain ⟨rfl, ehp37⟩ := hp37
    refine VV.vq ehp37 ?_
    refine VV.eq (st2 := [.int (nI (lb r0 + 1 + 2 * 0)), .ref (m + 1)]) rfl ?_
    refine r_iconst C (pc := 40) (x := (nI 1)) (by decide) dX7_makeAtRelay_40 ?_
    refine r_iadd C (pc := 41) (z := (nI ((lb r0 + 1 + 2 * 0) + 1))) (nI_add _ _) dX7_makeAtRelay_41 ?_
    refine r_iald C (pc := 42) (x := (nI (((M.2.1 r0).getD 0 0) % 256))) (Or.inl hd1) hs1 (by omega) (by omega) (by rw [hw]; exact (hla.2.2 0 c_16).2) dX7_makeAtRelay_42 ?_
    refine r_istore_n C (pc := 43) (lv2 := [some (.ref m), some (.int (nI (lb r0))), some (.int (nI (((M.2.1 r0).getD 0 0) / 256))), some (.int (nI (((M.2.1 r0).getD 0 0) % 256))), none, none]) rfl (Nat.le_of_ble_eq_true rfl) rfl rfl dX7_makeAtRelay_43 ?_
    refine r_aload_n C (pc := 44) rfl rfl dX7_makeAtRelay_44 ?_
    refine r_get C (pc := 45) (ci := 7) (k := 0) (w := .ref (m + 1)) rfl (by decide) inX7 (by decide) q_654 (Or.inl hd0) hs0 (zl_ref _ _) dX7_makeAtRelay_45 ?_
    refine r_iconst C (pc := 48) (x := (nI 5)) (by decide) dX7_makeAtRelay_48 ?_
    refine r_iald C (pc := 49) (x := (nI (M.1 5))) (Or.inl hd1) hs1 (by omega) (by omega) (hv7.1 5 (by decide)) dX7_makeAtRelay_49 ?_
    refine n_if_ne C (pc := 50) (tgt := 77) (by omega) dX7_makeAtRelay_50 (by decide) (fun c_50 => ?_) (fun c_50 => ?_)
    · refine r_iconst C (pc := 77) (x := (nI 0)) (by decide) dX7_makeAtRelay_77 ?_
      refine r_istore C (pc := 78) (lv2 := [some (.ref m), some (.int (nI (lb r0))), some (.int (nI (((M.2.1 r0).getD 0 0) / 256))), some (.int (nI (((M.2.1 r0).getD 0 0) % 256))), some (.int (nI 0)), none]) (Nat.le_of_ble_eq_true rfl) rfl rfl dX7_makeAtRelay_78 ?_
      refine r_iconst C (pc := 80) (x := (nI 0)) (by decide) dX7_makeAtRelay_80 ?_
      refine r_istore C (pc := 81) (lv2 := [some (.ref m), some (.int (nI (lb r0))), some (.int (nI (((M.2.1 r0).getD 0 0) / 256))), some (.int (nI (((M.2.1 r0).getD 0 0) % 256))), some (.int (nI 0)), some (.int (nI 0))]) (Nat.le_of_ble_eq_true rfl) rfl rfl dX7_makeAtRelay_81 ?_
      have hlen : 0 < (M.2.1 r0).length := c_16
      have h5 : M.1 5 = 1 := by omega
      have loop : ∀ (n k : Nat) (v' : zV), (M.2.1 r0).length - k < n → k ≤ (M.2.1 r0).length → zwf (v' (m + 1)) ((upc M.1 6 (rcs (M.2.1 r0) (M.1 6) k).1), M.2) → v' m 9 = nI ((rcs (M.2.1 r0) (M.1 6) k).2.1 / 256) → v' m 10 = nI ((rcs (M.2.1 r0) (M.1 6) k).2.1 % 256) → fB v v' m → VV p l e ({ frames := 2, cells := 0, slots := 0, locals := 32 * 2 }) s mi args below meth c 0 0 (zQ below (fun r sh1 v1 N1 => sh1 = sh ∧ N1 = N ∧ (r = none ∧ zwf (v1 (m + 1)) (mRel M r0).2 ∧ v1 m 9 = nI ((mRel M r0).1 / 256) ∧ ((mRel M r0).1 ≠ 0 → v1 m 10 = nI ((mRel M r0).1 % 256)) ∧ fB v v1 m)) G args s 0 0) G 6 sh v' N 83 [some (.ref m), some (.int (nI (lb r0))), some (.int (nI (((M.2.1 r0).getD 0 0) / 256))), some (.int (nI (((M.2.1 r0).getD 0 0) % 256))), some (.int (zb ((rcs (M.2.1 r0) (M.1 6) k).2.2))), some (.int (nI k))] [] := by
        intro n
        induction n with
        | zero => intro k v' hm; omega
        | succ n ih =>
          intro k v' hm hkl0 e1 e2 e3 e4
          refine r_iload C (pc := 83) rfl dX7_makeAtRelay_83 ?_
          refine r_aload_n C (pc := 85) rfl rfl dX7_makeAtRelay_85 ?_
          refine r_get C (pc := 86) (ci := 7) (k := 0) (w := .ref (m + 1)) rfl (by decide) inX7 (by decide) q_654 (Or.inl hd0) hs0 (zl_ref _ _) dX7_makeAtRelay_86 ?_
          refine r_iload_n C (pc := 89) rfl rfl dX7_makeAtRelay_89 ?_
          have hla' : zla (v' (m + 1)) (lb r0) (cp r0) (M.2.1 r0) := e1.2.1 r0 (by omega)
          refine r_iald C (pc := 90) (x := (nI ((M.2.1 r0).length))) (Or.inl hd1) hs1 (by omega) (by omega) (hla'.1) dX7_makeAtRelay_90 ?_
          refine n_icmp_ge C (pc := 91) (tgt := 154) (by omega) (by omega) dX7_makeAtRelay_91 (by decide) (fun c_91 => ?_) (fun c_91 => ?_)
          · refine r_aload_n C (pc := 154) rfl rfl dX7_makeAtRelay_154 ?_
            refine r_iload C (pc := 155) rfl dX7_makeAtRelay_155 ?_
            refine n_ifb_eq C (pc := 157) (tgt := 167) dX7_makeAtRelay_157 (by decide) (fun c_157 => ?_) (fun c_157 => ?_)
            · refine r_iload_n C (pc := 167) rfl rfl dX7_makeAtRelay_167 ?_
              refine r_put C (pc := 168) (ci := 7) (k := 9) rfl (by decide) inX7 tyX7_ok nmX7 (by decide) rfl pfI rfl q_663 hd0 hs0 dX7_makeAtRelay_168 ?_
              refine VV.gn (fun w168 ew168 => ?_)
              refine r_aload_n C (pc := 171) rfl rfl dX7_makeAtRelay_171 ?_
              refine r_iload C (pc := 172) rfl dX7_makeAtRelay_172 ?_
              refine n_ifb_eq C (pc := 174) (tgt := 184) dX7_makeAtRelay_174 (by decide) (fun c_174 => ?_) (fun c_174 => by exfalso; rw [c_157] at c_174; cases c_174)
              refine r_iload_n C (pc := 184) rfl rfl dX7_makeAtRelay_184 ?_
              refine r_put C (pc := 185) (ci := 7) (k := 10) rfl (by decide) inX7 tyX7_ok nmX7 (by decide) rfl pfI rfl q_664 hd0 hs0 dX7_makeAtRelay_185 ?_
              refine VV.gn (fun w185 ew185 => ?_)
              exact r_vret C (pc := 188) rfl dX7_makeAtRelay_188 ⟨rfl, rfl, rfl, (by
            have hkl : k = (M.2.1 r0).length := by omega
            have hrc : rcp (M.2.1 r0) (rcs (M.2.1 r0) (M.1 6) k) = ((M.2.1 r0).getD 0 0) := by
              unfold rcp
              rw [if_neg (by rw [c_157]; decide)]
            rw [show mRel M r0 = (rcp (M.2.1 r0) (rcs (M.2.1 r0) (M.1 6) (M.2.1 r0).length), upc M.1 6 (rcs (M.2.1 r0) (M.1 6) (M.2.1 r0).length).1, M.2) from (if_neg (by omega)).trans (if_pos (by omega)), ← hkl]
            exact ⟨by rw [ew185, z2_addr (by omega), ew168, z2_addr (by omega)]; exact e1, by rw [ew185, z2_ne (by omega), ew168, z2_self, hrc], fun _ => by rw [ew185, z2_self, hrc], by rw [ew185, ew168]; exact (e4.z (by decide) (by decide)).z (by decide) (by decide)⟩)⟩
            · refine r_aload_n C (pc := 160) rfl rfl dX7_makeAtRelay_160 ?_
              refine r_get C (pc := 161) (ci := 7) (k := 9) (w := .int (nI ((rcs (M.2.1 r0) (M.1 6) k).2.1 / 256))) rfl (by decide) inX7 (by decide) q_663 (Or.inl hd0) hs0 (zl_i (e2)) dX7_makeAtRelay_161 ?_
              refine r_goto C (pc := 164) (tgt := 168) dX7_makeAtRelay_164 (by decide) ?_
              refine r_put C (pc := 168) (ci := 7) (k := 9) rfl (by decide) inX7 tyX7_ok nmX7 (by decide) rfl pfI rfl q_663 hd0 hs0 dX7_makeAtRelay_168 ?_
              refine VV.gn (fun w168 ew168 => ?_)
              refine r_aload_n C (pc := 171) rfl rfl dX7_makeAtRelay_171 ?_
              refine r_iload C (pc := 172) rfl dX7_makeAtRelay_172 ?_
              refine n_ifb_eq C (pc := 174) (tgt := 184) dX7_makeAtRelay_174 (by decide) (fun c_174 => by exfalso; rw [c_157] at c_174; cases c_174) (fun c_174 => ?_)
              refine r_aload_n C (pc := 177) rfl rfl dX7_makeAtRelay_177 ?_
              refine r_get C (pc := 178) (ci := 7) (k := 10) (w := .int (nI ((rcs (M.2.1 r0) (M.1 6) k).2.1 % 256))) rfl (by decide) inX7 (by decide) q_664 (Or.inl hd0) hs0 (zl_i (by rw [ew168, z2_ne (by omega)]; exact e3)) dX7_makeAtRelay_178 ?_
              refine r_goto C (pc := 181) (tgt := 185) dX7_makeAtRelay_181 (by decide) ?_
              refine r_put C (pc := 185) (ci := 7) (k := 10) rfl (by decide) inX7 tyX7_ok nmX7 (by decide) rfl pfI rfl q_664 hd0 hs0 dX7_makeAtRelay_185 ?_
              refine VV.gn (fun w185 ew185 => ?_)
              exact r_vret C (pc := 188) rfl dX7_makeAtRelay_188 ⟨rfl, rfl, rfl, (by
            have hkl : k = (M.2.1 r0).length := by omega
            have hrc : rcp (M.2.1 r0) (rcs (M.2.1 r0) (M.1 6) k) = if (rcs (M.2.1 r0) (M.1 6) k).2.1 / 256 = 0 then 0 else (rcs (M.2.1 r0) (M.1 6) k).2.1 := by
              unfold rcp
              rw [if_pos c_157]
            rw [show mRel M r0 = (rcp (M.2.1 r0) (rcs (M.2.1 r0) (M.1 6) (M.2.1 r0).length), upc M.1 6 (rcs (M.2.1 r0) (M.1 6) (M.2.1 r0).length).1, M.2) from (if_neg (by omega)).trans (if_pos (by omega)), ← hkl]
            exact ⟨by rw [ew185, z2_addr (by omega), ew168, z2_addr (by omega)]; exact e1, by
              rw [ew185, z2_ne (by omega), ew168, z2_self, hrc]
              split
              · rename_i h; rw [h]; exact congrArg nI (Nat.zero_div 256).symm
              · rfl, fun h => by
              rw [hrc] at h ⊢
              rw [ew185, z2_self]
              split
              · rename_i h2; rw [if_pos h2] at h; exact absurd rfl h
              · rfl, by rw [ew185, ew168]; exact (e4.z (by decide) (by decide)).z (by decide) (by decide)⟩)⟩
          · refine r_aload_n C (pc := 94) rfl rfl dX7_makeAtRelay_94 ?_
            refine r_iconst C (pc := 95) (x := (nI 2)) (by decide) dX7_makeAtRelay_95 ?_
            refine r_callV C (pc := 96) (st := []) (m_X7_draw l G sh v' N (n := 2) hp e1 (by dsimp only; rw [upc_s]; exact (hrk k).2) (by decide) (by decide)) kyX7_draw q_758 rfl (Or.inl hd0) hs0 (by decide) rfl rfl rfl (Nat.le_of_ble_eq_true rfl) ⟨Nat.le_of_ble_eq_true rfl, Nat.le_of_ble_eq_true rfl⟩ ⟨Nat.le_of_ble_eq_true rfl, Nat.le_of_ble_eq_true rfl⟩ dX7_makeAtRelay_96 (fun r96 v96 hp96 => ?_)
            obtain ⟨rfl, g4, g5⟩ := hp96
            refine VV.eq (st2 := [.int (nI (drw ((upc M.1 6 (rcs (M.2.1 r0) (M.1 6) k).1) 6) 2))]) rfl ?_
            dsimp only at g4
            rw [upc_s, upc_upc] at g4
            rw [show (upc M.1 6 (rcs (M.2.1 r0) (M.1 6) k).1) 6 = (rcs (M.2.1 r0) (M.1 6) k).1 from upc_s _ _ _]
            refine r_iconst C (pc := 99) (x := (nI 1)) (by decide) dX7_makeAtRelay_99 ?_
            refine n_icmp_ne C (pc := 100) (tgt := 148) (by have := drw_lt (rcs (M.2.1 r0) (M.1 6) k).1 (n := 2) (by decide); omega) (by decide) dX7_makeAtRelay_100 (by decide) (fun c_100 => ?_) (fun c_100 => ?_)
            · skip
              refine r_iinc C (pc := 148) (lv2 := [some (.ref m), some (.int (nI (lb r0))), some (.int (nI (((M.2.1 r0).getD 0 0) / 256))), some (.int (nI (((M.2.1 r0).getD 0 0) % 256))), some (.int (zb ((rcs (M.2.1 r0) (M.1 6) k).2.2))), some (.int (nI (k + 1)))]) (y := (nI (k + 1))) rfl (nI_inc _ _) (Nat.le_of_ble_eq_true rfl) rfl rfl dX7_makeAtRelay_148 ?_
              refine r_goto C (pc := 151) (tgt := 83) dX7_makeAtRelay_151 (by decide) ?_
              have hs : (rcs (M.2.1 r0) (M.1 6) (k + 1)) = (dseed (rcs (M.2.1 r0) (M.1 6) k).1, (rcs (M.2.1 r0) (M.1 6) k).2.1, (rcs (M.2.1 r0) (M.1 6) k).2.2) := if_neg c_100
              have := ih (k + 1) v96 (by omega) (by omega)
              rw [hs] at this
              exact this g4 (by rw [g5 m (by omega)]; exact e2) (by rw [g5 m (by omega)]; exact e3) (e4.tr g5.B)
            · refine r_iconst C (pc := 103) (x := (nI 1)) (by decide) dX7_makeAtRelay_103 ?_
              refine r_istore C (pc := 104) (lv2 := [some (.ref m), some (.int (nI (lb r0))), some (.int (nI (((M.2.1 r0).getD 0 0) / 256))), some (.int (nI (((M.2.1 r0).getD 0 0) % 256))), some (.int (nI 1)), some (.int (nI k))]) (Nat.le_of_ble_eq_true rfl) rfl rfl dX7_makeAtRelay_104 ?_
              refine r_aload_n C (pc := 106) rfl rfl dX7_makeAtRelay_106 ?_
              refine r_dup C (pc := 107) rfl dX7_makeAtRelay_107 ?_
              have hlb : zla (v96 (m + 1)) (lb r0) (cp r0) (M.2.1 r0) := g4.2.1 r0 (by omega)
              have hkk : k < (M.2.1 r0).length := by omega
              refine r_get C (pc := 108) (ci := 7) (k := 9) (w := .int (nI ((rcs (M.2.1 r0) (M.1 6) k).2.1 / 256))) rfl (by decide) inX7 (by decide) q_663 (Or.inl hd0) hs0 (zl_i (by rw [g5 m (by omega)]; exact e2)) dX7_makeAtRelay_108 ?_
              refine r_aload_n C (pc := 111) rfl rfl dX7_makeAtRelay_111 ?_
              refine r_get C (pc := 112) (ci := 7) (k := 0) (w := .ref (m + 1)) rfl (by decide) inX7 (by decide) q_654 (Or.inl hd0) hs0 (zl_ref _ _) dX7_makeAtRelay_112 ?_
              refine r_iload_n C (pc := 115) rfl rfl dX7_makeAtRelay_115 ?_
              refine r_iload C (pc := 116) rfl dX7_makeAtRelay_116 ?_
              refine r_callS C (pc := 118) (st := [.ref (m + 1), .int (nI ((rcs (M.2.1 r0) (M.1 6) k).2.1 / 256)), .ref m]) (m_X7_setAt l G sh v96 N (a := lb r0) (k := k)) kyX7_setAt q_743 rfl rfl (Nat.le_of_ble_eq_true rfl) ⟨Nat.le_of_ble_eq_true rfl, Nat.le_of_ble_eq_true rfl⟩ ⟨Nat.le_of_ble_eq_true rfl, Nat.le_of_ble_eq_true rfl⟩ dX7_makeAtRelay_118 (fun r118 v118 hp118 => ?_)
              obtain ⟨rfl, ehp118⟩ := hp118
              refine VV.vq ehp118 ?_
              refine VV.eq (st2 := [.int (nI (lb r0 + 1 + 2 * k)), .ref (m + 1), .int (nI ((rcs (M.2.1 r0) (M.1 6) k).2.1 / 256)), .ref m]) rfl ?_
              refine r_iald C (pc := 121) (x := (nI ((M.2.1 r0).getD k 0 / 256))) (Or.inl hd1) hs1 (by omega) (by omega) ((hlb.2.2 k hkk).1) dX7_makeAtRelay_121 ?_
              refine r_ixor C (pc := 122) (z := (nI (((rcs (M.2.1 r0) (M.1 6) k).2.1 / 256) ^^^ ((M.2.1 r0).getD k 0 / 256)))) (nx_xor _ _) dX7_makeAtRelay_122 ?_
              refine r_put C (pc := 123) (ci := 7) (k := 9) rfl (by decide) inX7 tyX7_ok nmX7 (by decide) rfl pfI rfl q_663 hd0 hs0 dX7_makeAtRelay_123 ?_
              refine VV.gn (fun w123 ew123 => ?_)
              refine r_aload_n C (pc := 126) rfl rfl dX7_makeAtRelay_126 ?_
              refine r_dup C (pc := 127) rfl dX7_makeAtRelay_127 ?_
              refine r_get C (pc := 128) (ci := 7) (k := 10) (w := .int (nI ((rcs (M.2.1 r0) (M.1 6) k).2.1 % 256))) rfl (by decide) inX7 (by decide) q_664 (Or.inl hd0) hs0 (zl_i (by rw [ew123, z2_ne (by omega), g5 m (by omega)]; exact e3)) dX7_makeAtRelay_128 ?_
              refine r_aload_n C (pc := 131) rfl rfl dX7_makeAtRelay_131 ?_
              refine r_get C (pc := 132) (ci := 7) (k := 0) (w := .ref (m + 1)) rfl (by decide) inX7 (by decide) q_654 (Or.inl hd0) hs0 (zl_ref _ _) dX7_makeAtRelay_132 ?_
              refine r_iload_n C (pc := 135) rfl rfl dX7_makeAtRelay_135 ?_
              refine r_iload C (pc := 136) rfl dX7_makeAtRelay_136 ?_
              refine r_callS C (pc := 138) (st := [.ref (m + 1), .int (nI ((rcs (M.2.1 r0) (M.1 6) k).2.1 % 256)), .ref m]) (m_X7_setAt l G sh w123 N (a := lb r0) (k := k)) kyX7_setAt q_743 rfl rfl (Nat.le_of_ble_eq_true rfl) ⟨Nat.le_of_ble_eq_true rfl, Nat.le_of_ble_eq_true rfl⟩ ⟨Nat.le_of_ble_eq_true rfl, Nat.le_of_ble_eq_true rfl⟩ dX7_makeAtRelay_138 (fun r138 v138 hp138 => ?_)
              obtain ⟨rfl, ehp138⟩ := hp138
              refine VV.vq ehp138 ?_
              refine VV.eq (st2 := [.int (nI (lb r0 + 1 + 2 * k)), .ref (m + 1), .int (nI ((rcs (M.2.1 r0) (M.1 6) k).2.1 % 256)), .ref m]) rfl ?_
              refine r_iconst C (pc := 141) (x := (nI 1)) (by decide) dX7_makeAtRelay_141 ?_
              refine r_iadd C (pc := 142) (z := (nI ((lb r0 + 1 + 2 * k) + 1))) (nI_add _ _) dX7_makeAtRelay_142 ?_
              refine r_iald C (pc := 143) (x := (nI ((M.2.1 r0).getD k 0 % 256))) (Or.inl hd1) hs1 (by omega) (by omega) (by rw [ew123, z2_addr (by omega)]; exact (hlb.2.2 k hkk).2) dX7_makeAtRelay_143 ?_
              refine r_ixor C (pc := 144) (z := (nI (((rcs (M.2.1 r0) (M.1 6) k).2.1 % 256) ^^^ ((M.2.1 r0).getD k 0 % 256)))) (nx_xor _ _) dX7_makeAtRelay_144 ?_
              refine r_put C (pc := 145) (ci := 7) (k := 10) rfl (by decide) inX7 tyX7_ok nmX7 (by decide) rfl pfI rfl q_664 hd0 hs0 dX7_makeAtRelay_145 ?_
              refine VV.gn (fun w145 ew145 => ?_)
              have hw145 : w145 (m + 1) = v96 (m + 1) := by rw [ew145, z2_addr (by omega), ew123, z2_addr (by omega)]
              refine r_iinc C (pc := 148) (lv2 := [some (.ref m), some (.int (nI (lb r0))), some (.int (nI (((M.2.1 r0).getD 0 0) / 256))), some (.int (nI (((M.2.1 r0).getD 0 0) % 256))), some (.int (nI 1)), some (.int (nI (k + 1)))]) (y := (nI (k + 1))) rfl (nI_inc _ _) (Nat.le_of_ble_eq_true rfl) rfl rfl dX7_makeAtRelay_148 ?_
              refine r_goto C (pc := 151) (tgt := 83) dX7_makeAtRelay_151 (by decide) ?_
              have hs : (rcs (M.2.1 r0) (M.1 6) (k + 1)) = (dseed (rcs (M.2.1 r0) (M.1 6) k).1, (rcs (M.2.1 r0) (M.1 6) k).2.1 ^^^ (M.2.1 r0).getD k 0, true) := if_pos c_100
              have := ih (k + 1) w145 (by omega) (by omega)
              rw [hs, show zb true = nI 1 by decide] at this
              exact this (by rw [hw145]; exact g4) (by rw [ew145, z2_ne (by omega), ew123, z2_self, x_div]) (by rw [ew145, z2_self, x_mod]) (by rw [ew145, ew123]; exact ((e4.tr g5.B).z (by decide) (by decide)).z (by decide) (by decide))
      have hgo := loop ((M.2.1 r0).length + 1) 0 w7 (by omega) (by omega) (by show zwf _ (upc M.1 6 (M.1 6), M.2); rw [upc_id]; exact hv7) (by rw [ew7, z2_ne (by omega), ew2, z2_self]; exact congrArg nI (Nat.zero_div 256).symm) (by rw [ew7, z2_self]; exact congrArg nI (Nat.zero_mod 256).symm) hf7
      exact hgo
    · refine r_aload_n C (pc := 53) rfl rfl dX7_makeAtRelay_53 ?_
      refine r_iload_n C (pc := 54) rfl rfl dX7_makeAtRelay_54 ?_
      refine r_iconst C (pc := 55) (x := (nI 0)) (by decide) dX7_makeAtRelay_55 ?_
      refine r_callV C (pc := 56) (st := []) (m_X7_drop l G sh w7 N (k := 0) hp hv7 (by omega) c_16) kyX7_drop q_739 rfl (Or.inl hd0) hs0 (by decide) rfl rfl rfl (Nat.le_of_ble_eq_true rfl) ⟨Nat.le_of_ble_eq_true rfl, Nat.le_of_ble_eq_true rfl⟩ ⟨Nat.le_of_ble_eq_true rfl, Nat.le_of_ble_eq_true rfl⟩ dX7_makeAtRelay_56 (fun r56 v56 hp56 => ?_)
      obtain ⟨rfl, g1, g2⟩ := hp56
      refine VV.eq (st2 := []) rfl ?_
      refine r_aload_n C (pc := 59) rfl rfl dX7_makeAtRelay_59 ?_
      refine r_iload_n C (pc := 60) rfl rfl dX7_makeAtRelay_60 ?_
      refine r_iload_n C (pc := 61) rfl rfl dX7_makeAtRelay_61 ?_
      refine r_iload_n C (pc := 62) rfl rfl dX7_makeAtRelay_62 ?_
      refine r_callV C (pc := 63) (st := []) (m_X7_append2 l G sh v56 N (q := ((M.2.1 r0).getD 0 0)) hp g1 (by omega) (by rw [List.length_eraseIdx_of_lt c_16]; omega)) kyX7_append q_774 rfl (Or.inl hd0) hs0 (by decide) rfl rfl rfl (Nat.le_of_ble_eq_true rfl) ⟨Nat.le_of_ble_eq_true rfl, Nat.le_of_ble_eq_true rfl⟩ ⟨Nat.le_of_ble_eq_true rfl, Nat.le_of_ble_eq_true rfl⟩ dX7_makeAtRelay_63 (fun r63 v63 hp63 => ?_)
      obtain ⟨rfl, g3, g4⟩ := hp63
      refine VV.eq (st2 := []) rfl ?_
      refine r_aload_n C (pc := 66) rfl rfl dX7_makeAtRelay_66 ?_
      refine r_iload_n C (pc := 67) rfl rfl dX7_makeAtRelay_67 ?_
      refine r_put C (pc := 68) (ci := 7) (k := 9) rfl (by decide) inX7 tyX7_ok nmX7 (by decide) rfl pfI rfl q_663 hd0 hs0 dX7_makeAtRelay_68 ?_
      refine VV.gn (fun w68 ew68 => ?_)
      refine r_aload_n C (pc := 71) rfl rfl dX7_makeAtRelay_71 ?_
      refine r_iload_n C (pc := 72) rfl rfl dX7_makeAtRelay_72 ?_
      refine r_put C (pc := 73) (ci := 7) (k := 10) rfl (by decide) inX7 tyX7_ok nmX7 (by decide) rfl pfI rfl q_664 hd0 hs0 dX7_makeAtRelay_73 ?_
      refine VV.gn (fun w73 ew73 => ?_)
      exact r_vret C (pc := 76) rfl dX7_makeAtRelay_76 ⟨rfl, rfl, rfl, (by rw [show mRel M r0 = (((M.2.1 r0).getD 0 0), M.1, upl M.2.1 r0 ((M.2.1 r0).eraseIdx 0 ++ [((M.2.1 r0).getD 0 0)]), M.2.2) from (if_neg (by omega)).trans (if_neg (by omega))]; exact ⟨by rw [ew73, z2_addr (by omega), ew68, z2_addr (by omega)]; exact g3, by rw [ew73, z2_ne (by omega), ew68, z2_self], fun _ => by rw [ew73, z2_self], by rw [ew73, ew68]; exact (((hf7.tr g2.B).tr g4.B).z (by decide) (by decide)).z (by decide) (by decide)⟩)⟩
  · exact r_vret C (pc := 19) rfl dX7_makeAtRelay_19 ⟨rfl, rfl, rfl, (by rw [show mRel M r0 = (0, M) from if_pos c_16]; exact ⟨hv7, by rw [ew7, z2_ne (by omega), ew2, z2_self]; exact congrArg nI (Nat.zero_div 256).symm, fun h => absurd rfl h, hf7⟩)⟩
set_option maxRecDepth 100000 in
set_option maxHeartbeats 4000000 in
theorem m_X7_arriveAtRelay (l : Launch) (G : zG) (sh : zH) (v : zV) (N : Nat) {m : Nat} {M : zMS} {r0 x : Nat} (hp : zMD G sh N m) (hv : zwf (v (m + 1)) M) (hk : mOK M) (hr3 : r0 < 3) (hx : con (zVl M) x) : zm l G yX7_arriveAtRelay cX7_arriveAtRelay 7 none 3 [.ref m, .int (nI (lb r0)), .int (nI (x / 256)), .int (nI (x % 256))] sh v N (fun r v1 => r = none ∧ zwf (v1 (m + 1)) (mSto M r0 x) ∧ fB v v1 m) := by
  refine zM.of (by decide) rfl (Nat.le_of_ble_eq_true rfl) ?_
  intro p e s mi args below meth c C
  obtain ⟨hB, hN, hs0, hs1, hs2, hs3, hs4, hs5, hs6, hs7, hs8⟩ := id hp
  have hd0 : G.2.2.1 ≤ m ∧ m < N := ⟨hB, by omega⟩
  have hd1 : G.2.2.1 ≤ m + 1 ∧ m + 1 < N := ⟨by omega, by omega⟩
  have hd2 : G.2.2.1 ≤ m + 2 ∧ m + 2 < N := ⟨by omega, by omega⟩
  have hd3 : G.2.2.1 ≤ m + 3 ∧ m + 3 < N := ⟨by omega, by omega⟩
  have hd4 : G.2.2.1 ≤ m + 4 ∧ m + 4 < N := ⟨by omega, by omega⟩
  have hd5 : G.2.2.1 ≤ m + 5 ∧ m + 5 < N := ⟨by omega, by omega⟩
  have hd6 : G.2.2.1 ≤ m + 6 ∧ m + 6 < N := ⟨by omega, by omega⟩
  have hd7 : G.2.2.1 ≤ m + 7 ∧ m + 7 < N := ⟨by omega, by omega⟩
  have hd8 : G.2.2.1 ≤ m + 8 ∧ m + 8 < N := ⟨by omega, by omega⟩
  have ht := lb_top r0 (by omega)
  have hcp : cp r0 = 4 := cp_s hr3
  have hla := hv.2.1 r0 (by omega)
  have hla2 := hla.2.1
  have hcl := hk.2.2.1 r0 (by omega)
  have hps : ∀ q ∈ M.2.1 r0, q < 2 ^ 20 := fun q hq => (hcl q hq).1
  have hk3 := hk.1.2.2.2.1
  have hk34 := hk.1.2.2.2.2.1
  have hk4 := hk.1.2.2.2.2.2.1
  refine r_aload_n C (pc := 0) rfl rfl dX7_arriveAtRelay_0 ?_
  refine r_get C (pc := 1) (ci := 7) (k := 0) (w := .ref (m + 1)) rfl (by decide) inX7 (by decide) q_654 (Or.inl hd0) hs0 (zl_ref _ _) dX7_arriveAtRelay_1 ?_
  refine r_iconst C (pc := 4) (x := (nI 4)) (by decide) dX7_arriveAtRelay_4 ?_
  refine r_iald C (pc := 5) (x := (nI (M.1 4))) (Or.inl hd1) hs1 (by omega) (by omega) (hv.1 4 (by decide)) dX7_arriveAtRelay_5 ?_
  refine r_iconst C (pc := 6) (x := (nI 2)) (by decide) dX7_arriveAtRelay_6 ?_
  refine n_icmp_ne C (pc := 7) (tgt := 19) (by omega) (by decide) dX7_arriveAtRelay_7 (by decide) (fun c_7 => ?_) (fun c_7 => ?_)
  · refine r_iconst C (pc := 19) (x := (nI 1)) (by decide) dX7_arriveAtRelay_19 ?_
    refine r_goto C (pc := 20) (tgt := 24) dX7_arriveAtRelay_20 (by decide) ?_
    refine r_istore C (pc := 24) (lv2 := [some (.ref m), some (.int (nI (lb r0))), some (.int (nI (x / 256))), some (.int (nI (x % 256))), some (.int (nI 1)), none, none]) (Nat.le_of_ble_eq_true rfl) rfl rfl dX7_arriveAtRelay_24 ?_
    refine r_aload_n C (pc := 26) rfl rfl dX7_arriveAtRelay_26 ?_
    refine r_get C (pc := 27) (ci := 7) (k := 0) (w := .ref (m + 1)) rfl (by decide) inX7 (by decide) q_654 (Or.inl hd0) hs0 (zl_ref _ _) dX7_arriveAtRelay_27 ?_
    refine r_iload_n C (pc := 30) rfl rfl dX7_arriveAtRelay_30 ?_
    refine r_iald C (pc := 31) (x := (nI ((M.2.1 r0).length))) (Or.inl hd1) hs1 (by omega) (by omega) ((hv.2.1 r0 (by omega)).1) dX7_arriveAtRelay_31 ?_
    refine r_aload_n C (pc := 32) rfl rfl dX7_arriveAtRelay_32 ?_
    refine r_get C (pc := 33) (ci := 7) (k := 0) (w := .ref (m + 1)) rfl (by decide) inX7 (by decide) q_654 (Or.inl hd0) hs0 (zl_ref _ _) dX7_arriveAtRelay_33 ?_
    refine r_iconst C (pc := 36) (x := (nI 3)) (by decide) dX7_arriveAtRelay_36 ?_
    refine r_iald C (pc := 37) (x := (nI (M.1 3))) (Or.inl hd1) hs1 (by omega) (by omega) (hv.1 3 (by decide)) dX7_arriveAtRelay_37 ?_
    refine n_icmp_ge C (pc := 38) (tgt := 54) (by omega) (by omega) dX7_arriveAtRelay_38 (by decide) (fun c_38 => ?_) (fun c_38 => ?_)
    · refine r_aload_n C (pc := 54) rfl rfl dX7_arriveAtRelay_54 ?_
      refine r_get C (pc := 55) (ci := 7) (k := 0) (w := .ref (m + 1)) rfl (by decide) inX7 (by decide) q_654 (Or.inl hd0) hs0 (zl_ref _ _) dX7_arriveAtRelay_55 ?_
      refine r_iconst C (pc := 58) (x := (nI 4)) (by decide) dX7_arriveAtRelay_58 ?_
      refine r_iald C (pc := 59) (x := (nI (M.1 4))) (Or.inl hd1) hs1 (by omega) (by omega) (hv.1 4 (by decide)) dX7_arriveAtRelay_59 ?_
      rcases (show M.1 4 = 0 ∨ M.1 4 = 1 ∨ M.1 4 = 3 by omega) with h4 | h4 | h4
      · refine r_tableIn C (pc := 60) (off := 28) (tgt := 88) dX7_arriveAtRelay_60 (by rw [h4]; decide) (by rw [h4]; decide) (by rw [h4]; rfl) (by decide) ?_
        refine r_aload_n C (pc := 88) rfl rfl dX7_arriveAtRelay_88 ?_
        refine r_iload_n C (pc := 89) rfl rfl dX7_arriveAtRelay_89 ?_
        refine r_iconst C (pc := 90) (x := (nI 0)) (by decide) dX7_arriveAtRelay_90 ?_
        refine r_callV C (pc := 91) (st := []) (m_X7_drop l G sh v N (k := 0) hp hv (by omega) (by omega)) kyX7_drop q_739 rfl (Or.inl hd0) hs0 (by decide) rfl rfl rfl (Nat.le_of_ble_eq_true rfl) ⟨Nat.le_of_ble_eq_true rfl, Nat.le_of_ble_eq_true rfl⟩ ⟨Nat.le_of_ble_eq_true rfl, Nat.le_of_ble_eq_true rfl⟩ dX7_arriveAtRelay_91 (fun r91 v91 hp91 => ?_)
        obtain ⟨rfl, g3, g4⟩ := hp91
        refine VV.eq (st2 := []) rfl ?_
        refine r_aload_n C (pc := 94) rfl rfl dX7_arriveAtRelay_94 ?_
        refine r_iload_n C (pc := 95) rfl rfl dX7_arriveAtRelay_95 ?_
        refine r_iload_n C (pc := 96) rfl rfl dX7_arriveAtRelay_96 ?_
        refine r_iload_n C (pc := 97) rfl rfl dX7_arriveAtRelay_97 ?_
        refine r_callV C (pc := 98) (st := []) (m_X7_append2 l G sh v91 N (q := x) hp g3 (by omega) (by rw [List.length_eraseIdx_of_lt (by first | exact mcb_lt _ _ (by omega) | omega)]; omega)) kyX7_append q_774 rfl (Or.inl hd0) hs0 (by decide) rfl rfl rfl (Nat.le_of_ble_eq_true rfl) ⟨Nat.le_of_ble_eq_true rfl, Nat.le_of_ble_eq_true rfl⟩ ⟨Nat.le_of_ble_eq_true rfl, Nat.le_of_ble_eq_true rfl⟩ dX7_arriveAtRelay_98 (fun r98 v98 hp98 => ?_)
        obtain ⟨rfl, g5, g6⟩ := hp98
        refine VV.eq (st2 := []) rfl ?_
        refine r_goto C (pc := 101) (tgt := 183) dX7_arriveAtRelay_101 (by decide) ?_
        exact r_vret C (pc := 183) rfl dX7_arriveAtRelay_183 ⟨rfl, rfl, rfl, (by unfold mSto; rw [if_neg (fun z => c_7 z.1), if_neg (by omega), if_neg (by omega), if_neg (by omega), if_neg (by omega)]; exact ⟨g5, ((fB.rf).tr g4.B).tr g6.B⟩)⟩
      · refine r_tableIn C (pc := 60) (off := 44) (tgt := 104) dX7_arriveAtRelay_60 (by rw [h4]; decide) (by rw [h4]; decide) (by rw [h4]; rfl) (by decide) ?_
        refine r_goto C (pc := 104) (tgt := 183) dX7_arriveAtRelay_104 (by decide) ?_
        exact r_vret C (pc := 183) rfl dX7_arriveAtRelay_183 ⟨rfl, rfl, rfl, (by unfold mSto; rw [if_neg (fun z => c_7 z.1), if_neg (by omega), if_pos h4]; exact ⟨hv, fB.rf⟩)⟩
      · refine r_tableOut C (pc := 60) (tgt := 133) dX7_arriveAtRelay_60 (Or.inr (by rw [h4]; decide)) (by decide) ?_
        refine r_aload_n C (pc := 133) rfl rfl dX7_arriveAtRelay_133 ?_
        refine r_get C (pc := 134) (ci := 7) (k := 0) (w := .ref (m + 1)) rfl (by decide) inX7 (by decide) q_654 (Or.inl hd0) hs0 (zl_ref _ _) dX7_arriveAtRelay_134 ?_
        refine r_iload_n C (pc := 137) rfl rfl dX7_arriveAtRelay_137 ?_
        refine r_iconst C (pc := 138) (x := (nI 0)) (by decide) dX7_arriveAtRelay_138 ?_
        refine r_callS C (pc := 139) (st := [.ref (m + 1)]) (m_X7_setAt l G sh v N (a := lb r0) (k := 0)) kyX7_setAt q_743 rfl rfl (Nat.le_of_ble_eq_true rfl) ⟨Nat.le_of_ble_eq_true rfl, Nat.le_of_ble_eq_true rfl⟩ ⟨Nat.le_of_ble_eq_true rfl, Nat.le_of_ble_eq_true rfl⟩ dX7_arriveAtRelay_139 (fun r139 v139 hp139 => ?_)
        obtain ⟨rfl, ehp139⟩ := hp139
        refine VV.vq ehp139 ?_
        refine VV.eq (st2 := [.int (nI (lb r0 + 1 + 2 * 0)), .ref (m + 1)]) rfl ?_
        refine r_iald C (pc := 142) (x := (nI (((M.2.1 r0).getD 0 0) / 256))) (Or.inl hd1) hs1 (by omega) (by omega) (((hv.2.1 r0 (by omega)).2.2 0 (by omega)).1) dX7_arriveAtRelay_142 ?_
        refine r_iload_n C (pc := 143) rfl rfl dX7_arriveAtRelay_143 ?_
        refine r_ixor C (pc := 144) (z := (nI ((((M.2.1 r0).getD 0 0) ^^^ x) / 256))) (by rw [nx_xor, x_div]) dX7_arriveAtRelay_144 ?_
        refine r_istore C (pc := 145) (lv2 := [some (.ref m), some (.int (nI (lb r0))), some (.int (nI (x / 256))), some (.int (nI (x % 256))), some (.int (nI 1)), some (.int (nI ((((M.2.1 r0).getD 0 0) ^^^ x) / 256))), none]) (Nat.le_of_ble_eq_true rfl) rfl rfl dX7_arriveAtRelay_145 ?_
        refine r_aload_n C (pc := 147) rfl rfl dX7_arriveAtRelay_147 ?_
        refine r_get C (pc := 148) (ci := 7) (k := 0) (w := .ref (m + 1)) rfl (by decide) inX7 (by decide) q_654 (Or.inl hd0) hs0 (zl_ref _ _) dX7_arriveAtRelay_148 ?_
        refine r_iload_n C (pc := 151) rfl rfl dX7_arriveAtRelay_151 ?_
        refine r_iconst C (pc := 152) (x := (nI 0)) (by decide) dX7_arriveAtRelay_152 ?_
        refine r_callS C (pc := 153) (st := [.ref (m + 1)]) (m_X7_setAt l G sh v N (a := lb r0) (k := 0)) kyX7_setAt q_743 rfl rfl (Nat.le_of_ble_eq_true rfl) ⟨Nat.le_of_ble_eq_true rfl, Nat.le_of_ble_eq_true rfl⟩ ⟨Nat.le_of_ble_eq_true rfl, Nat.le_of_ble_eq_true rfl⟩ dX7_arriveAtRelay_153 (fun r153 v153 hp153 => ?_)
        obtain ⟨rfl, ehp153⟩ := hp153
        refine VV.vq ehp153 ?_
        refine VV.eq (st2 := [.int (nI (lb r0 + 1 + 2 * 0)), .ref (m + 1)]) rfl ?_
        refine r_iconst C (pc := 156) (x := (nI 1)) (by decide) dX7_arriveAtRelay_156 ?_
        refine r_iadd C (pc := 157) (z := (nI ((lb r0 + 1 + 2 * 0) + 1))) (nI_add _ _) dX7_arriveAtRelay_157 ?_
        refine r_iald C (pc := 158) (x := (nI (((M.2.1 r0).getD 0 0) % 256))) (Or.inl hd1) hs1 (by omega) (by omega) (((hv.2.1 r0 (by omega)).2.2 0 (by omega)).2) dX7_arriveAtRelay_158 ?_
        refine r_iload_n C (pc := 159) rfl rfl dX7_arriveAtRelay_159 ?_
        refine r_ixor C (pc := 160) (z := (nI ((((M.2.1 r0).getD 0 0) ^^^ x) % 256))) (by rw [nx_xor, x_mod]) dX7_arriveAtRelay_160 ?_
        refine r_istore C (pc := 161) (lv2 := [some (.ref m), some (.int (nI (lb r0))), some (.int (nI (x / 256))), some (.int (nI (x % 256))), some (.int (nI 1)), some (.int (nI ((((M.2.1 r0).getD 0 0) ^^^ x) / 256))), some (.int (nI ((((M.2.1 r0).getD 0 0) ^^^ x) % 256)))]) (Nat.le_of_ble_eq_true rfl) rfl rfl dX7_arriveAtRelay_161 ?_
        refine r_aload_n C (pc := 163) rfl rfl dX7_arriveAtRelay_163 ?_
        refine r_iload_n C (pc := 164) rfl rfl dX7_arriveAtRelay_164 ?_
        refine r_iconst C (pc := 165) (x := (nI 0)) (by decide) dX7_arriveAtRelay_165 ?_
        refine r_callV C (pc := 166) (st := []) (m_X7_drop l G sh v N (k := 0) hp hv (by omega) (by omega)) kyX7_drop q_739 rfl (Or.inl hd0) hs0 (by decide) rfl rfl rfl (Nat.le_of_ble_eq_true rfl) ⟨Nat.le_of_ble_eq_true rfl, Nat.le_of_ble_eq_true rfl⟩ ⟨Nat.le_of_ble_eq_true rfl, Nat.le_of_ble_eq_true rfl⟩ dX7_arriveAtRelay_166 (fun r166 v166 hp166 => ?_)
        obtain ⟨rfl, g3, g4⟩ := hp166
        refine VV.eq (st2 := []) rfl ?_
        refine r_iload C (pc := 169) rfl dX7_arriveAtRelay_169 ?_
        refine n_if_eq C (pc := 171) (tgt := 183) (by have := (con_xor (con_gd (i := 0) hcl) hx).1; omega) dX7_arriveAtRelay_171 (by decide) (fun c_171 => ?_) (fun c_171 => ?_)
        · exact r_vret C (pc := 183) rfl dX7_arriveAtRelay_183 ⟨rfl, rfl, rfl, (by unfold mSto; rw [if_neg (fun z => c_7 z.1), if_neg (by omega), if_neg (by omega), if_neg (by omega), if_pos h4, if_pos c_171]; exact ⟨g3, (fB.rf).tr g4.B⟩)⟩
        · refine r_aload_n C (pc := 174) rfl rfl dX7_arriveAtRelay_174 ?_
          refine r_iload_n C (pc := 175) rfl rfl dX7_arriveAtRelay_175 ?_
          refine r_iload C (pc := 176) rfl dX7_arriveAtRelay_176 ?_
          refine r_iload C (pc := 178) rfl dX7_arriveAtRelay_178 ?_
          refine r_callV C (pc := 180) (st := []) (m_X7_append2 l G sh v166 N (q := ((M.2.1 r0).getD 0 0) ^^^ x) hp g3 (by omega) (by rw [List.length_eraseIdx_of_lt (by first | exact mcb_lt _ _ (by omega) | omega)]; omega)) kyX7_append q_774 rfl (Or.inl hd0) hs0 (by decide) rfl rfl rfl (Nat.le_of_ble_eq_true rfl) ⟨Nat.le_of_ble_eq_true rfl, Nat.le_of_ble_eq_true rfl⟩ ⟨Nat.le_of_ble_eq_true rfl, Nat.le_of_ble_eq_true rfl⟩ dX7_arriveAtRelay_180 (fun r180 v180 hp180 => ?_)
          obtain ⟨rfl, g5, g6⟩ := hp180
          refine VV.eq (st2 := []) rfl ?_
          exact r_vret C (pc := 183) rfl dX7_arriveAtRelay_183 ⟨rfl, rfl, rfl, (by unfold mSto; rw [if_neg (fun z => c_7 z.1), if_neg (by omega), if_neg (by omega), if_neg (by omega), if_pos h4, if_neg (by omega)]; exact ⟨g5, ((fB.rf).tr g4.B).tr g6.B⟩)⟩
    · refine r_iload C (pc := 41) rfl dX7_arriveAtRelay_41 ?_
      refine n_if_eq C (pc := 43) (tgt := 53) (by omega) dX7_arriveAtRelay_43 (by decide) (fun c_43 => by exfalso; omega) (fun c_43 => ?_)
      refine r_aload_n C (pc := 46) rfl rfl dX7_arriveAtRelay_46 ?_
      refine r_iload_n C (pc := 47) rfl rfl dX7_arriveAtRelay_47 ?_
      refine r_iload_n C (pc := 48) rfl rfl dX7_arriveAtRelay_48 ?_
      refine r_iload_n C (pc := 49) rfl rfl dX7_arriveAtRelay_49 ?_
      refine r_callV C (pc := 50) (st := []) (m_X7_append l G sh v N (q := x) hp hv (by omega) (by omega)) kyX7_append q_774 rfl (Or.inl hd0) hs0 (by decide) rfl rfl rfl (Nat.le_of_ble_eq_true rfl) ⟨Nat.le_of_ble_eq_true rfl, Nat.le_of_ble_eq_true rfl⟩ ⟨Nat.le_of_ble_eq_true rfl, Nat.le_of_ble_eq_true rfl⟩ dX7_arriveAtRelay_50 (fun r50 v50 hp50 => ?_)
      obtain ⟨rfl, g3, g4⟩ := hp50
      refine VV.eq (st2 := []) rfl ?_
      exact r_vret C (pc := 53) rfl dX7_arriveAtRelay_53 ⟨rfl, rfl, rfl, (by unfold mSto; rw [if_neg (fun z => c_7 z.1), if_pos c_38]; exact ⟨g3, (fB.rf).tr g4.B⟩)⟩
  · refine r_aload_n C (pc := 10) rfl rfl dX7_arriveAtRelay_10 ?_
    refine r_iload_n C (pc := 11) rfl rfl dX7_arriveAtRelay_11 ?_
    refine r_iload_n C (pc := 12) rfl rfl dX7_arriveAtRelay_12 ?_
    refine r_callV C (pc := 13) (st := []) (m_X7_isNovel l G sh v N (x := x) hp hv (by omega) hps hx.1) kyX7_isNovel q_782 rfl (Or.inl hd0) hs0 (by decide) rfl rfl rfl (Nat.le_of_ble_eq_true rfl) ⟨Nat.le_of_ble_eq_true rfl, Nat.le_of_ble_eq_true rfl⟩ ⟨Nat.le_of_ble_eq_true rfl, Nat.le_of_ble_eq_true rfl⟩ dX7_arriveAtRelay_13 (fun r13 v13 hp13 => ?_)
    obtain ⟨rfl, g1, hf13⟩ := hp13
    refine VV.eq (st2 := [.int (zb (nov (M.2.1 r0) x))]) rfl ?_
    have hv13 : zwf (v13 (m + 1)) M := by rw [g1]; exact hv
    refine n_ifb_eq C (pc := 16) (tgt := 23) dX7_arriveAtRelay_16 (by decide) (fun c_16 => ?_) (fun c_16 => ?_)
    · refine r_iconst C (pc := 23) (x := (nI 0)) (by decide) dX7_arriveAtRelay_23 ?_
      refine r_istore C (pc := 24) (lv2 := [some (.ref m), some (.int (nI (lb r0))), some (.int (nI (x / 256))), some (.int (nI (x % 256))), some (.int (nI 0)), none, none]) (Nat.le_of_ble_eq_true rfl) rfl rfl dX7_arriveAtRelay_24 ?_
      refine r_aload_n C (pc := 26) rfl rfl dX7_arriveAtRelay_26 ?_
      refine r_get C (pc := 27) (ci := 7) (k := 0) (w := .ref (m + 1)) rfl (by decide) inX7 (by decide) q_654 (Or.inl hd0) hs0 (zl_ref _ _) dX7_arriveAtRelay_27 ?_
      refine r_iload_n C (pc := 30) rfl rfl dX7_arriveAtRelay_30 ?_
      refine r_iald C (pc := 31) (x := (nI ((M.2.1 r0).length))) (Or.inl hd1) hs1 (by omega) (by omega) ((hv13.2.1 r0 (by omega)).1) dX7_arriveAtRelay_31 ?_
      refine r_aload_n C (pc := 32) rfl rfl dX7_arriveAtRelay_32 ?_
      refine r_get C (pc := 33) (ci := 7) (k := 0) (w := .ref (m + 1)) rfl (by decide) inX7 (by decide) q_654 (Or.inl hd0) hs0 (zl_ref _ _) dX7_arriveAtRelay_33 ?_
      refine r_iconst C (pc := 36) (x := (nI 3)) (by decide) dX7_arriveAtRelay_36 ?_
      refine r_iald C (pc := 37) (x := (nI (M.1 3))) (Or.inl hd1) hs1 (by omega) (by omega) (hv13.1 3 (by decide)) dX7_arriveAtRelay_37 ?_
      refine n_icmp_ge C (pc := 38) (tgt := 54) (by omega) (by omega) dX7_arriveAtRelay_38 (by decide) (fun c_38 => ?_) (fun c_38 => ?_)
      · refine r_aload_n C (pc := 54) rfl rfl dX7_arriveAtRelay_54 ?_
        refine r_get C (pc := 55) (ci := 7) (k := 0) (w := .ref (m + 1)) rfl (by decide) inX7 (by decide) q_654 (Or.inl hd0) hs0 (zl_ref _ _) dX7_arriveAtRelay_55 ?_
        refine r_iconst C (pc := 58) (x := (nI 4)) (by decide) dX7_arriveAtRelay_58 ?_
        refine r_iald C (pc := 59) (x := (nI (M.1 4))) (Or.inl hd1) hs1 (by omega) (by omega) (hv13.1 4 (by decide)) dX7_arriveAtRelay_59 ?_
        have h4 : M.1 4 = 2 := c_7
        refine r_tableIn C (pc := 60) (off := 47) (tgt := 107) dX7_arriveAtRelay_60 (by rw [h4]; decide) (by rw [h4]; decide) (by rw [h4]; rfl) (by decide) ?_
        refine r_iload C (pc := 107) rfl dX7_arriveAtRelay_107 ?_
        refine n_if_eq C (pc := 109) (tgt := 183) (by omega) dX7_arriveAtRelay_109 (by decide) (fun c_109 => ?_) (fun c_109 => by exfalso; omega)
        exact r_vret C (pc := 183) rfl dX7_arriveAtRelay_183 ⟨rfl, rfl, rfl, (by unfold mSto; rw [if_pos ⟨c_7, c_16⟩]; exact ⟨hv13, hf13⟩)⟩
      · refine r_iload C (pc := 41) rfl dX7_arriveAtRelay_41 ?_
        refine n_if_eq C (pc := 43) (tgt := 53) (by omega) dX7_arriveAtRelay_43 (by decide) (fun c_43 => ?_) (fun c_43 => by exfalso; omega)
        exact r_vret C (pc := 53) rfl dX7_arriveAtRelay_53 ⟨rfl, rfl, rfl, (by unfold mSto; rw [if_pos ⟨c_7, c_16⟩]; exact ⟨hv13, hf13⟩)⟩
    · refine r_iconst C (pc := 19) (x := (nI 1)) (by decide) dX7_arriveAtRelay_19 ?_
      refine r_goto C (pc := 20) (tgt := 24) dX7_arriveAtRelay_20 (by decide) ?_
      refine r_istore C (pc := 24) (lv2 := [some (.ref m), some (.int (nI (lb r0))), some (.int (nI (x / 256))), some (.int (nI (x % 256))), some (.int (nI 1)), none, none]) (Nat.le_of_ble_eq_true rfl) rfl rfl dX7_arriveAtRelay_24 ?_
      refine r_aload_n C (pc := 26) rfl rfl dX7_arriveAtRelay_26 ?_
      refine r_get C (pc := 27) (ci := 7) (k := 0) (w := .ref (m + 1)) rfl (by decide) inX7 (by decide) q_654 (Or.inl hd0) hs0 (zl_ref _ _) dX7_arriveAtRelay_27 ?_
      refine r_iload_n C (pc := 30) rfl rfl dX7_arriveAtRelay_30 ?_
      refine r_iald C (pc := 31) (x := (nI ((M.2.1 r0).length))) (Or.inl hd1) hs1 (by omega) (by omega) ((hv13.2.1 r0 (by omega)).1) dX7_arriveAtRelay_31 ?_
      refine r_aload_n C (pc := 32) rfl rfl dX7_arriveAtRelay_32 ?_
      refine r_get C (pc := 33) (ci := 7) (k := 0) (w := .ref (m + 1)) rfl (by decide) inX7 (by decide) q_654 (Or.inl hd0) hs0 (zl_ref _ _) dX7_arriveAtRelay_33 ?_
      refine r_iconst C (pc := 36) (x := (nI 3)) (by decide) dX7_arriveAtRelay_36 ?_
      refine r_iald C (pc := 37) (x := (nI (M.1 3))) (Or.inl hd1) hs1 (by omega) (by omega) (hv13.1 3 (by decide)) dX7_arriveAtRelay_37 ?_
      refine n_icmp_ge C (pc := 38) (tgt := 54) (by omega) (by omega) dX7_arriveAtRelay_38 (by decide) (fun c_38 => ?_) (fun c_38 => ?_)
      · refine r_aload_n C (pc := 54) rfl rfl dX7_arriveAtRelay_54 ?_
        refine r_get C (pc := 55) (ci := 7) (k := 0) (w := .ref (m + 1)) rfl (by decide) inX7 (by decide) q_654 (Or.inl hd0) hs0 (zl_ref _ _) dX7_arriveAtRelay_55 ?_
        refine r_iconst C (pc := 58) (x := (nI 4)) (by decide) dX7_arriveAtRelay_58 ?_
        refine r_iald C (pc := 59) (x := (nI (M.1 4))) (Or.inl hd1) hs1 (by omega) (by omega) (hv13.1 4 (by decide)) dX7_arriveAtRelay_59 ?_
        have h4 : M.1 4 = 2 := c_7
        refine r_tableIn C (pc := 60) (off := 47) (tgt := 107) dX7_arriveAtRelay_60 (by rw [h4]; decide) (by rw [h4]; decide) (by rw [h4]; rfl) (by decide) ?_
        refine r_iload C (pc := 107) rfl dX7_arriveAtRelay_107 ?_
        refine n_if_eq C (pc := 109) (tgt := 183) (by omega) dX7_arriveAtRelay_109 (by decide) (fun c_109 => by exfalso; omega) (fun c_109 => ?_)
        refine r_aload_n C (pc := 112) rfl rfl dX7_arriveAtRelay_112 ?_
        refine r_iload_n C (pc := 113) rfl rfl dX7_arriveAtRelay_113 ?_
        refine r_aload_n C (pc := 114) rfl rfl dX7_arriveAtRelay_114 ?_
        refine r_iload_n C (pc := 115) rfl rfl dX7_arriveAtRelay_115 ?_
        refine r_iload_n C (pc := 116) rfl rfl dX7_arriveAtRelay_116 ?_
        refine r_callV C (pc := 117) (st := [.int (nI (lb r0)), .ref m]) (m_X7_mostAlike l G sh v13 N (x := x) hp hv13 (by omega) hx.1 hps (by omega)) kyX7_mostAlike q_798 rfl (Or.inl hd0) hs0 (by decide) rfl rfl rfl (Nat.le_of_ble_eq_true rfl) ⟨Nat.le_of_ble_eq_true rfl, Nat.le_of_ble_eq_true rfl⟩ ⟨Nat.le_of_ble_eq_true rfl, Nat.le_of_ble_eq_true rfl⟩ dX7_arriveAtRelay_117 (fun r117 v117 hp117 => ?_)
        obtain ⟨rfl, ehp117⟩ := hp117
        refine VV.vq ehp117 ?_
        refine VV.eq (st2 := [.int (nI (mcb (mcc x (M.2.1 r0)) (M.2.1 r0).length)), .int (nI (lb r0)), .ref m]) rfl ?_
        refine r_callV C (pc := 120) (st := []) (m_X7_drop l G sh v13 N (k := mcb (mcc x (M.2.1 r0)) (M.2.1 r0).length) hp hv13 (by omega) (mcb_lt _ _ (by omega))) kyX7_drop q_739 rfl (Or.inl hd0) hs0 (by decide) rfl rfl rfl (Nat.le_of_ble_eq_true rfl) ⟨Nat.le_of_ble_eq_true rfl, Nat.le_of_ble_eq_true rfl⟩ ⟨Nat.le_of_ble_eq_true rfl, Nat.le_of_ble_eq_true rfl⟩ dX7_arriveAtRelay_120 (fun r120 v120 hp120 => ?_)
        obtain ⟨rfl, g3, g4⟩ := hp120
        refine VV.eq (st2 := []) rfl ?_
        refine r_aload_n C (pc := 123) rfl rfl dX7_arriveAtRelay_123 ?_
        refine r_iload_n C (pc := 124) rfl rfl dX7_arriveAtRelay_124 ?_
        refine r_iload_n C (pc := 125) rfl rfl dX7_arriveAtRelay_125 ?_
        refine r_iload_n C (pc := 126) rfl rfl dX7_arriveAtRelay_126 ?_
        refine r_callV C (pc := 127) (st := []) (m_X7_append2 l G sh v120 N (q := x) hp g3 (by omega) (by rw [List.length_eraseIdx_of_lt (by first | exact mcb_lt _ _ (by omega) | omega)]; omega)) kyX7_append q_774 rfl (Or.inl hd0) hs0 (by decide) rfl rfl rfl (Nat.le_of_ble_eq_true rfl) ⟨Nat.le_of_ble_eq_true rfl, Nat.le_of_ble_eq_true rfl⟩ ⟨Nat.le_of_ble_eq_true rfl, Nat.le_of_ble_eq_true rfl⟩ dX7_arriveAtRelay_127 (fun r127 v127 hp127 => ?_)
        obtain ⟨rfl, g5, g6⟩ := hp127
        refine VV.eq (st2 := []) rfl ?_
        refine r_goto C (pc := 130) (tgt := 183) dX7_arriveAtRelay_130 (by decide) ?_
        exact r_vret C (pc := 183) rfl dX7_arriveAtRelay_183 ⟨rfl, rfl, rfl, (by unfold mSto; rw [if_neg (fun z => by rw [c_16] at z; cases z.2), if_neg (by omega), if_neg (by omega), if_pos h4]; exact ⟨g5, ((hf13).tr g4.B).tr g6.B⟩)⟩
      · refine r_iload C (pc := 41) rfl dX7_arriveAtRelay_41 ?_
        refine n_if_eq C (pc := 43) (tgt := 53) (by omega) dX7_arriveAtRelay_43 (by decide) (fun c_43 => by exfalso; omega) (fun c_43 => ?_)
        refine r_aload_n C (pc := 46) rfl rfl dX7_arriveAtRelay_46 ?_
        refine r_iload_n C (pc := 47) rfl rfl dX7_arriveAtRelay_47 ?_
        refine r_iload_n C (pc := 48) rfl rfl dX7_arriveAtRelay_48 ?_
        refine r_iload_n C (pc := 49) rfl rfl dX7_arriveAtRelay_49 ?_
        refine r_callV C (pc := 50) (st := []) (m_X7_append l G sh v13 N (q := x) hp hv13 (by omega) (by omega)) kyX7_append q_774 rfl (Or.inl hd0) hs0 (by decide) rfl rfl rfl (Nat.le_of_ble_eq_true rfl) ⟨Nat.le_of_ble_eq_true rfl, Nat.le_of_ble_eq_true rfl⟩ ⟨Nat.le_of_ble_eq_true rfl, Nat.le_of_ble_eq_true rfl⟩ dX7_arriveAtRelay_50 (fun r50 v50 hp50 => ?_)
        obtain ⟨rfl, g3, g4⟩ := hp50
        refine VV.eq (st2 := []) rfl ?_
        exact r_vret C (pc := 53) rfl dX7_arriveAtRelay_53 ⟨rfl, rfl, rfl, (by unfold mSto; rw [if_neg (fun z => by rw [c_16] at z; cases z.2), if_pos c_38]; exact ⟨g3, (hf13).tr g4.B⟩)⟩
