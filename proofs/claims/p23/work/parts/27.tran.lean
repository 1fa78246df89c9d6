/-! a transfer: 28 cells from its own on -/
theorem zfi_Vof {v : zV} {a : Nat} {V W : Nat → Nat} {tm : Nat → Option Nat} (h : zfi v a V tm) (e : ∀ b, b < 12 → V b = W b) : zfi v a W tm := ⟨h.1, fun b hb => by rw [h.2.1 b hb]; unfold sgl; rw [e b hb], h.2.2⟩
theorem zrc_Vof {v : zV} {q : Nat} {V W : Nat → Nat} {kp : List Nat} {r : Nat → Nat} {rk : Nat} {wt : List Nat} {so kt : Nat → Option Nat} {ar sl lg : Nat} (h : zrc v q V kp r rk wt so kt ar sl lg) (e : ∀ b, b < 12 → V b = W b) : zrc v q W kp r rk wt so kt ar sl lg := ⟨h.1, h.2.1, h.2.2.1, h.2.2.2.1, h.2.2.2.2.1, zfi_Vof h.2.2.2.2.2.1 e, h.2.2.2.2.2.2.1, zfi_Vof h.2.2.2.2.2.2.2 e⟩
def zST (G : zG) (sh : zH) (N t : Nat) : Prop := ∀ r, r < 3 → zPL G sh N (t + 22 + 2 * r) 4
def zTR (G : zG) (sh : zH) (N t : Nat) : Prop := G.2.2.1 ≤ t ∧ t + 27 < N ∧ sh t = (5, 8, pts [t + 1 + 2, t + 5 + 2, t + 6 + 2, 0, 0, 0, t + 19 + 2, t + 20 + 2]) ∧ zSE G sh N (t + 1) ∧ sh (t + 5) = (10, 3, pts [t + 22 + 2, t + 24 + 2, t + 26 + 2]) ∧ zRC G sh N (t + 6) ∧ sh (t + 19) = (8, 4, fun _ => 0) ∧ zSP G sh N (t + 20) ∧ zST G sh N t
def zt (v : zV) (t : Nat) (M : zMS) : Prop := v t 3 = nI (M.1 2) ∧ v t 4 = nI (M.1 29) ∧ v t 5 = nI (M.1 30) ∧ zse v (t + 1) M.1 ∧ (∀ r, r < 3 → zpl v (t + 22 + 2 * r) 4 (M.2.1 r)) ∧ zrc v (t + 6) (zVl M) (M.2.1 3) (spo (M.2.1 3)) (M.2.1 3).length (M.2.1 4) M.2.2.1 M.2.2.2 (M.1 31) (M.1 32) (M.1 33)
theorem st_ref {t j : Nat} {x : Int32} (h : j < 3) : zl (pts [t + 22 + 2, t + 24 + 2, t + 26 + 2] j) x = .ref (t + 22 + 2 * j) := by
  rcases (show j = 0 ∨ j = 1 ∨ j = 2 by omega) with rfl | rfl | rfl <;> rfl
theorem zt.kept {v v1 : zV} {t : Nat} {M : zMS} (h : zt v t M) (k : ∀ b, t ≤ b → b < t + 28 → b ≠ t + 19 → b ≠ t + 20 → b ≠ t + 21 → v1 b = v b) : zt v1 t M := by
  obtain ⟨h1, h2, h3, h4, h5, h6⟩ := h
  have e0 := k t (by omega) (by omega) (by omega) (by omega) (by omega)
  exact ⟨by rw [e0]; exact h1, by rw [e0]; exact h2, by rw [e0]; exact h3, h4.kept (fun b g1 g2 => k b (by omega) (by omega) (by omega) (by omega) (by omega)), fun r hr => (h5 r hr).kept (k _ (by omega) (by omega) (by omega) (by omega) (by omega)) (k _ (by omega) (by omega) (by omega) (by omega) (by omega)), h6.kept (fun b g1 g2 => k b (by omega) (by omega) (by omega) (by omega) (by omega))⟩
theorem zt_set {v v1 : zV} {t : Nat} {M : zMS} (h : zt v t M) {c1 : Nat → Nat} (g : zse v1 (t + 1) c1) (f : zfr v v1 (t + 1) 4) (e : ∀ i, i = 2 ∨ 17 ≤ i → c1 i = M.1 i) : zt v1 t (c1, M.2) := by
  obtain ⟨h1, h2, h3, h4, h5, h6⟩ := h
  have eV : zVl (c1, M.2) = zVl M := by funext b; exact e (17 + b) (by omega)
  refine ⟨by rw [f t (by omega)]; exact h1.trans (congrArg nI (e 2 (by omega)).symm), by rw [f t (by omega)]; exact h2.trans (congrArg nI (e 29 (by omega)).symm), by rw [f t (by omega)]; exact h3.trans (congrArg nI (e 30 (by omega)).symm), g, fun r hr => (h5 r hr).kept (f _ (by omega)) (f _ (by omega)), ?_⟩
  have := h6.kept (v1 := v1) (fun b g1 g2 => f b (by omega))
  rw [eV]
  show zrc _ _ _ _ _ _ _ _ _ (c1 31) (c1 32) (c1 33)
  rw [e 31 (by omega), e 32 (by omega), e 33 (by omega)]
  exact this
theorem zt_st {v v1 : zV} {t r : Nat} {M : zMS} (h : zt v t M) (hr : r < 3) {l : List Nat} (g : zpl v1 (t + 22 + 2 * r) 4 l) (f : zfr v v1 (t + 22 + 2 * r) 2) : zt v1 t (M.1, upl M.2.1 r l, M.2.2) := by
  obtain ⟨h1, h2, h3, h4, h5, h6⟩ := h
  refine ⟨by rw [f t (by omega)]; exact h1, by rw [f t (by omega)]; exact h2, by rw [f t (by omega)]; exact h3, h4.kept (fun b g1 g2 => f b (by omega)), fun j hj => ?_, ?_⟩
  · by_cases hjr : j = r
    · subst hjr
      show zpl _ _ _ (upl _ j l j)
      rw [upl_s]; exact g
    · show zpl _ _ _ (upl _ r l j)
      rw [upl_n hjr]
      exact (h5 j hj).kept (f _ (by omega)) (f _ (by omega))
  · show zrc _ _ _ (upl _ r l 3) (spo (upl _ r l 3)) (upl _ r l 3).length (upl _ r l 4) _ _ _ _ _
    rw [upl_n (show 3 ≠ r by omega), upl_n (show 4 ≠ r by omega)]
    exact h6.kept (fun b g1 g2 => f b (by omega))
theorem zt_f {v : zV} {t k x : Nat} {M : zMS} (h : zt v t M) {i : Nat} (g : (k = 3 ∧ i = 2) ∨ (k = 4 ∧ i = 29) ∨ (k = 5 ∧ i = 30)) : zt (z2 v t k (nI x)) t (upc M.1 i x, M.2) := by
  obtain ⟨h1, h2, h3, h4, h5, h6⟩ := h
  have f : ∀ b, b ≠ t → z2 v t k (nI x) b = v b := fun b hb => z2_addr hb
  refine ⟨?_, ?_, ?_, ?_, fun r hr => (h5 r hr).kept (f _ (by omega)) (f _ (by omega)), ?_⟩
  · show _ = nI (upc M.1 i x 2)
    by_cases hi : i = 2
    · subst hi
      rw [show k = 3 by omega, z2_self, upc_s]
    · rw [z2_ne (by omega), upc_n (by omega)]; exact h1
  · show _ = nI (upc M.1 i x 29)
    by_cases hi : i = 29
    · subst hi
      rw [show k = 4 by omega, z2_self, upc_s]
    · rw [z2_ne (by omega), upc_n (by omega)]; exact h2
  · show _ = nI (upc M.1 i x 30)
    by_cases hi : i = 30
    · subst hi
      rw [show k = 5 by omega, z2_self, upc_s]
    · rw [z2_ne (by omega), upc_n (by omega)]; exact h3
  · have h4' := h4.kept (v1 := z2 v t k (nI x)) (fun b g1 g2 => f b (by omega))
    obtain ⟨a0, a1, a3, a4, a5, a6, av, al, aw⟩ := h4'
    exact ⟨by rw [a0]; exact congrArg nI (upc_n (by omega)).symm, by rw [a1]; exact congrArg nI (upc_n (by omega)).symm, by rw [a3]; exact congrArg nI (upc_n (by omega)).symm, by rw [a4]; exact congrArg nI (upc_n (by omega)).symm, by rw [a5]; exact congrArg nI (upc_n (by omega)).symm, by rw [a6]; exact congrArg nI (upc_n (by omega)).symm, fun b hb => by rw [av b hb]; exact congrArg nI (upc_n (by omega)).symm, fun j hj hj4 => by
      have hj2 : j ≤ M.1 1 := by
        have e1 : upc M.1 i x 1 = M.1 1 := upc_n (by omega)
        rw [← e1]; exact hj
      rw [al j hj2 hj4]; exact congrArg nI (upc_n (by omega)).symm, fun d hd => by rw [aw d hd]; exact congrArg nI (upc_n (by omega)).symm⟩
  · refine zrc_Vof (V := zVl M) ?_ (fun b hb => by show M.1 (17 + b) = upc M.1 i x (17 + b); rw [upc_n (by omega)])
    show zrc _ _ _ _ _ _ _ _ _ (upc M.1 i x 31) (upc M.1 i x 32) (upc M.1 i x 33)
    rw [upc_n (by omega), upc_n (by omega), upc_n (by omega)]
    exact h6.kept (fun b g1 g2 => f b (by omega))
theorem zt_rc {v v1 : zV} {t : Nat} {M : zMS} (h : zt v t M) {kp : List Nat} {wt : List Nat} {so kt : Nat → Option Nat} {ar sl lg : Nat} (g : zrc v1 (t + 6) (zVl M) kp (spo kp) kp.length wt so kt ar sl lg) (f : zfr v v1 (t + 6) 13) : zt v1 t (upc (upc (upc M.1 31 ar) 32 sl) 33 lg, upl (upl M.2.1 3 kp) 4 wt, so, kt) := by
  obtain ⟨h1, h2, h3, h4, h5, h6⟩ := h
  have e : ∀ i, i < 31 → upc (upc (upc M.1 31 ar) 32 sl) 33 lg i = M.1 i := fun i hi => by rw [upc_n (by omega), upc_n (by omega), upc_n (by omega)]
  have eV : zVl (upc (upc (upc M.1 31 ar) 32 sl) 33 lg, upl (upl M.2.1 3 kp) 4 wt, so, kt) = fun b => upc (upc (upc M.1 31 ar) 32 sl) 33 lg (17 + b) := rfl
  refine ⟨by rw [f t (by omega)]; exact h1.trans (congrArg nI (e 2 (by omega)).symm), by rw [f t (by omega)]; exact h2.trans (congrArg nI (e 29 (by omega)).symm), by rw [f t (by omega)]; exact h3.trans (congrArg nI (e 30 (by omega)).symm), ?_, fun r hr => ?_, ?_⟩
  · obtain ⟨a0, a1, a3, a4, a5, a6, av, al, aw⟩ := h4.kept (v1 := v1) (fun b g1 g2 => f b (by omega))
    exact ⟨by rw [a0]; exact congrArg nI (e 0 (by omega)).symm, by rw [a1]; exact congrArg nI (e 1 (by omega)).symm, by rw [a3]; exact congrArg nI (e 3 (by omega)).symm, by rw [a4]; exact congrArg nI (e 4 (by omega)).symm, by rw [a5]; exact congrArg nI (e 5 (by omega)).symm, by rw [a6]; exact congrArg nI (e 6 (by omega)).symm, fun b hb => by rw [av b hb]; exact congrArg nI (e (17 + b) (by omega)).symm, fun j hj hj4 => by
      have hj2 : j ≤ M.1 1 := by rw [← e 1 (by omega)]; exact hj
      rw [al j hj2 hj4]; exact congrArg nI (e (7 + j) (by omega)).symm, fun d hd => by rw [aw d hd]; exact congrArg nI (e (11 + d) (by omega)).symm⟩
  · show zpl _ _ _ (upl (upl _ 3 kp) 4 wt r)
    rw [upl_n (show r ≠ 4 by omega), upl_n (show r ≠ 3 by omega)]
    exact (h5 r hr).kept (f _ (by omega)) (f _ (by omega))
  · have hV : ∀ b, b < 12 → zVl M b = zVl (upc (upc (upc M.1 31 ar) 32 sl) 33 lg, upl (upl M.2.1 3 kp) 4 wt, so, kt) b := fun b hb => (e (17 + b) (by omega)).symm
    dsimp only
    rw [upl_s, upl_n (show (3 : Nat) ≠ 4 by decide), upl_s, upc_n (show (31 : Nat) ≠ 33 by decide), upc_n (show (31 : Nat) ≠ 32 by decide), upc_s, upc_n (show (32 : Nat) ≠ 33 by decide), upc_s, upc_s]
    exact zrc_Vof g hV
theorem upc_id (c : Nat → Nat) (i : Nat) : upc c i (c i) = c := by
  funext j
  by_cases h : j = i
  · subst h; exact upc_s c j (c j)
  · exact upc_n h
set_option maxRecDepth 100000 in
set_option maxHeartbeats 4000000 in
theorem m_X5_rankOf (l : Launch) (G : zG) (sh : zH) (v : zV) (N : Nat) {t a cap : Nat} {ps : List Nat} (hp : zTR G sh N t) (hpa : zPL G sh N a cap) (hva : zpl v a cap ps) (hno : a + 2 ≤ t + 20 ∨ t + 22 ≤ a) (hps : ∀ q ∈ ps, q < 2 ^ 20) : zm l G yX5_rankOf cX5_rankOf 3 (some .int) 2 [.ref t, .ref a] sh v N (fun r v1 => r = some (.int (nI (rnk ps))) ∧ zsp v1 (t + 20) (spo ps) (rnk ps) ∧ zfr v v1 (t + 20) 2) := by
  refine zM.of (by decide) rfl (Nat.le_of_ble_eq_true rfl) ?_
  intro p e s m args below meth c C
  obtain ⟨tB, tN, hs0, tse, hs5, trc, hs19, tsp, tst⟩ := id hp
  have hd0 : G.2.2.1 ≤ t ∧ t < N := ⟨by omega, by omega⟩
  have hd1 : G.2.2.1 ≤ t + 1 ∧ t + 1 < N := ⟨by omega, by omega⟩
  have hd5 : G.2.2.1 ≤ t + 5 ∧ t + 5 < N := ⟨by omega, by omega⟩
  have hd6 : G.2.2.1 ≤ t + 6 ∧ t + 6 < N := ⟨by omega, by omega⟩
  have hd19 : G.2.2.1 ≤ t + 19 ∧ t + 19 < N := ⟨by omega, by omega⟩
  have hd20 : G.2.2.1 ≤ t + 20 ∧ t + 20 < N := ⟨by omega, by omega⟩
  have hd61 : G.2.2.1 ≤ t + 6 + 1 ∧ t + 6 + 1 < N := ⟨by omega, by omega⟩
  have hd65 : G.2.2.1 ≤ t + 6 + 5 ∧ t + 6 + 5 < N := ⟨by omega, by omega⟩
  have hd610 : G.2.2.1 ≤ t + 6 + 10 ∧ t + 6 + 10 < N := ⟨by omega, by omega⟩
  have hd68 : G.2.2.1 ≤ t + 6 + 8 ∧ t + 6 + 8 < N := ⟨by omega, by omega⟩
  have hs1 := tse.2.2.1
  have hs6 := trc.2.2.1
  have hs20 := tsp.2.2.1
  have hs61 := trc.2.2.2.1.2.2.2.1
  have hs65 := trc.2.2.2.2.2.1.2.2.1
  have hs68 := trc.2.2.2.2.2.2.1.2.2.2.1
  have hs610 := trc.2.2.2.2.2.2.2.2.2.1
  have hda : G.2.2.1 ≤ a ∧ a < N := ⟨hpa.1, by have := hpa.2.1; omega⟩
  have ha0 := hpa.2.2.2.1
  have hl20 : ps.length ≤ 20 := by have := hva.2.1; have := hpa.2.2.1; omega
  have loop : ∀ (n i : Nat) (v' : zV), ps.length - i < n → i ≤ ps.length → zsp v' (t + 20) (spr ps i) (spk ps i) → zfr v v' (t + 20) 2 → VV p l e ({ frames := 2, cells := 0, slots := 0, locals := 32 * 2 }) s m args below meth c 0 0 (zQ below (fun r sh1 v1 N1 => sh1 = sh ∧ N1 = N ∧ (r = some (.int (nI (rnk ps))) ∧ zsp v1 (t + 20) (spo ps) (rnk ps) ∧ zfr v v1 (t + 20) 2)) G args s 0 0) G 3 sh v' N 9 [some (.ref t), some (.ref a), some (.int (nI i))] [] := by
    intro n
    induction n with
    | zero => intro i v' hm; omega
    | succ n ih =>
      intro i v' hm hi e1 e2
      refine r_iload_n C (pc := 9) rfl rfl dX5_rankOf_9 ?_
      refine r_aload_n C (pc := 10) rfl rfl dX5_rankOf_10 ?_
      have hva1 : zpl v' a cap ps := hva.kept (e2 _ (by omega)) (e2 _ (by omega))
      refine r_getN C (pc := 11) (ci := 1) (k := 1) (w := .int (nI ps.length)) rfl (by decide) inX1 (by decide) q_122 (Or.inl hda) ha0 (zl_i (hva1.1)) dX5_rankOf_11 ?_
      refine n_icmp_ge C (pc := 14) (tgt := 36) (by omega) (by have := hva.2.1; have := hpa.2.2.1; omega) dX5_rankOf_14 (by decide) (fun c_14 => ?_) (fun c_14 => ?_)
      · refine r_aload_n C (pc := 36) rfl rfl dX5_rankOf_36 ?_
        refine r_get C (pc := 37) (ci := 5) (k := 7) (w := .ref (t + 20)) rfl (by decide) inX5 (by decide) q_212 (Or.inl hd0) hs0 (zl_ref _ _) dX5_rankOf_37 ?_
        refine r_getN C (pc := 40) (ci := 4) (k := 1) (w := .int (nI (rnk ps))) rfl (by decide) inX4 (by decide) q_137 (Or.inl hd20) hs20 (zl_i (by rw [show i = ps.length by omega] at e1; exact e1.1)) dX5_rankOf_40 ?_
        exact r_iret C (pc := 43) rfl (rfl) dX5_rankOf_43 ⟨rfl, rfl, rfl, by rw [show i = ps.length by omega] at e1; exact e1, e2⟩
      · refine r_aload_n C (pc := 17) rfl rfl dX5_rankOf_17 ?_
        refine r_get C (pc := 18) (ci := 5) (k := 7) (w := .ref (t + 20)) rfl (by decide) inX5 (by decide) q_212 (Or.inl hd0) hs0 (zl_ref _ _) dX5_rankOf_18 ?_
        refine r_aload_n C (pc := 21) rfl rfl dX5_rankOf_21 ?_
        refine r_iload_n C (pc := 22) rfl rfl dX5_rankOf_22 ?_
        refine r_callV C (pc := 23) (st := [.ref (t + 20)]) (m_X1_at l G sh v' N (ps := ps) (j := i) hpa hva1 (by have := hva.2.1; have := hpa.2.2.1; omega)) kyX1_at q_524 rfl (Or.inl hda) ha0 (by decide) rfl rfl rfl (Nat.le_of_ble_eq_true rfl) ⟨Nat.le_of_ble_eq_true rfl, Nat.le_of_ble_eq_true rfl⟩ ⟨Nat.le_of_ble_eq_true rfl, Nat.le_of_ble_eq_true rfl⟩ dX5_rankOf_23 (fun r23 v23 hp23 => ?_)
        obtain ⟨rfl, ehp23⟩ := hp23
        refine VV.vq ehp23 ?_
        refine VV.eq (st2 := [.int (nI (ps.getD i 0)), .ref (t + 20)]) rfl ?_
        refine r_callV C (pc := 26) (st := []) (m_X4_take l G sh v' N (q := ps.getD i 0) tsp e1 (gd_lt20 hps) (spr_lt hps i)) kyX4_take q_550 rfl (Or.inl hd20) hs20 (by decide) rfl rfl rfl (Nat.le_of_ble_eq_true rfl) ⟨Nat.le_of_ble_eq_true rfl, Nat.le_of_ble_eq_true rfl⟩ ⟨Nat.le_of_ble_eq_true rfl, Nat.le_of_ble_eq_true rfl⟩ dX5_rankOf_26 (fun r26 v26 hp26 => ?_)
        obtain ⟨rfl, g1, g2⟩ := hp26
        refine VV.eq (st2 := [.int (zb (tkb (spr ps i) (ps.getD i 0)))]) rfl ?_
        refine r_pop C (pc := 29) rfl dX5_rankOf_29 ?_
        refine r_iinc C (pc := 30) (lv2 := [some (.ref t), some (.ref a), some (.int (nI (i + 1)))]) (y := (nI (i + 1))) rfl (nI_inc _ _) (Nat.le_of_ble_eq_true rfl) rfl rfl dX5_rankOf_30 ?_
        refine r_goto C (pc := 33) (tgt := 9) dX5_rankOf_33 (by decide) ?_
        exact ih (i + 1) v26 (by omega) (by omega) g1 (e2.tr g2)
  refine r_aload_n C (pc := 0) rfl rfl dX5_rankOf_0 ?_
  refine r_get C (pc := 1) (ci := 5) (k := 7) (w := .ref (t + 20)) rfl (by decide) inX5 (by decide) q_212 (Or.inl hd0) hs0 (zl_ref _ _) dX5_rankOf_1 ?_
  refine r_callV C (pc := 4) (st := []) (m_X4_clear l G sh v N tsp) kyX4_clear q_549 rfl (Or.inl hd20) hs20 (by decide) rfl rfl rfl (Nat.le_of_ble_eq_true rfl) ⟨Nat.le_of_ble_eq_true rfl, Nat.le_of_ble_eq_true rfl⟩ ⟨Nat.le_of_ble_eq_true rfl, Nat.le_of_ble_eq_true rfl⟩ dX5_rankOf_4 (fun r4 v4 hp4 => ?_)
  obtain ⟨rfl, g1, g2⟩ := hp4
  refine VV.eq (st2 := []) rfl ?_
  refine r_iconst C (pc := 7) (x := (nI 0)) (by decide) dX5_rankOf_7 ?_
  refine r_istore_n C (pc := 8) (lv2 := [some (.ref t), some (.ref a), some (.int (nI 0))]) rfl (Nat.le_of_ble_eq_true rfl) rfl rfl dX5_rankOf_8 ?_
  exact loop (ps.length + 1) 0 v4 (by omega) (by omega) g1 g2
set_option maxRecDepth 100000 in
set_option maxHeartbeats 4000000 in
theorem m_X5_isNovelFor (l : Launch) (G : zG) (sh : zH) (v : zV) (N : Nat) {t a cap : Nat} {ps : List Nat} {x : Nat} (hp : zTR G sh N t) (hpa : zPL G sh N a cap) (hva : zpl v a cap ps) (hno : a + 2 ≤ t + 20 ∨ t + 22 ≤ a) (hps : ∀ q ∈ ps, q < 2 ^ 20) (hx : x < 2 ^ 20) : zm l G yX5_isNovelFor cX5_isNovelFor 3 (some .boolean) 3 [.ref t, .ref a, .int (nI x)] sh v N (fun r v1 => r = some (.int (zb (nov ps x))) ∧ zfr v v1 (t + 20) 2) := by
  refine zM.of (by decide) rfl (Nat.le_of_ble_eq_true rfl) ?_
  intro p e s m args below meth c C
  obtain ⟨tB, tN, hs0, tse, hs5, trc, hs19, tsp, tst⟩ := id hp
  have hd0 : G.2.2.1 ≤ t ∧ t < N := ⟨by omega, by omega⟩
  have hd1 : G.2.2.1 ≤ t + 1 ∧ t + 1 < N := ⟨by omega, by omega⟩
  have hd5 : G.2.2.1 ≤ t + 5 ∧ t + 5 < N := ⟨by omega, by omega⟩
  have hd6 : G.2.2.1 ≤ t + 6 ∧ t + 6 < N := ⟨by omega, by omega⟩
  have hd19 : G.2.2.1 ≤ t + 19 ∧ t + 19 < N := ⟨by omega, by omega⟩
  have hd20 : G.2.2.1 ≤ t + 20 ∧ t + 20 < N := ⟨by omega, by omega⟩
  have hd61 : G.2.2.1 ≤ t + 6 + 1 ∧ t + 6 + 1 < N := ⟨by omega, by omega⟩
  have hd65 : G.2.2.1 ≤ t + 6 + 5 ∧ t + 6 + 5 < N := ⟨by omega, by omega⟩
  have hd610 : G.2.2.1 ≤ t + 6 + 10 ∧ t + 6 + 10 < N := ⟨by omega, by omega⟩
  have hd68 : G.2.2.1 ≤ t + 6 + 8 ∧ t + 6 + 8 < N := ⟨by omega, by omega⟩
  have hs1 := tse.2.2.1
  have hs6 := trc.2.2.1
  have hs20 := tsp.2.2.1
  have hs61 := trc.2.2.2.1.2.2.2.1
  have hs65 := trc.2.2.2.2.2.1.2.2.1
  have hs68 := trc.2.2.2.2.2.2.1.2.2.2.1
  have hs610 := trc.2.2.2.2.2.2.2.2.2.1
  have hda : G.2.2.1 ≤ a ∧ a < N := ⟨hpa.1, by have := hpa.2.1; omega⟩
  have ha0 := hpa.2.2.2.1
  have hl20 : ps.length ≤ 20 := by have := hva.2.1; have := hpa.2.2.1; omega
  refine r_aload_n C (pc := 0) rfl rfl dX5_isNovelFor_0 ?_
  refine r_aload_n C (pc := 1) rfl rfl dX5_isNovelFor_1 ?_
  refine r_callV C (pc := 2) (st := []) (m_X5_rankOf l G sh v N hp hpa hva hno hps) kyX5_rankOf q_545 rfl (Or.inl hd0) hs0 (by decide) rfl rfl rfl (Nat.le_of_ble_eq_true rfl) ⟨Nat.le_of_ble_eq_true rfl, Nat.le_of_ble_eq_true rfl⟩ ⟨Nat.le_of_ble_eq_true rfl, Nat.le_of_ble_eq_true rfl⟩ dX5_isNovelFor_2 (fun r2 v2 hp2 => ?_)
  obtain ⟨rfl, g1, g2⟩ := hp2
  refine VV.eq (st2 := [.int (nI (rnk ps))]) rfl ?_
  refine r_pop C (pc := 5) rfl dX5_isNovelFor_5 ?_
  refine r_aload_n C (pc := 6) rfl rfl dX5_isNovelFor_6 ?_
  refine r_get C (pc := 7) (ci := 5) (k := 7) (w := .ref (t + 20)) rfl (by decide) inX5 (by decide) q_212 (Or.inl hd0) hs0 (zl_ref _ _) dX5_isNovelFor_7 ?_
  refine r_iload_n C (pc := 10) rfl rfl dX5_isNovelFor_10 ?_
  refine r_callV C (pc := 11) (st := []) (m_X4_reduce l G sh v2 N (q := x) tsp g1 hx (spr_lt hps _)) kyX4_reduce q_551 rfl (Or.inl hd20) hs20 (by decide) rfl rfl rfl (Nat.le_of_ble_eq_true rfl) ⟨Nat.le_of_ble_eq_true rfl, Nat.le_of_ble_eq_true rfl⟩ ⟨Nat.le_of_ble_eq_true rfl, Nat.le_of_ble_eq_true rfl⟩ dX5_isNovelFor_11 (fun r11 v11 hp11 => ?_)
  obtain ⟨rfl, ehp11⟩ := hp11
  refine VV.vq ehp11 ?_
  refine VV.eq (st2 := [.int (nI (rdp (spo ps) 12 x))]) rfl ?_
  have hrl : (rdp (spo ps) 12 x) < 2 ^ 20 := rdp_lt (spr_lt hps _) 12 x (Nat.le_refl 12) hx
  refine r_callSN C (pc := 14) (st := []) (m_X6_setIn l G sh v2 N (q := (rdp (spo ps) 12 x)) (by omega)) kyX6_setIn q_525 rfl rfl (Nat.le_of_ble_eq_true rfl) ⟨Nat.le_of_ble_eq_true rfl, Nat.le_of_ble_eq_true rfl⟩ ⟨Nat.le_of_ble_eq_true rfl, Nat.le_of_ble_eq_true rfl⟩ dX5_isNovelFor_14 (fun r14 v14 hp14 => ?_)
  obtain ⟨rfl, ehp14⟩ := hp14
  refine VV.vq ehp14 ?_
  refine VV.eq (st2 := [.int (nI ((rdp (spo ps) 12 x) / 256))]) rfl ?_
  refine n_if_eq C (pc := 17) (tgt := 24) (by omega) dX5_isNovelFor_17 (by decide) (fun c_17 => ?_) (fun c_17 => ?_)
  · refine r_iconst C (pc := 24) (x := (nI 0)) (by decide) dX5_isNovelFor_24 ?_
    exact r_iret C (pc := 25) rfl (rfl) dX5_isNovelFor_25 ⟨rfl, rfl, by rw [show nov ps x = false from decide_eq_false (by omega)]; rfl, g2⟩
  · refine r_iconst C (pc := 20) (x := (nI 1)) (by decide) dX5_isNovelFor_20 ?_
    refine r_goto C (pc := 21) (tgt := 25) dX5_isNovelFor_21 (by decide) ?_
    exact r_iret C (pc := 25) rfl (rfl) dX5_isNovelFor_25 ⟨rfl, rfl, by rw [show nov ps x = true from decide_eq_true (by omega)]; rfl, g2⟩
set_option maxRecDepth 100000 in
set_option maxHeartbeats 4000000 in
theorem m_X5_listOf (l : Launch) (G : zG) (sh : zH) (v : zV) (N : Nat) {t : Nat} {M : zMS} {n : Nat} (hp : zTR G sh N t) (hv : zt v t M) (hk : mOK M) (hn : n < 2 ^ 30) : zm l G yX5_listOf cX5_listOf 2 (some (.object "RelayTransfer$PacketList")) 0 [.ref t, .int (nI n)] sh v N (fun r v1 => r = some (if n = M.1 1 + 1 then .ref (t + 6 + 1) else if 1 ≤ n ∧ n ≤ M.1 1 then .ref (t + 22 + 2 * (n - 1)) else .null) ∧ v1 = v) := by
  refine zM.of (by decide) rfl (Nat.le_of_ble_eq_true rfl) ?_
  intro p e s m args below meth c C
  obtain ⟨tB, tN, hs0, tse, hs5, trc, hs19, tsp, tst⟩ := id hp
  have hd0 : G.2.2.1 ≤ t ∧ t < N := ⟨by omega, by omega⟩
  have hd1 : G.2.2.1 ≤ t + 1 ∧ t + 1 < N := ⟨by omega, by omega⟩
  have hd5 : G.2.2.1 ≤ t + 5 ∧ t + 5 < N := ⟨by omega, by omega⟩
  have hd6 : G.2.2.1 ≤ t + 6 ∧ t + 6 < N := ⟨by omega, by omega⟩
  have hd19 : G.2.2.1 ≤ t + 19 ∧ t + 19 < N := ⟨by omega, by omega⟩
  have hd20 : G.2.2.1 ≤ t + 20 ∧ t + 20 < N := ⟨by omega, by omega⟩
  have hd61 : G.2.2.1 ≤ t + 6 + 1 ∧ t + 6 + 1 < N := ⟨by omega, by omega⟩
  have hd65 : G.2.2.1 ≤ t + 6 + 5 ∧ t + 6 + 5 < N := ⟨by omega, by omega⟩
  have hd610 : G.2.2.1 ≤ t + 6 + 10 ∧ t + 6 + 10 < N := ⟨by omega, by omega⟩
  have hd68 : G.2.2.1 ≤ t + 6 + 8 ∧ t + 6 + 8 < N := ⟨by omega, by omega⟩
  have hs1 := tse.2.2.1
  have hs6 := trc.2.2.1
  have hs20 := tsp.2.2.1
  have hs61 := trc.2.2.2.1.2.2.2.1
  have hs65 := trc.2.2.2.2.2.1.2.2.1
  have hs68 := trc.2.2.2.2.2.2.1.2.2.2.1
  have hs610 := trc.2.2.2.2.2.2.2.2.2.1
  have hR := hk.1.2.2.1
  refine r_iload_n C (pc := 0) rfl rfl dX5_listOf_0 ?_
  refine r_aload_n C (pc := 1) rfl rfl dX5_listOf_1 ?_
  refine r_get C (pc := 2) (ci := 5) (k := 0) (w := .ref (t + 1)) rfl (by decide) inX5 (by decide) q_200 (Or.inl hd0) hs0 (zl_ref _ _) dX5_listOf_2 ?_
  refine r_getN C (pc := 5) (ci := 3) (k := 4) (w := .int (nI (M.1 1))) rfl (by decide) inX3 (by decide) q_69 (Or.inl hd1) hs1 (zl_i (hv.2.2.2.1.2.1)) dX5_listOf_5 ?_
  refine r_iconst C (pc := 8) (x := (nI 1)) (by decide) dX5_listOf_8 ?_
  refine r_iadd C (pc := 9) (z := (nI ((M.1 1) + 1))) (nI_add _ _) dX5_listOf_9 ?_
  refine n_icmp_ne C (pc := 10) (tgt := 21) (by omega) (by omega) dX5_listOf_10 (by decide) (fun c_10 => ?_) (fun c_10 => ?_)
  · refine r_iload_n C (pc := 21) rfl rfl dX5_listOf_21 ?_
    refine r_iconst C (pc := 22) (x := (nI 1)) (by decide) dX5_listOf_22 ?_
    refine n_icmp_lt C (pc := 23) (tgt := 57) (by omega) (by omega) dX5_listOf_23 (by decide) (fun c_23 => ?_) (fun c_23 => ?_)
    · refine r_null C (pc := 57) dX5_listOf_57 ?_
      exact r_aret C (pc := 58) rfl (Or.inl rfl) dX5_listOf_58 ⟨rfl, rfl, by rw [if_neg (by omega), if_neg (by omega)], rfl⟩
    · refine r_iload_n C (pc := 26) rfl rfl dX5_listOf_26 ?_
      refine r_aload_n C (pc := 27) rfl rfl dX5_listOf_27 ?_
      refine r_get C (pc := 28) (ci := 5) (k := 0) (w := .ref (t + 1)) rfl (by decide) inX5 (by decide) q_200 (Or.inl hd0) hs0 (zl_ref _ _) dX5_listOf_28 ?_
      refine r_getN C (pc := 31) (ci := 3) (k := 4) (w := .int (nI (M.1 1))) rfl (by decide) inX3 (by decide) q_69 (Or.inl hd1) hs1 (zl_i (hv.2.2.2.1.2.1)) dX5_listOf_31 ?_
      refine n_icmp_gt C (pc := 34) (tgt := 57) (by omega) (by omega) dX5_listOf_34 (by decide) (fun c_34 => ?_) (fun c_34 => ?_)
      · refine r_null C (pc := 57) dX5_listOf_57 ?_
        exact r_aret C (pc := 58) rfl (Or.inl rfl) dX5_listOf_58 ⟨rfl, rfl, by rw [if_neg (by omega), if_neg (by omega)], rfl⟩
      · refine r_iload_n C (pc := 37) rfl rfl dX5_listOf_37 ?_
        refine r_aload_n C (pc := 38) rfl rfl dX5_listOf_38 ?_
        refine r_get C (pc := 39) (ci := 5) (k := 1) (w := .ref (t + 5)) rfl (by decide) inX5 (by decide) q_202 (Or.inl hd0) hs0 (zl_ref _ _) dX5_listOf_39 ?_
        refine r_alen C (pc := 42) (x := nI 3) (Or.inl hd5) hs5 (by decide) rfl rfl dX5_listOf_42 ?_
        refine n_icmp_gt C (pc := 43) (tgt := 57) (by omega) (by omega) dX5_listOf_43 (by decide) (fun c_43 => by exfalso; omega) (fun c_43 => ?_)
        refine r_aload_n C (pc := 46) rfl rfl dX5_listOf_46 ?_
        refine r_get C (pc := 47) (ci := 5) (k := 1) (w := .ref (t + 5)) rfl (by decide) inX5 (by decide) q_202 (Or.inl hd0) hs0 (zl_ref _ _) dX5_listOf_47 ?_
        refine r_iload_n C (pc := 50) rfl rfl dX5_listOf_50 ?_
        refine r_iconst C (pc := 51) (x := (nI 1)) (by decide) dX5_listOf_51 ?_
        refine r_isub C (pc := 52) (z := (nI (n - 1))) (pk_sub (by omega)) dX5_listOf_52 ?_
        refine r_aald C (pc := 53) (w := .ref (t + 22 + 2 * (n - 1))) (Or.inl hd5) hs5 (by decide) rfl (by omega) (by omega) (st_ref (by omega)) dX5_listOf_53 ?_
        refine r_goto C (pc := 54) (tgt := 58) dX5_listOf_54 (by decide) ?_
        exact r_aret C (pc := 58) rfl (Or.inr ⟨_, rfl⟩) dX5_listOf_58 ⟨rfl, rfl, by rw [if_neg (by omega), if_pos (by omega)], rfl⟩
  · refine r_aload_n C (pc := 13) rfl rfl dX5_listOf_13 ?_
    refine r_get C (pc := 14) (ci := 5) (k := 2) (w := .ref (t + 6)) rfl (by decide) inX5 (by decide) q_203 (Or.inl hd0) hs0 (zl_ref _ _) dX5_listOf_14 ?_
    refine r_getN C (pc := 17) (ci := 2) (k := 0) (w := .ref (t + 6 + 1)) rfl (by decide) inX2 (by decide) q_163 (Or.inl hd6) hs6 (zl_ref _ _) dX5_listOf_17 ?_
    exact r_aret C (pc := 20) rfl (Or.inr ⟨_, rfl⟩) dX5_listOf_20 ⟨rfl, rfl, by rw [if_pos (by omega)], rfl⟩
set_option maxRecDepth 100000 in
set_option maxHeartbeats 4000000 in
theorem m_X5_listOfN (l : Launch) (G : zG) (sh : zH) (v : zV) (N : Nat) {t : Nat} {M : zMS} {y : Int32} (hp : zTR G sh N t) (hv : zt v t M) (hk : mOK M) (hy : y < 0) : zm l G yX5_listOf cX5_listOf 2 (some (.object "RelayTransfer$PacketList")) 0 [.ref t, .int y] sh v N (fun r v1 => r = some .null ∧ v1 = v) := by
  refine zM.of (by decide) rfl (Nat.le_of_ble_eq_true rfl) ?_
  intro p e s m args below meth c C
  obtain ⟨tB, tN, hs0, tse, hs5, trc, hs19, tsp, tst⟩ := id hp
  have hd0 : G.2.2.1 ≤ t ∧ t < N := ⟨by omega, by omega⟩
  have hd1 : G.2.2.1 ≤ t + 1 ∧ t + 1 < N := ⟨by omega, by omega⟩
  have hd5 : G.2.2.1 ≤ t + 5 ∧ t + 5 < N := ⟨by omega, by omega⟩
  have hd6 : G.2.2.1 ≤ t + 6 ∧ t + 6 < N := ⟨by omega, by omega⟩
  have hd19 : G.2.2.1 ≤ t + 19 ∧ t + 19 < N := ⟨by omega, by omega⟩
  have hd20 : G.2.2.1 ≤ t + 20 ∧ t + 20 < N := ⟨by omega, by omega⟩
  have hd61 : G.2.2.1 ≤ t + 6 + 1 ∧ t + 6 + 1 < N := ⟨by omega, by omega⟩
  have hd65 : G.2.2.1 ≤ t + 6 + 5 ∧ t + 6 + 5 < N := ⟨by omega, by omega⟩
  have hd610 : G.2.2.1 ≤ t + 6 + 10 ∧ t + 6 + 10 < N := ⟨by omega, by omega⟩
  have hd68 : G.2.2.1 ≤ t + 6 + 8 ∧ t + 6 + 8 < N := ⟨by omega, by omega⟩
  have hs1 := tse.2.2.1
  have hs6 := trc.2.2.1
  have hs20 := tsp.2.2.1
  have hs61 := trc.2.2.2.1.2.2.2.1
  have hs65 := trc.2.2.2.2.2.1.2.2.1
  have hs68 := trc.2.2.2.2.2.2.1.2.2.2.1
  have hs610 := trc.2.2.2.2.2.2.2.2.2.1
  have hR := hk.1.2.2.1
  refine r_iload_n C (pc := 0) rfl rfl dX5_listOf_0 ?_
  refine r_aload_n C (pc := 1) rfl rfl dX5_listOf_1 ?_
  refine r_get C (pc := 2) (ci := 5) (k := 0) (w := .ref (t + 1)) rfl (by decide) inX5 (by decide) q_200 (Or.inl hd0) hs0 (zl_ref _ _) dX5_listOf_2 ?_
  refine r_getN C (pc := 5) (ci := 3) (k := 4) (w := .int (nI (M.1 1))) rfl (by decide) inX3 (by decide) q_69 (Or.inl hd1) hs1 (zl_i (hv.2.2.2.1.2.1)) dX5_listOf_5 ?_
  refine r_iconst C (pc := 8) (x := (nI 1)) (by decide) dX5_listOf_8 ?_
  refine r_iadd C (pc := 9) (z := (nI (M.1 1 + 1))) (nI_add _ _) dX5_listOf_9 ?_
  refine r_icmp_ne C (pc := 10) (tgt := 21) dX5_listOf_10 (by decide) (fun c_10 => ?_) (fun c_10 => by exfalso; rw [c_10] at hy; exact nI_pos (by omega) hy)
  refine r_iload_n C (pc := 21) rfl rfl dX5_listOf_21 ?_
  refine r_iconst C (pc := 22) (x := (nI 1)) (by decide) dX5_listOf_22 ?_
  refine r_icmp_lt C (pc := 23) (tgt := 57) dX5_listOf_23 (by decide) (fun c_23 => ?_) (fun c_23 => by exfalso; exact c_23 (Int32.lt_trans hy (by decide)))
  refine r_null C (pc := 57) dX5_listOf_57 ?_
  exact r_aret C (pc := 58) rfl (Or.inl rfl) dX5_listOf_58 ⟨rfl, rfl, rfl, rfl⟩
set_option maxRecDepth 100000 in
set_option maxHeartbeats 4000000 in
theorem m_X5_forward (l : Launch) (G : zG) (sh : zH) (v : zV) (N : Nat) {t i : Nat} {M : zMS} (hp : zTR G sh N t) (hv : zt v t M) (hk : mOK M) (hi : i < 3) (hl : 0 < (M.2.1 i).length) : zm l G yX5_forward cX5_forward 3 (some .int) 1 [.ref t, .ref (t + 22 + 2 * i)] sh v N (fun r v1 => r = some (.int (nI ((M.2.1 i).getD 0 0))) ∧ zt v1 t (M.1, upl M.2.1 i ((M.2.1 i).eraseIdx 0 ++ [(M.2.1 i).getD 0 0]), M.2.2) ∧ zfr v v1 (t + 22 + 2 * i) 2) := by
  refine zM.of (by decide) rfl (Nat.le_of_ble_eq_true rfl) ?_
  intro p e s m args below meth c C
  obtain ⟨tB, tN, hs0, tse, hs5, trc, hs19, tsp, tst⟩ := id hp
  have hd0 : G.2.2.1 ≤ t ∧ t < N := ⟨by omega, by omega⟩
  have hd1 : G.2.2.1 ≤ t + 1 ∧ t + 1 < N := ⟨by omega, by omega⟩
  have hd5 : G.2.2.1 ≤ t + 5 ∧ t + 5 < N := ⟨by omega, by omega⟩
  have hd6 : G.2.2.1 ≤ t + 6 ∧ t + 6 < N := ⟨by omega, by omega⟩
  have hd19 : G.2.2.1 ≤ t + 19 ∧ t + 19 < N := ⟨by omega, by omega⟩
  have hd20 : G.2.2.1 ≤ t + 20 ∧ t + 20 < N := ⟨by omega, by omega⟩
  have hd61 : G.2.2.1 ≤ t + 6 + 1 ∧ t + 6 + 1 < N := ⟨by omega, by omega⟩
  have hd65 : G.2.2.1 ≤ t + 6 + 5 ∧ t + 6 + 5 < N := ⟨by omega, by omega⟩
  have hd610 : G.2.2.1 ≤ t + 6 + 10 ∧ t + 6 + 10 < N := ⟨by omega, by omega⟩
  have hd68 : G.2.2.1 ≤ t + 6 + 8 ∧ t + 6 + 8 < N := ⟨by omega, by omega⟩
  have hs1 := tse.2.2.1
  have hs6 := trc.2.2.1
  have hs20 := tsp.2.2.1
  have hs61 := trc.2.2.2.1.2.2.2.1
  have hs65 := trc.2.2.2.2.2.1.2.2.1
  have hs68 := trc.2.2.2.2.2.2.1.2.2.2.1
  have hs610 := trc.2.2.2.2.2.2.2.2.2.1
  have hpa := hp.2.2.2.2.2.2.2.2 i hi
  have hva := hv.2.2.2.2.1 i hi
  have hda : G.2.2.1 ≤ t + 22 + 2 * i ∧ t + 22 + 2 * i < N := ⟨hpa.1, by have := hpa.2.1; omega⟩
  have ha0 := hpa.2.2.2.1
  have hl4 : (M.2.1 i).length ≤ 4 := hva.2.1
  refine r_aload_n C (pc := 0) rfl rfl dX5_forward_0 ?_
  refine r_iconst C (pc := 1) (x := (nI 0)) (by decide) dX5_forward_1 ?_
  refine r_callV C (pc := 2) (st := []) (m_X1_removeAt l G sh v N (k := 0) hpa hva hl) kyX1_removeAt q_530 rfl (Or.inl hda) ha0 (by decide) rfl rfl rfl (Nat.le_of_ble_eq_true rfl) ⟨Nat.le_of_ble_eq_true rfl, Nat.le_of_ble_eq_true rfl⟩ ⟨Nat.le_of_ble_eq_true rfl, Nat.le_of_ble_eq_true rfl⟩ dX5_forward_2 (fun r2 v2 hp2 => ?_)
  obtain ⟨rfl, g1, g2⟩ := hp2
  refine VV.eq (st2 := [.int (nI ((M.2.1 i).getD 0 0))]) rfl ?_
  refine r_istore_n C (pc := 5) (lv2 := [some (.ref t), some (.ref (t + 22 + 2 * i)), some (.int (nI ((M.2.1 i).getD 0 0)))]) rfl (Nat.le_of_ble_eq_true rfl) rfl rfl dX5_forward_5 ?_
  refine r_aload_n C (pc := 6) rfl rfl dX5_forward_6 ?_
  refine r_iload_n C (pc := 7) rfl rfl dX5_forward_7 ?_
  refine r_callV C (pc := 8) (st := []) (m_X1_append l G sh v2 N (q := (M.2.1 i).getD 0 0) hpa g1 (by rw [List.length_eraseIdx_of_lt hl]; have := hva.2.1; omega)) kyX1_append q_531 rfl (Or.inl hda) ha0 (by decide) rfl rfl rfl (Nat.le_of_ble_eq_true rfl) ⟨Nat.le_of_ble_eq_true rfl, Nat.le_of_ble_eq_true rfl⟩ ⟨Nat.le_of_ble_eq_true rfl, Nat.le_of_ble_eq_true rfl⟩ dX5_forward_8 (fun r8 v8 hp8 => ?_)
  obtain ⟨rfl, g3, g4⟩ := hp8
  refine VV.eq (st2 := []) rfl ?_
  refine r_iload_n C (pc := 11) rfl rfl dX5_forward_11 ?_
  exact r_iret C (pc := 12) rfl (rfl) dX5_forward_12 ⟨rfl, rfl, rfl, zt_st hv hi g3 (g2.tr g4), g2.tr g4⟩
set_option maxRecDepth 100000 in
set_option maxHeartbeats 4000000 in
theorem m_X5_recode (l : Launch) (G : zG) (sh : zH) (v : zV) (N : Nat) {t i : Nat} {M : zMS} (hp : zTR G sh N t) (hv : zt v t M) (hk : mOK M) (hi : i < 3) (hl : 0 < (M.2.1 i).length) : zm l G yX5_recode cX5_recode 5 (some .int) 1 [.ref t, .ref (t + 22 + 2 * i)] sh v N (fun r v1 => r = some (.int (nI (rcp (M.2.1 i) (rcs (M.2.1 i) (M.1 6) (M.2.1 i).length)))) ∧ zt v1 t (upc M.1 6 (rcs (M.2.1 i) (M.1 6) (M.2.1 i).length).1, M.2) ∧ zfr v v1 (t + 1) 4) := by
  refine zM.of (by decide) rfl (Nat.le_of_ble_eq_true rfl) ?_
  intro p e s m args below meth c C
  obtain ⟨tB, tN, hs0, tse, hs5, trc, hs19, tsp, tst⟩ := id hp
  have hd0 : G.2.2.1 ≤ t ∧ t < N := ⟨by omega, by omega⟩
  have hd1 : G.2.2.1 ≤ t + 1 ∧ t + 1 < N := ⟨by omega, by omega⟩
  have hd5 : G.2.2.1 ≤ t + 5 ∧ t + 5 < N := ⟨by omega, by omega⟩
  have hd6 : G.2.2.1 ≤ t + 6 ∧ t + 6 < N := ⟨by omega, by omega⟩
  have hd19 : G.2.2.1 ≤ t + 19 ∧ t + 19 < N := ⟨by omega, by omega⟩
  have hd20 : G.2.2.1 ≤ t + 20 ∧ t + 20 < N := ⟨by omega, by omega⟩
  have hd61 : G.2.2.1 ≤ t + 6 + 1 ∧ t + 6 + 1 < N := ⟨by omega, by omega⟩
  have hd65 : G.2.2.1 ≤ t + 6 + 5 ∧ t + 6 + 5 < N := ⟨by omega, by omega⟩
  have hd610 : G.2.2.1 ≤ t + 6 + 10 ∧ t + 6 + 10 < N := ⟨by omega, by omega⟩
  have hd68 : G.2.2.1 ≤ t + 6 + 8 ∧ t + 6 + 8 < N := ⟨by omega, by omega⟩
  have hs1 := tse.2.2.1
  have hs6 := trc.2.2.1
  have hs20 := tsp.2.2.1
  have hs61 := trc.2.2.2.1.2.2.2.1
  have hs65 := trc.2.2.2.2.2.1.2.2.1
  have hs68 := trc.2.2.2.2.2.2.1.2.2.2.1
  have hs610 := trc.2.2.2.2.2.2.2.2.2.1
  have hpa := hp.2.2.2.2.2.2.2.2 i hi
  have hva := hv.2.2.2.2.1 i hi
  have hda : G.2.2.1 ≤ t + 22 + 2 * i ∧ t + 22 + 2 * i < N := ⟨hpa.1, by have := hpa.2.1; omega⟩
  have ha0 := hpa.2.2.2.1
  have hl4 : (M.2.1 i).length ≤ 4 := hva.2.1
  have hrk := rcs_ok (hk.2.2.1 i (by omega)) hk.1.2.2.2.2.2.2.2.1
  have loop : ∀ (n k : Nat) (v' : zV), (M.2.1 i).length - k < n → k ≤ (M.2.1 i).length → zt v' t (upc M.1 6 (rcs (M.2.1 i) (M.1 6) k).1, M.2) → zfr v v' (t + 1) 4 → VV p l e ({ frames := 1, cells := 0, slots := 0, locals := 32 * 1 }) s m args below meth c 0 0 (zQ below (fun r sh1 v1 N1 => sh1 = sh ∧ N1 = N ∧ (r = some (.int (nI (rcp (M.2.1 i) (rcs (M.2.1 i) (M.1 6) (M.2.1 i).length)))) ∧ zt v1 t (upc M.1 6 (rcs (M.2.1 i) (M.1 6) (M.2.1 i).length).1, M.2) ∧ zfr v v1 (t + 1) 4)) G args s 0 0) G 5 sh v' N 7 [some (.ref t), some (.ref (t + 22 + 2 * i)), some (.int (nI ((rcs (M.2.1 i) (M.1 6) k).2.1))), some (.int (zb ((rcs (M.2.1 i) (M.1 6) k).2.2))), some (.int (nI k))] [] := by
    intro n
    induction n with
    | zero => intro k v' hm; omega
    | succ n ih =>
      intro k v' hm hkl0 e1 e2
      refine r_iload C (pc := 7) rfl dX5_recode_7 ?_
      refine r_aload_n C (pc := 9) rfl rfl dX5_recode_9 ?_
      have e1s := e1.2.2.2.2.1 i hi
      refine r_getN C (pc := 10) (ci := 1) (k := 1) (w := .int (nI ((M.2.1 i).length))) rfl (by decide) inX1 (by decide) q_122 (Or.inl hda) ha0 (zl_i (e1s.1)) dX5_recode_10 ?_
      refine n_icmp_ge C (pc := 13) (tgt := 45) (by omega) (by have := hva.2.1; omega) dX5_recode_13 (by decide) (fun c_13 => ?_) (fun c_13 => ?_)
      · have hkl : k = (M.2.1 i).length := by omega
        refine r_iload_n C (pc := 45) rfl rfl dX5_recode_45 ?_
        refine n_ifb_ne C (pc := 46) (tgt := 55) dX5_recode_46 (by decide) (fun c_46 => ?_) (fun c_46 => ?_)
        · refine r_iload_n C (pc := 55) rfl rfl dX5_recode_55 ?_
          refine r_callSN C (pc := 56) (st := []) (m_X6_setIn l G sh v' N (q := (rcs (M.2.1 i) (M.1 6) k).2.1) (by have := (hrk k).1.1; omega)) kyX6_setIn q_525 rfl rfl (Nat.le_of_ble_eq_true rfl) ⟨Nat.le_of_ble_eq_true rfl, Nat.le_of_ble_eq_true rfl⟩ ⟨Nat.le_of_ble_eq_true rfl, Nat.le_of_ble_eq_true rfl⟩ dX5_recode_56 (fun r56 v56 hp56 => ?_)
          obtain ⟨rfl, ehp56⟩ := hp56
          refine VV.vq ehp56 ?_
          refine VV.eq (st2 := [.int (nI ((rcs (M.2.1 i) (M.1 6) k).2.1 / 256))]) rfl ?_
          refine n_if_ne C (pc := 59) (tgt := 66) (by have := (hrk k).1.1; omega) dX5_recode_59 (by decide) (fun c_59 => ?_) (fun c_59 => ?_)
          · refine r_iload_n C (pc := 66) rfl rfl dX5_recode_66 ?_
            exact r_iret C (pc := 67) rfl (rfl) dX5_recode_67 ⟨rfl, rfl, by rw [← hkl]; unfold rcp; rw [if_pos c_46, if_neg (by omega)], by rw [← hkl]; exact e1, e2⟩
          · refine r_iconst C (pc := 62) (x := (nI 0)) (by decide) dX5_recode_62 ?_
            refine r_goto C (pc := 63) (tgt := 67) dX5_recode_63 (by decide) ?_
            exact r_iret C (pc := 67) rfl (rfl) dX5_recode_67 ⟨rfl, rfl, by rw [← hkl]; unfold rcp; rw [if_pos c_46, if_pos c_59], by rw [← hkl]; exact e1, e2⟩
        · refine r_aload_n C (pc := 49) rfl rfl dX5_recode_49 ?_
          refine r_iconst C (pc := 50) (x := (nI 0)) (by decide) dX5_recode_50 ?_
          refine r_callV C (pc := 51) (st := []) (m_X1_at l G sh v' N (j := 0) hpa (e1.2.2.2.2.1 i hi) (by decide)) kyX1_at q_524 rfl (Or.inl hda) ha0 (by decide) rfl rfl rfl (Nat.le_of_ble_eq_true rfl) ⟨Nat.le_of_ble_eq_true rfl, Nat.le_of_ble_eq_true rfl⟩ ⟨Nat.le_of_ble_eq_true rfl, Nat.le_of_ble_eq_true rfl⟩ dX5_recode_51 (fun r51 v51 hp51 => ?_)
          obtain ⟨rfl, ehp51⟩ := hp51
          refine VV.vq ehp51 ?_
          refine VV.eq (st2 := [.int (nI ((M.2.1 i).getD 0 0))]) rfl ?_
          exact r_iret C (pc := 54) rfl (rfl) dX5_recode_54 ⟨rfl, rfl, by rw [← hkl]; unfold rcp; rw [if_neg (by rw [c_46]; decide)], by rw [← hkl]; exact e1, e2⟩
      · refine r_aload_n C (pc := 16) rfl rfl dX5_recode_16 ?_
        refine r_get C (pc := 17) (ci := 5) (k := 0) (w := .ref (t + 1)) rfl (by decide) inX5 (by decide) q_200 (Or.inl hd0) hs0 (zl_ref _ _) dX5_recode_17 ?_
        refine r_iconst C (pc := 20) (x := (nI 2)) (by decide) dX5_recode_20 ?_
        refine r_callV C (pc := 21) (st := []) (m_X3_draw l G sh v' N tse e1.2.2.2.1 (sOK_seed hk.1 (rcs (M.2.1 i) (M.1 6) k).1 (hrk k).2) (n := 2) (by decide) (by decide)) kyX3_draw q_523 rfl (Or.inl hd1) hs1 (by decide) rfl rfl rfl (Nat.le_of_ble_eq_true rfl) ⟨Nat.le_of_ble_eq_true rfl, Nat.le_of_ble_eq_true rfl⟩ ⟨Nat.le_of_ble_eq_true rfl, Nat.le_of_ble_eq_true rfl⟩ dX5_recode_21 (fun r21 v21 hp21 => ?_)
        obtain ⟨rfl, g1, g2⟩ := hp21
        refine VV.eq (st2 := [.int (nI (drw ((upc M.1 6 (rcs (M.2.1 i) (M.1 6) k).1) 6) 2))]) rfl ?_
        have g3 := zt_set e1 g1 g2 (fun j hj => upc_n (by omega))
        rw [show (upc M.1 6 (rcs (M.2.1 i) (M.1 6) k).1) 6 = (rcs (M.2.1 i) (M.1 6) k).1 from upc_s _ _ _]
        refine r_iconst C (pc := 24) (x := (nI 1)) (by decide) dX5_recode_24 ?_
        refine n_icmp_ne C (pc := 25) (tgt := 39) (by have := drw_lt (rcs (M.2.1 i) (M.1 6) k).1 (n := 2) (by decide); omega) (by decide) dX5_recode_25 (by decide) (fun c_25 => ?_) (fun c_25 => ?_)
        · refine r_iinc C (pc := 39) (lv2 := [some (.ref t), some (.ref (t + 22 + 2 * i)), some (.int (nI ((rcs (M.2.1 i) (M.1 6) k).2.1))), some (.int (zb ((rcs (M.2.1 i) (M.1 6) k).2.2))), some (.int (nI (k + 1)))]) (y := (nI (k + 1))) rfl (nI_inc _ _) (Nat.le_of_ble_eq_true rfl) rfl rfl dX5_recode_39 ?_
          refine r_goto C (pc := 42) (tgt := 7) dX5_recode_42 (by decide) ?_
          have hs : (rcs (M.2.1 i) (M.1 6) (k + 1)) = (dseed (rcs (M.2.1 i) (M.1 6) k).1, (rcs (M.2.1 i) (M.1 6) k).2.1, (rcs (M.2.1 i) (M.1 6) k).2.2) := if_neg c_25
          have := ih (k + 1) v21 (by omega) (by omega)
          rw [hs] at this
          exact this (by dsimp only at g3; rw [upc_s, upc_upc] at g3; exact g3) (e2.tr g2)
        · refine r_iload_n C (pc := 28) rfl rfl dX5_recode_28 ?_
          refine r_aload_n C (pc := 29) rfl rfl dX5_recode_29 ?_
          refine r_iload C (pc := 30) rfl dX5_recode_30 ?_
          refine r_callV C (pc := 32) (st := [.int (nI ((rcs (M.2.1 i) (M.1 6) k).2.1))]) (m_X1_at l G sh v21 N (j := k) hpa (g3.2.2.2.2.1 i hi) (by have := hva.2.1; omega)) kyX1_at q_524 rfl (Or.inl hda) ha0 (by decide) rfl rfl rfl (Nat.le_of_ble_eq_true rfl) ⟨Nat.le_of_ble_eq_true rfl, Nat.le_of_ble_eq_true rfl⟩ ⟨Nat.le_of_ble_eq_true rfl, Nat.le_of_ble_eq_true rfl⟩ dX5_recode_32 (fun r32 v32 hp32 => ?_)
          obtain ⟨rfl, ehp32⟩ := hp32
          refine VV.vq ehp32 ?_
          refine VV.eq (st2 := [.int (nI ((M.2.1 i).getD k 0)), .int (nI ((rcs (M.2.1 i) (M.1 6) k).2.1))]) rfl ?_
          refine r_ixor C (pc := 35) (z := (nI ((rcs (M.2.1 i) (M.1 6) k).2.1 ^^^ (M.2.1 i).getD k 0))) (nx_xor _ _) dX5_recode_35 ?_
          refine r_istore_n C (pc := 36) (lv2 := [some (.ref t), some (.ref (t + 22 + 2 * i)), some (.int (nI ((rcs (M.2.1 i) (M.1 6) k).2.1 ^^^ (M.2.1 i).getD k 0))), some (.int (zb ((rcs (M.2.1 i) (M.1 6) k).2.2))), some (.int (nI k))]) rfl (Nat.le_of_ble_eq_true rfl) rfl rfl dX5_recode_36 ?_
          refine r_iconst C (pc := 37) (x := (nI 1)) (by decide) dX5_recode_37 ?_
          refine r_istore_n C (pc := 38) (lv2 := [some (.ref t), some (.ref (t + 22 + 2 * i)), some (.int (nI ((rcs (M.2.1 i) (M.1 6) k).2.1 ^^^ (M.2.1 i).getD k 0))), some (.int (nI 1)), some (.int (nI k))]) rfl (Nat.le_of_ble_eq_true rfl) rfl rfl dX5_recode_38 ?_
          refine r_iinc C (pc := 39) (lv2 := [some (.ref t), some (.ref (t + 22 + 2 * i)), some (.int (nI ((rcs (M.2.1 i) (M.1 6) k).2.1 ^^^ (M.2.1 i).getD k 0))), some (.int (nI 1)), some (.int (nI (k + 1)))]) (y := (nI (k + 1))) rfl (nI_inc _ _) (Nat.le_of_ble_eq_true rfl) rfl rfl dX5_recode_39 ?_
          refine r_goto C (pc := 42) (tgt := 7) dX5_recode_42 (by decide) ?_
          have hs : (rcs (M.2.1 i) (M.1 6) (k + 1)) = (dseed (rcs (M.2.1 i) (M.1 6) k).1, (rcs (M.2.1 i) (M.1 6) k).2.1 ^^^ (M.2.1 i).getD k 0, true) := if_pos c_25
          have := ih (k + 1) v21 (by omega) (by omega)
          rw [hs] at this
          exact this (by dsimp only at g3; rw [upc_s, upc_upc] at g3; exact g3) (e2.tr g2)
  refine r_iconst C (pc := 0) (x := (nI 0)) (by decide) dX5_recode_0 ?_
  refine r_istore_n C (pc := 1) (lv2 := [some (.ref t), some (.ref (t + 22 + 2 * i)), some (.int (nI 0)), none, none]) rfl (Nat.le_of_ble_eq_true rfl) rfl rfl dX5_recode_1 ?_
  refine r_iconst C (pc := 2) (x := (nI 0)) (by decide) dX5_recode_2 ?_
  refine r_istore_n C (pc := 3) (lv2 := [some (.ref t), some (.ref (t + 22 + 2 * i)), some (.int (nI 0)), some (.int (nI 0)), none]) rfl (Nat.le_of_ble_eq_true rfl) rfl rfl dX5_recode_3 ?_
  refine r_iconst C (pc := 4) (x := (nI 0)) (by decide) dX5_recode_4 ?_
  refine r_istore C (pc := 5) (lv2 := [some (.ref t), some (.ref (t + 22 + 2 * i)), some (.int (nI 0)), some (.int (nI 0)), some (.int (nI 0))]) (Nat.le_of_ble_eq_true rfl) rfl rfl dX5_recode_5 ?_
  exact loop ((M.2.1 i).length + 1) 0 v (by omega) (by omega) (by show zt v t (upc M.1 6 (M.1 6), M.2); rw [upc_id]; exact hv) zfr.rf
