theorem zt_t19 {v : zV} {t k : Nat} {x : Int32} {M : zMS} (h : zt v t M) : zt (z2 v (t + 19) k x) t M := h.kept (fun b h1 h2 h3 h4 h5 => z2_addr h3)
theorem zt_acc {v v1 : zV} {t p : Nat} {M : zMS} (h : zt v t M) (g : zrc v1 (t + 6) (zVl M) (if tkb (spo (M.2.1 3)) p then M.2.1 3 ++ [p] else M.2.1 3) (tkr (spo (M.2.1 3)) p) ((M.2.1 3).length + if tkb (spo (M.2.1 3)) p then 1 else 0) (plM (zVl M) (M.1 2) p M.2.2.2 (M.2.1 4)).2 (if tkb (spo (M.2.1 3)) p then slv (tkr (spo (M.2.1 3)) p) M.2.2.1 (M.1 2) 12 else M.2.2.1) (plM (zVl M) (M.1 2) p M.2.2.2 (M.2.1 4)).1 (M.1 31 + 1) (if tkb (spo (M.2.1 3)) p then M.1 32 else M.1 32 + 1) (max (M.1 33) (plM (zVl M) (M.1 2) p M.2.2.2 (M.2.1 4)).2.length)) (f : zfr v v1 (t + 6) 13) : zt v1 t (mAcc M p) := by
  refine zt_rc h ?_ f
  by_cases hb : tkb (spo (M.2.1 3)) p = true
  · simp only [hb, if_true] at g ⊢
    rw [spo_app, List.length_append]
    exact g
  · have hb2 : tkb (spo (M.2.1 3)) p = false := by simpa using hb
    have e : tkr (spo (M.2.1 3)) p = spo (M.2.1 3) := by
      cases hz : tkp (spo (M.2.1 3)) 12 p with
      | none => simp only [tkr, hz]
      | some z => rw [tkb, hz] at hb2; cases hb2
    rw [e] at g
    simp only [hb2] at g ⊢
    exact g
set_option maxRecDepth 100000 in
set_option maxHeartbeats 4000000 in
theorem m_X5_tick (l : Launch) (G : zG) (sh : zH) (v : zV) (N : Nat) {t : Nat} {M : zMS} (hp : zTR G sh N t) (hv : zt v t M) (hk : mOK M) : zm l G yX5_tick cX5_tick 2 none 5 [.ref t] sh v N (fun r v1 => r = none ∧ zt v1 t (mTick M) ∧ zfr v v1 t 28) := by
  refine zM.of (by decide) rfl (Nat.le_of_ble_eq_true rfl) ?_
  intro p e s m args below meth c C
  obtain ⟨tB, tN, hs0, tse, hs5, trc, hs19, tsp, tst⟩ := id hp
  have hd0 : G.2.2.1 ≤ t ∧ t < N := ⟨by omega, by omega⟩
  have hd1 : G.2.2.1 ≤ t + 1 ∧ t + 1 < N := ⟨by omega, by omega⟩
  have hd5 : G.2.2.1 ≤ t + 5 ∧ t + 5 < N := ⟨by omega, by omega⟩
  have hd6 : G.2.2.1 ≤ t + 6 ∧ t + 6 < N := ⟨by omega, by omega⟩
  have hd19 : G.2.2.1 ≤ t + 19 ∧ t + 19 < N := ⟨by omega, by omega⟩
  have hd20 : G.2.2.1 ≤ t + 20 ∧ t + 20 < N := ⟨by omega, by omega⟩
  have hd61 : G.2.2.1 ≤ t + 6 + 1 ∧ t + 6 + 1 < N := ⟨by omega, by omega⟩
  have hd65 : G.2.2.1 ≤ t + 6 + 5 ∧ t + 6 + 5 < N := ⟨by omega, by omega⟩
  have hd610 : G.2.2.1 ≤ t + 6 + 10 ∧ t + 6 + 10 < N := ⟨by omega, by omega⟩
  have hd68 : G.2.2.1 ≤ t + 6 + 8 ∧ t + 6 + 8 < N := ⟨by omega, by omega⟩
  have hs1 := tse.2.2.1
  have hs6 := trc.2.2.1
  have hs20 := tsp.2.2.1
  have hs61 := trc.2.2.2.1.2.2.2.1
  have hs65 := trc.2.2.2.2.2.1.2.2.1
  have hs68 := trc.2.2.2.2.2.2.1.2.2.2.1
  have hs610 := trc.2.2.2.2.2.2.2.2.2.1
  have hR := hk.1.2.2.1
  obtain ⟨hq1, hcon2, hq4⟩ := mP1_ok hk (M.1 1 + 1) (by omega)
  have hq3 : (mP1 M (M.1 1 + 1)).1.1 1 = M.1 1 := hq4 1 (by decide) (by decide) (by decide) (by decide)
  have hq2 : ∀ j, con (zVl (mP1 M (M.1 1 + 1)).1) ((mP1 M (M.1 1 + 1)).2 j) := fun j => con_of (fun b hb => (hq4 (17 + b) (by omega) (by omega) (by omega) (by omega)).symm) (hcon2 j)
  have phase2 : ∀ v' : zV, zt v' t (mP1 M (M.1 1 + 1)).1 → (∀ j, j < M.1 1 + 1 → v' (t + 19) j = nI ((mP1 M (M.1 1 + 1)).2 j)) → zfr v v' t 28 → VV p l e ({ frames := 5, cells := 0, slots := 0, locals := 32 * 5 }) s m args below meth c 0 0 (zQ below (fun r sh1 v1 N1 => sh1 = sh ∧ N1 = N ∧ (r = none ∧ zt v1 t (mTick M) ∧ zfr v v1 t 28)) G args s 0 0) G 2 sh v' N 86 [some (.ref t), some (.int (nI (M.1 1 + 1)))] [] := by
    intro v' E1 E2 E3
    have loop2 : ∀ (m_ n : Nat) (v' : zV), M.1 1 + 1 - n < m_ → n ≤ M.1 1 + 1 → zt v' t (mP2 (mP1 M (M.1 1 + 1)).1 (mP1 M (M.1 1 + 1)).2 n) → (∀ j, j < M.1 1 + 1 → v' (t + 19) j = nI ((mP1 M (M.1 1 + 1)).2 j)) → zfr v v' t 28 → VV p l e ({ frames := 5, cells := 0, slots := 0, locals := 32 * 5 }) s m args below meth c 0 0 (zQ below (fun r sh1 v1 N1 => sh1 = sh ∧ N1 = N ∧ (r = none ∧ zt v1 t (mTick M) ∧ zfr v v1 t 28)) G args s 0 0) G 2 sh v' N 88 [some (.ref t), some (.int (nI n))] [] := by
      intro m_
      induction m_ with
      | zero => intro n v' hm; omega
      | succ m_ ih =>
          intro n v' hm hn e1 e2 e3
          obtain ⟨hok, hcc⟩ := mP2_ok hq1 hq2 n (by omega)
          have hc1 : (mP2 (mP1 M (M.1 1 + 1)).1 (mP1 M (M.1 1 + 1)).2 n).1 1 = M.1 1 := (hcc 1 (by decide)).trans hq3
          refine r_iload_n C (pc := 88) rfl rfl dX5_tick_88 ?_
          refine r_aload_n C (pc := 89) rfl rfl dX5_tick_89 ?_
          refine r_get C (pc := 90) (ci := 5) (k := 0) (w := .ref (t + 1)) rfl (by decide) inX5 (by decide) q_200 (Or.inl hd0) hs0 (zl_ref _ _) dX5_tick_90 ?_
          refine r_getN C (pc := 93) (ci := 3) (k := 4) (w := .int (nI (M.1 1))) rfl (by decide) inX3 (by decide) q_69 (Or.inl hd1) hs1 (zl_i (by rw [e1.2.2.2.1.2.1, hc1])) dX5_tick_93 ?_
          refine n_icmp_gt C (pc := 96) (tgt := 175) (by omega) (by omega) dX5_tick_96 (by decide) (fun c_96 => ?_) (fun c_96 => ?_)
          · exact r_vret C (pc := 175) rfl dX5_tick_175 ⟨rfl, rfl, rfl, (by have hn2 : n = M.1 1 + 1 := (by omega); rw [hn2] at e1; exact e1), e3⟩
          · refine r_iload_n C (pc := 99) rfl rfl dX5_tick_99 ?_
            refine r_aload_n C (pc := 100) rfl rfl dX5_tick_100 ?_
            refine r_get C (pc := 101) (ci := 5) (k := 6) (w := .ref (t + 19)) rfl (by decide) inX5 (by decide) q_211 (Or.inl hd0) hs0 (zl_ref _ _) dX5_tick_101 ?_
            refine r_alen C (pc := 104) (x := nI 4) (Or.inl hd19) hs19 (by decide) rfl rfl dX5_tick_104 ?_
            refine n_icmp_ge C (pc := 105) (tgt := 175) (by omega) (by omega) dX5_tick_105 (by decide) (fun c_105 => by exfalso; omega) (fun c_105 => ?_)
            have hcn := hcon2 n
            have hcnl := hcn.1
            have hcz : con (zVl (mP2 (mP1 M (M.1 1 + 1)).1 (mP1 M (M.1 1 + 1)).2 n)) ((mP1 M (M.1 1 + 1)).2 n) := con_of (fun b hb => (hcc (17 + b) (by omega)).symm) (hq2 n)
            refine r_aload_n C (pc := 108) rfl rfl dX5_tick_108 ?_
            refine r_get C (pc := 109) (ci := 5) (k := 6) (w := .ref (t + 19)) rfl (by decide) inX5 (by decide) q_211 (Or.inl hd0) hs0 (zl_ref _ _) dX5_tick_109 ?_
            refine r_iload_n C (pc := 112) rfl rfl dX5_tick_112 ?_
            refine r_iald C (pc := 113) (x := (nI ((mP1 M (M.1 1 + 1)).2 n))) (Or.inl hd19) hs19 (by omega) (by omega) (e2 n (by omega)) dX5_tick_113 ?_
            refine n_if_ne C (pc := 114) (tgt := 120) (by omega) dX5_tick_114 (by decide) (fun c_114 => ?_) (fun c_114 => ?_)
            · refine r_iload_n C (pc := 120) rfl rfl dX5_tick_120 ?_
              refine r_aload_n C (pc := 121) rfl rfl dX5_tick_121 ?_
              refine r_get C (pc := 122) (ci := 5) (k := 0) (w := .ref (t + 1)) rfl (by decide) inX5 (by decide) q_200 (Or.inl hd0) hs0 (zl_ref _ _) dX5_tick_122 ?_
              refine r_getN C (pc := 125) (ci := 3) (k := 4) (w := .int (nI (M.1 1))) rfl (by decide) inX3 (by decide) q_69 (Or.inl hd1) hs1 (zl_i (by rw [e1.2.2.2.1.2.1, hc1])) dX5_tick_125 ?_
              refine n_icmp_ne C (pc := 128) (tgt := 152) (by omega) (by omega) dX5_tick_128 (by decide) (fun c_128 => ?_) (fun c_128 => ?_)
              · refine r_aload_n C (pc := 152) rfl rfl dX5_tick_152 ?_
                refine r_aload_n C (pc := 153) rfl rfl dX5_tick_153 ?_
                refine r_iload_n C (pc := 154) rfl rfl dX5_tick_154 ?_
                refine r_iconst C (pc := 155) (x := (nI 1)) (by decide) dX5_tick_155 ?_
                refine r_iadd C (pc := 156) (z := (nI (n + 1))) (nI_add _ _) dX5_tick_156 ?_
                have hi3 : n < 3 := by omega
                refine r_callV C (pc := 157) (st := [.ref t]) (m_X5_listOf l G sh v' N hp e1 hok (n := n + 1) (by omega)) kyX5_listOf q_515 rfl (Or.inl hd0) hs0 (by decide) rfl rfl rfl (Nat.le_of_ble_eq_true rfl) ⟨Nat.le_of_ble_eq_true rfl, Nat.le_of_ble_eq_true rfl⟩ ⟨Nat.le_of_ble_eq_true rfl, Nat.le_of_ble_eq_true rfl⟩ dX5_tick_157 (fun r157 v157 hp157 => ?_)
                obtain ⟨rfl, ehp157⟩ := hp157
                refine VV.vq ehp157 ?_
                rw [if_neg (by omega), if_pos (by omega), Nat.add_sub_cancel]
                have hda : G.2.2.1 ≤ t + 22 + 2 * n ∧ t + 22 + 2 * n < N := ⟨(tst n hi3).1, by have := (tst n hi3).2.1; omega⟩
                have ha0 := (tst n hi3).2.2.2.1
                refine VV.eq (st2 := [.ref (t + 22 + 2 * n), .ref t]) rfl ?_
                refine r_aload_n C (pc := 160) rfl rfl dX5_tick_160 ?_
                refine r_get C (pc := 161) (ci := 5) (k := 6) (w := .ref (t + 19)) rfl (by decide) inX5 (by decide) q_211 (Or.inl hd0) hs0 (zl_ref _ _) dX5_tick_161 ?_
                refine r_iload_n C (pc := 164) rfl rfl dX5_tick_164 ?_
                refine r_iald C (pc := 165) (x := (nI ((mP1 M (M.1 1 + 1)).2 n))) (Or.inl hd19) hs19 (by omega) (by omega) (e2 n (by omega)) dX5_tick_165 ?_
                refine r_callV C (pc := 166) (st := []) (m_X5_store l G sh v' N hp e1 hok hi3 hcz) kyX5_store q_537 rfl (Or.inl hd0) hs0 (by decide) rfl rfl rfl (Nat.le_of_ble_eq_true rfl) ⟨Nat.le_of_ble_eq_true rfl, Nat.le_of_ble_eq_true rfl⟩ ⟨Nat.le_of_ble_eq_true rfl, Nat.le_of_ble_eq_true rfl⟩ dX5_tick_166 (fun r166 v166 hp166 => ?_)
                obtain ⟨rfl, g1, g2, g3⟩ := hp166
                refine VV.eq (st2 := []) rfl ?_
                refine r_iinc C (pc := 169) (lv2 := [some (.ref t), some (.int (nI (n + 1)))]) (y := (nI (n + 1))) rfl (nI_inc _ _) (Nat.le_of_ble_eq_true rfl) rfl rfl dX5_tick_169 ?_
                refine r_goto C (pc := 172) (tgt := 88) dX5_tick_172 (by decide) ?_
                have hs : mArr (mP2 (mP1 M (M.1 1 + 1)).1 (mP1 M (M.1 1 + 1)).2 n) n ((mP1 M (M.1 1 + 1)).2 n) = mSto (mP2 (mP1 M (M.1 1 + 1)).1 (mP1 M (M.1 1 + 1)).2 n) n ((mP1 M (M.1 1 + 1)).2 n) := (if_neg (by omega)).trans (if_neg (by omega))
                refine ih (n + 1) v166 (by omega) (by omega) ?_ ?_ ?_
                · show zt _ t (mArr (mP2 (mP1 M (M.1 1 + 1)).1 (mP1 M (M.1 1 + 1)).2 n) n ((mP1 M (M.1 1 + 1)).2 n))
                  rw [hs]
                  exact g1
                · intro j hj
                  rw [g2]; exact e2 j hj
                · exact e3.tr g3
              · refine r_aload_n C (pc := 131) rfl rfl dX5_tick_131 ?_
                refine r_get C (pc := 132) (ci := 5) (k := 2) (w := .ref (t + 6)) rfl (by decide) inX5 (by decide) q_203 (Or.inl hd0) hs0 (zl_ref _ _) dX5_tick_132 ?_
                refine r_aload_n C (pc := 135) rfl rfl dX5_tick_135 ?_
                refine r_get C (pc := 136) (ci := 5) (k := 6) (w := .ref (t + 19)) rfl (by decide) inX5 (by decide) q_211 (Or.inl hd0) hs0 (zl_ref _ _) dX5_tick_136 ?_
                refine r_iload_n C (pc := 139) rfl rfl dX5_tick_139 ?_
                refine r_iald C (pc := 140) (x := (nI ((mP1 M (M.1 1 + 1)).2 n))) (Or.inl hd19) hs19 (by omega) (by omega) (e2 n (by omega)) dX5_tick_140 ?_
                refine r_aload_n C (pc := 141) rfl rfl dX5_tick_141 ?_
                refine r_get C (pc := 142) (ci := 5) (k := 3) (w := .int (nI ((mP2 (mP1 M (M.1 1 + 1)).1 (mP1 M (M.1 1 + 1)).2 n).1 2))) rfl (by decide) inX5 (by decide) q_205 (Or.inl hd0) hs0 (zl_i (e1.1)) dX5_tick_142 ?_
                refine r_callV C (pc := 145) (st := []) (m_X2_accept l G sh v' N (x := ((mP1 M (M.1 1 + 1)).2 n)) (t := (mP2 (mP1 M (M.1 1 + 1)).1 (mP1 M (M.1 1 + 1)).2 n).1 2) trc e1.2.2.2.2.2 (mOK_V hok) hcz (hok.2.2.1 4 (by decide)) (spr_con (hok.2.2.1 3 (by decide)) _) (nvl_k hok.2.2.2.1) (by have := hok.2.2.2.2.2; omega)) kyX2_accept q_536 rfl (Or.inl hd6) hs6 (by decide) rfl rfl rfl (Nat.le_of_ble_eq_true rfl) ⟨Nat.le_of_ble_eq_true rfl, Nat.le_of_ble_eq_true rfl⟩ ⟨Nat.le_of_ble_eq_true rfl, Nat.le_of_ble_eq_true rfl⟩ dX5_tick_145 (fun r145 v145 hp145 => ?_)
                obtain ⟨rfl, g1, g2⟩ := hp145
                refine VV.eq (st2 := [.int (zb (tkb (spo ((mP2 (mP1 M (M.1 1 + 1)).1 (mP1 M (M.1 1 + 1)).2 n).2.1 3)) ((mP1 M (M.1 1 + 1)).2 n)))]) rfl ?_
                have e4 : zt v145 t (mAcc (mP2 (mP1 M (M.1 1 + 1)).1 (mP1 M (M.1 1 + 1)).2 n) ((mP1 M (M.1 1 + 1)).2 n)) := zt_acc e1 g1 g2
                refine r_pop C (pc := 148) rfl dX5_tick_148 ?_
                refine r_goto C (pc := 149) (tgt := 169) dX5_tick_149 (by decide) ?_
                refine r_iinc C (pc := 169) (lv2 := [some (.ref t), some (.int (nI (n + 1)))]) (y := (nI (n + 1))) rfl (nI_inc _ _) (Nat.le_of_ble_eq_true rfl) rfl rfl dX5_tick_169 ?_
                refine r_goto C (pc := 172) (tgt := 88) dX5_tick_172 (by decide) ?_
                have hs : mArr (mP2 (mP1 M (M.1 1 + 1)).1 (mP1 M (M.1 1 + 1)).2 n) n ((mP1 M (M.1 1 + 1)).2 n) = mAcc (mP2 (mP1 M (M.1 1 + 1)).1 (mP1 M (M.1 1 + 1)).2 n) ((mP1 M (M.1 1 + 1)).2 n) := (if_neg (by omega)).trans (if_pos (by omega))
                refine ih (n + 1) v145 (by omega) (by omega) ?_ ?_ ?_
                · show zt _ t (mArr (mP2 (mP1 M (M.1 1 + 1)).1 (mP1 M (M.1 1 + 1)).2 n) n ((mP1 M (M.1 1 + 1)).2 n))
                  rw [hs]
                  exact e4
                · intro j hj
                  rw [g2 (t + 19) (by omega)]; exact e2 j hj
                · exact e3.tr (g2.wide (by omega) (by omega))
            · refine r_goto C (pc := 117) (tgt := 169) dX5_tick_117 (by decide) ?_
              refine r_iinc C (pc := 169) (lv2 := [some (.ref t), some (.int (nI (n + 1)))]) (y := (nI (n + 1))) rfl (nI_inc _ _) (Nat.le_of_ble_eq_true rfl) rfl rfl dX5_tick_169 ?_
              refine r_goto C (pc := 172) (tgt := 88) dX5_tick_172 (by decide) ?_
              have hs : mArr (mP2 (mP1 M (M.1 1 + 1)).1 (mP1 M (M.1 1 + 1)).2 n) n ((mP1 M (M.1 1 + 1)).2 n) = (mP2 (mP1 M (M.1 1 + 1)).1 (mP1 M (M.1 1 + 1)).2 n) := if_pos c_114
              refine ih (n + 1) v' (by omega) (by omega) ?_ ?_ ?_
              · show zt _ t (mArr (mP2 (mP1 M (M.1 1 + 1)).1 (mP1 M (M.1 1 + 1)).2 n) n ((mP1 M (M.1 1 + 1)).2 n))
                rw [hs]
                exact e1
              · intro j hj
                exact e2 j hj
              · exact e3
    refine r_iconst C (pc := 86) (x := (nI 0)) (by decide) dX5_tick_86 ?_
    refine r_istore_n C (pc := 87) (lv2 := [some (.ref t), some (.int (nI 0))]) rfl (Nat.le_of_ble_eq_true rfl) rfl rfl dX5_tick_87 ?_
    exact loop2 (M.1 1 + 2) 0 v' (by omega) (by omega) E1 E2 E3
  have loop : ∀ (m_ n : Nat) (v' : zV), M.1 1 + 1 - n < m_ → n ≤ M.1 1 + 1 → zt v' t (mP1 M n).1 → (∀ j, j < n → v' (t + 19) j = nI ((mP1 M n).2 j)) → zfr v v' t 28 → VV p l e ({ frames := 5, cells := 0, slots := 0, locals := 32 * 5 }) s m args below meth c 0 0 (zQ below (fun r sh1 v1 N1 => sh1 = sh ∧ N1 = N ∧ (r = none ∧ zt v1 t (mTick M) ∧ zfr v v1 t 28)) G args s 0 0) G 2 sh v' N 12 [some (.ref t), some (.int (nI n))] [] := by
    intro m_
    induction m_ with
    | zero => intro n v' hm; omega
    | succ m_ ih =>
      intro n v' hm hn e1 e2 e3
      obtain ⟨hok, hcon, hcc⟩ := mP1_ok hk n (by omega)
      have hc1 : (mP1 M n).1.1 1 = M.1 1 := hcc 1 (by decide) (by decide) (by decide) (by decide)
      refine r_iload_n C (pc := 12) rfl rfl dX5_tick_12 ?_
      refine r_aload_n C (pc := 13) rfl rfl dX5_tick_13 ?_
      refine r_get C (pc := 14) (ci := 5) (k := 0) (w := .ref (t + 1)) rfl (by decide) inX5 (by decide) q_200 (Or.inl hd0) hs0 (zl_ref _ _) dX5_tick_14 ?_
      refine r_getN C (pc := 17) (ci := 3) (k := 4) (w := .int (nI (M.1 1))) rfl (by decide) inX3 (by decide) q_69 (Or.inl hd1) hs1 (zl_i (by rw [e1.2.2.2.1.2.1, hc1])) dX5_tick_17 ?_
      refine n_icmp_gt C (pc := 20) (tgt := 86) (by omega) (by omega) dX5_tick_20 (by decide) (fun c_20 => ?_) (fun c_20 => ?_)
      · obtain rfl : n = M.1 1 + 1 := by omega
        exact phase2 v' e1 e2 e3
      · refine r_iload_n C (pc := 23) rfl rfl dX5_tick_23 ?_
        refine r_aload_n C (pc := 24) rfl rfl dX5_tick_24 ?_
        refine r_get C (pc := 25) (ci := 5) (k := 6) (w := .ref (t + 19)) rfl (by decide) inX5 (by decide) q_211 (Or.inl hd0) hs0 (zl_ref _ _) dX5_tick_25 ?_
        refine r_alen C (pc := 28) (x := nI 4) (Or.inl hd19) hs19 (by decide) rfl rfl dX5_tick_28 ?_
        refine n_icmp_ge C (pc := 29) (tgt := 86) (by omega) (by omega) dX5_tick_29 (by decide) (fun c_29 => by exfalso; omega) (fun c_29 => ?_)
        refine r_aload_n C (pc := 32) rfl rfl dX5_tick_32 ?_
        refine r_get C (pc := 33) (ci := 5) (k := 6) (w := .ref (t + 19)) rfl (by decide) inX5 (by decide) q_211 (Or.inl hd0) hs0 (zl_ref _ _) dX5_tick_33 ?_
        refine r_iload_n C (pc := 36) rfl rfl dX5_tick_36 ?_
        refine r_aload_n C (pc := 37) rfl rfl dX5_tick_37 ?_
        refine r_iload_n C (pc := 38) rfl rfl dX5_tick_38 ?_
        refine r_callV C (pc := 39) (st := [.int (nI n), .ref (t + 19)]) (m_X5_make l G sh v' N hp e1 hok (n := n) (by omega)) kyX5_make q_492 rfl (Or.inl hd0) hs0 (by decide) rfl rfl rfl (Nat.le_of_ble_eq_true rfl) ⟨Nat.le_of_ble_eq_true rfl, Nat.le_of_ble_eq_true rfl⟩ ⟨Nat.le_of_ble_eq_true rfl, Nat.le_of_ble_eq_true rfl⟩ dX5_tick_39 (fun r39 v39 hp39 => ?_)
        obtain ⟨rfl, g1, g2, g3⟩ := hp39
        refine VV.eq (st2 := [.int (nI ((mMk (mP1 M n).1 n).1)), .int (nI n), .ref (t + 19)]) rfl ?_
        obtain ⟨hok2, hcp⟩ := mMk_ok hok (n := n) (by omega)
        have hcpl := hcp.1
        have hm1 : (mMk (mP1 M n).1 n).2.1 1 = M.1 1 := (mMk_c _ n 1 (by decide) (by decide)).trans hc1
        refine r_iast C (pc := 42) hd19 hs19 (by omega) (by omega) dX5_tick_42 ?_
        refine VV.gn (fun w42 ew42 => ?_)
        refine r_aload_n C (pc := 43) rfl rfl dX5_tick_43 ?_
        refine r_get C (pc := 44) (ci := 5) (k := 6) (w := .ref (t + 19)) rfl (by decide) inX5 (by decide) q_211 (Or.inl hd0) hs0 (zl_ref _ _) dX5_tick_44 ?_
        refine r_iload_n C (pc := 47) rfl rfl dX5_tick_47 ?_
        refine r_iald C (pc := 48) (x := (nI ((mMk (mP1 M n).1 n).1))) (Or.inl hd19) hs19 (by omega) (by omega) (by rw [ew42, z2_self]) dX5_tick_48 ?_
        refine n_if_eq C (pc := 49) (tgt := 80) (by omega) dX5_tick_49 (by decide) (fun c_49 => ?_) (fun c_49 => ?_)
        · skip
          refine r_iinc C (pc := 80) (lv2 := [some (.ref t), some (.int (nI (n + 1)))]) (y := (nI (n + 1))) rfl (nI_inc _ _) (Nat.le_of_ble_eq_true rfl) rfl rfl dX5_tick_80 ?_
          refine r_goto C (pc := 83) (tgt := 12) dX5_tick_83 (by decide) ?_
          have hs : mSend (mP1 M n).1 n = (0, (mMk (mP1 M n).1 n).2) := if_pos c_49
          refine ih (n + 1) w42 (by omega) (by omega) ?_ ?_ ?_
          · show zt _ t (mSend (mP1 M n).1 n).2
            rw [hs]
            exact by rw [ew42]; exact zt_t19 g1
          · intro j hj
            show _ = nI (ups (mP1 M n).2 n (mSend (mP1 M n).1 n).1 j)
            rw [hs]
            dsimp only
            rw [ew42]
            by_cases hjn : j = n
            · subst hjn; rw [z2_self, c_49]; simp [ups]
            · rw [z2_ne (by omega), g2, e2 j (by omega)]; simp [ups, hjn]
          · exact (by rw [ew42]; exact (e3.tr g3).z2 (by omega) (by omega))
        · refine r_aload_n C (pc := 52) rfl rfl dX5_tick_52 ?_
          refine r_get C (pc := 53) (ci := 5) (k := 0) (w := .ref (t + 1)) rfl (by decide) inX5 (by decide) q_200 (Or.inl hd0) hs0 (zl_ref _ _) dX5_tick_53 ?_
          refine r_iload_n C (pc := 56) rfl rfl dX5_tick_56 ?_
          have e4 : zt w42 t (mMk (mP1 M n).1 n).2 := by rw [ew42]; exact zt_t19 g1
          refine r_callV C (pc := 57) (st := []) (m_X3_isLostOn l G sh w42 N tse e4.2.2.2.1 hok2.1 (i := n) (by omega)) kyX3_isLostOn q_532 rfl (Or.inl hd1) hs1 (by decide) rfl rfl rfl (Nat.le_of_ble_eq_true rfl) ⟨Nat.le_of_ble_eq_true rfl, Nat.le_of_ble_eq_true rfl⟩ ⟨Nat.le_of_ble_eq_true rfl, Nat.le_of_ble_eq_true rfl⟩ dX5_tick_57 (fun r57 v57 hp57 => ?_)
          obtain ⟨rfl, g4, g5⟩ := hp57
          refine VV.eq (st2 := [.int (zb (decide (drw ((mMk (mP1 M n).1 n).2.1 6) 100 < (mMk (mP1 M n).1 n).2.1 (7 + n))))]) rfl ?_
          have e5 := zt_set e4 g4 g5 (fun j hj => upc_n (by omega))
          refine n_ifb_eq C (pc := 60) (tgt := 80) dX5_tick_60 (by decide) (fun c_60 => ?_) (fun c_60 => ?_)
          · skip
            refine r_iinc C (pc := 80) (lv2 := [some (.ref t), some (.int (nI (n + 1)))]) (y := (nI (n + 1))) rfl (nI_inc _ _) (Nat.le_of_ble_eq_true rfl) rfl rfl dX5_tick_80 ?_
            refine r_goto C (pc := 83) (tgt := 12) dX5_tick_83 (by decide) ?_
            have hs : mSend (mP1 M n).1 n = ((mMk (mP1 M n).1 n).1, upc (mMk (mP1 M n).1 n).2.1 6 (dseed ((mMk (mP1 M n).1 n).2.1 6)), (mMk (mP1 M n).1 n).2.2) := (if_neg (by omega)).trans (if_neg (fun z => by rw [decide_eq_true z] at c_60; cases c_60))
            refine ih (n + 1) v57 (by omega) (by omega) ?_ ?_ ?_
            · show zt _ t (mSend (mP1 M n).1 n).2
              rw [hs]
              exact zt_set e4 g4 g5 (fun j hj => upc_n (by omega))
            · intro j hj
              show _ = nI (ups (mP1 M n).2 n (mSend (mP1 M n).1 n).1 j)
              rw [hs]
              dsimp only
              rw [g5 (t + 19) (by omega), ew42]
              by_cases hjn : j = n
              · subst hjn; rw [z2_self]; simp [ups]
              · rw [z2_ne (by omega), g2, e2 j (by omega)]; simp [ups, hjn]
            · exact ((by rw [ew42]; exact (e3.tr g3).z2 (by omega) (by omega) : zfr v w42 t 28).tr (g5.wide (by omega) (by omega)))
          · refine r_aload_n C (pc := 63) rfl rfl dX5_tick_63 ?_
            refine r_get C (pc := 64) (ci := 5) (k := 6) (w := .ref (t + 19)) rfl (by decide) inX5 (by decide) q_211 (Or.inl hd0) hs0 (zl_ref _ _) dX5_tick_64 ?_
            refine r_iload_n C (pc := 67) rfl rfl dX5_tick_67 ?_
            refine r_iconst C (pc := 68) (x := (nI 0)) (by decide) dX5_tick_68 ?_
            refine r_iast C (pc := 69) hd19 hs19 (by omega) (by omega) dX5_tick_69 ?_
            refine VV.gn (fun w69 ew69 => ?_)
            refine r_aload_n C (pc := 70) rfl rfl dX5_tick_70 ?_
            refine r_dup C (pc := 71) rfl dX5_tick_71 ?_
            refine r_get C (pc := 72) (ci := 5) (k := 5) (w := .int (nI ((mMk (mP1 M n).1 n).2.1 30))) rfl (by decide) inX5 (by decide) q_209 (Or.inl hd0) hs0 (zl_i (by rw [ew69, z2_addr (by omega), e5.2.2.1]; dsimp only; rw [upc_n (show (30 : Nat) ≠ 6 by decide)])) dX5_tick_72 ?_
            refine r_iconst C (pc := 75) (x := (nI 1)) (by decide) dX5_tick_75 ?_
            refine r_iadd C (pc := 76) (z := (nI (((mMk (mP1 M n).1 n).2.1 30) + 1))) (nI_add _ _) dX5_tick_76 ?_
            refine r_put C (pc := 77) (ci := 5) (k := 5) rfl (by decide) inX5 tyX5_ok nmX5 (by decide) rfl pfI rfl q_209 hd0 hs0 dX5_tick_77 ?_
            refine VV.gn (fun w77 ew77 => ?_)
            have e6 : zt w69 t (upc (mMk (mP1 M n).1 n).2.1 6 (dseed ((mMk (mP1 M n).1 n).2.1 6)), (mMk (mP1 M n).1 n).2.2) := by rw [ew69]; exact zt_t19 e5
            refine r_iinc C (pc := 80) (lv2 := [some (.ref t), some (.int (nI (n + 1)))]) (y := (nI (n + 1))) rfl (nI_inc _ _) (Nat.le_of_ble_eq_true rfl) rfl rfl dX5_tick_80 ?_
            refine r_goto C (pc := 83) (tgt := 12) dX5_tick_83 (by decide) ?_
            have hs : mSend (mP1 M n).1 n = (0, upc (upc (mMk (mP1 M n).1 n).2.1 6 (dseed ((mMk (mP1 M n).1 n).2.1 6))) 30 ((mMk (mP1 M n).1 n).2.1 30 + 1), (mMk (mP1 M n).1 n).2.2) := (if_neg (by omega)).trans (if_pos (of_decide_eq_true c_60))
            refine ih (n + 1) w77 (by omega) (by omega) ?_ ?_ ?_
            · show zt _ t (mSend (mP1 M n).1 n).2
              rw [hs]
              exact by rw [ew77]; exact zt_f e6 (Or.inr (Or.inr ⟨rfl, rfl⟩))
            · intro j hj
              show _ = nI (ups (mP1 M n).2 n (mSend (mP1 M n).1 n).1 j)
              rw [hs]
              dsimp only
              rw [ew77, z2_addr (by omega), ew69]
              by_cases hjn : j = n
              · subst hjn; rw [z2_self]; simp [ups]
              · rw [z2_ne (by omega), g5 (t + 19) (by omega), ew42, z2_ne (by omega), g2, e2 j (by omega)]; simp [ups, hjn]
            · exact (by rw [ew77, ew69]; exact (((by rw [ew42]; exact (e3.tr g3).z2 (by omega) (by omega) : zfr v w42 t 28).tr (g5.wide (by omega) (by omega))).z2 (by omega) (by omega)).z2 (by omega) (by omega))
  refine r_aload_n C (pc := 0) rfl rfl dX5_tick_0 ?_
  refine r_dup C (pc := 1) rfl dX5_tick_1 ?_
  refine r_get C (pc := 2) (ci := 5) (k := 3) (w := .int (nI (M.1 2))) rfl (by decide) inX5 (by decide) q_205 (Or.inl hd0) hs0 (zl_i (hv.1)) dX5_tick_2 ?_
  refine r_iconst C (pc := 5) (x := (nI 1)) (by decide) dX5_tick_5 ?_
  refine r_iadd C (pc := 6) (z := (nI ((M.1 2) + 1))) (nI_add _ _) dX5_tick_6 ?_
  refine r_put C (pc := 7) (ci := 5) (k := 3) rfl (by decide) inX5 tyX5_ok nmX5 (by decide) rfl pfI rfl q_205 hd0 hs0 dX5_tick_7 ?_
  refine VV.gn (fun w7 ew7 => ?_)
  refine r_iconst C (pc := 10) (x := (nI 0)) (by decide) dX5_tick_10 ?_
  refine r_istore_n C (pc := 11) (lv2 := [some (.ref t), some (.int (nI 0))]) rfl (Nat.le_of_ble_eq_true rfl) rfl rfl dX5_tick_11 ?_
  exact loop (M.1 1 + 2) 0 w7 (by omega) (by omega) (by rw [ew7]; exact zt_f hv (Or.inl ⟨rfl, rfl⟩)) (fun j hj => by omega) (by rw [ew7]; exact zfr.rf.z2 (by omega) (by omega))
set_option maxRecDepth 100000 in
set_option maxHeartbeats 4000000 in
theorem m_X5_restart (l : Launch) (G : zG) (sh : zH) (v : zV) (N : Nat) {t : Nat} {M : zMS} {K R : Nat} (hp : zTR G sh N t) (hv : zt v t M) (hk : mOK M) (hR3 : R ≤ 3) : zm l G yX5_restart cX5_restart 7 none 3 [.ref t, .int (nI K), .int (nI R)] sh v N (fun r v1 => r = none ∧ zt v1 t (layc M.1 K R, (fun _ => []), (fun _ => none), (fun _ => none)) ∧ zfr v v1 t 28) := by
  refine zM.of (by decide) rfl (Nat.le_of_ble_eq_true rfl) ?_
  intro p e s m args below meth c C
  obtain ⟨tB, tN, hs0, tse, hs5, trc, hs19, tsp, tst⟩ := id hp
  have hd0 : G.2.2.1 ≤ t ∧ t < N := ⟨by omega, by omega⟩
  have hd1 : G.2.2.1 ≤ t + 1 ∧ t + 1 < N := ⟨by omega, by omega⟩
  have hd5 : G.2.2.1 ≤ t + 5 ∧ t + 5 < N := ⟨by omega, by omega⟩
  have hd6 : G.2.2.1 ≤ t + 6 ∧ t + 6 < N := ⟨by omega, by omega⟩
  have hd19 : G.2.2.1 ≤ t + 19 ∧ t + 19 < N := ⟨by omega, by omega⟩
  have hd20 : G.2.2.1 ≤ t + 20 ∧ t + 20 < N := ⟨by omega, by omega⟩
  have hd61 : G.2.2.1 ≤ t + 6 + 1 ∧ t + 6 + 1 < N := ⟨by omega, by omega⟩
  have hd65 : G.2.2.1 ≤ t + 6 + 5 ∧ t + 6 + 5 < N := ⟨by omega, by omega⟩
  have hd610 : G.2.2.1 ≤ t + 6 + 10 ∧ t + 6 + 10 < N := ⟨by omega, by omega⟩
  have hd68 : G.2.2.1 ≤ t + 6 + 8 ∧ t + 6 + 8 < N := ⟨by omega, by omega⟩
  have hs1 := tse.2.2.1
  have hs6 := trc.2.2.1
  have hs20 := tsp.2.2.1
  have hs61 := trc.2.2.2.1.2.2.2.1
  have hs65 := trc.2.2.2.2.2.1.2.2.1
  have hs68 := trc.2.2.2.2.2.2.1.2.2.2.1
  have hs610 := trc.2.2.2.2.2.2.2.2.2.1
  have fin : ∀ (v' : zV) (ls1 : Nat → List Nat) {i : Nat}, zse v' (t + 1) (layc M.1 K R) → (∀ r, r < 3 → zpl v' (t + 22 + 2 * r) 4 []) → zrc v' (t + 6) (zVl M) (M.2.1 3) (spo (M.2.1 3)) (M.2.1 3).length (M.2.1 4) M.2.2.1 M.2.2.2 (M.1 31) (M.1 32) (M.1 33) → zfr v v' t 28 → VV p l e ({ frames := 3, cells := 0, slots := 0, locals := 32 * 3 }) s m args below meth c 0 0 (zQ below (fun r sh1 v1 N1 => sh1 = sh ∧ N1 = N ∧ (r = none ∧ zt v1 t (layc M.1 K R, (fun _ => []), (fun _ => none), (fun _ => none)) ∧ zfr v v1 t 28)) G args s 0 0) G 7 sh v' N 45 [some (.ref t), some (.int (nI K)), some (.int (nI R)), some (.ref (t + 5)), some (.int (nI 3)), some (.int (nI i)), none] [] := by
    intro v' ls1 i e1 e2 e4 e5
    refine r_aload_n C (pc := 45) rfl rfl dX5_restart_45 ?_
    refine r_get C (pc := 46) (ci := 5) (k := 2) (w := .ref (t + 6)) rfl (by decide) inX5 (by decide) q_203 (Or.inl hd0) hs0 (zl_ref _ _) dX5_restart_46 ?_
    refine r_callV C (pc := 49) (st := []) (m_X2_clear l G sh v' N trc e4) kyX2_clear q_322 rfl (Or.inl hd6) hs6 (by decide) rfl rfl rfl (Nat.le_of_ble_eq_true rfl) ⟨Nat.le_of_ble_eq_true rfl, Nat.le_of_ble_eq_true rfl⟩ ⟨Nat.le_of_ble_eq_true rfl, Nat.le_of_ble_eq_true rfl⟩ dX5_restart_49 (fun r49 v49 hp49 => ?_)
    obtain ⟨rfl, g1, g2⟩ := hp49
    refine VV.eq (st2 := []) rfl ?_
    refine r_aload_n C (pc := 52) rfl rfl dX5_restart_52 ?_
    refine r_iconst C (pc := 53) (x := (nI 0)) (by decide) dX5_restart_53 ?_
    refine r_put C (pc := 54) (ci := 5) (k := 3) rfl (by decide) inX5 tyX5_ok nmX5 (by decide) rfl pfI rfl q_205 hd0 hs0 dX5_restart_54 ?_
    refine VV.gn (fun w54 ew54 => ?_)
    refine r_aload_n C (pc := 57) rfl rfl dX5_restart_57 ?_
    refine r_iconst C (pc := 58) (x := (nI 0)) (by decide) dX5_restart_58 ?_
    refine r_put C (pc := 59) (ci := 5) (k := 4) rfl (by decide) inX5 tyX5_ok nmX5 (by decide) rfl pfI rfl q_207 hd0 hs0 dX5_restart_59 ?_
    refine VV.gn (fun w59 ew59 => ?_)
    refine r_aload_n C (pc := 62) rfl rfl dX5_restart_62 ?_
    refine r_iconst C (pc := 63) (x := (nI 0)) (by decide) dX5_restart_63 ?_
    refine r_put C (pc := 64) (ci := 5) (k := 5) rfl (by decide) inX5 tyX5_ok nmX5 (by decide) rfl pfI rfl q_209 hd0 hs0 dX5_restart_64 ?_
    refine VV.gn (fun w64 ew64 => ?_)
    exact r_vret C (pc := 67) rfl dX5_restart_67 ⟨rfl, rfl, rfl, (by
      have w : ∀ b, b ≠ t → w64 b = v49 b := fun b hb => by rw [ew64, z2_addr hb, ew59, z2_addr hb, ew54, z2_addr hb]
      refine ⟨by rw [ew64, z2_ne (by omega), ew59, z2_ne (by omega), ew54, z2_self]; rfl, by rw [ew64, z2_ne (by omega), ew59, z2_self]; rfl, by rw [ew64, z2_self]; rfl, e1.kept (fun b h1 h2 => (w b (by omega)).trans (g2 b (by omega))), fun r hr => (e2 r hr).kept ((w _ (by omega)).trans (g2 _ (by omega))) ((w _ (by omega)).trans (g2 _ (by omega))), ?_⟩
      exact (g1 _).kept (fun b h1 h2 => w b (by omega))), (by rw [ew64, ew59, ew54]; exact (((e5.tr (g2.wide (by omega) (by omega))).z2 (by omega) (by omega)).z2 (by omega) (by omega)).z2 (by omega) (by omega))⟩
  have loop : ∀ (n i : Nat) (ls1 : Nat → List Nat) (v' : zV), 3 - i < n → i ≤ 3 → zse v' (t + 1) (layc M.1 K R) → (∀ r, r < 3 → zpl v' (t + 22 + 2 * r) 4 (ls1 r)) → (∀ r, r < i → ls1 r = []) → zrc v' (t + 6) (zVl M) (M.2.1 3) (spo (M.2.1 3)) (M.2.1 3).length (M.2.1 4) M.2.2.1 M.2.2.2 (M.1 31) (M.1 32) (M.1 33) → zfr v v' t 28 → VV p l e ({ frames := 3, cells := 0, slots := 0, locals := 32 * 3 }) s m args below meth c 0 0 (zQ below (fun r sh1 v1 N1 => sh1 = sh ∧ N1 = N ∧ (r = none ∧ zt v1 t (layc M.1 K R, (fun _ => []), (fun _ => none), (fun _ => none)) ∧ zfr v v1 t 28)) G args s 0 0) G 7 sh v' N 21 [some (.ref t), some (.int (nI K)), some (.int (nI R)), some (.ref (t + 5)), some (.int (nI 3)), some (.int (nI i)), none] [] := by
    intro n
    induction n with
    | zero => intro i ls1 v' hm; omega
    | succ n ih =>
      intro i ls1 v' hm hi e1 e2 e3 e4 e5
      refine r_iload C (pc := 21) rfl dX5_restart_21 ?_
      refine r_iload C (pc := 23) rfl dX5_restart_23 ?_
      refine n_icmp_ge C (pc := 25) (tgt := 45) (by omega) (by decide) dX5_restart_25 (by decide) (fun c_25 => ?_) (fun c_25 => ?_)
      · exact fin v' ls1 e1 (fun r hr => by rw [← e3 r (by omega)]; exact e2 r hr) e4 e5
      · have hpa := tst i c_25
        have hda : G.2.2.1 ≤ t + 22 + 2 * i ∧ t + 22 + 2 * i < N := ⟨hpa.1, by have := hpa.2.1; omega⟩
        have ha0 := hpa.2.2.2.1
        refine r_aload_n C (pc := 28) rfl rfl dX5_restart_28 ?_
        refine r_iload C (pc := 29) rfl dX5_restart_29 ?_
        refine r_aald C (pc := 31) (w := .ref (t + 22 + 2 * i)) (Or.inl hd5) hs5 (by decide) rfl (by omega) (by omega) (st_ref c_25) dX5_restart_31 ?_
        refine r_astore C (pc := 32) (lv2 := [some (.ref t), some (.int (nI K)), some (.int (nI R)), some (.ref (t + 5)), some (.int (nI 3)), some (.int (nI i)), some (.ref (t + 22 + 2 * i))]) (Nat.le_of_ble_eq_true rfl) rfl rfl dX5_restart_32 ?_
        refine r_aload C (pc := 34) rfl dX5_restart_34 ?_
        refine r_callV C (pc := 36) (st := []) (m_X1_clear l G sh v' N hpa (e2 i c_25)) kyX1_clear q_318 rfl (Or.inl hda) ha0 (by decide) rfl rfl rfl (Nat.le_of_ble_eq_true rfl) ⟨Nat.le_of_ble_eq_true rfl, Nat.le_of_ble_eq_true rfl⟩ ⟨Nat.le_of_ble_eq_true rfl, Nat.le_of_ble_eq_true rfl⟩ dX5_restart_36 (fun r36 v36 hp36 => ?_)
        obtain ⟨rfl, g1, g2⟩ := hp36
        refine VV.eq (st2 := []) rfl ?_
        refine r_iinc C (pc := 39) (lv2 := [some (.ref t), some (.int (nI K)), some (.int (nI R)), some (.ref (t + 5)), some (.int (nI 3)), some (.int (nI (i + 1))), some (.ref (t + 22 + 2 * i))]) (y := (nI (i + 1))) rfl (nI_inc _ _) (Nat.le_of_ble_eq_true rfl) rfl rfl dX5_restart_39 ?_
        refine r_goto C (pc := 42) (tgt := 21) dX5_restart_42 (by decide) ?_
        refine VV.fg 6 (lv2 := [some (.ref t), some (.int (nI K)), some (.int (nI R)), some (.ref (t + 5)), some (.int (nI 3)), some (.int (nI (i + 1))), none]) rfl ?_
        exact ih (i + 1) (fun r => if r = i then [] else ls1 r) v36 (by omega) (by omega) (e1.kept (fun b h1 h2 => g2 b (by omega))) (fun r hr => by
          by_cases hri : r = i
          · subst hri; rw [if_pos rfl]; exact g1
          · rw [if_neg hri]; exact (e2 r hr).kept (g2 _ (by omega)) (g2 _ (by omega))) (fun r hr => by
          by_cases hri : r = i
          · rw [if_pos hri]
          · rw [if_neg hri]; exact e3 r (by omega)) (e4.kept (fun b h1 h2 => g2 b (by omega))) (e5.tr (g2.wide (by omega) (by omega)))
  refine r_aload_n C (pc := 0) rfl rfl dX5_restart_0 ?_
  refine r_get C (pc := 1) (ci := 5) (k := 0) (w := .ref (t + 1)) rfl (by decide) inX5 (by decide) q_200 (Or.inl hd0) hs0 (zl_ref _ _) dX5_restart_1 ?_
  refine r_iload_n C (pc := 4) rfl rfl dX5_restart_4 ?_
  refine r_iload_n C (pc := 5) rfl rfl dX5_restart_5 ?_
  refine r_callV C (pc := 6) (st := []) (m_X3_restart l G sh v N tse hv.2.2.2.1 hk.1 hR3) kyX3_restart q_314 rfl (Or.inl hd1) hs1 (by decide) rfl rfl rfl (Nat.le_of_ble_eq_true rfl) ⟨Nat.le_of_ble_eq_true rfl, Nat.le_of_ble_eq_true rfl⟩ ⟨Nat.le_of_ble_eq_true rfl, Nat.le_of_ble_eq_true rfl⟩ dX5_restart_6 (fun r6 v6 hp6 => ?_)
  obtain ⟨rfl, g1, g2⟩ := hp6
  refine VV.eq (st2 := []) rfl ?_
  refine r_aload_n C (pc := 9) rfl rfl dX5_restart_9 ?_
  refine r_get C (pc := 10) (ci := 5) (k := 1) (w := .ref (t + 5)) rfl (by decide) inX5 (by decide) q_202 (Or.inl hd0) hs0 (zl_ref _ _) dX5_restart_10 ?_
  refine r_astore_n C (pc := 13) (lv2 := [some (.ref t), some (.int (nI K)), some (.int (nI R)), some (.ref (t + 5)), none, none, none]) rfl (Nat.le_of_ble_eq_true rfl) rfl rfl dX5_restart_13 ?_
  refine r_aload_n C (pc := 14) rfl rfl dX5_restart_14 ?_
  refine r_alen C (pc := 15) (x := nI 3) (Or.inl hd5) hs5 (by decide) rfl rfl dX5_restart_15 ?_
  refine r_istore C (pc := 16) (lv2 := [some (.ref t), some (.int (nI K)), some (.int (nI R)), some (.ref (t + 5)), some (.int (nI 3)), none, none]) (Nat.le_of_ble_eq_true rfl) rfl rfl dX5_restart_16 ?_
  refine r_iconst C (pc := 18) (x := (nI 0)) (by decide) dX5_restart_18 ?_
  refine r_istore C (pc := 19) (lv2 := [some (.ref t), some (.int (nI K)), some (.int (nI R)), some (.ref (t + 5)), some (.int (nI 3)), some (.int (nI 0)), none]) (Nat.le_of_ble_eq_true rfl) rfl rfl dX5_restart_19 ?_
  exact loop 4 0 M.2.1 v6 (by omega) (by omega) g1 (fun r hr => (hv.2.2.2.2.1 r hr).kept (g2 _ (by omega)) (g2 _ (by omega))) (fun r hr => by omega) (hv.2.2.2.2.2.kept (fun b h1 h2 => g2 b (by omega))) (g2.wide (by omega) (by omega))
set_option maxRecDepth 100000 in
set_option maxHeartbeats 4000000 in
theorem m_X5_changeRoom (l : Launch) (G : zG) (sh : zH) (v : zV) (N : Nat) {t : Nat} {M : zMS} {x : Nat} (hp : zTR G sh N t) (hv : zt v t M) (hk : mOK M) (hx : x < 2 ^ 30) : zm l G yX5_changeRoom cX5_changeRoom 7 (some .int) 3 [.ref t, .int (nI x)] sh v N (fun r v1 => r = some (.int (nI (M.1 3))) ∧ zt v1 t (upc M.1 3 x, (fun r => if r < 3 then (M.2.1 r).drop ((M.2.1 r).length - x) else M.2.1 r), M.2.2) ∧ zfr v v1 t 28) := by
  refine zM.of (by decide) rfl (Nat.le_of_ble_eq_true rfl) ?_
  intro p e s m args below meth c C
  obtain ⟨tB, tN, hs0, tse, hs5, trc, hs19, tsp, tst⟩ := id hp
  have hd0 : G.2.2.1 ≤ t ∧ t < N := ⟨by omega, by omega⟩
  have hd1 : G.2.2.1 ≤ t + 1 ∧ t + 1 < N := ⟨by omega, by omega⟩
  have hd5 : G.2.2.1 ≤ t + 5 ∧ t + 5 < N := ⟨by omega, by omega⟩
  have hd6 : G.2.2.1 ≤ t + 6 ∧ t + 6 < N := ⟨by omega, by omega⟩
  have hd19 : G.2.2.1 ≤ t + 19 ∧ t + 19 < N := ⟨by omega, by omega⟩
  have hd20 : G.2.2.1 ≤ t + 20 ∧ t + 20 < N := ⟨by omega, by omega⟩
  have hd61 : G.2.2.1 ≤ t + 6 + 1 ∧ t + 6 + 1 < N := ⟨by omega, by omega⟩
  have hd65 : G.2.2.1 ≤ t + 6 + 5 ∧ t + 6 + 5 < N := ⟨by omega, by omega⟩
  have hd610 : G.2.2.1 ≤ t + 6 + 10 ∧ t + 6 + 10 < N := ⟨by omega, by omega⟩
  have hd68 : G.2.2.1 ≤ t + 6 + 8 ∧ t + 6 + 8 < N := ⟨by omega, by omega⟩
  have hs1 := tse.2.2.1
  have hs6 := trc.2.2.1
  have hs20 := tsp.2.2.1
  have hs61 := trc.2.2.2.1.2.2.2.1
  have hs65 := trc.2.2.2.2.2.1.2.2.1
  have hs68 := trc.2.2.2.2.2.2.1.2.2.2.1
  have hs610 := trc.2.2.2.2.2.2.2.2.2.1
  have loop : ∀ (n i : Nat) (v' : zV), 3 - i < n → i ≤ 3 → zt v' t (upc M.1 3 x, (fun r => if r < i then (M.2.1 r).drop ((M.2.1 r).length - x) else M.2.1 r), M.2.2) → zfr v v' t 28 → VV p l e ({ frames := 3, cells := 0, slots := 0, locals := 32 * 3 }) s m args below meth c 0 0 (zQ below (fun r sh1 v1 N1 => sh1 = sh ∧ N1 = N ∧ (r = some (.int (nI (M.1 3))) ∧ zt v1 t (upc M.1 3 x, (fun r => if r < 3 then (M.2.1 r).drop ((M.2.1 r).length - x) else M.2.1 r), M.2.2) ∧ zfr v v1 t 28)) G args s 0 0) G 7 sh v' N 28 [some (.ref t), some (.int (nI x)), some (.int (nI (M.1 3))), some (.ref (t + 5)), some (.int (nI 3)), some (.int (nI i)), none] [] := by
    intro n
    induction n with
    | zero => intro i v' hm; omega
    | succ n ih =>
      intro i v' hm hi e1 e5
      refine r_iload C (pc := 28) rfl dX5_changeRoom_28 ?_
      refine r_iload C (pc := 30) rfl dX5_changeRoom_30 ?_
      refine n_icmp_ge C (pc := 32) (tgt := 53) (by omega) (by decide) dX5_changeRoom_32 (by decide) (fun c_32 => ?_) (fun c_32 => ?_)
      · refine r_iload_n C (pc := 53) rfl rfl dX5_changeRoom_53 ?_
        exact r_iret C (pc := 54) rfl (rfl) dX5_changeRoom_54 ⟨rfl, rfl, rfl, (by have hn2 : i = 3 := (by omega); rw [hn2] at e1; exact e1), e5⟩
      · have hpa := tst i c_32
        have hda : G.2.2.1 ≤ t + 22 + 2 * i ∧ t + 22 + 2 * i < N := ⟨hpa.1, by have := hpa.2.1; omega⟩
        have ha0 := hpa.2.2.2.1
        refine r_aload_n C (pc := 35) rfl rfl dX5_changeRoom_35 ?_
        refine r_iload C (pc := 36) rfl dX5_changeRoom_36 ?_
        refine r_aald C (pc := 38) (w := .ref (t + 22 + 2 * i)) (Or.inl hd5) hs5 (by decide) rfl (by omega) (by omega) (st_ref c_32) dX5_changeRoom_38 ?_
        refine r_astore C (pc := 39) (lv2 := [some (.ref t), some (.int (nI x)), some (.int (nI (M.1 3))), some (.ref (t + 5)), some (.int (nI 3)), some (.int (nI i)), some (.ref (t + 22 + 2 * i))]) (Nat.le_of_ble_eq_true rfl) rfl rfl dX5_changeRoom_39 ?_
        refine r_aload C (pc := 41) rfl dX5_changeRoom_41 ?_
        refine r_iload_n C (pc := 43) rfl rfl dX5_changeRoom_43 ?_
        have e1i := e1.2.2.2.2.1 i c_32
        dsimp only at e1i
        rw [if_neg (by omega)] at e1i
        refine r_callV C (pc := 44) (st := []) (m_X1_removeFrontsBeyond l G sh v' N (b := x) hpa e1i hx) kyX1_removeFrontsBeyond q_370 rfl (Or.inl hda) ha0 (by decide) rfl rfl rfl (Nat.le_of_ble_eq_true rfl) ⟨Nat.le_of_ble_eq_true rfl, Nat.le_of_ble_eq_true rfl⟩ ⟨Nat.le_of_ble_eq_true rfl, Nat.le_of_ble_eq_true rfl⟩ dX5_changeRoom_44 (fun r44 v44 hp44 => ?_)
        obtain ⟨rfl, g1, g2⟩ := hp44
        refine VV.eq (st2 := []) rfl ?_
        refine r_iinc C (pc := 47) (lv2 := [some (.ref t), some (.int (nI x)), some (.int (nI (M.1 3))), some (.ref (t + 5)), some (.int (nI 3)), some (.int (nI (i + 1))), some (.ref (t + 22 + 2 * i))]) (y := (nI (i + 1))) rfl (nI_inc _ _) (Nat.le_of_ble_eq_true rfl) rfl rfl dX5_changeRoom_47 ?_
        refine r_goto C (pc := 50) (tgt := 28) dX5_changeRoom_50 (by decide) ?_
        refine VV.fg 6 (lv2 := [some (.ref t), some (.int (nI x)), some (.int (nI (M.1 3))), some (.ref (t + 5)), some (.int (nI 3)), some (.int (nI (i + 1))), none]) rfl ?_
        have e2 := zt_st e1 c_32 g1 g2
        have hl : upl (fun r => if r < i then (M.2.1 r).drop ((M.2.1 r).length - x) else M.2.1 r) i ((M.2.1 i).drop ((M.2.1 i).length - x)) = (fun r => if r < i + 1 then (M.2.1 r).drop ((M.2.1 r).length - x) else M.2.1 r) := by
          funext r
          by_cases hri : r = i
          · subst hri; rw [upl_s, if_pos (Nat.lt_succ_self r)]
          · rw [upl_n hri]
            by_cases hlt : r < i
            · rw [if_pos hlt, if_pos (show r < i + 1 by omega)]
            · rw [if_neg hlt, if_neg (show ¬ r < i + 1 by omega)]
        dsimp only at e2
        rw [hl] at e2
        exact ih (i + 1) v44 (by omega) (by omega) e2 (e5.tr (g2.wide (by omega) (by omega)))
  refine r_aload_n C (pc := 0) rfl rfl dX5_changeRoom_0 ?_
  refine r_get C (pc := 1) (ci := 5) (k := 0) (w := .ref (t + 1)) rfl (by decide) inX5 (by decide) q_200 (Or.inl hd0) hs0 (zl_ref _ _) dX5_changeRoom_1 ?_
  refine r_getN C (pc := 4) (ci := 3) (k := 5) (w := .int (nI (M.1 3))) rfl (by decide) inX3 (by decide) q_72 (Or.inl hd1) hs1 (zl_i (hv.2.2.2.1.2.2.1)) dX5_changeRoom_4 ?_
  refine r_istore_n C (pc := 7) (lv2 := [some (.ref t), some (.int (nI x)), some (.int (nI (M.1 3))), none, none, none, none]) rfl (Nat.le_of_ble_eq_true rfl) rfl rfl dX5_changeRoom_7 ?_
  refine r_aload_n C (pc := 8) rfl rfl dX5_changeRoom_8 ?_
  refine r_get C (pc := 9) (ci := 5) (k := 0) (w := .ref (t + 1)) rfl (by decide) inX5 (by decide) q_200 (Or.inl hd0) hs0 (zl_ref _ _) dX5_changeRoom_9 ?_
  refine r_iload_n C (pc := 12) rfl rfl dX5_changeRoom_12 ?_
  refine r_putN C (pc := 13) (ci := 3) (k := 5) rfl (by decide) inX3 tyX3_ok nmX3 (by decide) rfl pfI rfl q_72 hd1 hs1 dX5_changeRoom_13 ?_
  refine VV.gn (fun w13 ew13 => ?_)
  refine r_aload_n C (pc := 16) rfl rfl dX5_changeRoom_16 ?_
  refine r_get C (pc := 17) (ci := 5) (k := 1) (w := .ref (t + 5)) rfl (by decide) inX5 (by decide) q_202 (Or.inl hd0) hs0 (zl_ref _ _) dX5_changeRoom_17 ?_
  refine r_astore_n C (pc := 20) (lv2 := [some (.ref t), some (.int (nI x)), some (.int (nI (M.1 3))), some (.ref (t + 5)), none, none, none]) rfl (Nat.le_of_ble_eq_true rfl) rfl rfl dX5_changeRoom_20 ?_
  refine r_aload_n C (pc := 21) rfl rfl dX5_changeRoom_21 ?_
  refine r_alen C (pc := 22) (x := nI 3) (Or.inl hd5) hs5 (by decide) rfl rfl dX5_changeRoom_22 ?_
  refine r_istore C (pc := 23) (lv2 := [some (.ref t), some (.int (nI x)), some (.int (nI (M.1 3))), some (.ref (t + 5)), some (.int (nI 3)), none, none]) (Nat.le_of_ble_eq_true rfl) rfl rfl dX5_changeRoom_23 ?_
  refine r_iconst C (pc := 25) (x := (nI 0)) (by decide) dX5_changeRoom_25 ?_
  refine r_istore C (pc := 26) (lv2 := [some (.ref t), some (.int (nI x)), some (.int (nI (M.1 3))), some (.ref (t + 5)), some (.int (nI 3)), some (.int (nI 0)), none]) (Nat.le_of_ble_eq_true rfl) rfl rfl dX5_changeRoom_26 ?_
  exact loop 4 0 w13 (by omega) (by omega) (by
    have hs : zse w13 (t + 1) (upc M.1 3 x) := by
      obtain ⟨a0, a1, a3, a4, a5, a6, av, al, aw⟩ := hv.2.2.2.1
      exact ⟨by rw [ew13, z2_ne (by omega), upc_n (by omega)]; exact a0, by rw [ew13, z2_ne (by omega), upc_n (by omega)]; exact a1, by rw [ew13, z2_self, upc_s], by rw [ew13, z2_ne (by omega), upc_n (by omega)]; exact a4, by rw [ew13, z2_ne (by omega), upc_n (by omega)]; exact a5, by rw [ew13, z2_ne (by omega), upc_n (by omega)]; exact a6, fun b hb => by rw [ew13, z2_addr (by omega), upc_n (by omega)]; exact av b hb, fun j hj hj4 => by rw [upc_n (by omega)] at hj; rw [ew13, z2_addr (by omega), upc_n (by omega)]; exact al j hj hj4, fun d hd => by rw [ew13, z2_addr (by omega), upc_n (by omega)]; exact aw d hd⟩
    have := zt_set hv hs (by rw [ew13]; exact zfr.rf.z2 (by omega) (by omega)) (fun j hj => upc_n (by omega))
    have hl : (fun r => if r < 0 then (M.2.1 r).drop ((M.2.1 r).length - x) else M.2.1 r) = M.2.1 := by funext r; rw [if_neg (by omega)]
    rw [hl]; exact this) (by rw [ew13]; exact zfr.rf.z2 (by omega) (by omega))
set_option maxRecDepth 100000 in
set_option maxHeartbeats 4000000 in
theorem m_X5_copyFrom (l : Launch) (G : zG) (sh : zH) (v : zV) (N : Nat) {t o : Nat} {M : zMS} (hp : zTR G sh N t) (hpo : zTR G sh N o) (hv : zt v o M) (hno : o + 28 ≤ t ∨ t + 28 ≤ o) : zm l G yX5_copyFrom cX5_copyFrom 3 none 4 [.ref t, .ref o] sh v N (fun r v1 => r = none ∧ zt v1 t M ∧ zfr v v1 t 28) := by
  refine zM.of (by decide) rfl (Nat.le_of_ble_eq_true rfl) ?_
  intro p e s m args below meth c C
  obtain ⟨tB, tN, hs0, tse, hs5, trc, hs19, tsp, tst⟩ := id hp
  have hd0 : G.2.2.1 ≤ t ∧ t < N := ⟨by omega, by omega⟩
  have hd1 : G.2.2.1 ≤ t + 1 ∧ t + 1 < N := ⟨by omega, by omega⟩
  have hd5 : G.2.2.1 ≤ t + 5 ∧ t + 5 < N := ⟨by omega, by omega⟩
  have hd6 : G.2.2.1 ≤ t + 6 ∧ t + 6 < N := ⟨by omega, by omega⟩
  have hd19 : G.2.2.1 ≤ t + 19 ∧ t + 19 < N := ⟨by omega, by omega⟩
  have hd20 : G.2.2.1 ≤ t + 20 ∧ t + 20 < N := ⟨by omega, by omega⟩
  have hd61 : G.2.2.1 ≤ t + 6 + 1 ∧ t + 6 + 1 < N := ⟨by omega, by omega⟩
  have hd65 : G.2.2.1 ≤ t + 6 + 5 ∧ t + 6 + 5 < N := ⟨by omega, by omega⟩
  have hd610 : G.2.2.1 ≤ t + 6 + 10 ∧ t + 6 + 10 < N := ⟨by omega, by omega⟩
  have hd68 : G.2.2.1 ≤ t + 6 + 8 ∧ t + 6 + 8 < N := ⟨by omega, by omega⟩
  have hs1 := tse.2.2.1
  have hs6 := trc.2.2.1
  have hs20 := tsp.2.2.1
  have hs61 := trc.2.2.2.1.2.2.2.1
  have hs65 := trc.2.2.2.2.2.1.2.2.1
  have hs68 := trc.2.2.2.2.2.2.1.2.2.2.1
  have hs610 := trc.2.2.2.2.2.2.2.2.2.1
  obtain ⟨otB, otN, ho0, otse, ho5, otrc, ho19, otsp, otst⟩ := id hpo
  have gd0 : G.2.2.1 ≤ o ∧ o < N := ⟨by omega, by omega⟩
  have gd1 : G.2.2.1 ≤ o + 1 ∧ o + 1 < N := ⟨by omega, by omega⟩
  have gd5 : G.2.2.1 ≤ o + 5 ∧ o + 5 < N := ⟨by omega, by omega⟩
  have gd6 : G.2.2.1 ≤ o + 6 ∧ o + 6 < N := ⟨by omega, by omega⟩
  have gd19 : G.2.2.1 ≤ o + 19 ∧ o + 19 < N := ⟨by omega, by omega⟩
  have gd20 : G.2.2.1 ≤ o + 20 ∧ o + 20 < N := ⟨by omega, by omega⟩
  have gd61 : G.2.2.1 ≤ o + 6 + 1 ∧ o + 6 + 1 < N := ⟨by omega, by omega⟩
  have gd65 : G.2.2.1 ≤ o + 6 + 5 ∧ o + 6 + 5 < N := ⟨by omega, by omega⟩
  have gd610 : G.2.2.1 ≤ o + 6 + 10 ∧ o + 6 + 10 < N := ⟨by omega, by omega⟩
  have gd68 : G.2.2.1 ≤ o + 6 + 8 ∧ o + 6 + 8 < N := ⟨by omega, by omega⟩
  have ho1 := otse.2.2.1
  have ho6 := otrc.2.2.1
  have ho20 := otsp.2.2.1
  have ho61 := otrc.2.2.2.1.2.2.2.1
  have ho65 := otrc.2.2.2.2.2.1.2.2.1
  have ho68 := otrc.2.2.2.2.2.2.1.2.2.2.1
  have ho610 := otrc.2.2.2.2.2.2.2.2.2.1
  have fin : ∀ (v' : zV) {i : Nat}, zse v' (t + 1) M.1 → (∀ r, r < 3 → zpl v' (t + 22 + 2 * r) 4 (M.2.1 r)) → zfr v v' t 28 → VV p l e ({ frames := 4, cells := 0, slots := 0, locals := 32 * 4 }) s m args below meth c 0 0 (zQ below (fun r sh1 v1 N1 => sh1 = sh ∧ N1 = N ∧ (r = none ∧ zt v1 t M ∧ zfr v v1 t 28)) G args s 0 0) G 3 sh v' N 52 [some (.ref t), some (.ref o), some (.int (nI i))] [] := by
    intro v' i e1 e2 e5
    have o1 := hv.kept (v1 := v') (fun b h1 h2 _ _ _ => e5 b (by omega))
    refine r_aload_n C (pc := 52) rfl rfl dX5_copyFrom_52 ?_
    refine r_get C (pc := 53) (ci := 5) (k := 2) (w := .ref (t + 6)) rfl (by decide) inX5 (by decide) q_203 (Or.inl hd0) hs0 (zl_ref _ _) dX5_copyFrom_53 ?_
    refine r_aload_n C (pc := 56) rfl rfl dX5_copyFrom_56 ?_
    refine r_get C (pc := 57) (ci := 5) (k := 2) (w := .ref (o + 6)) rfl (by decide) inX5 (by decide) q_203 (Or.inl gd0) ho0 (zl_ref _ _) dX5_copyFrom_57 ?_
    refine r_callV C (pc := 60) (st := []) (m_X2_copyFrom l G sh v' N trc otrc o1.2.2.2.2.2 (by omega)) kyX2_copyFrom q_295 rfl (Or.inl hd6) hs6 (by decide) rfl rfl rfl (Nat.le_of_ble_eq_true rfl) ⟨Nat.le_of_ble_eq_true rfl, Nat.le_of_ble_eq_true rfl⟩ ⟨Nat.le_of_ble_eq_true rfl, Nat.le_of_ble_eq_true rfl⟩ dX5_copyFrom_60 (fun r60 v60 hp60 => ?_)
    obtain ⟨rfl, g1, g2⟩ := hp60
    refine VV.eq (st2 := []) rfl ?_
    have e6 := e5.tr (g2.wide (by omega) (by omega))
    have o2 := hv.kept (v1 := v60) (fun b h1 h2 _ _ _ => e6 b (by omega))
    refine r_aload_n C (pc := 63) rfl rfl dX5_copyFrom_63 ?_
    refine r_aload_n C (pc := 64) rfl rfl dX5_copyFrom_64 ?_
    refine r_get C (pc := 65) (ci := 5) (k := 3) (w := .int (nI (M.1 2))) rfl (by decide) inX5 (by decide) q_205 (Or.inl gd0) ho0 (zl_i (o2.1)) dX5_copyFrom_65 ?_
    refine r_put C (pc := 68) (ci := 5) (k := 3) rfl (by decide) inX5 tyX5_ok nmX5 (by decide) rfl pfI rfl q_205 hd0 hs0 dX5_copyFrom_68 ?_
    refine VV.gn (fun w68 ew68 => ?_)
    refine r_aload_n C (pc := 71) rfl rfl dX5_copyFrom_71 ?_
    refine r_aload_n C (pc := 72) rfl rfl dX5_copyFrom_72 ?_
    refine r_get C (pc := 73) (ci := 5) (k := 4) (w := .int (nI (M.1 29))) rfl (by decide) inX5 (by decide) q_207 (Or.inl gd0) ho0 (zl_i (by rw [ew68, z2_addr (by omega)]; exact o2.2.1)) dX5_copyFrom_73 ?_
    refine r_put C (pc := 76) (ci := 5) (k := 4) rfl (by decide) inX5 tyX5_ok nmX5 (by decide) rfl pfI rfl q_207 hd0 hs0 dX5_copyFrom_76 ?_
    refine VV.gn (fun w76 ew76 => ?_)
    refine r_aload_n C (pc := 79) rfl rfl dX5_copyFrom_79 ?_
    refine r_aload_n C (pc := 80) rfl rfl dX5_copyFrom_80 ?_
    refine r_get C (pc := 81) (ci := 5) (k := 5) (w := .int (nI (M.1 30))) rfl (by decide) inX5 (by decide) q_209 (Or.inl gd0) ho0 (zl_i (by rw [ew76, z2_addr (by omega), ew68, z2_addr (by omega)]; exact o2.2.2.1)) dX5_copyFrom_81 ?_
    refine r_put C (pc := 84) (ci := 5) (k := 5) rfl (by decide) inX5 tyX5_ok nmX5 (by decide) rfl pfI rfl q_209 hd0 hs0 dX5_copyFrom_84 ?_
    refine VV.gn (fun w84 ew84 => ?_)
    exact r_vret C (pc := 87) rfl dX5_copyFrom_87 ⟨rfl, rfl, rfl, (by
      have w : ∀ b, b ≠ t → w84 b = v60 b := fun b hb => by rw [ew84, z2_addr hb, ew76, z2_addr hb, ew68, z2_addr hb]
      exact ⟨by rw [ew84, z2_ne (by omega), ew76, z2_ne (by omega), ew68, z2_self], by rw [ew84, z2_ne (by omega), ew76, z2_self], by rw [ew84, z2_self], e1.kept (fun b h1 h2 => (w b (by omega)).trans (g2 b (by omega))), fun r hr => (e2 r hr).kept ((w _ (by omega)).trans (g2 _ (by omega))) ((w _ (by omega)).trans (g2 _ (by omega))), g1.kept (fun b h1 h2 => w b (by omega))⟩), (by rw [ew84, ew76, ew68]; exact ((e6.z2 (by omega) (by omega)).z2 (by omega) (by omega)).z2 (by omega) (by omega))⟩
  have loop : ∀ (n i : Nat) (v' : zV), 3 - i < n → i ≤ 3 → zse v' (t + 1) M.1 → (∀ r, r < i → zpl v' (t + 22 + 2 * r) 4 (M.2.1 r)) → zfr v v' t 28 → VV p l e ({ frames := 4, cells := 0, slots := 0, locals := 32 * 4 }) s m args below meth c 0 0 (zQ below (fun r sh1 v1 N1 => sh1 = sh ∧ N1 = N ∧ (r = none ∧ zt v1 t M ∧ zfr v v1 t 28)) G args s 0 0) G 3 sh v' N 13 [some (.ref t), some (.ref o), some (.int (nI i))] [] := by
    intro n
    induction n with
    | zero => intro i v' hm; omega
    | succ n ih =>
      intro i v' hm hi e1 e2 e5
      refine r_iload_n C (pc := 13) rfl rfl dX5_copyFrom_13 ?_
      refine r_aload_n C (pc := 14) rfl rfl dX5_copyFrom_14 ?_
      refine r_get C (pc := 15) (ci := 5) (k := 1) (w := .ref (t + 5)) rfl (by decide) inX5 (by decide) q_202 (Or.inl hd0) hs0 (zl_ref _ _) dX5_copyFrom_15 ?_
      refine r_alen C (pc := 18) (x := nI 3) (Or.inl hd5) hs5 (by decide) rfl rfl dX5_copyFrom_18 ?_
      refine n_icmp_ge C (pc := 19) (tgt := 52) (by omega) (by decide) dX5_copyFrom_19 (by decide) (fun c_19 => ?_) (fun c_19 => ?_)
      · exact fin v' e1 (fun r hr => e2 r (by omega)) e5
      · have hpa := tst i c_19
        have hda : G.2.2.1 ≤ t + 22 + 2 * i ∧ t + 22 + 2 * i < N := ⟨hpa.1, by have := hpa.2.1; omega⟩
        have ha0 := hpa.2.2.2.1
        have hpb := otst i c_19
        have o1 := hv.kept (v1 := v') (fun b h1 h2 _ _ _ => e5 b (by omega))
        refine r_iload_n C (pc := 22) rfl rfl dX5_copyFrom_22 ?_
        refine r_aload_n C (pc := 23) rfl rfl dX5_copyFrom_23 ?_
        refine r_get C (pc := 24) (ci := 5) (k := 1) (w := .ref (o + 5)) rfl (by decide) inX5 (by decide) q_202 (Or.inl gd0) ho0 (zl_ref _ _) dX5_copyFrom_24 ?_
        refine r_alen C (pc := 27) (x := nI 3) (Or.inl gd5) ho5 (by decide) rfl rfl dX5_copyFrom_27 ?_
        refine n_icmp_ge C (pc := 28) (tgt := 52) (by omega) (by omega) dX5_copyFrom_28 (by decide) (fun c_28 => by exfalso; omega) (fun c_28 => ?_)
        refine r_aload_n C (pc := 31) rfl rfl dX5_copyFrom_31 ?_
        refine r_get C (pc := 32) (ci := 5) (k := 1) (w := .ref (t + 5)) rfl (by decide) inX5 (by decide) q_202 (Or.inl hd0) hs0 (zl_ref _ _) dX5_copyFrom_32 ?_
        refine r_iload_n C (pc := 35) rfl rfl dX5_copyFrom_35 ?_
        refine r_aald C (pc := 36) (w := .ref (t + 22 + 2 * i)) (Or.inl hd5) hs5 (by decide) rfl (by omega) (by omega) (st_ref c_19) dX5_copyFrom_36 ?_
        refine r_aload_n C (pc := 37) rfl rfl dX5_copyFrom_37 ?_
        refine r_get C (pc := 38) (ci := 5) (k := 1) (w := .ref (o + 5)) rfl (by decide) inX5 (by decide) q_202 (Or.inl gd0) ho0 (zl_ref _ _) dX5_copyFrom_38 ?_
        refine r_iload_n C (pc := 41) rfl rfl dX5_copyFrom_41 ?_
        refine r_aald C (pc := 42) (w := .ref (o + 22 + 2 * i)) (Or.inl gd5) ho5 (by decide) rfl (by omega) (by omega) (st_ref c_19) dX5_copyFrom_42 ?_
        refine r_callV C (pc := 43) (st := []) (m_X1_copyFrom l G sh v' N hpa hpb (o1.2.2.2.2.1 i c_19) (by omega)) kyX1_copyFrom q_289 rfl (Or.inl hda) ha0 (by decide) rfl rfl rfl (Nat.le_of_ble_eq_true rfl) ⟨Nat.le_of_ble_eq_true rfl, Nat.le_of_ble_eq_true rfl⟩ ⟨Nat.le_of_ble_eq_true rfl, Nat.le_of_ble_eq_true rfl⟩ dX5_copyFrom_43 (fun r43 v43 hp43 => ?_)
        obtain ⟨rfl, g1, g2⟩ := hp43
        refine VV.eq (st2 := []) rfl ?_
        refine r_iinc C (pc := 46) (lv2 := [some (.ref t), some (.ref o), some (.int (nI (i + 1)))]) (y := (nI (i + 1))) rfl (nI_inc _ _) (Nat.le_of_ble_eq_true rfl) rfl rfl dX5_copyFrom_46 ?_
        refine r_goto C (pc := 49) (tgt := 13) dX5_copyFrom_49 (by decide) ?_
        exact ih (i + 1) v43 (by omega) (by omega) (e1.kept (fun b h1 h2 => g2 b (by omega))) (fun r hr => by
          by_cases hri : r = i
          · subst hri; exact g1
          · exact (e2 r (by omega)).kept (g2 _ (by omega)) (g2 _ (by omega))) (e5.tr (g2.wide (by omega) (by omega)))
  refine r_aload_n C (pc := 0) rfl rfl dX5_copyFrom_0 ?_
  refine r_get C (pc := 1) (ci := 5) (k := 0) (w := .ref (t + 1)) rfl (by decide) inX5 (by decide) q_200 (Or.inl hd0) hs0 (zl_ref _ _) dX5_copyFrom_1 ?_
  refine r_aload_n C (pc := 4) rfl rfl dX5_copyFrom_4 ?_
  refine r_get C (pc := 5) (ci := 5) (k := 0) (w := .ref (o + 1)) rfl (by decide) inX5 (by decide) q_200 (Or.inl gd0) ho0 (zl_ref _ _) dX5_copyFrom_5 ?_
  refine r_callV C (pc := 8) (st := []) (m_X3_copyFrom l G sh v N tse otse hv.2.2.2.1 (by omega)) kyX3_copyFrom q_285 rfl (Or.inl hd1) hs1 (by decide) rfl rfl rfl (Nat.le_of_ble_eq_true rfl) ⟨Nat.le_of_ble_eq_true rfl, Nat.le_of_ble_eq_true rfl⟩ ⟨Nat.le_of_ble_eq_true rfl, Nat.le_of_ble_eq_true rfl⟩ dX5_copyFrom_8 (fun r8 v8 hp8 => ?_)
  obtain ⟨rfl, g1, g2⟩ := hp8
  refine VV.eq (st2 := []) rfl ?_
  refine r_iconst C (pc := 11) (x := (nI 0)) (by decide) dX5_copyFrom_11 ?_
  refine r_istore_n C (pc := 12) (lv2 := [some (.ref t), some (.ref o), some (.int (nI 0))]) rfl (Nat.le_of_ble_eq_true rfl) rfl rfl dX5_copyFrom_12 ?_
  exact loop 4 0 v8 (by omega) (by omega) g1 (fun r hr => by omega) (g2.wide (by omega) (by omega))
