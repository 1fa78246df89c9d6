section ZNULL
variable {p : Program} {l : Launch} {e : Env} {R : Room} {s : State} {m : MethodId} {args : Array Value} {below : List Frame} {meth : Method} {c : Code} {cells slots : Nat} {Q : State → Prop} {G : zG} {nL : Nat} {sh : zH} {v : zV} {N pc : Nat} {lv : List (Option Value)} {st : List Value} {own nm : String} {cc : ByteArray} {ret : Option FieldType}
theorem r_aload_nN (C : zC p s m args meth c own nm cc nL ret G) {k : Fin 4} {i : Nat} (hi : (k : Nat) = i) (hl : lv[i]? = some (some .null)) (hdg : decode cc pc = .ok (.aload_n k, 1)) (kk : VV p l e R s m args below meth c cells slots Q G nL sh v N (pc + 1) lv (.null :: st)) : VV p l e R s m args below meth c cells slots Q G nL sh v N pc lv st := fun H locs ls h1 h2 h3 => lv_aload_nN C.1 C.2.1 hdg hi (h3.2.2 _ _ hl) (kk H locs ls h1 h2 h3)
theorem r_aloadN (C : zC p s m args meth c own nm cc nL ret G) {i : Nat} (hl : lv[i]? = some (some .null)) (hdg : decode cc pc = .ok (.aload i, 2)) (kk : VV p l e R s m args below meth c cells slots Q G nL sh v N (pc + 2) lv (.null :: st)) : VV p l e R s m args below meth c cells slots Q G nL sh v N pc lv st := fun H locs ls h1 h2 h3 => lv_aloadN C.1 C.2.1 hdg (h3.2.2 _ _ hl) (kk H locs ls h1 h2 h3)
theorem r_astore_nN (C : zC p s m args meth c own nm cc nL ret G) {k : Fin 4} {i : Nat} (hi : (k : Nat) = i) {lv2 : List (Option Value)} (hn : i < nL) (hc : lvc lv = true) (hs : lv.set i (some .null) = lv2) (hdg : decode cc pc = .ok (.astore_n k, 1)) (kk : VV p l e R s m args below meth c cells slots Q G nL sh v N (pc + 1) lv2 st) : VV p l e R s m args below meth c cells slots Q G nL sh v N pc lv (.null :: st) := fun H locs ls h1 h2 h3 => lv_astore_nN C.1 C.2.1 hdg hi (lo_has h3) hn rfl (fun ls2 hl2 => kk H locs ls2 h1 h2 (hs ▸ lo_set1 hc hl2))
theorem r_astoreN (C : zC p s m args meth c own nm cc nL ret G) {i : Nat} {lv2 : List (Option Value)} (hn : i < nL) (hc : lvc lv = true) (hs : lv.set i (some .null) = lv2) (hdg : decode cc pc = .ok (.astore i, 2)) (kk : VV p l e R s m args below meth c cells slots Q G nL sh v N (pc + 2) lv2 st) : VV p l e R s m args below meth c cells slots Q G nL sh v N pc lv (.null :: st) := fun H locs ls h1 h2 h3 => lv_astoreN C.1 C.2.1 hdg (lo_has h3) hn rfl (fun ls2 hl2 => kk H locs ls2 h1 h2 (hs ▸ lo_set1 hc hl2))
end ZNULL
/-- only the trial is written -/
theorem zt_tri {v v1 : zV} {x : Nat} {M : zMS} (h : zt v (x + 1) M) (k : zfr v v1 (x + 29) 28) : zt v1 (x + 1) M := zt_all h (fun b h1 h2 => k b (by omega))
theorem zxh_tri {v v1 : zV} {x : Nat} {q : Nat → Nat} {h : zHs} (g : zxh v x q h) (hq : pq q) (k : zfr v v1 (x + 29) 28) : zxh v1 x q h := g.kept hq (congrFun (k x (by omega)) 5) (k _ (by omega)) (fun b h1 h2 => k b (by omega))
theorem zse_p {v : zV} {u : Nat} {c : Nat → Nat} {x : Nat} (h : zse v u c) : zse (z2 v u 6 (nI x)) u (upc c 4 x) := by
  obtain ⟨h0, h1, h3, h4, h5, h6, hv, hl, hw⟩ := h
  have e : ∀ i, i ≠ 4 → upc c 4 x i = c i := fun i hi => upc_n hi
  have o : ∀ a, a ≠ u → z2 v u 6 (nI x) a = v a := fun a ha => z2_addr ha
  have o2 : ∀ k, k ≠ 6 → z2 v u 6 (nI x) u k = v u k := fun k hk => z2_ne (by omega)
  exact ⟨by rw [o2 3 (by omega), e 0 (by omega)]; exact h0, by rw [o2 4 (by omega), e 1 (by omega)]; exact h1, by rw [o2 5 (by omega), e 3 (by omega)]; exact h3, by rw [z2_self, upc_s], by rw [o2 7 (by omega), e 5 (by omega)]; exact h5, by rw [o2 8 (by omega), e 6 (by omega)]; exact h6, fun b hb => by rw [o _ (by omega), e _ (by omega)]; exact hv b hb, fun i hi hi4 => by rw [e 1 (by omega)] at hi; rw [o _ (by omega), e _ (by omega)]; exact hl i hi hi4, fun d hd => by rw [o _ (by omega), e _ (by omega)]; exact hw d hd⟩
theorem m_X5_isC (l : Launch) (G : zG) (sh : zH) (v : zV) (N : Nat) {t : Nat} {M : zMS} {x : Nat} (hp : zTR G sh N t) (hv : zt v t M) (hk : mOK M) (hx : x ≤ 1) : zm l G yX5_isComplete cX5_isComplete 3 (some .boolean) 0 [.ref t, .int (nI x)] sh v N (fun r v1 => r = some (.int (zb (dn x M))) ∧ v1 = v) := by
  rcases (show x = 0 ∨ x = 1 by omega) with rfl | rfl
  · exact m_X5_isComplete0 l G sh v N hp hv hk
  · exact m_X5_isComplete1 l G sh v N hp hv hk
/-- the list of a node that has one -/
theorem lsI (l : Launch) (G : zG) (sh : zH) (v : zV) (N : Nat) {t : Nat} {M : zMS} {n : Nat} (hp : zTR G sh N t) (hv : zt v t M) (hk : mOK M) (h1 : 1 ≤ n) (h2 : n ≤ M.1 1 + 1) : ∃ A cap, zPL G sh N A cap ∧ zpl v A cap (lsO M n) ∧ (A + 2 ≤ t + 20 ∨ t + 22 ≤ A) ∧ zm l G yX5_listOf cX5_listOf 2 (some (.object "RelayTransfer$PacketList")) 0 [.ref t, .int (nI n)] sh v N (fun r v1 => r = some (.ref A) ∧ v1 = v) := by
  have hR3 := hk.1.2.2.1
  by_cases e : n = M.1 1 + 1
  · refine ⟨t + 6 + 1, 12, hp.2.2.2.2.2.1.2.2.2.1, ?_, Or.inl (by omega), ?_⟩
    · rw [lsO, if_pos e]
      exact hv.2.2.2.2.2.2.2.2.1
    · have z := m_X5_listOf l G sh v N (n := n) hp hv hk (by omega)
      rw [if_pos e] at z
      exact z
  · refine ⟨t + 22 + 2 * (n - 1), 4, hp.2.2.2.2.2.2.2.2 (n - 1) (by omega), ?_, Or.inr (by omega), ?_⟩
    · rw [lsO, if_neg e]
      exact hv.2.2.2.2.1 (n - 1) (by omega)
    · have z := m_X5_listOf l G sh v N (n := n) hp hv hk (by omega)
      rw [if_neg e, if_pos ⟨h1, by omega⟩] at z
      exact z
theorem lsO_20 {M : zMS} {n : Nat} (h : zE M) (h2 : n ≤ M.1 1 + 1) : ∀ q ∈ lsO M n, q < 2 ^ 20 := by
  rw [lsO_ix]
  exact zl_ls h (ixO_lt h.1.1.2.2.1 h2)
set_option maxRecDepth 100000 in
set_option maxHeartbeats 4000000 in
theorem m_X5_listOfO (l : Launch) (G : zG) (sh : zH) (v : zV) (N : Nat) {t : Nat} {M : zMS} {y : Int32} (hp : zTR G sh N t) (hv : zt v t M) (hk : mOK M) (hy : ¬ (nI 1 ≤ y ∧ y ≤ nI (M.1 1 + 1))) : zm l G yX5_listOf cX5_listOf 2 (some (.object "RelayTransfer$PacketList")) 0 [.ref t, .int y] sh v N (fun r v1 => r = some .null ∧ v1 = v) := by
  refine zM.of (by decide) rfl (Nat.le_of_ble_eq_true rfl) ?_
  intro p e s m args below meth c C
  obtain ⟨tB, tN, hs0, tse, hs5, trc, hs19, tsp, tst⟩ := id hp
  have hd0 : G.2.2.1 ≤ t ∧ t < N := ⟨by omega, by omega⟩
  have hd1 : G.2.2.1 ≤ t + 1 ∧ t + 1 < N := ⟨by omega, by omega⟩
  have hd5 : G.2.2.1 ≤ t + 5 ∧ t + 5 < N := ⟨by omega, by omega⟩
  have hd6 : G.2.2.1 ≤ t + 6 ∧ t + 6 < N := ⟨by omega, by omega⟩
  have hd19 : G.2.2.1 ≤ t + 19 ∧ t + 19 < N := ⟨by omega, by omega⟩
  have hd20 : G.2.2.1 ≤ t + 20 ∧ t + 20 < N := ⟨by omega, by omega⟩
  have hd61 : G.2.2.1 ≤ t + 6 + 1 ∧ t + 6 + 1 < N := ⟨by omega, by omega⟩
  have hd65 : G.2.2.1 ≤ t + 6 + 5 ∧ t + 6 + 5 < N := ⟨by omega, by omega⟩
  have hd610 : G.2.2.1 ≤ t + 6 + 10 ∧ t + 6 + 10 < N := ⟨by omega, by omega⟩
  have hd68 : G.2.2.1 ≤ t + 6 + 8 ∧ t + 6 + 8 < N := ⟨by omega, by omega⟩
  have hs1 := tse.2.2.1
  have hs6 := trc.2.2.1
  have hs20 := tsp.2.2.1
  have hs61 := trc.2.2.2.1.2.2.2.1
  have hs65 := trc.2.2.2.2.2.1.2.2.1
  have hs68 := trc.2.2.2.2.2.2.1.2.2.2.1
  have hs610 := trc.2.2.2.2.2.2.2.2.2.1
  have hR := hk.1.2.2.1
  refine r_iload_n C (pc := 0) rfl rfl dX5_listOf_0 ?_
  refine r_aload_n C (pc := 1) rfl rfl dX5_listOf_1 ?_
  refine r_get C (pc := 2) (ci := 5) (k := 0) (w := .ref (t + 1)) rfl (by decide) inX5 (by decide) q_200 (Or.inl hd0) hs0 (zl_ref _ _) dX5_listOf_2 ?_
  refine r_getN C (pc := 5) (ci := 3) (k := 4) (w := .int (nI (M.1 1))) rfl (by decide) inX3 (by decide) q_69 (Or.inl hd1) hs1 (zl_i (hv.2.2.2.1.2.1)) dX5_listOf_5 ?_
  refine r_iconst C (pc := 8) (x := (nI 1)) (by decide) dX5_listOf_8 ?_
  refine r_iadd C (pc := 9) (z := (nI (M.1 1 + 1))) (nI_add _ _) dX5_listOf_9 ?_
  refine r_icmp_ne C (pc := 10) (tgt := 21) dX5_listOf_10 (by decide) (fun c_10 => ?_) (fun c_10 => by exfalso; exact hy (by rw [c_10]; exact ⟨(nI_leI (by decide) (by omega)).mpr (by omega), Int32.le_refl _⟩))
  refine r_iload_n C (pc := 21) rfl rfl dX5_listOf_21 ?_
  refine r_iconst C (pc := 22) (x := (nI 1)) (by decide) dX5_listOf_22 ?_
  refine r_icmp_lt C (pc := 23) (tgt := 57) dX5_listOf_23 (by decide) (fun c_23 => ?_) (fun c_23 => ?_)
  · refine r_null C (pc := 57) dX5_listOf_57 ?_
    exact r_aret C (pc := 58) rfl (Or.inl rfl) dX5_listOf_58 ⟨rfl, rfl, rfl, rfl⟩
  · refine r_iload_n C (pc := 26) rfl rfl dX5_listOf_26 ?_
    refine r_aload_n C (pc := 27) rfl rfl dX5_listOf_27 ?_
    refine r_get C (pc := 28) (ci := 5) (k := 0) (w := .ref (t + 1)) rfl (by decide) inX5 (by decide) q_200 (Or.inl hd0) hs0 (zl_ref _ _) dX5_listOf_28 ?_
    refine r_getN C (pc := 31) (ci := 3) (k := 4) (w := .int (nI (M.1 1))) rfl (by decide) inX3 (by decide) q_69 (Or.inl hd1) hs1 (zl_i (hv.2.2.2.1.2.1)) dX5_listOf_31 ?_
    refine r_icmp_gt C (pc := 34) (tgt := 57) dX5_listOf_34 (by decide) (fun c_34 => ?_) (fun c_34 => by exfalso; exact hy ⟨Int32.not_lt.mp c_23, Int32.le_trans (Int32.not_lt.mp c_34) ((nI_leI (by omega) (by omega)).mpr (by omega))⟩)
    refine r_null C (pc := 57) dX5_listOf_57 ?_
    exact r_aret C (pc := 58) rfl (Or.inl rfl) dX5_listOf_58 ⟨rfl, rfl, rfl, rfl⟩
set_option maxRecDepth 100000 in
set_option maxHeartbeats 4000000 in
theorem m_X6_told (l : Launch) (G : zG) (sh : zH) (v : zV) (N : Nat) {x : Nat} {q : Nat → Nat} {M : zMS} {h : zHs} {T : Nat} {a : Int32} (hX : zXR G sh N x q) (hv : zt v (x + 1) M) (hh : zxh v x q h) (hI : zI T (M, h)) (hT : T + 1000 < 2 ^ 30) : zm l G yX6_told cX6_told 4 (some .int) 0 [.ref x, .int a] sh v N (fun r v1 => r = some (.int (qTold a (M, h))) ∧ zt v1 (x + 1) M ∧ zxh v1 x q h ∧ zfr v v1 x 340) := by
  refine zM.of (by decide) rfl (Nat.le_of_ble_eq_true rfl) ?_
  intro p e s m args below meth c C
  obtain ⟨xB, xN, hs0, hs57, hs58, hs59, hnow, htri, hhis, himg, hpq⟩ := id hX
  have hd0 : G.2.2.1 ≤ x ∧ x < N := ⟨xB, by omega⟩
  have hd57 : G.2.2.1 ≤ x + 57 ∧ x + 57 < N := ⟨by omega, by omega⟩
  have hd58 : G.2.2.1 ≤ x + 58 ∧ x + 58 < N := ⟨by omega, by omega⟩
  have hd59 : G.2.2.1 ≤ x + 59 ∧ x + 59 < N := ⟨by omega, by omega⟩
  obtain ⟨ntB, ntN, hn0, ntse, hn5, ntrc, hn19, ntsp, ntst⟩ := id hnow
  have hnd0 : G.2.2.1 ≤ x + 1 ∧ x + 1 < N := ⟨by omega, by omega⟩
  have hnd1 : G.2.2.1 ≤ x + 1 + 1 ∧ x + 1 + 1 < N := ⟨by omega, by omega⟩
  have hnd5 : G.2.2.1 ≤ x + 1 + 5 ∧ x + 1 + 5 < N := ⟨by omega, by omega⟩
  have hnd6 : G.2.2.1 ≤ x + 1 + 6 ∧ x + 1 + 6 < N := ⟨by omega, by omega⟩
  have hnd19 : G.2.2.1 ≤ x + 1 + 19 ∧ x + 1 + 19 < N := ⟨by omega, by omega⟩
  have hnd20 : G.2.2.1 ≤ x + 1 + 20 ∧ x + 1 + 20 < N := ⟨by omega, by omega⟩
  have hnd61 : G.2.2.1 ≤ x + 1 + 6 + 1 ∧ x + 1 + 6 + 1 < N := ⟨by omega, by omega⟩
  have hnd65 : G.2.2.1 ≤ x + 1 + 6 + 5 ∧ x + 1 + 6 + 5 < N := ⟨by omega, by omega⟩
  have hnd610 : G.2.2.1 ≤ x + 1 + 6 + 10 ∧ x + 1 + 6 + 10 < N := ⟨by omega, by omega⟩
  have hnd68 : G.2.2.1 ≤ x + 1 + 6 + 8 ∧ x + 1 + 6 + 8 < N := ⟨by omega, by omega⟩
  have hn1 := ntse.2.2.1
  have hn6 := ntrc.2.2.1
  have hn20 := ntsp.2.2.1
  have hn61 := ntrc.2.2.2.1.2.2.2.1
  have hn65 := ntrc.2.2.2.2.2.1.2.2.1
  have hn68 := ntrc.2.2.2.2.2.2.1.2.2.2.1
  have hn610 := ntrc.2.2.2.2.2.2.2.2.2.1
  have hnd11 : G.2.2.1 ≤ x + 1 + 1 + 1 ∧ x + 1 + 1 + 1 < N := ⟨by omega, by omega⟩
  have hnd12 : G.2.2.1 ≤ x + 1 + 1 + 2 ∧ x + 1 + 1 + 2 < N := ⟨by omega, by omega⟩
  have hnd13 : G.2.2.1 ≤ x + 1 + 1 + 3 ∧ x + 1 + 1 + 3 < N := ⟨by omega, by omega⟩
  have hnd652 : G.2.2.1 ≤ x + 1 + 6 + 5 + 2 ∧ x + 1 + 6 + 5 + 2 < N := ⟨by omega, by omega⟩
  have hnd6102 : G.2.2.1 ≤ x + 1 + 6 + 10 + 2 ∧ x + 1 + 6 + 10 + 2 < N := ⟨by omega, by omega⟩
  have hn11 := ntse.2.2.2.1
  have hn12 := ntse.2.2.2.2.1
  have hn13 := ntse.2.2.2.2.2
  have hn652 := ntrc.2.2.2.2.2.1.2.2.2.2
  have hn6102 := ntrc.2.2.2.2.2.2.2.2.2.2.2
  obtain ⟨ltB, ltN, hl0, ltse, hl5, ltrc, hl19, ltsp, ltst⟩ := id htri
  have hld0 : G.2.2.1 ≤ x + 29 ∧ x + 29 < N := ⟨by omega, by omega⟩
  have hld1 : G.2.2.1 ≤ x + 29 + 1 ∧ x + 29 + 1 < N := ⟨by omega, by omega⟩
  have hld5 : G.2.2.1 ≤ x + 29 + 5 ∧ x + 29 + 5 < N := ⟨by omega, by omega⟩
  have hld6 : G.2.2.1 ≤ x + 29 + 6 ∧ x + 29 + 6 < N := ⟨by omega, by omega⟩
  have hld19 : G.2.2.1 ≤ x + 29 + 19 ∧ x + 29 + 19 < N := ⟨by omega, by omega⟩
  have hld20 : G.2.2.1 ≤ x + 29 + 20 ∧ x + 29 + 20 < N := ⟨by omega, by omega⟩
  have hld61 : G.2.2.1 ≤ x + 29 + 6 + 1 ∧ x + 29 + 6 + 1 < N := ⟨by omega, by omega⟩
  have hld65 : G.2.2.1 ≤ x + 29 + 6 + 5 ∧ x + 29 + 6 + 5 < N := ⟨by omega, by omega⟩
  have hld610 : G.2.2.1 ≤ x + 29 + 6 + 10 ∧ x + 29 + 6 + 10 < N := ⟨by omega, by omega⟩
  have hld68 : G.2.2.1 ≤ x + 29 + 6 + 8 ∧ x + 29 + 6 + 8 < N := ⟨by omega, by omega⟩
  have hl1 := ltse.2.2.1
  have hl6 := ltrc.2.2.1
  have hl20 := ltsp.2.2.1
  have hl61 := ltrc.2.2.2.1.2.2.2.1
  have hl65 := ltrc.2.2.2.2.2.1.2.2.1
  have hl68 := ltrc.2.2.2.2.2.2.1.2.2.2.1
  have hl610 := ltrc.2.2.2.2.2.2.2.2.2.1
  have hld11 : G.2.2.1 ≤ x + 29 + 1 + 1 ∧ x + 29 + 1 + 1 < N := ⟨by omega, by omega⟩
  have hld12 : G.2.2.1 ≤ x + 29 + 1 + 2 ∧ x + 29 + 1 + 2 < N := ⟨by omega, by omega⟩
  have hld13 : G.2.2.1 ≤ x + 29 + 1 + 3 ∧ x + 29 + 1 + 3 < N := ⟨by omega, by omega⟩
  have hld652 : G.2.2.1 ≤ x + 29 + 6 + 5 + 2 ∧ x + 29 + 6 + 5 + 2 < N := ⟨by omega, by omega⟩
  have hld6102 : G.2.2.1 ≤ x + 29 + 6 + 10 + 2 ∧ x + 29 + 6 + 10 + 2 < N := ⟨by omega, by omega⟩
  have hl11 := ltse.2.2.2.1
  have hl12 := ltse.2.2.2.2.1
  have hl13 := ltse.2.2.2.2.2
  have hl652 := ltrc.2.2.2.2.2.1.2.2.2.2
  have hl6102 := ltrc.2.2.2.2.2.2.2.2.2.2.2
  refine r_aload_n C (pc := 0) rfl rfl dX6_told_0 ?_
  refine r_get C (pc := 1) (ci := 6) (k := 0) (w := .ref (x + 1)) rfl (by decide) inX6 (by decide) q_231 (Or.inl hd0) hs0 (zl_ref _ _) dX6_told_1 ?_
  refine r_getN C (pc := 4) (ci := 5) (k := 0) (w := .ref (x + 1 + 1)) rfl (by decide) inX5 (by decide) q_201 (Or.inl hnd0) hn0 (zl_ref _ _) dX6_told_4 ?_
  refine r_astore_n C (pc := 7) (lv2 := [some (.ref x), some (.int a), some (.ref (x + 1 + 1)), none]) rfl (Nat.le_of_ble_eq_true rfl) rfl rfl dX6_told_7 ?_
  refine r_aload_n C (pc := 8) rfl rfl dX6_told_8 ?_
  refine r_get C (pc := 9) (ci := 6) (k := 0) (w := .ref (x + 1)) rfl (by decide) inX6 (by decide) q_231 (Or.inl hd0) hs0 (zl_ref _ _) dX6_told_9 ?_
  refine r_getN C (pc := 12) (ci := 5) (k := 2) (w := .ref (x + 1 + 6)) rfl (by decide) inX5 (by decide) q_204 (Or.inl hnd0) hn0 (zl_ref _ _) dX6_told_12 ?_
  refine r_astore_n C (pc := 15) (lv2 := [some (.ref x), some (.int a), some (.ref (x + 1 + 1)), some (.ref (x + 1 + 6))]) rfl (Nat.le_of_ble_eq_true rfl) rfl rfl dX6_told_15 ?_
  refine r_iload_n C (pc := 16) rfl rfl dX6_told_16 ?_
  by_cases hr : nI 0 ≤ a ∧ a ≤ nI 16
  · have hc := hr
    obtain ⟨n, hm1, hm2, rfl⟩ := inR hr (by decide) (by decide)
    rcases (show n = 0 ∨ n = 1 ∨ n = 2 ∨ n = 3 ∨ n = 4 ∨ n = 5 ∨ n = 6 ∨ n = 7 ∨ n = 8 ∨ n = 9 ∨ n = 10 ∨ n = 11 ∨ n = 12 ∨ n = 13 ∨ n = 14 ∨ n = 15 ∨ n = 16 by omega) with rfl | rfl | rfl | rfl | rfl | rfl | rfl | rfl | rfl | rfl | rfl | rfl | rfl | rfl | rfl | rfl | rfl
    · refine r_tableIn C (pc := 17) (off := 83) (tgt := 100) dX6_told_17 (by decide) (by decide) rfl (by decide) ?_
      refine r_aload_n C (pc := 100) rfl rfl dX6_told_100 ?_
      refine r_getN C (pc := 101) (ci := 3) (k := 3) (w := .int (nI (M.1 0))) rfl (by decide) inX3 (by decide) q_67 (Or.inl hnd1) hn1 (zl_i (hv.2.2.2.1.1)) dX6_told_101 ?_
      exact r_iret C (pc := 104) rfl (rfl) dX6_told_104 ⟨rfl, rfl, (by have ho : qTold (nI 0) (M, h) = nI (M.1 0) := (if_pos hc).trans (by rw [nn_I (by decide)]; rfl); rw [ho]), hv, hh, zfr.rf⟩
    · refine r_tableIn C (pc := 17) (off := 88) (tgt := 105) dX6_told_17 (by decide) (by decide) rfl (by decide) ?_
      refine r_aload_n C (pc := 105) rfl rfl dX6_told_105 ?_
      refine r_getN C (pc := 106) (ci := 3) (k := 4) (w := .int (nI (M.1 1))) rfl (by decide) inX3 (by decide) q_70 (Or.inl hnd1) hn1 (zl_i (hv.2.2.2.1.2.1)) dX6_told_106 ?_
      exact r_iret C (pc := 109) rfl (rfl) dX6_told_109 ⟨rfl, rfl, (by have ho : qTold (nI 1) (M, h) = nI (M.1 1) := (if_pos hc).trans (by rw [nn_I (by decide)]; rfl); rw [ho]), hv, hh, zfr.rf⟩
    · refine r_tableIn C (pc := 17) (off := 93) (tgt := 110) dX6_told_17 (by decide) (by decide) rfl (by decide) ?_
      refine r_aload_n C (pc := 110) rfl rfl dX6_told_110 ?_
      refine r_get C (pc := 111) (ci := 6) (k := 0) (w := .ref (x + 1)) rfl (by decide) inX6 (by decide) q_231 (Or.inl hd0) hs0 (zl_ref _ _) dX6_told_111 ?_
      refine r_getN C (pc := 114) (ci := 5) (k := 3) (w := .int (nI (M.1 2))) rfl (by decide) inX5 (by decide) q_206 (Or.inl hnd0) hn0 (zl_i (hv.1)) dX6_told_114 ?_
      exact r_iret C (pc := 117) rfl (rfl) dX6_told_117 ⟨rfl, rfl, (by have ho : qTold (nI 2) (M, h) = nI (M.1 2) := (if_pos hc).trans (by rw [nn_I (by decide)]; rfl); rw [ho]), hv, hh, zfr.rf⟩
    · refine r_tableIn C (pc := 17) (off := 101) (tgt := 118) dX6_told_17 (by decide) (by decide) rfl (by decide) ?_
      refine r_aload_n C (pc := 118) rfl rfl dX6_told_118 ?_
      refine r_getN C (pc := 119) (ci := 3) (k := 5) (w := .int (nI (M.1 3))) rfl (by decide) inX3 (by decide) q_73 (Or.inl hnd1) hn1 (zl_i (hv.2.2.2.1.2.2.1)) dX6_told_119 ?_
      exact r_iret C (pc := 122) rfl (rfl) dX6_told_122 ⟨rfl, rfl, (by have ho : qTold (nI 3) (M, h) = nI (M.1 3) := (if_pos hc).trans (by rw [nn_I (by decide)]; rfl); rw [ho]), hv, hh, zfr.rf⟩
    · refine r_tableIn C (pc := 17) (off := 106) (tgt := 123) dX6_told_17 (by decide) (by decide) rfl (by decide) ?_
      refine r_aload_n C (pc := 123) rfl rfl dX6_told_123 ?_
      refine r_getN C (pc := 124) (ci := 3) (k := 6) (w := .int (nI (M.1 4))) rfl (by decide) inX3 (by decide) q_75 (Or.inl hnd1) hn1 (zl_i (hv.2.2.2.1.2.2.2.1)) dX6_told_124 ?_
      exact r_iret C (pc := 127) rfl (rfl) dX6_told_127 ⟨rfl, rfl, (by have ho : qTold (nI 4) (M, h) = nI (M.1 4) := (if_pos hc).trans (by rw [nn_I (by decide)]; rfl); rw [ho]), hv, hh, zfr.rf⟩
    · refine r_tableIn C (pc := 17) (off := 111) (tgt := 128) dX6_told_17 (by decide) (by decide) rfl (by decide) ?_
      refine r_aload_n C (pc := 128) rfl rfl dX6_told_128 ?_
      refine r_getN C (pc := 129) (ci := 3) (k := 7) (w := .int (nI (M.1 5))) rfl (by decide) inX3 (by decide) q_79 (Or.inl hnd1) hn1 (zl_i (hv.2.2.2.1.2.2.2.2.1)) dX6_told_129 ?_
      exact r_iret C (pc := 132) rfl (rfl) dX6_told_132 ⟨rfl, rfl, (by have ho : qTold (nI 5) (M, h) = nI (M.1 5) := (if_pos hc).trans (by rw [nn_I (by decide)]; rfl); rw [ho]), hv, hh, zfr.rf⟩
    · refine r_tableIn C (pc := 17) (off := 116) (tgt := 133) dX6_told_17 (by decide) (by decide) rfl (by decide) ?_
      refine r_aload_n C (pc := 133) rfl rfl dX6_told_133 ?_
      refine r_getN C (pc := 134) (ci := 3) (k := 8) (w := .int (nI (M.1 6))) rfl (by decide) inX3 (by decide) q_81 (Or.inl hnd1) hn1 (zl_i (hv.2.2.2.1.2.2.2.2.2.1)) dX6_told_134 ?_
      exact r_iret C (pc := 137) rfl (rfl) dX6_told_137 ⟨rfl, rfl, (by have ho : qTold (nI 6) (M, h) = nI (M.1 6) := (if_pos hc).trans (by rw [nn_I (by decide)]; rfl); rw [ho]), hv, hh, zfr.rf⟩
    · refine r_tableIn C (pc := 17) (off := 121) (tgt := 138) dX6_told_17 (by decide) (by decide) rfl (by decide) ?_
      refine r_aload_n C (pc := 138) rfl rfl dX6_told_138 ?_
      refine r_get C (pc := 139) (ci := 6) (k := 0) (w := .ref (x + 1)) rfl (by decide) inX6 (by decide) q_231 (Or.inl hd0) hs0 (zl_ref _ _) dX6_told_139 ?_
      refine r_getN C (pc := 142) (ci := 5) (k := 4) (w := .int (nI (M.1 29))) rfl (by decide) inX5 (by decide) q_208 (Or.inl hnd0) hn0 (zl_i (hv.2.1)) dX6_told_142 ?_
      exact r_iret C (pc := 145) rfl (rfl) dX6_told_145 ⟨rfl, rfl, (by have ho : qTold (nI 7) (M, h) = nI (M.1 29) := (if_pos hc).trans (by rw [nn_I (by decide)]; rfl); rw [ho]), hv, hh, zfr.rf⟩
    · refine r_tableIn C (pc := 17) (off := 129) (tgt := 146) dX6_told_17 (by decide) (by decide) rfl (by decide) ?_
      refine r_aload_n C (pc := 146) rfl rfl dX6_told_146 ?_
      refine r_get C (pc := 147) (ci := 6) (k := 0) (w := .ref (x + 1)) rfl (by decide) inX6 (by decide) q_231 (Or.inl hd0) hs0 (zl_ref _ _) dX6_told_147 ?_
      refine r_getN C (pc := 150) (ci := 5) (k := 5) (w := .int (nI (M.1 30))) rfl (by decide) inX5 (by decide) q_210 (Or.inl hnd0) hn0 (zl_i (hv.2.2.1)) dX6_told_150 ?_
      exact r_iret C (pc := 153) rfl (rfl) dX6_told_153 ⟨rfl, rfl, (by have ho : qTold (nI 8) (M, h) = nI (M.1 30) := (if_pos hc).trans (by rw [nn_I (by decide)]; rfl); rw [ho]), hv, hh, zfr.rf⟩
    · refine r_tableIn C (pc := 17) (off := 137) (tgt := 154) dX6_told_17 (by decide) (by decide) rfl (by decide) ?_
      refine r_aload_n C (pc := 154) rfl rfl dX6_told_154 ?_
      refine r_getN C (pc := 155) (ci := 2) (k := 5) (w := .int (nI (M.1 31))) rfl (by decide) inX2 (by decide) q_175 (Or.inl hnd6) hn6 (zl_i (hv.2.2.2.2.2.1)) dX6_told_155 ?_
      exact r_iret C (pc := 158) rfl (rfl) dX6_told_158 ⟨rfl, rfl, (by have ho : qTold (nI 9) (M, h) = nI (M.1 31) := (if_pos hc).trans (by rw [nn_I (by decide)]; rfl); rw [ho]), hv, hh, zfr.rf⟩
    · refine r_tableIn C (pc := 17) (off := 142) (tgt := 159) dX6_told_17 (by decide) (by decide) rfl (by decide) ?_
      refine r_aload_n C (pc := 159) rfl rfl dX6_told_159 ?_
      refine r_getN C (pc := 160) (ci := 2) (k := 6) (w := .int (nI (M.1 32))) rfl (by decide) inX2 (by decide) q_177 (Or.inl hnd6) hn6 (zl_i (hv.2.2.2.2.2.2.1)) dX6_told_160 ?_
      exact r_iret C (pc := 163) rfl (rfl) dX6_told_163 ⟨rfl, rfl, (by have ho : qTold (nI 10) (M, h) = nI (M.1 32) := (if_pos hc).trans (by rw [nn_I (by decide)]; rfl); rw [ho]), hv, hh, zfr.rf⟩
    · refine r_tableIn C (pc := 17) (off := 147) (tgt := 164) dX6_told_17 (by decide) (by decide) rfl (by decide) ?_
      refine r_aload_n C (pc := 164) rfl rfl dX6_told_164 ?_
      refine r_getN C (pc := 165) (ci := 2) (k := 0) (w := .ref (x + 1 + 6 + 1)) rfl (by decide) inX2 (by decide) q_164 (Or.inl hnd6) hn6 (zl_ref _ _) dX6_told_165 ?_
      refine r_getN C (pc := 168) (ci := 1) (k := 1) (w := .int (nI ((M.2.1 3).length))) rfl (by decide) inX1 (by decide) q_123 (Or.inl hnd61) hn61 (zl_i (hv.2.2.2.2.2.2.2.2.1.1)) dX6_told_168 ?_
      exact r_iret C (pc := 171) rfl (rfl) dX6_told_171 ⟨rfl, rfl, (by have ho : qTold (nI 11) (M, h) = nI ((M.2.1 3).length) := (if_pos hc).trans (by rw [nn_I (by decide)]; rfl); rw [ho]), hv, hh, zfr.rf⟩
    · refine r_tableIn C (pc := 17) (off := 155) (tgt := 172) dX6_told_17 (by decide) (by decide) rfl (by decide) ?_
      refine r_aload_n C (pc := 172) rfl rfl dX6_told_172 ?_
      refine r_getN C (pc := 173) (ci := 2) (k := 4) (w := .ref (x + 1 + 6 + 10)) rfl (by decide) inX2 (by decide) q_173 (Or.inl hnd6) hn6 (zl_ref _ _) dX6_told_173 ?_
      refine r_getN C (pc := 176) (ci := 0) (k := 2) (w := .int (nI (cntn M.2.2.2 12))) rfl (by decide) inX0 (by decide) q_154 (Or.inl hnd610) hn610 (zl_i (hv.2.2.2.2.2.2.2.2.2.2.2.2.1)) dX6_told_176 ?_
      exact r_iret C (pc := 179) rfl (rfl) dX6_told_179 ⟨rfl, rfl, (by have ho : qTold (nI 12) (M, h) = nI (cntn M.2.2.2 12) := (if_pos hc).trans (by rw [nn_I (by decide)]; rfl); rw [ho]), hv, hh, zfr.rf⟩
    · refine r_tableIn C (pc := 17) (off := 163) (tgt := 180) dX6_told_17 (by decide) (by decide) rfl (by decide) ?_
      refine r_aload_n C (pc := 180) rfl rfl dX6_told_180 ?_
      refine r_getN C (pc := 181) (ci := 2) (k := 3) (w := .ref (x + 1 + 6 + 8)) rfl (by decide) inX2 (by decide) q_170 (Or.inl hnd6) hn6 (zl_ref _ _) dX6_told_181 ?_
      refine r_getN C (pc := 184) (ci := 1) (k := 1) (w := .int (nI ((M.2.1 4).length))) rfl (by decide) inX1 (by decide) q_123 (Or.inl hnd68) hn68 (zl_i (hv.2.2.2.2.2.2.2.2.2.2.2.1.1)) dX6_told_184 ?_
      exact r_iret C (pc := 187) rfl (rfl) dX6_told_187 ⟨rfl, rfl, (by have ho : qTold (nI 13) (M, h) = nI ((M.2.1 4).length) := (if_pos hc).trans (by rw [nn_I (by decide)]; rfl); rw [ho]), hv, hh, zfr.rf⟩
    · refine r_tableIn C (pc := 17) (off := 171) (tgt := 188) dX6_told_17 (by decide) (by decide) rfl (by decide) ?_
      refine r_aload_n C (pc := 188) rfl rfl dX6_told_188 ?_
      refine r_getN C (pc := 189) (ci := 2) (k := 2) (w := .ref (x + 1 + 6 + 5)) rfl (by decide) inX2 (by decide) q_168 (Or.inl hnd6) hn6 (zl_ref _ _) dX6_told_189 ?_
      refine r_getN C (pc := 192) (ci := 0) (k := 2) (w := .int (nI (cntn M.2.2.1 12))) rfl (by decide) inX0 (by decide) q_154 (Or.inl hnd65) hn65 (zl_i (hv.2.2.2.2.2.2.2.2.2.2.1.1)) dX6_told_192 ?_
      exact r_iret C (pc := 195) rfl (rfl) dX6_told_195 ⟨rfl, rfl, (by have ho : qTold (nI 14) (M, h) = nI (cntn M.2.2.1 12) := (if_pos hc).trans (by rw [nn_I (by decide)]; rfl); rw [ho]), hv, hh, zfr.rf⟩
    · refine r_tableIn C (pc := 17) (off := 179) (tgt := 196) dX6_told_17 (by decide) (by decide) rfl (by decide) ?_
      refine r_aload_n C (pc := 196) rfl rfl dX6_told_196 ?_
      refine r_getN C (pc := 197) (ci := 2) (k := 7) (w := .int (nI (M.1 33))) rfl (by decide) inX2 (by decide) q_179 (Or.inl hnd6) hn6 (zl_i (hv.2.2.2.2.2.2.2.1)) dX6_told_197 ?_
      exact r_iret C (pc := 200) rfl (rfl) dX6_told_200 ⟨rfl, rfl, (by have ho : qTold (nI 15) (M, h) = nI (M.1 33) := (if_pos hc).trans (by rw [nn_I (by decide)]; rfl); rw [ho]), hv, hh, zfr.rf⟩
    · refine r_tableIn C (pc := 17) (off := 184) (tgt := 201) dX6_told_17 (by decide) (by decide) rfl (by decide) ?_
      refine r_aload_n C (pc := 201) rfl rfl dX6_told_201 ?_
      refine r_get C (pc := 202) (ci := 6) (k := 5) (w := .int (nI h.1)) rfl (by decide) inX6 (by decide) q_236 (Or.inl hd0) hs0 (zl_i (hh.1)) dX6_told_202 ?_
      exact r_iret C (pc := 205) rfl (rfl) dX6_told_205 ⟨rfl, rfl, (by have ho : qTold (nI 16) (M, h) = nI (h.1) := (if_pos hc).trans (by rw [nn_I (by decide)]; rfl); rw [ho]), hv, hh, zfr.rf⟩
  · refine r_tableOut C (pc := 17) (tgt := 206) dX6_told_17 (out_of (hi := 16) (by decide) hr) (by decide) ?_
    refine r_iconst C (pc := 206) (x := (-1)) (by decide) dX6_told_206 ?_
    exact r_iret C (pc := 207) rfl (rfl) dX6_told_207 ⟨rfl, rfl, (by have ho : qTold a (M, h) = -1 := if_neg hr; rw [ho]), hv, hh, zfr.rf⟩
set_option maxRecDepth 100000 in
set_option maxHeartbeats 4000000 in
theorem m_X6_block (l : Launch) (G : zG) (sh : zH) (v : zV) (N : Nat) {x : Nat} {q : Nat → Nat} {M : zMS} {h : zHs} {T : Nat} {a b : Int32} (hX : zXR G sh N x q) (hv : zt v (x + 1) M) (hh : zxh v x q h) (hI : zI T (M, h)) (hT : T + 1000 < 2 ^ 30) : zm l G yX6_block cX6_block 3 (some .int) 3 [.ref x, .int a, .int b] sh v N (fun r v1 => r = some (.int (qBlock a b (M, h))) ∧ zt v1 (x + 1) M ∧ zxh v1 x q h ∧ zfr v v1 x 340) := by
  refine zM.of (by decide) rfl (Nat.le_of_ble_eq_true rfl) ?_
  intro p e s m args below meth c C
  obtain ⟨xB, xN, hs0, hs57, hs58, hs59, hnow, htri, hhis, himg, hpq⟩ := id hX
  have hd0 : G.2.2.1 ≤ x ∧ x < N := ⟨xB, by omega⟩
  have hd57 : G.2.2.1 ≤ x + 57 ∧ x + 57 < N := ⟨by omega, by omega⟩
  have hd58 : G.2.2.1 ≤ x + 58 ∧ x + 58 < N := ⟨by omega, by omega⟩
  have hd59 : G.2.2.1 ≤ x + 59 ∧ x + 59 < N := ⟨by omega, by omega⟩
  obtain ⟨ntB, ntN, hn0, ntse, hn5, ntrc, hn19, ntsp, ntst⟩ := id hnow
  have hnd0 : G.2.2.1 ≤ x + 1 ∧ x + 1 < N := ⟨by omega, by omega⟩
  have hnd1 : G.2.2.1 ≤ x + 1 + 1 ∧ x + 1 + 1 < N := ⟨by omega, by omega⟩
  have hnd5 : G.2.2.1 ≤ x + 1 + 5 ∧ x + 1 + 5 < N := ⟨by omega, by omega⟩
  have hnd6 : G.2.2.1 ≤ x + 1 + 6 ∧ x + 1 + 6 < N := ⟨by omega, by omega⟩
  have hnd19 : G.2.2.1 ≤ x + 1 + 19 ∧ x + 1 + 19 < N := ⟨by omega, by omega⟩
  have hnd20 : G.2.2.1 ≤ x + 1 + 20 ∧ x + 1 + 20 < N := ⟨by omega, by omega⟩
  have hnd61 : G.2.2.1 ≤ x + 1 + 6 + 1 ∧ x + 1 + 6 + 1 < N := ⟨by omega, by omega⟩
  have hnd65 : G.2.2.1 ≤ x + 1 + 6 + 5 ∧ x + 1 + 6 + 5 < N := ⟨by omega, by omega⟩
  have hnd610 : G.2.2.1 ≤ x + 1 + 6 + 10 ∧ x + 1 + 6 + 10 < N := ⟨by omega, by omega⟩
  have hnd68 : G.2.2.1 ≤ x + 1 + 6 + 8 ∧ x + 1 + 6 + 8 < N := ⟨by omega, by omega⟩
  have hn1 := ntse.2.2.1
  have hn6 := ntrc.2.2.1
  have hn20 := ntsp.2.2.1
  have hn61 := ntrc.2.2.2.1.2.2.2.1
  have hn65 := ntrc.2.2.2.2.2.1.2.2.1
  have hn68 := ntrc.2.2.2.2.2.2.1.2.2.2.1
  have hn610 := ntrc.2.2.2.2.2.2.2.2.2.1
  have hnd11 : G.2.2.1 ≤ x + 1 + 1 + 1 ∧ x + 1 + 1 + 1 < N := ⟨by omega, by omega⟩
  have hnd12 : G.2.2.1 ≤ x + 1 + 1 + 2 ∧ x + 1 + 1 + 2 < N := ⟨by omega, by omega⟩
  have hnd13 : G.2.2.1 ≤ x + 1 + 1 + 3 ∧ x + 1 + 1 + 3 < N := ⟨by omega, by omega⟩
  have hnd652 : G.2.2.1 ≤ x + 1 + 6 + 5 + 2 ∧ x + 1 + 6 + 5 + 2 < N := ⟨by omega, by omega⟩
  have hnd6102 : G.2.2.1 ≤ x + 1 + 6 + 10 + 2 ∧ x + 1 + 6 + 10 + 2 < N := ⟨by omega, by omega⟩
  have hn11 := ntse.2.2.2.1
  have hn12 := ntse.2.2.2.2.1
  have hn13 := ntse.2.2.2.2.2
  have hn652 := ntrc.2.2.2.2.2.1.2.2.2.2
  have hn6102 := ntrc.2.2.2.2.2.2.2.2.2.2.2
  obtain ⟨ltB, ltN, hl0, ltse, hl5, ltrc, hl19, ltsp, ltst⟩ := id htri
  have hld0 : G.2.2.1 ≤ x + 29 ∧ x + 29 < N := ⟨by omega, by omega⟩
  have hld1 : G.2.2.1 ≤ x + 29 + 1 ∧ x + 29 + 1 < N := ⟨by omega, by omega⟩
  have hld5 : G.2.2.1 ≤ x + 29 + 5 ∧ x + 29 + 5 < N := ⟨by omega, by omega⟩
  have hld6 : G.2.2.1 ≤ x + 29 + 6 ∧ x + 29 + 6 < N := ⟨by omega, by omega⟩
  have hld19 : G.2.2.1 ≤ x + 29 + 19 ∧ x + 29 + 19 < N := ⟨by omega, by omega⟩
  have hld20 : G.2.2.1 ≤ x + 29 + 20 ∧ x + 29 + 20 < N := ⟨by omega, by omega⟩
  have hld61 : G.2.2.1 ≤ x + 29 + 6 + 1 ∧ x + 29 + 6 + 1 < N := ⟨by omega, by omega⟩
  have hld65 : G.2.2.1 ≤ x + 29 + 6 + 5 ∧ x + 29 + 6 + 5 < N := ⟨by omega, by omega⟩
  have hld610 : G.2.2.1 ≤ x + 29 + 6 + 10 ∧ x + 29 + 6 + 10 < N := ⟨by omega, by omega⟩
  have hld68 : G.2.2.1 ≤ x + 29 + 6 + 8 ∧ x + 29 + 6 + 8 < N := ⟨by omega, by omega⟩
  have hl1 := ltse.2.2.1
  have hl6 := ltrc.2.2.1
  have hl20 := ltsp.2.2.1
  have hl61 := ltrc.2.2.2.1.2.2.2.1
  have hl65 := ltrc.2.2.2.2.2.1.2.2.1
  have hl68 := ltrc.2.2.2.2.2.2.1.2.2.2.1
  have hl610 := ltrc.2.2.2.2.2.2.2.2.2.1
  have hld11 : G.2.2.1 ≤ x + 29 + 1 + 1 ∧ x + 29 + 1 + 1 < N := ⟨by omega, by omega⟩
  have hld12 : G.2.2.1 ≤ x + 29 + 1 + 2 ∧ x + 29 + 1 + 2 < N := ⟨by omega, by omega⟩
  have hld13 : G.2.2.1 ≤ x + 29 + 1 + 3 ∧ x + 29 + 1 + 3 < N := ⟨by omega, by omega⟩
  have hld652 : G.2.2.1 ≤ x + 29 + 6 + 5 + 2 ∧ x + 29 + 6 + 5 + 2 < N := ⟨by omega, by omega⟩
  have hld6102 : G.2.2.1 ≤ x + 29 + 6 + 10 + 2 ∧ x + 29 + 6 + 10 + 2 < N := ⟨by omega, by omega⟩
  have hl11 := ltse.2.2.2.1
  have hl12 := ltse.2.2.2.2.1
  have hl13 := ltse.2.2.2.2.2
  have hl652 := ltrc.2.2.2.2.2.1.2.2.2.2
  have hl6102 := ltrc.2.2.2.2.2.2.2.2.2.2.2
  have hE : zE M := hI.1.1
  have hk : mOK M := hE.1
  have hK2 := hk.1.1
  have hK12 := hk.1.2.1
  have hR3 := hk.1.2.2.1
  refine r_aload_n C (pc := 0) rfl rfl dX6_block_0 ?_
  refine r_iload_n C (pc := 1) rfl rfl dX6_block_1 ?_
  refine r_callV C (pc := 2) (st := []) (m_X6_isBlock l G sh v N (a := a) hX hv hK2) kyX6_isBlock q_339 rfl (Or.inl hd0) hs0 (by decide) rfl rfl rfl (Nat.le_of_ble_eq_true rfl) ⟨Nat.le_of_ble_eq_true rfl, Nat.le_of_ble_eq_true rfl⟩ ⟨Nat.le_of_ble_eq_true rfl, Nat.le_of_ble_eq_true rfl⟩ dX6_block_2 (fun r2 v2 hp2 => ?_)
  obtain ⟨rfl, ehp2⟩ := hp2
  refine VV.vq ehp2 ?_
  refine VV.eq (st2 := [.int (zb (decide ((nI 0) ≤ a ∧ a ≤ (nI (M.1 0 - 1)))))]) rfl ?_
  refine n_ifb_ne C (pc := 5) (tgt := 10) dX6_block_5 (by decide) (fun c_5 => ?_) (fun c_5 => ?_)
  · have hc1 := (of_decide_eq_true c_5)
    obtain ⟨B, hB1, hB2, rfl⟩ := inR (of_decide_eq_true c_5) (by omega) (by omega)
    have hB12 : B < 12 := by omega
    refine r_iload_n C (pc := 10) rfl rfl dX6_block_10 ?_
    by_cases hr : nI 0 ≤ b ∧ b ≤ nI 4
    · obtain ⟨n, hm1, hm2, rfl⟩ := inR hr (by decide) (by decide)
      rcases (show n = 0 ∨ n = 1 ∨ n = 2 ∨ n = 3 ∨ n = 4 by omega) with rfl | rfl | rfl | rfl | rfl
      · refine r_tableIn C (pc := 11) (off := 33) (tgt := 44) dX6_block_11 (by decide) (by decide) rfl (by decide) ?_
        refine r_aload_n C (pc := 44) rfl rfl dX6_block_44 ?_
        refine r_get C (pc := 45) (ci := 6) (k := 0) (w := .ref (x + 1)) rfl (by decide) inX6 (by decide) q_231 (Or.inl hd0) hs0 (zl_ref _ _) dX6_block_45 ?_
        refine r_getN C (pc := 48) (ci := 5) (k := 0) (w := .ref (x + 1 + 1)) rfl (by decide) inX5 (by decide) q_201 (Or.inl hnd0) hn0 (zl_ref _ _) dX6_block_48 ?_
        refine r_getN C (pc := 51) (ci := 3) (k := 0) (w := .ref (x + 1 + 1 + 1)) rfl (by decide) inX3 (by decide) q_60 (Or.inl hnd1) hn1 (zl_ref _ _) dX6_block_51 ?_
        refine r_iload_n C (pc := 54) rfl rfl dX6_block_54 ?_
        refine r_iald C (pc := 55) (x := (nI (M.1 (17 + B)))) (Or.inl hnd11) hn11 (by omega) (by omega) (hv.2.2.2.1.2.2.2.2.2.2.1 B hB12) dX6_block_55 ?_
        exact r_iret C (pc := 56) rfl (rfl) dX6_block_56 ⟨rfl, rfl, (by have ho : qBlock (nI B) (nI 0) (M, h) = nI (M.1 (17 + B)) := ((if_pos hc1).trans (if_pos rfl)).trans (by rw [nn_I (by omega)]); rw [ho]), hv, hh, zfr.rf⟩
      · refine r_tableIn C (pc := 11) (off := 46) (tgt := 57) dX6_block_11 (by decide) (by decide) rfl (by decide) ?_
        refine r_aload_n C (pc := 57) rfl rfl dX6_block_57 ?_
        refine r_get C (pc := 58) (ci := 6) (k := 0) (w := .ref (x + 1)) rfl (by decide) inX6 (by decide) q_231 (Or.inl hd0) hs0 (zl_ref _ _) dX6_block_58 ?_
        refine r_getN C (pc := 61) (ci := 5) (k := 2) (w := .ref (x + 1 + 6)) rfl (by decide) inX5 (by decide) q_204 (Or.inl hnd0) hn0 (zl_ref _ _) dX6_block_61 ?_
        refine r_getN C (pc := 64) (ci := 2) (k := 4) (w := .ref (x + 1 + 6 + 10)) rfl (by decide) inX2 (by decide) q_173 (Or.inl hnd6) hn6 (zl_ref _ _) dX6_block_64 ?_
        refine r_iload_n C (pc := 67) rfl rfl dX6_block_67 ?_
        refine r_callV C (pc := 68) (st := []) (m_X0_valueAt l G sh v N (b := B) ntrc.2.2.2.2.2.2.2 (hv.2.2.2.2.2.2.2.2.2.2.2.2) hB12 (mOK_V hk)) kyX0_valueAt q_584 rfl (Or.inl hnd610) hn610 (by decide) rfl rfl rfl (Nat.le_of_ble_eq_true rfl) ⟨Nat.le_of_ble_eq_true rfl, Nat.le_of_ble_eq_true rfl⟩ ⟨Nat.le_of_ble_eq_true rfl, Nat.le_of_ble_eq_true rfl⟩ dX6_block_68 (fun r68 v68 hp68 => ?_)
        obtain ⟨rfl, ehp68⟩ := hp68
        refine VV.vq ehp68 ?_
        refine VV.eq (st2 := [.int (knI (M.2.2.2 B) (M.1 (17 + B)))]) rfl ?_
        exact r_iret C (pc := 71) rfl (rfl) dX6_block_71 ⟨rfl, rfl, (by have ho : qBlock (nI B) (nI 1) (M, h) = knI (M.2.2.2 B) (M.1 (17 + B)) := ((if_pos hc1).trans ((if_neg (by decide)).trans (if_pos rfl))).trans (by rw [nn_I (by omega)]); rw [ho]), hv, hh, zfr.rf⟩
      · refine r_tableIn C (pc := 11) (off := 61) (tgt := 72) dX6_block_11 (by decide) (by decide) rfl (by decide) ?_
        refine r_aload_n C (pc := 72) rfl rfl dX6_block_72 ?_
        refine r_get C (pc := 73) (ci := 6) (k := 0) (w := .ref (x + 1)) rfl (by decide) inX6 (by decide) q_231 (Or.inl hd0) hs0 (zl_ref _ _) dX6_block_73 ?_
        refine r_getN C (pc := 76) (ci := 5) (k := 2) (w := .ref (x + 1 + 6)) rfl (by decide) inX5 (by decide) q_204 (Or.inl hnd0) hn0 (zl_ref _ _) dX6_block_76 ?_
        refine r_getN C (pc := 79) (ci := 2) (k := 2) (w := .ref (x + 1 + 6 + 5)) rfl (by decide) inX2 (by decide) q_168 (Or.inl hnd6) hn6 (zl_ref _ _) dX6_block_79 ?_
        refine r_iload_n C (pc := 82) rfl rfl dX6_block_82 ?_
        refine r_callV C (pc := 83) (st := []) (m_X0_valueAt l G sh v N (b := B) ntrc.2.2.2.2.2.1 (hv.2.2.2.2.2.2.2.2.2.2.1) hB12 (mOK_V hk)) kyX0_valueAt q_584 rfl (Or.inl hnd65) hn65 (by decide) rfl rfl rfl (Nat.le_of_ble_eq_true rfl) ⟨Nat.le_of_ble_eq_true rfl, Nat.le_of_ble_eq_true rfl⟩ ⟨Nat.le_of_ble_eq_true rfl, Nat.le_of_ble_eq_true rfl⟩ dX6_block_83 (fun r83 v83 hp83 => ?_)
        obtain ⟨rfl, ehp83⟩ := hp83
        refine VV.vq ehp83 ?_
        refine VV.eq (st2 := [.int (knI (M.2.2.1 B) (M.1 (17 + B)))]) rfl ?_
        exact r_iret C (pc := 86) rfl (rfl) dX6_block_86 ⟨rfl, rfl, (by have ho : qBlock (nI B) (nI 2) (M, h) = knI (M.2.2.1 B) (M.1 (17 + B)) := ((if_pos hc1).trans ((if_neg (by decide)).trans ((if_neg (by decide)).trans (if_pos rfl)))).trans (by rw [nn_I (by omega)]); rw [ho]), hv, hh, zfr.rf⟩
      · refine r_tableIn C (pc := 11) (off := 76) (tgt := 87) dX6_block_11 (by decide) (by decide) rfl (by decide) ?_
        refine r_aload_n C (pc := 87) rfl rfl dX6_block_87 ?_
        refine r_get C (pc := 88) (ci := 6) (k := 0) (w := .ref (x + 1)) rfl (by decide) inX6 (by decide) q_231 (Or.inl hd0) hs0 (zl_ref _ _) dX6_block_88 ?_
        refine r_getN C (pc := 91) (ci := 5) (k := 2) (w := .ref (x + 1 + 6)) rfl (by decide) inX5 (by decide) q_204 (Or.inl hnd0) hn0 (zl_ref _ _) dX6_block_91 ?_
        refine r_getN C (pc := 94) (ci := 2) (k := 4) (w := .ref (x + 1 + 6 + 10)) rfl (by decide) inX2 (by decide) q_173 (Or.inl hnd6) hn6 (zl_ref _ _) dX6_block_94 ?_
        refine r_getN C (pc := 97) (ci := 0) (k := 1) (w := .ref (x + 1 + 6 + 10 + 2)) rfl (by decide) inX0 (by decide) q_151 (Or.inl hnd610) hn610 (zl_ref _ _) dX6_block_97 ?_
        refine r_iload_n C (pc := 100) rfl rfl dX6_block_100 ?_
        refine r_iald C (pc := 101) (x := (tmI (M.2.2.2 B))) (Or.inl hnd6102) hn6102 (by omega) (by omega) (hv.2.2.2.2.2.2.2.2.2.2.2.2.2.2 B hB12) dX6_block_101 ?_
        exact r_iret C (pc := 102) rfl (rfl) dX6_block_102 ⟨rfl, rfl, (by have ho : qBlock (nI B) (nI 3) (M, h) = tmI (M.2.2.2 B) := ((if_pos hc1).trans ((if_neg (by decide)).trans ((if_neg (by decide)).trans ((if_neg (by decide)).trans (if_pos rfl))))).trans (by rw [nn_I (by omega)]); rw [ho]), hv, hh, zfr.rf⟩
      · refine r_tableIn C (pc := 11) (off := 92) (tgt := 103) dX6_block_11 (by decide) (by decide) rfl (by decide) ?_
        refine r_aload_n C (pc := 103) rfl rfl dX6_block_103 ?_
        refine r_get C (pc := 104) (ci := 6) (k := 0) (w := .ref (x + 1)) rfl (by decide) inX6 (by decide) q_231 (Or.inl hd0) hs0 (zl_ref _ _) dX6_block_104 ?_
        refine r_getN C (pc := 107) (ci := 5) (k := 2) (w := .ref (x + 1 + 6)) rfl (by decide) inX5 (by decide) q_204 (Or.inl hnd0) hn0 (zl_ref _ _) dX6_block_107 ?_
        refine r_getN C (pc := 110) (ci := 2) (k := 2) (w := .ref (x + 1 + 6 + 5)) rfl (by decide) inX2 (by decide) q_168 (Or.inl hnd6) hn6 (zl_ref _ _) dX6_block_110 ?_
        refine r_getN C (pc := 113) (ci := 0) (k := 1) (w := .ref (x + 1 + 6 + 5 + 2)) rfl (by decide) inX0 (by decide) q_151 (Or.inl hnd65) hn65 (zl_ref _ _) dX6_block_113 ?_
        refine r_iload_n C (pc := 116) rfl rfl dX6_block_116 ?_
        refine r_iald C (pc := 117) (x := (tmI (M.2.2.1 B))) (Or.inl hnd652) hn652 (by omega) (by omega) (hv.2.2.2.2.2.2.2.2.2.2.1.2.2 B hB12) dX6_block_117 ?_
        exact r_iret C (pc := 118) rfl (rfl) dX6_block_118 ⟨rfl, rfl, (by have ho : qBlock (nI B) (nI 4) (M, h) = tmI (M.2.2.1 B) := ((if_pos hc1).trans ((if_neg (by decide)).trans ((if_neg (by decide)).trans ((if_neg (by decide)).trans ((if_neg (by decide)).trans (if_pos rfl)))))).trans (by rw [nn_I (by omega)]); rw [ho]), hv, hh, zfr.rf⟩
    · refine r_tableOut C (pc := 11) (tgt := 119) dX6_block_11 (out_of (hi := 4) (by decide) hr) (by decide) ?_
      refine r_iconst C (pc := 119) (x := (-1)) (by decide) dX6_block_119 ?_
      exact r_iret C (pc := 120) rfl (rfl) dX6_block_120 ⟨rfl, rfl, (by have ho : qBlock (nI B) b (M, h) = -1 := (if_pos hc1).trans ((if_neg (fun z => hr (by rw [z]; exact ⟨by decide, by decide⟩))).trans ((if_neg (fun z => hr (by rw [z]; exact ⟨by decide, by decide⟩))).trans ((if_neg (fun z => hr (by rw [z]; exact ⟨by decide, by decide⟩))).trans ((if_neg (fun z => hr (by rw [z]; exact ⟨by decide, by decide⟩))).trans (if_neg (fun z => hr (by rw [z]; exact ⟨by decide, by decide⟩))))))); rw [ho]), hv, hh, zfr.rf⟩
  · refine r_iconst C (pc := 8) (x := (-1)) (by decide) dX6_block_8 ?_
    exact r_iret C (pc := 9) rfl (rfl) dX6_block_9 ⟨rfl, rfl, (by have ho : qBlock a b (M, h) = -1 := if_neg (fun z => (of_decide_eq_false c_5) z); rw [ho]), hv, hh, zfr.rf⟩
set_option maxRecDepth 100000 in
set_option maxHeartbeats 4000000 in
theorem m_X6_packet (l : Launch) (G : zG) (sh : zH) (v : zV) (N : Nat) {x : Nat} {q : Nat → Nat} {M : zMS} {h : zHs} {T : Nat} {a b c1 : Int32} (hX : zXR G sh N x q) (hv : zt v (x + 1) M) (hh : zxh v x q h) (hI : zI T (M, h)) (hT : T + 1000 < 2 ^ 30) : zm l G yX6_packet cX6_packet 5 (some .int) 4 [.ref x, .int a, .int b, .int c1] sh v N (fun r v1 => r = some (.int (qPacket a b c1 (M, h))) ∧ zt v1 (x + 1) M ∧ zxh v1 x q h ∧ zfr v v1 x 340) := by
  refine zM.of (by decide) rfl (Nat.le_of_ble_eq_true rfl) ?_
  intro p e s m args below meth c C
  obtain ⟨xB, xN, hs0, hs57, hs58, hs59, hnow, htri, hhis, himg, hpq⟩ := id hX
  have hd0 : G.2.2.1 ≤ x ∧ x < N := ⟨xB, by omega⟩
  have hd57 : G.2.2.1 ≤ x + 57 ∧ x + 57 < N := ⟨by omega, by omega⟩
  have hd58 : G.2.2.1 ≤ x + 58 ∧ x + 58 < N := ⟨by omega, by omega⟩
  have hd59 : G.2.2.1 ≤ x + 59 ∧ x + 59 < N := ⟨by omega, by omega⟩
  obtain ⟨ntB, ntN, hn0, ntse, hn5, ntrc, hn19, ntsp, ntst⟩ := id hnow
  have hnd0 : G.2.2.1 ≤ x + 1 ∧ x + 1 < N := ⟨by omega, by omega⟩
  have hnd1 : G.2.2.1 ≤ x + 1 + 1 ∧ x + 1 + 1 < N := ⟨by omega, by omega⟩
  have hnd5 : G.2.2.1 ≤ x + 1 + 5 ∧ x + 1 + 5 < N := ⟨by omega, by omega⟩
  have hnd6 : G.2.2.1 ≤ x + 1 + 6 ∧ x + 1 + 6 < N := ⟨by omega, by omega⟩
  have hnd19 : G.2.2.1 ≤ x + 1 + 19 ∧ x + 1 + 19 < N := ⟨by omega, by omega⟩
  have hnd20 : G.2.2.1 ≤ x + 1 + 20 ∧ x + 1 + 20 < N := ⟨by omega, by omega⟩
  have hnd61 : G.2.2.1 ≤ x + 1 + 6 + 1 ∧ x + 1 + 6 + 1 < N := ⟨by omega, by omega⟩
  have hnd65 : G.2.2.1 ≤ x + 1 + 6 + 5 ∧ x + 1 + 6 + 5 < N := ⟨by omega, by omega⟩
  have hnd610 : G.2.2.1 ≤ x + 1 + 6 + 10 ∧ x + 1 + 6 + 10 < N := ⟨by omega, by omega⟩
  have hnd68 : G.2.2.1 ≤ x + 1 + 6 + 8 ∧ x + 1 + 6 + 8 < N := ⟨by omega, by omega⟩
  have hn1 := ntse.2.2.1
  have hn6 := ntrc.2.2.1
  have hn20 := ntsp.2.2.1
  have hn61 := ntrc.2.2.2.1.2.2.2.1
  have hn65 := ntrc.2.2.2.2.2.1.2.2.1
  have hn68 := ntrc.2.2.2.2.2.2.1.2.2.2.1
  have hn610 := ntrc.2.2.2.2.2.2.2.2.2.1
  have hnd11 : G.2.2.1 ≤ x + 1 + 1 + 1 ∧ x + 1 + 1 + 1 < N := ⟨by omega, by omega⟩
  have hnd12 : G.2.2.1 ≤ x + 1 + 1 + 2 ∧ x + 1 + 1 + 2 < N := ⟨by omega, by omega⟩
  have hnd13 : G.2.2.1 ≤ x + 1 + 1 + 3 ∧ x + 1 + 1 + 3 < N := ⟨by omega, by omega⟩
  have hnd652 : G.2.2.1 ≤ x + 1 + 6 + 5 + 2 ∧ x + 1 + 6 + 5 + 2 < N := ⟨by omega, by omega⟩
  have hnd6102 : G.2.2.1 ≤ x + 1 + 6 + 10 + 2 ∧ x + 1 + 6 + 10 + 2 < N := ⟨by omega, by omega⟩
  have hn11 := ntse.2.2.2.1
  have hn12 := ntse.2.2.2.2.1
  have hn13 := ntse.2.2.2.2.2
  have hn652 := ntrc.2.2.2.2.2.1.2.2.2.2
  have hn6102 := ntrc.2.2.2.2.2.2.2.2.2.2.2
  obtain ⟨ltB, ltN, hl0, ltse, hl5, ltrc, hl19, ltsp, ltst⟩ := id htri
  have hld0 : G.2.2.1 ≤ x + 29 ∧ x + 29 < N := ⟨by omega, by omega⟩
  have hld1 : G.2.2.1 ≤ x + 29 + 1 ∧ x + 29 + 1 < N := ⟨by omega, by omega⟩
  have hld5 : G.2.2.1 ≤ x + 29 + 5 ∧ x + 29 + 5 < N := ⟨by omega, by omega⟩
  have hld6 : G.2.2.1 ≤ x + 29 + 6 ∧ x + 29 + 6 < N := ⟨by omega, by omega⟩
  have hld19 : G.2.2.1 ≤ x + 29 + 19 ∧ x + 29 + 19 < N := ⟨by omega, by omega⟩
  have hld20 : G.2.2.1 ≤ x + 29 + 20 ∧ x + 29 + 20 < N := ⟨by omega, by omega⟩
  have hld61 : G.2.2.1 ≤ x + 29 + 6 + 1 ∧ x + 29 + 6 + 1 < N := ⟨by omega, by omega⟩
  have hld65 : G.2.2.1 ≤ x + 29 + 6 + 5 ∧ x + 29 + 6 + 5 < N := ⟨by omega, by omega⟩
  have hld610 : G.2.2.1 ≤ x + 29 + 6 + 10 ∧ x + 29 + 6 + 10 < N := ⟨by omega, by omega⟩
  have hld68 : G.2.2.1 ≤ x + 29 + 6 + 8 ∧ x + 29 + 6 + 8 < N := ⟨by omega, by omega⟩
  have hl1 := ltse.2.2.1
  have hl6 := ltrc.2.2.1
  have hl20 := ltsp.2.2.1
  have hl61 := ltrc.2.2.2.1.2.2.2.1
  have hl65 := ltrc.2.2.2.2.2.1.2.2.1
  have hl68 := ltrc.2.2.2.2.2.2.1.2.2.2.1
  have hl610 := ltrc.2.2.2.2.2.2.2.2.2.1
  have hld11 : G.2.2.1 ≤ x + 29 + 1 + 1 ∧ x + 29 + 1 + 1 < N := ⟨by omega, by omega⟩
  have hld12 : G.2.2.1 ≤ x + 29 + 1 + 2 ∧ x + 29 + 1 + 2 < N := ⟨by omega, by omega⟩
  have hld13 : G.2.2.1 ≤ x + 29 + 1 + 3 ∧ x + 29 + 1 + 3 < N := ⟨by omega, by omega⟩
  have hld652 : G.2.2.1 ≤ x + 29 + 6 + 5 + 2 ∧ x + 29 + 6 + 5 + 2 < N := ⟨by omega, by omega⟩
  have hld6102 : G.2.2.1 ≤ x + 29 + 6 + 10 + 2 ∧ x + 29 + 6 + 10 + 2 < N := ⟨by omega, by omega⟩
  have hl11 := ltse.2.2.2.1
  have hl12 := ltse.2.2.2.2.1
  have hl13 := ltse.2.2.2.2.2
  have hl652 := ltrc.2.2.2.2.2.1.2.2.2.2
  have hl6102 := ltrc.2.2.2.2.2.2.2.2.2.2.2
  have hE : zE M := hI.1.1
  have hk : mOK M := hE.1
  have hK2 := hk.1.1
  have hK12 := hk.1.2.1
  have hR3 := hk.1.2.2.1
  by_cases hc1 : nI 1 ≤ a ∧ a ≤ nI (M.1 1 + 1)
  · obtain ⟨n, hm1, hm2, ea⟩ := inR hc1 (by decide) (by omega)
    subst ea
    obtain ⟨A, cap, hpa, hva, hno, hM5⟩ := lsI l G sh v N (n := n) hnow hv hk hm1 hm2
    refine r_aload_n C (pc := 0) rfl rfl dX6_packet_0 ?_
    refine r_get C (pc := 1) (ci := 6) (k := 0) (w := .ref (x + 1)) rfl (by decide) inX6 (by decide) q_231 (Or.inl hd0) hs0 (zl_ref _ _) dX6_packet_1 ?_
    refine r_iload_n C (pc := 4) rfl rfl dX6_packet_4 ?_
    refine r_callV C (pc := 5) (st := []) (hM5) kyX5_listOf q_564 rfl (Or.inl hnd0) hn0 (by decide) rfl rfl rfl (Nat.le_of_ble_eq_true rfl) ⟨Nat.le_of_ble_eq_true rfl, Nat.le_of_ble_eq_true rfl⟩ ⟨Nat.le_of_ble_eq_true rfl, Nat.le_of_ble_eq_true rfl⟩ dX6_packet_5 (fun r5 v5 hp5 => ?_)
    obtain ⟨rfl, ehp5⟩ := hp5
    refine VV.vq ehp5 ?_
    refine VV.eq (st2 := [.ref A]) rfl ?_
    refine r_astore C (pc := 8) (lv2 := [some (.ref x), some (.int (nI n)), some (.int b), some (.int c1), some (.ref A)]) (Nat.le_of_ble_eq_true rfl) rfl rfl dX6_packet_8 ?_
    refine r_aload C (pc := 10) rfl dX6_packet_10 ?_
    refine r_ifnonnull C (pc := 12) (tgt := 19) dX6_packet_12 (by decide) ?_
    refine r_aload C (pc := 19) rfl dX6_packet_19 ?_
    refine r_iload_n C (pc := 21) rfl rfl dX6_packet_21 ?_
    refine r_iload_n C (pc := 22) rfl rfl dX6_packet_22 ?_
    refine r_callS C (pc := 23) (st := []) (m_X6_numberOfPacket l G sh v N (b := b) (c1 := c1) hpa hva (lsO_20 hE hm2)) kyX6_numberOfPacket q_570 rfl rfl (Nat.le_of_ble_eq_true rfl) ⟨Nat.le_of_ble_eq_true rfl, Nat.le_of_ble_eq_true rfl⟩ ⟨Nat.le_of_ble_eq_true rfl, Nat.le_of_ble_eq_true rfl⟩ dX6_packet_23 (fun r23 v23 hp23 => ?_)
    obtain ⟨rfl, ehp23⟩ := hp23
    refine VV.vq ehp23 ?_
    refine VV.eq (st2 := [.int (npI (lsO M n) b c1)]) rfl ?_
    exact r_iret C (pc := 26) rfl (rfl) dX6_packet_26 ⟨rfl, rfl, (by
      have ho : qPacket (nI n) b c1 (M, h) = npI (lsO M n) b c1 := by
        unfold qPacket npI
        by_cases hz : nI 0 ≤ b ∧ (nI 0 ≤ c1 ∧ c1 ≤ nI 2)
        · rw [if_pos ⟨hc1, hz⟩, if_pos hz, nn_I (by omega)]
        · rw [if_neg (fun z => hz z.2), if_neg hz]
      rw [ho]), hv, hh, zfr.rf⟩
  · have hc2 := hc1
    refine r_aload_n C (pc := 0) rfl rfl dX6_packet_0 ?_
    refine r_get C (pc := 1) (ci := 6) (k := 0) (w := .ref (x + 1)) rfl (by decide) inX6 (by decide) q_231 (Or.inl hd0) hs0 (zl_ref _ _) dX6_packet_1 ?_
    refine r_iload_n C (pc := 4) rfl rfl dX6_packet_4 ?_
    refine r_callV C (pc := 5) (st := []) (m_X5_listOfO l G sh v N (y := a) hnow hv hk hc1) kyX5_listOf q_564 rfl (Or.inl hnd0) hn0 (by decide) rfl rfl rfl (Nat.le_of_ble_eq_true rfl) ⟨Nat.le_of_ble_eq_true rfl, Nat.le_of_ble_eq_true rfl⟩ ⟨Nat.le_of_ble_eq_true rfl, Nat.le_of_ble_eq_true rfl⟩ dX6_packet_5 (fun r5 v5 hp5 => ?_)
    obtain ⟨rfl, ehp5⟩ := hp5
    refine VV.vq ehp5 ?_
    refine VV.eq (st2 := [.null]) rfl ?_
    refine r_astoreN C (pc := 8) (lv2 := [some (.ref x), some (.int a), some (.int b), some (.int c1), some (.null)]) (Nat.le_of_ble_eq_true rfl) rfl rfl dX6_packet_8 ?_
    refine r_aloadN C (pc := 10) rfl dX6_packet_10 ?_
    refine r_ifnonnullN C (pc := 12) dX6_packet_12 ?_
    refine r_iconst C (pc := 15) (x := (-1)) (by decide) dX6_packet_15 ?_
    refine r_goto C (pc := 16) (tgt := 26) dX6_packet_16 (by decide) ?_
    exact r_iret C (pc := 26) rfl (rfl) dX6_packet_26 ⟨rfl, rfl, (by have ho : qPacket a b c1 (M, h) = -1 := if_neg (fun z => hc1 z.1); rw [ho]), hv, hh, zfr.rf⟩
set_option maxRecDepth 100000 in
set_option maxHeartbeats 4000000 in
theorem m_X6_waiting (l : Launch) (G : zG) (sh : zH) (v : zV) (N : Nat) {x : Nat} {q : Nat → Nat} {M : zMS} {h : zHs} {T : Nat} {b c1 : Int32} (hX : zXR G sh N x q) (hv : zt v (x + 1) M) (hh : zxh v x q h) (hI : zI T (M, h)) (hT : T + 1000 < 2 ^ 30) : zm l G yX6_waiting cX6_waiting 3 (some .int) 4 [.ref x, .int b, .int c1] sh v N (fun r v1 => r = some (.int (qWaiting b c1 (M, h))) ∧ zt v1 (x + 1) M ∧ zxh v1 x q h ∧ zfr v v1 x 340) := by
  refine zM.of (by decide) rfl (Nat.le_of_ble_eq_true rfl) ?_
  intro p e s m args below meth c C
  obtain ⟨xB, xN, hs0, hs57, hs58, hs59, hnow, htri, hhis, himg, hpq⟩ := id hX
  have hd0 : G.2.2.1 ≤ x ∧ x < N := ⟨xB, by omega⟩
  have hd57 : G.2.2.1 ≤ x + 57 ∧ x + 57 < N := ⟨by omega, by omega⟩
  have hd58 : G.2.2.1 ≤ x + 58 ∧ x + 58 < N := ⟨by omega, by omega⟩
  have hd59 : G.2.2.1 ≤ x + 59 ∧ x + 59 < N := ⟨by omega, by omega⟩
  obtain ⟨ntB, ntN, hn0, ntse, hn5, ntrc, hn19, ntsp, ntst⟩ := id hnow
  have hnd0 : G.2.2.1 ≤ x + 1 ∧ x + 1 < N := ⟨by omega, by omega⟩
  have hnd1 : G.2.2.1 ≤ x + 1 + 1 ∧ x + 1 + 1 < N := ⟨by omega, by omega⟩
  have hnd5 : G.2.2.1 ≤ x + 1 + 5 ∧ x + 1 + 5 < N := ⟨by omega, by omega⟩
  have hnd6 : G.2.2.1 ≤ x + 1 + 6 ∧ x + 1 + 6 < N := ⟨by omega, by omega⟩
  have hnd19 : G.2.2.1 ≤ x + 1 + 19 ∧ x + 1 + 19 < N := ⟨by omega, by omega⟩
  have hnd20 : G.2.2.1 ≤ x + 1 + 20 ∧ x + 1 + 20 < N := ⟨by omega, by omega⟩
  have hnd61 : G.2.2.1 ≤ x + 1 + 6 + 1 ∧ x + 1 + 6 + 1 < N := ⟨by omega, by omega⟩
  have hnd65 : G.2.2.1 ≤ x + 1 + 6 + 5 ∧ x + 1 + 6 + 5 < N := ⟨by omega, by omega⟩
  have hnd610 : G.2.2.1 ≤ x + 1 + 6 + 10 ∧ x + 1 + 6 + 10 < N := ⟨by omega, by omega⟩
  have hnd68 : G.2.2.1 ≤ x + 1 + 6 + 8 ∧ x + 1 + 6 + 8 < N := ⟨by omega, by omega⟩
  have hn1 := ntse.2.2.1
  have hn6 := ntrc.2.2.1
  have hn20 := ntsp.2.2.1
  have hn61 := ntrc.2.2.2.1.2.2.2.1
  have hn65 := ntrc.2.2.2.2.2.1.2.2.1
  have hn68 := ntrc.2.2.2.2.2.2.1.2.2.2.1
  have hn610 := ntrc.2.2.2.2.2.2.2.2.2.1
  have hnd11 : G.2.2.1 ≤ x + 1 + 1 + 1 ∧ x + 1 + 1 + 1 < N := ⟨by omega, by omega⟩
  have hnd12 : G.2.2.1 ≤ x + 1 + 1 + 2 ∧ x + 1 + 1 + 2 < N := ⟨by omega, by omega⟩
  have hnd13 : G.2.2.1 ≤ x + 1 + 1 + 3 ∧ x + 1 + 1 + 3 < N := ⟨by omega, by omega⟩
  have hnd652 : G.2.2.1 ≤ x + 1 + 6 + 5 + 2 ∧ x + 1 + 6 + 5 + 2 < N := ⟨by omega, by omega⟩
  have hnd6102 : G.2.2.1 ≤ x + 1 + 6 + 10 + 2 ∧ x + 1 + 6 + 10 + 2 < N := ⟨by omega, by omega⟩
  have hn11 := ntse.2.2.2.1
  have hn12 := ntse.2.2.2.2.1
  have hn13 := ntse.2.2.2.2.2
  have hn652 := ntrc.2.2.2.2.2.1.2.2.2.2
  have hn6102 := ntrc.2.2.2.2.2.2.2.2.2.2.2
  obtain ⟨ltB, ltN, hl0, ltse, hl5, ltrc, hl19, ltsp, ltst⟩ := id htri
  have hld0 : G.2.2.1 ≤ x + 29 ∧ x + 29 < N := ⟨by omega, by omega⟩
  have hld1 : G.2.2.1 ≤ x + 29 + 1 ∧ x + 29 + 1 < N := ⟨by omega, by omega⟩
  have hld5 : G.2.2.1 ≤ x + 29 + 5 ∧ x + 29 + 5 < N := ⟨by omega, by omega⟩
  have hld6 : G.2.2.1 ≤ x + 29 + 6 ∧ x + 29 + 6 < N := ⟨by omega, by omega⟩
  have hld19 : G.2.2.1 ≤ x + 29 + 19 ∧ x + 29 + 19 < N := ⟨by omega, by omega⟩
  have hld20 : G.2.2.1 ≤ x + 29 + 20 ∧ x + 29 + 20 < N := ⟨by omega, by omega⟩
  have hld61 : G.2.2.1 ≤ x + 29 + 6 + 1 ∧ x + 29 + 6 + 1 < N := ⟨by omega, by omega⟩
  have hld65 : G.2.2.1 ≤ x + 29 + 6 + 5 ∧ x + 29 + 6 + 5 < N := ⟨by omega, by omega⟩
  have hld610 : G.2.2.1 ≤ x + 29 + 6 + 10 ∧ x + 29 + 6 + 10 < N := ⟨by omega, by omega⟩
  have hld68 : G.2.2.1 ≤ x + 29 + 6 + 8 ∧ x + 29 + 6 + 8 < N := ⟨by omega, by omega⟩
  have hl1 := ltse.2.2.1
  have hl6 := ltrc.2.2.1
  have hl20 := ltsp.2.2.1
  have hl61 := ltrc.2.2.2.1.2.2.2.1
  have hl65 := ltrc.2.2.2.2.2.1.2.2.1
  have hl68 := ltrc.2.2.2.2.2.2.1.2.2.2.1
  have hl610 := ltrc.2.2.2.2.2.2.2.2.2.1
  have hld11 : G.2.2.1 ≤ x + 29 + 1 + 1 ∧ x + 29 + 1 + 1 < N := ⟨by omega, by omega⟩
  have hld12 : G.2.2.1 ≤ x + 29 + 1 + 2 ∧ x + 29 + 1 + 2 < N := ⟨by omega, by omega⟩
  have hld13 : G.2.2.1 ≤ x + 29 + 1 + 3 ∧ x + 29 + 1 + 3 < N := ⟨by omega, by omega⟩
  have hld652 : G.2.2.1 ≤ x + 29 + 6 + 5 + 2 ∧ x + 29 + 6 + 5 + 2 < N := ⟨by omega, by omega⟩
  have hld6102 : G.2.2.1 ≤ x + 29 + 6 + 10 + 2 ∧ x + 29 + 6 + 10 + 2 < N := ⟨by omega, by omega⟩
  have hl11 := ltse.2.2.2.1
  have hl12 := ltse.2.2.2.2.1
  have hl13 := ltse.2.2.2.2.2
  have hl652 := ltrc.2.2.2.2.2.1.2.2.2.2
  have hl6102 := ltrc.2.2.2.2.2.2.2.2.2.2.2
  have hE : zE M := hI.1.1
  have hk : mOK M := hE.1
  have hK2 := hk.1.1
  have hK12 := hk.1.2.1
  have hR3 := hk.1.2.2.1
  refine r_aload_n C (pc := 0) rfl rfl dX6_waiting_0 ?_
  refine r_get C (pc := 1) (ci := 6) (k := 0) (w := .ref (x + 1)) rfl (by decide) inX6 (by decide) q_231 (Or.inl hd0) hs0 (zl_ref _ _) dX6_waiting_1 ?_
  refine r_getN C (pc := 4) (ci := 5) (k := 2) (w := .ref (x + 1 + 6)) rfl (by decide) inX5 (by decide) q_204 (Or.inl hnd0) hn0 (zl_ref _ _) dX6_waiting_4 ?_
  refine r_getN C (pc := 7) (ci := 2) (k := 3) (w := .ref (x + 1 + 6 + 8)) rfl (by decide) inX2 (by decide) q_170 (Or.inl hnd6) hn6 (zl_ref _ _) dX6_waiting_7 ?_
  refine r_iload_n C (pc := 10) rfl rfl dX6_waiting_10 ?_
  refine r_iload_n C (pc := 11) rfl rfl dX6_waiting_11 ?_
  refine r_callS C (pc := 12) (st := []) (m_X6_numberOfPacket l G sh v N (b := b) (c1 := c1) ntrc.2.2.2.2.2.2.1 (hv.2.2.2.2.2.2.2.2.2.2.2.1) (zl_ls hE (by decide))) kyX6_numberOfPacket q_570 rfl rfl (Nat.le_of_ble_eq_true rfl) ⟨Nat.le_of_ble_eq_true rfl, Nat.le_of_ble_eq_true rfl⟩ ⟨Nat.le_of_ble_eq_true rfl, Nat.le_of_ble_eq_true rfl⟩ dX6_waiting_12 (fun r12 v12 hp12 => ?_)
  obtain ⟨rfl, ehp12⟩ := hp12
  refine VV.vq ehp12 ?_
  refine VV.eq (st2 := [.int (npI (M.2.1 4) b c1)]) rfl ?_
  exact r_iret C (pc := 15) rfl (rfl) dX6_waiting_15 ⟨rfl, rfl, rfl, hv, hh, zfr.rf⟩
set_option maxRecDepth 100000 in
set_option maxHeartbeats 4000000 in
theorem m_X6_node (l : Launch) (G : zG) (sh : zH) (v : zV) (N : Nat) {x : Nat} {q : Nat → Nat} {M : zMS} {h : zHs} {T : Nat} {a c1 : Int32} (hX : zXR G sh N x q) (hv : zt v (x + 1) M) (hh : zxh v x q h) (hI : zI T (M, h)) (hT : T + 1000 < 2 ^ 30) : zm l G yX6_node cX6_node 4 (some .int) 3 [.ref x, .int a, .int c1] sh v N (fun r v1 => r = some (.int (qNode a c1 (M, h))) ∧ zt v1 (x + 1) M ∧ zxh v1 x q h ∧ zfr v v1 x 340) := by
  refine zM.of (by decide) rfl (Nat.le_of_ble_eq_true rfl) ?_
  intro p e s m args below meth c C
  obtain ⟨xB, xN, hs0, hs57, hs58, hs59, hnow, htri, hhis, himg, hpq⟩ := id hX
  have hd0 : G.2.2.1 ≤ x ∧ x < N := ⟨xB, by omega⟩
  have hd57 : G.2.2.1 ≤ x + 57 ∧ x + 57 < N := ⟨by omega, by omega⟩
  have hd58 : G.2.2.1 ≤ x + 58 ∧ x + 58 < N := ⟨by omega, by omega⟩
  have hd59 : G.2.2.1 ≤ x + 59 ∧ x + 59 < N := ⟨by omega, by omega⟩
  obtain ⟨ntB, ntN, hn0, ntse, hn5, ntrc, hn19, ntsp, ntst⟩ := id hnow
  have hnd0 : G.2.2.1 ≤ x + 1 ∧ x + 1 < N := ⟨by omega, by omega⟩
  have hnd1 : G.2.2.1 ≤ x + 1 + 1 ∧ x + 1 + 1 < N := ⟨by omega, by omega⟩
  have hnd5 : G.2.2.1 ≤ x + 1 + 5 ∧ x + 1 + 5 < N := ⟨by omega, by omega⟩
  have hnd6 : G.2.2.1 ≤ x + 1 + 6 ∧ x + 1 + 6 < N := ⟨by omega, by omega⟩
  have hnd19 : G.2.2.1 ≤ x + 1 + 19 ∧ x + 1 + 19 < N := ⟨by omega, by omega⟩
  have hnd20 : G.2.2.1 ≤ x + 1 + 20 ∧ x + 1 + 20 < N := ⟨by omega, by omega⟩
  have hnd61 : G.2.2.1 ≤ x + 1 + 6 + 1 ∧ x + 1 + 6 + 1 < N := ⟨by omega, by omega⟩
  have hnd65 : G.2.2.1 ≤ x + 1 + 6 + 5 ∧ x + 1 + 6 + 5 < N := ⟨by omega, by omega⟩
  have hnd610 : G.2.2.1 ≤ x + 1 + 6 + 10 ∧ x + 1 + 6 + 10 < N := ⟨by omega, by omega⟩
  have hnd68 : G.2.2.1 ≤ x + 1 + 6 + 8 ∧ x + 1 + 6 + 8 < N := ⟨by omega, by omega⟩
  have hn1 := ntse.2.2.1
  have hn6 := ntrc.2.2.1
  have hn20 := ntsp.2.2.1
  have hn61 := ntrc.2.2.2.1.2.2.2.1
  have hn65 := ntrc.2.2.2.2.2.1.2.2.1
  have hn68 := ntrc.2.2.2.2.2.2.1.2.2.2.1
  have hn610 := ntrc.2.2.2.2.2.2.2.2.2.1
  have hnd11 : G.2.2.1 ≤ x + 1 + 1 + 1 ∧ x + 1 + 1 + 1 < N := ⟨by omega, by omega⟩
  have hnd12 : G.2.2.1 ≤ x + 1 + 1 + 2 ∧ x + 1 + 1 + 2 < N := ⟨by omega, by omega⟩
  have hnd13 : G.2.2.1 ≤ x + 1 + 1 + 3 ∧ x + 1 + 1 + 3 < N := ⟨by omega, by omega⟩
  have hnd652 : G.2.2.1 ≤ x + 1 + 6 + 5 + 2 ∧ x + 1 + 6 + 5 + 2 < N := ⟨by omega, by omega⟩
  have hnd6102 : G.2.2.1 ≤ x + 1 + 6 + 10 + 2 ∧ x + 1 + 6 + 10 + 2 < N := ⟨by omega, by omega⟩
  have hn11 := ntse.2.2.2.1
  have hn12 := ntse.2.2.2.2.1
  have hn13 := ntse.2.2.2.2.2
  have hn652 := ntrc.2.2.2.2.2.1.2.2.2.2
  have hn6102 := ntrc.2.2.2.2.2.2.2.2.2.2.2
  obtain ⟨ltB, ltN, hl0, ltse, hl5, ltrc, hl19, ltsp, ltst⟩ := id htri
  have hld0 : G.2.2.1 ≤ x + 29 ∧ x + 29 < N := ⟨by omega, by omega⟩
  have hld1 : G.2.2.1 ≤ x + 29 + 1 ∧ x + 29 + 1 < N := ⟨by omega, by omega⟩
  have hld5 : G.2.2.1 ≤ x + 29 + 5 ∧ x + 29 + 5 < N := ⟨by omega, by omega⟩
  have hld6 : G.2.2.1 ≤ x + 29 + 6 ∧ x + 29 + 6 < N := ⟨by omega, by omega⟩
  have hld19 : G.2.2.1 ≤ x + 29 + 19 ∧ x + 29 + 19 < N := ⟨by omega, by omega⟩
  have hld20 : G.2.2.1 ≤ x + 29 + 20 ∧ x + 29 + 20 < N := ⟨by omega, by omega⟩
  have hld61 : G.2.2.1 ≤ x + 29 + 6 + 1 ∧ x + 29 + 6 + 1 < N := ⟨by omega, by omega⟩
  have hld65 : G.2.2.1 ≤ x + 29 + 6 + 5 ∧ x + 29 + 6 + 5 < N := ⟨by omega, by omega⟩
  have hld610 : G.2.2.1 ≤ x + 29 + 6 + 10 ∧ x + 29 + 6 + 10 < N := ⟨by omega, by omega⟩
  have hld68 : G.2.2.1 ≤ x + 29 + 6 + 8 ∧ x + 29 + 6 + 8 < N := ⟨by omega, by omega⟩
  have hl1 := ltse.2.2.1
  have hl6 := ltrc.2.2.1
  have hl20 := ltsp.2.2.1
  have hl61 := ltrc.2.2.2.1.2.2.2.1
  have hl65 := ltrc.2.2.2.2.2.1.2.2.1
  have hl68 := ltrc.2.2.2.2.2.2.1.2.2.2.1
  have hl610 := ltrc.2.2.2.2.2.2.2.2.2.1
  have hld11 : G.2.2.1 ≤ x + 29 + 1 + 1 ∧ x + 29 + 1 + 1 < N := ⟨by omega, by omega⟩
  have hld12 : G.2.2.1 ≤ x + 29 + 1 + 2 ∧ x + 29 + 1 + 2 < N := ⟨by omega, by omega⟩
  have hld13 : G.2.2.1 ≤ x + 29 + 1 + 3 ∧ x + 29 + 1 + 3 < N := ⟨by omega, by omega⟩
  have hld652 : G.2.2.1 ≤ x + 29 + 6 + 5 + 2 ∧ x + 29 + 6 + 5 + 2 < N := ⟨by omega, by omega⟩
  have hld6102 : G.2.2.1 ≤ x + 29 + 6 + 10 + 2 ∧ x + 29 + 6 + 10 + 2 < N := ⟨by omega, by omega⟩
  have hl11 := ltse.2.2.2.1
  have hl12 := ltse.2.2.2.2.1
  have hl13 := ltse.2.2.2.2.2
  have hl652 := ltrc.2.2.2.2.2.1.2.2.2.2
  have hl6102 := ltrc.2.2.2.2.2.2.2.2.2.2.2
  have hE : zE M := hI.1.1
  have hk : mOK M := hE.1
  have hK2 := hk.1.1
  have hK12 := hk.1.2.1
  have hR3 := hk.1.2.2.1
  refine r_iload_n C (pc := 0) rfl rfl dX6_node_0 ?_
  refine r_iconst C (pc := 1) (x := (nI 0)) (by decide) dX6_node_1 ?_
  refine r_aload_n C (pc := 2) rfl rfl dX6_node_2 ?_
  refine r_get C (pc := 3) (ci := 6) (k := 0) (w := .ref (x + 1)) rfl (by decide) inX6 (by decide) q_231 (Or.inl hd0) hs0 (zl_ref _ _) dX6_node_3 ?_
  refine r_getN C (pc := 6) (ci := 5) (k := 0) (w := .ref (x + 1 + 1)) rfl (by decide) inX5 (by decide) q_201 (Or.inl hnd0) hn0 (zl_ref _ _) dX6_node_6 ?_
  refine r_getN C (pc := 9) (ci := 3) (k := 4) (w := .int (nI (M.1 1))) rfl (by decide) inX3 (by decide) q_70 (Or.inl hnd1) hn1 (zl_i (hv.2.2.2.1.2.1)) dX6_node_9 ?_
  refine r_iconst C (pc := 12) (x := (nI 1)) (by decide) dX6_node_12 ?_
  refine r_iadd C (pc := 13) (z := (nI ((M.1 1) + 1))) (nI_add _ _) dX6_node_13 ?_
  refine r_callS C (pc := 14) (st := []) (m_X6_isWithin l G sh v N (x := a) (lo := (nI 0)) (hi := (nI (M.1 1 + 1)))) kyX6_isWithin q_270 rfl rfl (Nat.le_of_ble_eq_true rfl) ⟨Nat.le_of_ble_eq_true rfl, Nat.le_of_ble_eq_true rfl⟩ ⟨Nat.le_of_ble_eq_true rfl, Nat.le_of_ble_eq_true rfl⟩ dX6_node_14 (fun r14 v14 hp14 => ?_)
  obtain ⟨rfl, ehp14⟩ := hp14
  refine VV.vq ehp14 ?_
  refine VV.eq (st2 := [.int (zb (decide ((nI 0) ≤ a ∧ a ≤ (nI (M.1 1 + 1)))))]) rfl ?_
  refine n_ifb_eq C (pc := 17) (tgt := 29) dX6_node_17 (by decide) (fun c_17 => ?_) (fun c_17 => ?_)
  · refine r_iconst C (pc := 29) (x := (-1)) (by decide) dX6_node_29 ?_
    exact r_iret C (pc := 30) rfl (rfl) dX6_node_30 ⟨rfl, rfl, (by have ho : qNode a c1 (M, h) = -1 := if_neg (fun z => (of_decide_eq_false c_17) z.1); rw [ho]), hv, hh, zfr.rf⟩
  · refine r_iload_n C (pc := 20) rfl rfl dX6_node_20 ?_
    refine r_iconst C (pc := 21) (x := (nI 0)) (by decide) dX6_node_21 ?_
    refine r_iconst C (pc := 22) (x := (nI 2)) (by decide) dX6_node_22 ?_
    refine r_callS C (pc := 23) (st := []) (m_X6_isWithin l G sh v N (x := c1) (lo := (nI 0)) (hi := (nI 2))) kyX6_isWithin q_270 rfl rfl (Nat.le_of_ble_eq_true rfl) ⟨Nat.le_of_ble_eq_true rfl, Nat.le_of_ble_eq_true rfl⟩ ⟨Nat.le_of_ble_eq_true rfl, Nat.le_of_ble_eq_true rfl⟩ dX6_node_23 (fun r23 v23 hp23 => ?_)
    obtain ⟨rfl, ehp23⟩ := hp23
    refine VV.vq ehp23 ?_
    refine VV.eq (st2 := [.int (zb (decide ((nI 0) ≤ c1 ∧ c1 ≤ (nI 2))))]) rfl ?_
    refine n_ifb_ne C (pc := 26) (tgt := 31) dX6_node_26 (by decide) (fun c_26 => ?_) (fun c_26 => ?_)
    · have hc1 := (of_decide_eq_true c_17)
      have hc3 := (of_decide_eq_true c_26)
      obtain ⟨n, hm1, hm2, rfl⟩ := inR hc1 (by decide) (by omega)
      obtain ⟨y, hy1, hy2, rfl⟩ := inR hc3 (by decide) (by decide)
      refine r_iload_n C (pc := 31) rfl rfl dX6_node_31 ?_
      refine r_iconst C (pc := 32) (x := (nI 2)) (by decide) dX6_node_32 ?_
      refine n_icmp_ne C (pc := 33) (tgt := 62) (by omega) (by decide) dX6_node_33 (by decide) (fun c_33 => ?_) (fun c_33 => ?_)
      · by_cases hz0 : n = 0
        · subst hz0
          refine r_aload_n C (pc := 62) rfl rfl dX6_node_62 ?_
          refine r_get C (pc := 63) (ci := 6) (k := 0) (w := .ref (x + 1)) rfl (by decide) inX6 (by decide) q_231 (Or.inl hd0) hs0 (zl_ref _ _) dX6_node_63 ?_
          refine r_iload_n C (pc := 66) rfl rfl dX6_node_66 ?_
          refine r_callV C (pc := 67) (st := []) ((by have z := m_X5_listOf l G sh v N (n := 0) hnow hv hk (by decide); rw [if_neg (by omega), if_neg (by omega)] at z; exact z)) kyX5_listOf q_564 rfl (Or.inl hnd0) hn0 (by decide) rfl rfl rfl (Nat.le_of_ble_eq_true rfl) ⟨Nat.le_of_ble_eq_true rfl, Nat.le_of_ble_eq_true rfl⟩ ⟨Nat.le_of_ble_eq_true rfl, Nat.le_of_ble_eq_true rfl⟩ dX6_node_67 (fun r67 v67 hp67 => ?_)
          obtain ⟨rfl, ehp67⟩ := hp67
          refine VV.vq ehp67 ?_
          refine VV.eq (st2 := [.null]) rfl ?_
          refine r_astore_nN C (pc := 70) (lv2 := [some (.ref x), some (.int (nI 0)), some (.int (nI y)), some (.null)]) rfl (Nat.le_of_ble_eq_true rfl) rfl rfl dX6_node_70 ?_
          refine r_aload_nN C (pc := 71) rfl rfl dX6_node_71 ?_
          refine r_ifnonnullN C (pc := 72) dX6_node_72 ?_
          refine r_aload_n C (pc := 75) rfl rfl dX6_node_75 ?_
          refine r_get C (pc := 76) (ci := 6) (k := 0) (w := .ref (x + 1)) rfl (by decide) inX6 (by decide) q_231 (Or.inl hd0) hs0 (zl_ref _ _) dX6_node_76 ?_
          refine r_getN C (pc := 79) (ci := 5) (k := 0) (w := .ref (x + 1 + 1)) rfl (by decide) inX5 (by decide) q_201 (Or.inl hnd0) hn0 (zl_ref _ _) dX6_node_79 ?_
          refine r_getN C (pc := 82) (ci := 3) (k := 3) (w := .int (nI (M.1 0))) rfl (by decide) inX3 (by decide) q_67 (Or.inl hnd1) hn1 (zl_i (hv.2.2.2.1.1)) dX6_node_82 ?_
          exact r_iret C (pc := 85) rfl (rfl) dX6_node_85 ⟨rfl, rfl, (by have ho : qNode (nI 0) (nI y) (M, h) = nI (M.1 0) := ((if_pos ⟨hc1, hc3⟩).trans (by rw [nn_I (by omega), nn_I (by omega)])).trans ((if_neg c_33).trans (if_pos rfl)); rw [ho]), hv, hh, zfr.rf⟩
        · obtain ⟨A, cap, hpa, hva, hno, hM5⟩ := lsI l G sh v N (n := n) hnow hv hk (by omega) hm2
          have hsA := hpa.2.2.2.1
          have hdA : G.2.2.1 ≤ A ∧ A < N := ⟨hpa.1, by have := hpa.2.1; omega⟩
          refine r_aload_n C (pc := 62) rfl rfl dX6_node_62 ?_
          refine r_get C (pc := 63) (ci := 6) (k := 0) (w := .ref (x + 1)) rfl (by decide) inX6 (by decide) q_231 (Or.inl hd0) hs0 (zl_ref _ _) dX6_node_63 ?_
          refine r_iload_n C (pc := 66) rfl rfl dX6_node_66 ?_
          refine r_callV C (pc := 67) (st := []) (hM5) kyX5_listOf q_564 rfl (Or.inl hnd0) hn0 (by decide) rfl rfl rfl (Nat.le_of_ble_eq_true rfl) ⟨Nat.le_of_ble_eq_true rfl, Nat.le_of_ble_eq_true rfl⟩ ⟨Nat.le_of_ble_eq_true rfl, Nat.le_of_ble_eq_true rfl⟩ dX6_node_67 (fun r67 v67 hp67 => ?_)
          obtain ⟨rfl, ehp67⟩ := hp67
          refine VV.vq ehp67 ?_
          refine VV.eq (st2 := [.ref A]) rfl ?_
          refine r_astore_n C (pc := 70) (lv2 := [some (.ref x), some (.int (nI n)), some (.int (nI y)), some (.ref A)]) rfl (Nat.le_of_ble_eq_true rfl) rfl rfl dX6_node_70 ?_
          refine r_aload_n C (pc := 71) rfl rfl dX6_node_71 ?_
          refine r_ifnonnull C (pc := 72) (tgt := 86) dX6_node_72 (by decide) ?_
          refine r_iload_n C (pc := 86) rfl rfl dX6_node_86 ?_
          refine n_if_ne C (pc := 87) (tgt := 97) (by omega) dX6_node_87 (by decide) (fun c_87 => ?_) (fun c_87 => ?_)
          · refine r_aload_n C (pc := 97) rfl rfl dX6_node_97 ?_
            refine r_get C (pc := 98) (ci := 6) (k := 0) (w := .ref (x + 1)) rfl (by decide) inX6 (by decide) q_231 (Or.inl hd0) hs0 (zl_ref _ _) dX6_node_98 ?_
            refine r_aload_n C (pc := 101) rfl rfl dX6_node_101 ?_
            refine r_callV C (pc := 102) (st := []) (m_X5_rankOf l G sh v N hnow hpa hva hno (lsO_20 hE hm2)) kyX5_rankOf q_565 rfl (Or.inl hnd0) hn0 (by decide) rfl rfl rfl (Nat.le_of_ble_eq_true rfl) ⟨Nat.le_of_ble_eq_true rfl, Nat.le_of_ble_eq_true rfl⟩ ⟨Nat.le_of_ble_eq_true rfl, Nat.le_of_ble_eq_true rfl⟩ dX6_node_102 (fun r102 v102 hp102 => ?_)
            obtain ⟨rfl, -, g5⟩ := hp102
            refine VV.eq (st2 := [.int (nI (rnk (lsO M n)))]) rfl ?_
            exact r_iret C (pc := 105) rfl (rfl) dX6_node_105 ⟨rfl, rfl, (by have ho : qNode (nI n) (nI y) (M, h) = nI (rnk (lsO M n)) := ((if_pos ⟨hc1, hc3⟩).trans (by rw [nn_I (by omega), nn_I (by omega)])).trans ((if_neg c_33).trans ((if_neg (by omega)).trans (if_neg (by omega)))); rw [ho]), zt_work hv g5, zxh_now hh hpq (g5.wide (by omega) (by omega)), g5.wide (by omega) (by omega)⟩
          · refine r_aload_n C (pc := 90) rfl rfl dX6_node_90 ?_
            refine r_getN C (pc := 91) (ci := 1) (k := 1) (w := .int (nI ((lsO M n).length))) rfl (by decide) inX1 (by decide) q_123 (Or.inl hdA) hsA (zl_i (hva.1)) dX6_node_91 ?_
            refine r_goto C (pc := 94) (tgt := 105) dX6_node_94 (by decide) ?_
            exact r_iret C (pc := 105) rfl (rfl) dX6_node_105 ⟨rfl, rfl, (by have ho : qNode (nI n) (nI y) (M, h) = nI (lsO M n).length := ((if_pos ⟨hc1, hc3⟩).trans (by rw [nn_I (by omega), nn_I (by omega)])).trans ((if_neg c_33).trans ((if_neg (by omega)).trans (if_pos c_87))); rw [ho]), hv, hh, zfr.rf⟩
      · refine r_aload_n C (pc := 36) rfl rfl dX6_node_36 ?_
        refine r_iload_n C (pc := 37) rfl rfl dX6_node_37 ?_
        refine r_callV C (pc := 38) (st := []) (m_X6_isLink l G sh v N (a := nI n) hX hv) kyX6_isLink q_347 rfl (Or.inl hd0) hs0 (by decide) rfl rfl rfl (Nat.le_of_ble_eq_true rfl) ⟨Nat.le_of_ble_eq_true rfl, Nat.le_of_ble_eq_true rfl⟩ ⟨Nat.le_of_ble_eq_true rfl, Nat.le_of_ble_eq_true rfl⟩ dX6_node_38 (fun r38 v38 hp38 => ?_)
        obtain ⟨rfl, ehp38⟩ := hp38
        refine VV.vq ehp38 ?_
        refine VV.eq (st2 := [.int (zb (decide ((nI 0) ≤ nI n ∧ nI n ≤ (nI (M.1 1)))))]) rfl ?_
        refine n_ifb_eq C (pc := 41) (tgt := 59) dX6_node_41 (by decide) (fun c_41 => ?_) (fun c_41 => ?_)
        · refine r_bipush C (pc := 59) (x := (-9)) (by decide) dX6_node_59 ?_
          exact r_iret C (pc := 61) rfl (rfl) dX6_node_61 ⟨rfl, rfl, (by have ho : qNode (nI n) (nI y) (M, h) = -9 := ((if_pos ⟨hc1, hc3⟩).trans (by rw [nn_I (by omega), nn_I (by omega)])).trans ((if_pos c_33).trans (if_pos (by have := (of_decide_eq_false c_41); rw [nI_leI (by omega) (by omega), nI_leI (by omega) (by omega)] at this; dsimp only; omega))); rw [ho]), hv, hh, zfr.rf⟩
        · have hnR : n ≤ M.1 1 := by have := (of_decide_eq_true c_41); rw [nI_leI (by omega) (by omega), nI_leI (by omega) (by omega)] at this; omega
          refine r_aload_n C (pc := 44) rfl rfl dX6_node_44 ?_
          refine r_get C (pc := 45) (ci := 6) (k := 0) (w := .ref (x + 1)) rfl (by decide) inX6 (by decide) q_231 (Or.inl hd0) hs0 (zl_ref _ _) dX6_node_45 ?_
          refine r_getN C (pc := 48) (ci := 5) (k := 0) (w := .ref (x + 1 + 1)) rfl (by decide) inX5 (by decide) q_201 (Or.inl hnd0) hn0 (zl_ref _ _) dX6_node_48 ?_
          refine r_getN C (pc := 51) (ci := 3) (k := 1) (w := .ref (x + 1 + 1 + 2)) rfl (by decide) inX3 (by decide) q_62 (Or.inl hnd1) hn1 (zl_ref _ _) dX6_node_51 ?_
          refine r_iload_n C (pc := 54) rfl rfl dX6_node_54 ?_
          refine r_iald C (pc := 55) (x := (nI (M.1 (7 + n)))) (Or.inl hnd12) hn12 (by omega) (by omega) (hv.2.2.2.1.2.2.2.2.2.2.2.1 n hnR (by omega)) dX6_node_55 ?_
          refine r_goto C (pc := 56) (tgt := 61) dX6_node_56 (by decide) ?_
          exact r_iret C (pc := 61) rfl (rfl) dX6_node_61 ⟨rfl, rfl, (by have ho : qNode (nI n) (nI y) (M, h) = nI (M.1 (7 + n)) := ((if_pos ⟨hc1, hc3⟩).trans (by rw [nn_I (by omega), nn_I (by omega)])).trans ((if_pos c_33).trans (if_neg (by have := (of_decide_eq_true c_41); rw [nI_leI (by omega) (by omega), nI_leI (by omega) (by omega)] at this; dsimp only; omega))); rw [ho]), hv, hh, zfr.rf⟩
    · refine r_iconst C (pc := 29) (x := (-1)) (by decide) dX6_node_29 ?_
      exact r_iret C (pc := 30) rfl (rfl) dX6_node_30 ⟨rfl, rfl, (by have ho : qNode a c1 (M, h) = -1 := if_neg (fun z => (of_decide_eq_false c_26) z.2); rw [ho]), hv, hh, zfr.rf⟩
set_option maxRecDepth 100000 in
set_option maxHeartbeats 4000000 in
theorem m_X6_novel (l : Launch) (G : zG) (sh : zH) (v : zV) (N : Nat) {x : Nat} {q : Nat → Nat} {M : zMS} {h : zHs} {T : Nat} {a b : Int32} (hX : zXR G sh N x q) (hv : zt v (x + 1) M) (hh : zxh v x q h) (hI : zI T (M, h)) (hT : T + 1000 < 2 ^ 30) : zm l G yX6_novel cX6_novel 4 (some .int) 4 [.ref x, .int a, .int b] sh v N (fun r v1 => r = some (.int (qNovel a b (M, h))) ∧ zt v1 (x + 1) M ∧ zxh v1 x q h ∧ zfr v v1 x 340) := by
  refine zM.of (by decide) rfl (Nat.le_of_ble_eq_true rfl) ?_
  intro p e s m args below meth c C
  obtain ⟨xB, xN, hs0, hs57, hs58, hs59, hnow, htri, hhis, himg, hpq⟩ := id hX
  have hd0 : G.2.2.1 ≤ x ∧ x < N := ⟨xB, by omega⟩
  have hd57 : G.2.2.1 ≤ x + 57 ∧ x + 57 < N := ⟨by omega, by omega⟩
  have hd58 : G.2.2.1 ≤ x + 58 ∧ x + 58 < N := ⟨by omega, by omega⟩
  have hd59 : G.2.2.1 ≤ x + 59 ∧ x + 59 < N := ⟨by omega, by omega⟩
  obtain ⟨ntB, ntN, hn0, ntse, hn5, ntrc, hn19, ntsp, ntst⟩ := id hnow
  have hnd0 : G.2.2.1 ≤ x + 1 ∧ x + 1 < N := ⟨by omega, by omega⟩
  have hnd1 : G.2.2.1 ≤ x + 1 + 1 ∧ x + 1 + 1 < N := ⟨by omega, by omega⟩
  have hnd5 : G.2.2.1 ≤ x + 1 + 5 ∧ x + 1 + 5 < N := ⟨by omega, by omega⟩
  have hnd6 : G.2.2.1 ≤ x + 1 + 6 ∧ x + 1 + 6 < N := ⟨by omega, by omega⟩
  have hnd19 : G.2.2.1 ≤ x + 1 + 19 ∧ x + 1 + 19 < N := ⟨by omega, by omega⟩
  have hnd20 : G.2.2.1 ≤ x + 1 + 20 ∧ x + 1 + 20 < N := ⟨by omega, by omega⟩
  have hnd61 : G.2.2.1 ≤ x + 1 + 6 + 1 ∧ x + 1 + 6 + 1 < N := ⟨by omega, by omega⟩
  have hnd65 : G.2.2.1 ≤ x + 1 + 6 + 5 ∧ x + 1 + 6 + 5 < N := ⟨by omega, by omega⟩
  have hnd610 : G.2.2.1 ≤ x + 1 + 6 + 10 ∧ x + 1 + 6 + 10 < N := ⟨by omega, by omega⟩
  have hnd68 : G.2.2.1 ≤ x + 1 + 6 + 8 ∧ x + 1 + 6 + 8 < N := ⟨by omega, by omega⟩
  have hn1 := ntse.2.2.1
  have hn6 := ntrc.2.2.1
  have hn20 := ntsp.2.2.1
  have hn61 := ntrc.2.2.2.1.2.2.2.1
  have hn65 := ntrc.2.2.2.2.2.1.2.2.1
  have hn68 := ntrc.2.2.2.2.2.2.1.2.2.2.1
  have hn610 := ntrc.2.2.2.2.2.2.2.2.2.1
  have hnd11 : G.2.2.1 ≤ x + 1 + 1 + 1 ∧ x + 1 + 1 + 1 < N := ⟨by omega, by omega⟩
  have hnd12 : G.2.2.1 ≤ x + 1 + 1 + 2 ∧ x + 1 + 1 + 2 < N := ⟨by omega, by omega⟩
  have hnd13 : G.2.2.1 ≤ x + 1 + 1 + 3 ∧ x + 1 + 1 + 3 < N := ⟨by omega, by omega⟩
  have hnd652 : G.2.2.1 ≤ x + 1 + 6 + 5 + 2 ∧ x + 1 + 6 + 5 + 2 < N := ⟨by omega, by omega⟩
  have hnd6102 : G.2.2.1 ≤ x + 1 + 6 + 10 + 2 ∧ x + 1 + 6 + 10 + 2 < N := ⟨by omega, by omega⟩
  have hn11 := ntse.2.2.2.1
  have hn12 := ntse.2.2.2.2.1
  have hn13 := ntse.2.2.2.2.2
  have hn652 := ntrc.2.2.2.2.2.1.2.2.2.2
  have hn6102 := ntrc.2.2.2.2.2.2.2.2.2.2.2
  obtain ⟨ltB, ltN, hl0, ltse, hl5, ltrc, hl19, ltsp, ltst⟩ := id htri
  have hld0 : G.2.2.1 ≤ x + 29 ∧ x + 29 < N := ⟨by omega, by omega⟩
  have hld1 : G.2.2.1 ≤ x + 29 + 1 ∧ x + 29 + 1 < N := ⟨by omega, by omega⟩
  have hld5 : G.2.2.1 ≤ x + 29 + 5 ∧ x + 29 + 5 < N := ⟨by omega, by omega⟩
  have hld6 : G.2.2.1 ≤ x + 29 + 6 ∧ x + 29 + 6 < N := ⟨by omega, by omega⟩
  have hld19 : G.2.2.1 ≤ x + 29 + 19 ∧ x + 29 + 19 < N := ⟨by omega, by omega⟩
  have hld20 : G.2.2.1 ≤ x + 29 + 20 ∧ x + 29 + 20 < N := ⟨by omega, by omega⟩
  have hld61 : G.2.2.1 ≤ x + 29 + 6 + 1 ∧ x + 29 + 6 + 1 < N := ⟨by omega, by omega⟩
  have hld65 : G.2.2.1 ≤ x + 29 + 6 + 5 ∧ x + 29 + 6 + 5 < N := ⟨by omega, by omega⟩
  have hld610 : G.2.2.1 ≤ x + 29 + 6 + 10 ∧ x + 29 + 6 + 10 < N := ⟨by omega, by omega⟩
  have hld68 : G.2.2.1 ≤ x + 29 + 6 + 8 ∧ x + 29 + 6 + 8 < N := ⟨by omega, by omega⟩
  have hl1 := ltse.2.2.1
  have hl6 := ltrc.2.2.1
  have hl20 := ltsp.2.2.1
  have hl61 := ltrc.2.2.2.1.2.2.2.1
  have hl65 := ltrc.2.2.2.2.2.1.2.2.1
  have hl68 := ltrc.2.2.2.2.2.2.1.2.2.2.1
  have hl610 := ltrc.2.2.2.2.2.2.2.2.2.1
  have hld11 : G.2.2.1 ≤ x + 29 + 1 + 1 ∧ x + 29 + 1 + 1 < N := ⟨by omega, by omega⟩
  have hld12 : G.2.2.1 ≤ x + 29 + 1 + 2 ∧ x + 29 + 1 + 2 < N := ⟨by omega, by omega⟩
  have hld13 : G.2.2.1 ≤ x + 29 + 1 + 3 ∧ x + 29 + 1 + 3 < N := ⟨by omega, by omega⟩
  have hld652 : G.2.2.1 ≤ x + 29 + 6 + 5 + 2 ∧ x + 29 + 6 + 5 + 2 < N := ⟨by omega, by omega⟩
  have hld6102 : G.2.2.1 ≤ x + 29 + 6 + 10 + 2 ∧ x + 29 + 6 + 10 + 2 < N := ⟨by omega, by omega⟩
  have hl11 := ltse.2.2.2.1
  have hl12 := ltse.2.2.2.2.1
  have hl13 := ltse.2.2.2.2.2
  have hl652 := ltrc.2.2.2.2.2.1.2.2.2.2
  have hl6102 := ltrc.2.2.2.2.2.2.2.2.2.2.2
  have hE : zE M := hI.1.1
  have hk : mOK M := hE.1
  have hK2 := hk.1.1
  have hK12 := hk.1.2.1
  have hR3 := hk.1.2.2.1
  by_cases hc1 : nI 1 ≤ a ∧ a ≤ nI (M.1 1 + 1)
  · obtain ⟨n, hm1, hm2, ea⟩ := inR hc1 (by decide) (by omega)
    subst ea
    obtain ⟨A, cap, hpa, hva, hno, hM5⟩ := lsI l G sh v N (n := n) hnow hv hk hm1 hm2
    have hsA := hpa.2.2.2.1
    have hdA : G.2.2.1 ≤ A ∧ A < N := ⟨hpa.1, by have := hpa.2.1; omega⟩
    refine r_aload_n C (pc := 0) rfl rfl dX6_novel_0 ?_
    refine r_get C (pc := 1) (ci := 6) (k := 0) (w := .ref (x + 1)) rfl (by decide) inX6 (by decide) q_231 (Or.inl hd0) hs0 (zl_ref _ _) dX6_novel_1 ?_
    refine r_iload_n C (pc := 4) rfl rfl dX6_novel_4 ?_
    refine r_callV C (pc := 5) (st := []) (hM5) kyX5_listOf q_564 rfl (Or.inl hnd0) hn0 (by decide) rfl rfl rfl (Nat.le_of_ble_eq_true rfl) ⟨Nat.le_of_ble_eq_true rfl, Nat.le_of_ble_eq_true rfl⟩ ⟨Nat.le_of_ble_eq_true rfl, Nat.le_of_ble_eq_true rfl⟩ dX6_novel_5 (fun r5 v5 hp5 => ?_)
    obtain ⟨rfl, ehp5⟩ := hp5
    refine VV.vq ehp5 ?_
    refine VV.eq (st2 := [.ref A]) rfl ?_
    refine r_astore_n C (pc := 8) (lv2 := [some (.ref x), some (.int (nI n)), some (.int b), some (.ref A)]) rfl (Nat.le_of_ble_eq_true rfl) rfl rfl dX6_novel_8 ?_
    refine r_aload_n C (pc := 9) rfl rfl dX6_novel_9 ?_
    refine r_ifnull C (pc := 10) dX6_novel_10 ?_
    refine r_aload_n C (pc := 13) rfl rfl dX6_novel_13 ?_
    refine r_iload_n C (pc := 14) rfl rfl dX6_novel_14 ?_
    refine r_callV C (pc := 15) (st := []) (m_X6_isBlockSet l G sh v N (a := b) hX hv hK12) kyX6_isBlockSet q_394 rfl (Or.inl hd0) hs0 (by decide) rfl rfl rfl (Nat.le_of_ble_eq_true rfl) ⟨Nat.le_of_ble_eq_true rfl, Nat.le_of_ble_eq_true rfl⟩ ⟨Nat.le_of_ble_eq_true rfl, Nat.le_of_ble_eq_true rfl⟩ dX6_novel_15 (fun r15 v15 hp15 => ?_)
    obtain ⟨rfl, ehp15⟩ := hp15
    refine VV.vq ehp15 ?_
    refine VV.eq (st2 := [.int (zb (decide ((nI 1) ≤ b ∧ b ≤ (nI (2 ^ M.1 0 - 1)))))]) rfl ?_
    refine n_ifb_ne C (pc := 18) (tgt := 23) dX6_novel_18 (by decide) (fun c_18 => ?_) (fun c_18 => ?_)
    · have hc3 := (of_decide_eq_true c_18)
      have hp12 : 2 ^ M.1 0 ≤ 2 ^ 12 := Nat.pow_le_pow_right (by decide) hK12
      obtain ⟨y, hy1, hy2, rfl⟩ := inR hc3 (by decide) (by omega)
      obtain ⟨hpc, hpb⟩ := pkS_ok hE y
      refine r_aload_n C (pc := 23) rfl rfl dX6_novel_23 ?_
      refine r_get C (pc := 24) (ci := 6) (k := 0) (w := .ref (x + 1)) rfl (by decide) inX6 (by decide) q_231 (Or.inl hd0) hs0 (zl_ref _ _) dX6_novel_24 ?_
      refine r_aload_n C (pc := 27) rfl rfl dX6_novel_27 ?_
      refine r_aload_n C (pc := 28) rfl rfl dX6_novel_28 ?_
      refine r_get C (pc := 29) (ci := 6) (k := 0) (w := .ref (x + 1)) rfl (by decide) inX6 (by decide) q_231 (Or.inl hd0) hs0 (zl_ref _ _) dX6_novel_29 ?_
      refine r_getN C (pc := 32) (ci := 5) (k := 0) (w := .ref (x + 1 + 1)) rfl (by decide) inX5 (by decide) q_201 (Or.inl hnd0) hn0 (zl_ref _ _) dX6_novel_32 ?_
      refine r_iload_n C (pc := 35) rfl rfl dX6_novel_35 ?_
      refine r_callV C (pc := 36) (st := [.ref A, .ref (x + 1)]) (m_X3_packetOf l G sh v N (x := y) ntse hv.2.2.2.1 hk.1 (by omega)) kyX3_packetOf q_398 rfl (Or.inl hnd1) hn1 (by decide) rfl rfl rfl (Nat.le_of_ble_eq_true rfl) ⟨Nat.le_of_ble_eq_true rfl, Nat.le_of_ble_eq_true rfl⟩ ⟨Nat.le_of_ble_eq_true rfl, Nat.le_of_ble_eq_true rfl⟩ dX6_novel_36 (fun r36 v36 hp36 => ?_)
      obtain ⟨rfl, ehp36⟩ := hp36
      refine VV.vq ehp36 ?_
      refine VV.eq (st2 := [.int (nI (pkS M y)), .ref A, .ref (x + 1)]) rfl ?_
      refine r_callV C (pc := 39) (st := []) (m_X5_isNovelFor l G sh v N (x := (pkS M y)) hnow hpa hva hno (lsO_20 hE hm2) hpc.1) kyX5_isNovelFor q_600 rfl (Or.inl hnd0) hn0 (by decide) rfl rfl rfl (Nat.le_of_ble_eq_true rfl) ⟨Nat.le_of_ble_eq_true rfl, Nat.le_of_ble_eq_true rfl⟩ ⟨Nat.le_of_ble_eq_true rfl, Nat.le_of_ble_eq_true rfl⟩ dX6_novel_39 (fun r39 v39 hp39 => ?_)
      obtain ⟨rfl, g5⟩ := hp39
      refine VV.eq (st2 := [.int (zb (nov (lsO M n) (pkS M y)))]) rfl ?_
      refine n_ifb_eq C (pc := 42) (tgt := 49) dX6_novel_42 (by decide) (fun c_42 => ?_) (fun c_42 => ?_)
      · refine r_iconst C (pc := 49) (x := (nI 0)) (by decide) dX6_novel_49 ?_
        exact r_iret C (pc := 50) rfl (rfl) dX6_novel_50 ⟨rfl, rfl, (by have ho : qNovel (nI n) (nI y) (M, h) = nI (if nov (lsO M n) (pkS M y) then 1 else 0) := (if_pos ⟨hc1, hc3⟩).trans (by rw [nn_I (by omega), nn_I (by omega)]); rw [ho, c_42]; rfl), zt_work hv g5, zxh_now hh hpq (g5.wide (by omega) (by omega)), g5.wide (by omega) (by omega)⟩
      · refine r_iconst C (pc := 45) (x := (nI 1)) (by decide) dX6_novel_45 ?_
        refine r_goto C (pc := 46) (tgt := 50) dX6_novel_46 (by decide) ?_
        exact r_iret C (pc := 50) rfl (rfl) dX6_novel_50 ⟨rfl, rfl, (by have ho : qNovel (nI n) (nI y) (M, h) = nI (if nov (lsO M n) (pkS M y) then 1 else 0) := (if_pos ⟨hc1, hc3⟩).trans (by rw [nn_I (by omega), nn_I (by omega)]); rw [ho, c_42]; rfl), zt_work hv g5, zxh_now hh hpq (g5.wide (by omega) (by omega)), g5.wide (by omega) (by omega)⟩
    · refine r_iconst C (pc := 21) (x := (-1)) (by decide) dX6_novel_21 ?_
      exact r_iret C (pc := 22) rfl (rfl) dX6_novel_22 ⟨rfl, rfl, (by have ho : qNovel (nI n) b (M, h) = -1 := if_neg (fun z => (of_decide_eq_false c_18) z.2); rw [ho]), hv, hh, zfr.rf⟩
  · have hc2 := hc1
    refine r_aload_n C (pc := 0) rfl rfl dX6_novel_0 ?_
    refine r_get C (pc := 1) (ci := 6) (k := 0) (w := .ref (x + 1)) rfl (by decide) inX6 (by decide) q_231 (Or.inl hd0) hs0 (zl_ref _ _) dX6_novel_1 ?_
    refine r_iload_n C (pc := 4) rfl rfl dX6_novel_4 ?_
    refine r_callV C (pc := 5) (st := []) (m_X5_listOfO l G sh v N (y := a) hnow hv hk hc1) kyX5_listOf q_564 rfl (Or.inl hnd0) hn0 (by decide) rfl rfl rfl (Nat.le_of_ble_eq_true rfl) ⟨Nat.le_of_ble_eq_true rfl, Nat.le_of_ble_eq_true rfl⟩ ⟨Nat.le_of_ble_eq_true rfl, Nat.le_of_ble_eq_true rfl⟩ dX6_novel_5 (fun r5 v5 hp5 => ?_)
    obtain ⟨rfl, ehp5⟩ := hp5
    refine VV.vq ehp5 ?_
    refine VV.eq (st2 := [.null]) rfl ?_
    refine r_astore_nN C (pc := 8) (lv2 := [some (.ref x), some (.int a), some (.int b), some (.null)]) rfl (Nat.le_of_ble_eq_true rfl) rfl rfl dX6_novel_8 ?_
    refine r_aload_nN C (pc := 9) rfl rfl dX6_novel_9 ?_
    refine r_ifnullN C (pc := 10) (tgt := 21) dX6_novel_10 (by decide) ?_
    refine r_iconst C (pc := 21) (x := (-1)) (by decide) dX6_novel_21 ?_
    exact r_iret C (pc := 22) rfl (rfl) dX6_novel_22 ⟨rfl, rfl, (by have ho : qNovel a b (M, h) = -1 := if_neg (fun z => hc1 z.1); rw [ho]), hv, hh, zfr.rf⟩
set_option maxRecDepth 100000 in
set_option maxHeartbeats 4000000 in
theorem m_X6_ticksOfTrial (l : Launch) (G : zG) (sh : zH) (v : zV) (N : Nat) {x : Nat} {q : Nat → Nat} {M : zMS} {T k y : Nat} (hX : zXR G sh N x q) (hv : zt v (x + 29) M) (hG : zGd T M) (hk1 : k ≤ 1) (hy : y ≤ 300) (hT : T + 500 < 2 ^ 30) : zm l G yX6_ticksOfTrial cX6_ticksOfTrial 4 (some .int) 6 [.ref x, .int (nI k), .int (nI y)] sh v N (fun r v1 => r = some (.int (tkI k y M)) ∧ zfr v v1 (x + 29) 28) := by
  refine zM.of (by decide) rfl (Nat.le_of_ble_eq_true rfl) ?_
  intro p e s m args below meth c C
  obtain ⟨xB, xN, hs0, hs57, hs58, hs59, hnow, htri, hhis, himg, hpq⟩ := id hX
  have hd0 : G.2.2.1 ≤ x ∧ x < N := ⟨xB, by omega⟩
  have hd57 : G.2.2.1 ≤ x + 57 ∧ x + 57 < N := ⟨by omega, by omega⟩
  have hd58 : G.2.2.1 ≤ x + 58 ∧ x + 58 < N := ⟨by omega, by omega⟩
  have hd59 : G.2.2.1 ≤ x + 59 ∧ x + 59 < N := ⟨by omega, by omega⟩
  obtain ⟨ntB, ntN, hn0, ntse, hn5, ntrc, hn19, ntsp, ntst⟩ := id hnow
  have hnd0 : G.2.2.1 ≤ x + 1 ∧ x + 1 < N := ⟨by omega, by omega⟩
  have hnd1 : G.2.2.1 ≤ x + 1 + 1 ∧ x + 1 + 1 < N := ⟨by omega, by omega⟩
  have hnd5 : G.2.2.1 ≤ x + 1 + 5 ∧ x + 1 + 5 < N := ⟨by omega, by omega⟩
  have hnd6 : G.2.2.1 ≤ x + 1 + 6 ∧ x + 1 + 6 < N := ⟨by omega, by omega⟩
  have hnd19 : G.2.2.1 ≤ x + 1 + 19 ∧ x + 1 + 19 < N := ⟨by omega, by omega⟩
  have hnd20 : G.2.2.1 ≤ x + 1 + 20 ∧ x + 1 + 20 < N := ⟨by omega, by omega⟩
  have hnd61 : G.2.2.1 ≤ x + 1 + 6 + 1 ∧ x + 1 + 6 + 1 < N := ⟨by omega, by omega⟩
  have hnd65 : G.2.2.1 ≤ x + 1 + 6 + 5 ∧ x + 1 + 6 + 5 < N := ⟨by omega, by omega⟩
  have hnd610 : G.2.2.1 ≤ x + 1 + 6 + 10 ∧ x + 1 + 6 + 10 < N := ⟨by omega, by omega⟩
  have hnd68 : G.2.2.1 ≤ x + 1 + 6 + 8 ∧ x + 1 + 6 + 8 < N := ⟨by omega, by omega⟩
  have hn1 := ntse.2.2.1
  have hn6 := ntrc.2.2.1
  have hn20 := ntsp.2.2.1
  have hn61 := ntrc.2.2.2.1.2.2.2.1
  have hn65 := ntrc.2.2.2.2.2.1.2.2.1
  have hn68 := ntrc.2.2.2.2.2.2.1.2.2.2.1
  have hn610 := ntrc.2.2.2.2.2.2.2.2.2.1
  have hnd11 : G.2.2.1 ≤ x + 1 + 1 + 1 ∧ x + 1 + 1 + 1 < N := ⟨by omega, by omega⟩
  have hnd12 : G.2.2.1 ≤ x + 1 + 1 + 2 ∧ x + 1 + 1 + 2 < N := ⟨by omega, by omega⟩
  have hnd13 : G.2.2.1 ≤ x + 1 + 1 + 3 ∧ x + 1 + 1 + 3 < N := ⟨by omega, by omega⟩
  have hnd652 : G.2.2.1 ≤ x + 1 + 6 + 5 + 2 ∧ x + 1 + 6 + 5 + 2 < N := ⟨by omega, by omega⟩
  have hnd6102 : G.2.2.1 ≤ x + 1 + 6 + 10 + 2 ∧ x + 1 + 6 + 10 + 2 < N := ⟨by omega, by omega⟩
  have hn11 := ntse.2.2.2.1
  have hn12 := ntse.2.2.2.2.1
  have hn13 := ntse.2.2.2.2.2
  have hn652 := ntrc.2.2.2.2.2.1.2.2.2.2
  have hn6102 := ntrc.2.2.2.2.2.2.2.2.2.2.2
  obtain ⟨ltB, ltN, hl0, ltse, hl5, ltrc, hl19, ltsp, ltst⟩ := id htri
  have hld0 : G.2.2.1 ≤ x + 29 ∧ x + 29 < N := ⟨by omega, by omega⟩
  have hld1 : G.2.2.1 ≤ x + 29 + 1 ∧ x + 29 + 1 < N := ⟨by omega, by omega⟩
  have hld5 : G.2.2.1 ≤ x + 29 + 5 ∧ x + 29 + 5 < N := ⟨by omega, by omega⟩
  have hld6 : G.2.2.1 ≤ x + 29 + 6 ∧ x + 29 + 6 < N := ⟨by omega, by omega⟩
  have hld19 : G.2.2.1 ≤ x + 29 + 19 ∧ x + 29 + 19 < N := ⟨by omega, by omega⟩
  have hld20 : G.2.2.1 ≤ x + 29 + 20 ∧ x + 29 + 20 < N := ⟨by omega, by omega⟩
  have hld61 : G.2.2.1 ≤ x + 29 + 6 + 1 ∧ x + 29 + 6 + 1 < N := ⟨by omega, by omega⟩
  have hld65 : G.2.2.1 ≤ x + 29 + 6 + 5 ∧ x + 29 + 6 + 5 < N := ⟨by omega, by omega⟩
  have hld610 : G.2.2.1 ≤ x + 29 + 6 + 10 ∧ x + 29 + 6 + 10 < N := ⟨by omega, by omega⟩
  have hld68 : G.2.2.1 ≤ x + 29 + 6 + 8 ∧ x + 29 + 6 + 8 < N := ⟨by omega, by omega⟩
  have hl1 := ltse.2.2.1
  have hl6 := ltrc.2.2.1
  have hl20 := ltsp.2.2.1
  have hl61 := ltrc.2.2.2.1.2.2.2.1
  have hl65 := ltrc.2.2.2.2.2.1.2.2.1
  have hl68 := ltrc.2.2.2.2.2.2.1.2.2.2.1
  have hl610 := ltrc.2.2.2.2.2.2.2.2.2.1
  have hld11 : G.2.2.1 ≤ x + 29 + 1 + 1 ∧ x + 29 + 1 + 1 < N := ⟨by omega, by omega⟩
  have hld12 : G.2.2.1 ≤ x + 29 + 1 + 2 ∧ x + 29 + 1 + 2 < N := ⟨by omega, by omega⟩
  have hld13 : G.2.2.1 ≤ x + 29 + 1 + 3 ∧ x + 29 + 1 + 3 < N := ⟨by omega, by omega⟩
  have hld652 : G.2.2.1 ≤ x + 29 + 6 + 5 + 2 ∧ x + 29 + 6 + 5 + 2 < N := ⟨by omega, by omega⟩
  have hld6102 : G.2.2.1 ≤ x + 29 + 6 + 10 + 2 ∧ x + 29 + 6 + 10 + 2 < N := ⟨by omega, by omega⟩
  have hl11 := ltse.2.2.2.1
  have hl12 := ltse.2.2.2.2.1
  have hl13 := ltse.2.2.2.2.2
  have hl652 := ltrc.2.2.2.2.2.1.2.2.2.2
  have hl6102 := ltrc.2.2.2.2.2.2.2.2.2.2.2
  have fin : ∀ (n : Nat) (M' : zMS) (v' : zV), tks k y 0 M = (n, M') → zGd (T + n) M' → zt v' (x + 29) M' → zfr v v' (x + 29) 28 → VV p l e ({ frames := 6, cells := 0, slots := 0, locals := 32 * 6 }) s m args below meth c 0 0 (zQ below (fun r sh1 v1 N1 => sh1 = sh ∧ N1 = N ∧ (r = some (.int (tkI k y M)) ∧ zfr v v1 (x + 29) 28)) G args s 0 0) G 4 sh v' N 31 [some (.ref x), some (.int (nI k)), some (.int (nI y)), some (.int (nI n))] [] := by
    intro n M' v' hz hG1 e1 e2
    refine r_aload_n C (pc := 31) rfl rfl dX6_ticksOfTrial_31 ?_
    refine r_get C (pc := 32) (ci := 6) (k := 1) (w := .ref (x + 29)) rfl (by decide) inX6 (by decide) q_232 (Or.inl hd0) hs0 (zl_ref _ _) dX6_ticksOfTrial_32 ?_
    refine r_iload_n C (pc := 35) rfl rfl dX6_ticksOfTrial_35 ?_
    refine r_callV C (pc := 36) (st := []) (m_X5_isC l G sh v' N (x := k) htri e1 hG1.1.1 hk1) kyX5_isComplete q_623 rfl (Or.inl hld0) hl0 (by decide) rfl rfl rfl (Nat.le_of_ble_eq_true rfl) ⟨Nat.le_of_ble_eq_true rfl, Nat.le_of_ble_eq_true rfl⟩ ⟨Nat.le_of_ble_eq_true rfl, Nat.le_of_ble_eq_true rfl⟩ dX6_ticksOfTrial_36 (fun r36 v36 hp36 => ?_)
    obtain ⟨rfl, ehp36⟩ := hp36
    refine VV.vq ehp36 ?_
    refine VV.eq (st2 := [.int (zb (dn k M'))]) rfl ?_
    refine n_ifb_eq C (pc := 39) (tgt := 46) dX6_ticksOfTrial_39 (by decide) (fun c_39 => ?_) (fun c_39 => ?_)
    · refine r_bipush C (pc := 46) (x := (-9)) (by decide) dX6_ticksOfTrial_46 ?_
      exact r_iret C (pc := 48) rfl (rfl) dX6_ticksOfTrial_48 ⟨rfl, rfl, (by rw [tkI, hz]; dsimp only; rw [c_39]; rfl), e2⟩
    · refine r_iload_n C (pc := 42) rfl rfl dX6_ticksOfTrial_42 ?_
      refine r_goto C (pc := 43) (tgt := 48) dX6_ticksOfTrial_43 (by decide) ?_
      exact r_iret C (pc := 48) rfl (rfl) dX6_ticksOfTrial_48 ⟨rfl, rfl, (by rw [tkI, hz]; dsimp only; rw [c_39]; rfl), e2⟩
  have loop : ∀ (d n : Nat) (M' : zMS) (v' : zV), y - n < d → n ≤ y → tks k (y - n) n M' = tks k y 0 M → zGd (T + n) M' → zt v' (x + 29) M' → zfr v v' (x + 29) 28 → VV p l e ({ frames := 6, cells := 0, slots := 0, locals := 32 * 6 }) s m args below meth c 0 0 (zQ below (fun r sh1 v1 N1 => sh1 = sh ∧ N1 = N ∧ (r = some (.int (tkI k y M)) ∧ zfr v v1 (x + 29) 28)) G args s 0 0) G 4 sh v' N 2 [some (.ref x), some (.int (nI k)), some (.int (nI y)), some (.int (nI n))] [] := by
    intro d
    induction d with
    | zero => intro n M' v' hm; omega
    | succ d ih =>
      intro n M' v' hm hn hz hG1 e1 e2
      refine r_iload_n C (pc := 2) rfl rfl dX6_ticksOfTrial_2 ?_
      refine r_iload_n C (pc := 3) rfl rfl dX6_ticksOfTrial_3 ?_
      refine n_icmp_ge C (pc := 4) (tgt := 31) (by omega) (by omega) dX6_ticksOfTrial_4 (by decide) (fun c_4 => ?_) (fun c_4 => ?_)
      · exact fin n M' v' (by rw [show y - n = 0 by omega] at hz; exact hz.symm) hG1 e1 e2
      · refine r_aload_n C (pc := 7) rfl rfl dX6_ticksOfTrial_7 ?_
        refine r_get C (pc := 8) (ci := 6) (k := 1) (w := .ref (x + 29)) rfl (by decide) inX6 (by decide) q_232 (Or.inl hd0) hs0 (zl_ref _ _) dX6_ticksOfTrial_8 ?_
        refine r_iload_n C (pc := 11) rfl rfl dX6_ticksOfTrial_11 ?_
        refine r_callV C (pc := 12) (st := []) (m_X5_isC l G sh v' N (x := k) htri e1 hG1.1.1 hk1) kyX5_isComplete q_623 rfl (Or.inl hld0) hl0 (by decide) rfl rfl rfl (Nat.le_of_ble_eq_true rfl) ⟨Nat.le_of_ble_eq_true rfl, Nat.le_of_ble_eq_true rfl⟩ ⟨Nat.le_of_ble_eq_true rfl, Nat.le_of_ble_eq_true rfl⟩ dX6_ticksOfTrial_12 (fun r12 v12 hp12 => ?_)
        obtain ⟨rfl, ehp12⟩ := hp12
        refine VV.vq ehp12 ?_
        refine VV.eq (st2 := [.int (zb (dn k M'))]) rfl ?_
        refine n_ifb_ne C (pc := 15) (tgt := 31) dX6_ticksOfTrial_15 (by decide) (fun c_15 => ?_) (fun c_15 => ?_)
        · exact fin n M' v' (by rw [tks_d c_15] at hz; exact hz.symm) hG1 e1 e2
        · refine r_aload_n C (pc := 18) rfl rfl dX6_ticksOfTrial_18 ?_
          refine r_get C (pc := 19) (ci := 6) (k := 1) (w := .ref (x + 29)) rfl (by decide) inX6 (by decide) q_232 (Or.inl hd0) hs0 (zl_ref _ _) dX6_ticksOfTrial_19 ?_
          refine r_callV C (pc := 22) (st := []) (m_X5_tick l G sh v' N htri e1 hG1.1.1) kyX5_tick q_488 rfl (Or.inl hld0) hl0 (by decide) rfl rfl rfl (Nat.le_of_ble_eq_true rfl) ⟨Nat.le_of_ble_eq_true rfl, Nat.le_of_ble_eq_true rfl⟩ ⟨Nat.le_of_ble_eq_true rfl, Nat.le_of_ble_eq_true rfl⟩ dX6_ticksOfTrial_22 (fun r22 v22 hp22 => ?_)
          obtain ⟨rfl, g4, g5⟩ := hp22
          refine VV.eq (st2 := []) rfl ?_
          refine r_iinc C (pc := 25) (lv2 := [some (.ref x), some (.int (nI k)), some (.int (nI y)), some (.int (nI (n + 1)))]) (y := (nI (n + 1))) rfl (nI_inc _ _) (Nat.le_of_ble_eq_true rfl) rfl rfl dX6_ticksOfTrial_25 ?_
          refine r_goto C (pc := 28) (tgt := 2) dX6_ticksOfTrial_28 (by decide) ?_
          exact ih (n + 1) (mTick M') v22 (by omega) (by omega) (by rw [show y - n = y - (n + 1) + 1 by omega, tks_s c_15] at hz; exact hz) (mTick_G hG1) g4 (e2.tr g5)
  refine r_iconst C (pc := 0) (x := (nI 0)) (by decide) dX6_ticksOfTrial_0 ?_
  refine r_istore_n C (pc := 1) (lv2 := [some (.ref x), some (.int (nI k)), some (.int (nI y)), some (.int (nI 0))]) rfl (Nat.le_of_ble_eq_true rfl) rfl rfl dX6_ticksOfTrial_1 ?_
  exact loop (y + 1) 0 M v (by omega) (by omega) rfl hG hv zfr.rf
set_option maxRecDepth 100000 in
set_option maxHeartbeats 4000000 in
theorem m_X6_forecast (l : Launch) (G : zG) (sh : zH) (v : zV) (N : Nat) {x : Nat} {q : Nat → Nat} {M : zMS} {h : zHs} {T : Nat} {a : Int32} (hX : zXR G sh N x q) (hv : zt v (x + 1) M) (hh : zxh v x q h) (hI : zI T (M, h)) (hT : T + 1000 < 2 ^ 30) : zm l G yX6_forecast cX6_forecast 2 (some .int) 7 [.ref x, .int a] sh v N (fun r v1 => r = some (.int (qForecast a (M, h))) ∧ zt v1 (x + 1) M ∧ zxh v1 x q h ∧ zfr v v1 x 340) := by
  refine zM.of (by decide) rfl (Nat.le_of_ble_eq_true rfl) ?_
  intro p e s m args below meth c C
  obtain ⟨xB, xN, hs0, hs57, hs58, hs59, hnow, htri, hhis, himg, hpq⟩ := id hX
  have hd0 : G.2.2.1 ≤ x ∧ x < N := ⟨xB, by omega⟩
  have hd57 : G.2.2.1 ≤ x + 57 ∧ x + 57 < N := ⟨by omega, by omega⟩
  have hd58 : G.2.2.1 ≤ x + 58 ∧ x + 58 < N := ⟨by omega, by omega⟩
  have hd59 : G.2.2.1 ≤ x + 59 ∧ x + 59 < N := ⟨by omega, by omega⟩
  obtain ⟨ntB, ntN, hn0, ntse, hn5, ntrc, hn19, ntsp, ntst⟩ := id hnow
  have hnd0 : G.2.2.1 ≤ x + 1 ∧ x + 1 < N := ⟨by omega, by omega⟩
  have hnd1 : G.2.2.1 ≤ x + 1 + 1 ∧ x + 1 + 1 < N := ⟨by omega, by omega⟩
  have hnd5 : G.2.2.1 ≤ x + 1 + 5 ∧ x + 1 + 5 < N := ⟨by omega, by omega⟩
  have hnd6 : G.2.2.1 ≤ x + 1 + 6 ∧ x + 1 + 6 < N := ⟨by omega, by omega⟩
  have hnd19 : G.2.2.1 ≤ x + 1 + 19 ∧ x + 1 + 19 < N := ⟨by omega, by omega⟩
  have hnd20 : G.2.2.1 ≤ x + 1 + 20 ∧ x + 1 + 20 < N := ⟨by omega, by omega⟩
  have hnd61 : G.2.2.1 ≤ x + 1 + 6 + 1 ∧ x + 1 + 6 + 1 < N := ⟨by omega, by omega⟩
  have hnd65 : G.2.2.1 ≤ x + 1 + 6 + 5 ∧ x + 1 + 6 + 5 < N := ⟨by omega, by omega⟩
  have hnd610 : G.2.2.1 ≤ x + 1 + 6 + 10 ∧ x + 1 + 6 + 10 < N := ⟨by omega, by omega⟩
  have hnd68 : G.2.2.1 ≤ x + 1 + 6 + 8 ∧ x + 1 + 6 + 8 < N := ⟨by omega, by omega⟩
  have hn1 := ntse.2.2.1
  have hn6 := ntrc.2.2.1
  have hn20 := ntsp.2.2.1
  have hn61 := ntrc.2.2.2.1.2.2.2.1
  have hn65 := ntrc.2.2.2.2.2.1.2.2.1
  have hn68 := ntrc.2.2.2.2.2.2.1.2.2.2.1
  have hn610 := ntrc.2.2.2.2.2.2.2.2.2.1
  have hnd11 : G.2.2.1 ≤ x + 1 + 1 + 1 ∧ x + 1 + 1 + 1 < N := ⟨by omega, by omega⟩
  have hnd12 : G.2.2.1 ≤ x + 1 + 1 + 2 ∧ x + 1 + 1 + 2 < N := ⟨by omega, by omega⟩
  have hnd13 : G.2.2.1 ≤ x + 1 + 1 + 3 ∧ x + 1 + 1 + 3 < N := ⟨by omega, by omega⟩
  have hnd652 : G.2.2.1 ≤ x + 1 + 6 + 5 + 2 ∧ x + 1 + 6 + 5 + 2 < N := ⟨by omega, by omega⟩
  have hnd6102 : G.2.2.1 ≤ x + 1 + 6 + 10 + 2 ∧ x + 1 + 6 + 10 + 2 < N := ⟨by omega, by omega⟩
  have hn11 := ntse.2.2.2.1
  have hn12 := ntse.2.2.2.2.1
  have hn13 := ntse.2.2.2.2.2
  have hn652 := ntrc.2.2.2.2.2.1.2.2.2.2
  have hn6102 := ntrc.2.2.2.2.2.2.2.2.2.2.2
  obtain ⟨ltB, ltN, hl0, ltse, hl5, ltrc, hl19, ltsp, ltst⟩ := id htri
  have hld0 : G.2.2.1 ≤ x + 29 ∧ x + 29 < N := ⟨by omega, by omega⟩
  have hld1 : G.2.2.1 ≤ x + 29 + 1 ∧ x + 29 + 1 < N := ⟨by omega, by omega⟩
  have hld5 : G.2.2.1 ≤ x + 29 + 5 ∧ x + 29 + 5 < N := ⟨by omega, by omega⟩
  have hld6 : G.2.2.1 ≤ x + 29 + 6 ∧ x + 29 + 6 < N := ⟨by omega, by omega⟩
  have hld19 : G.2.2.1 ≤ x + 29 + 19 ∧ x + 29 + 19 < N := ⟨by omega, by omega⟩
  have hld20 : G.2.2.1 ≤ x + 29 + 20 ∧ x + 29 + 20 < N := ⟨by omega, by omega⟩
  have hld61 : G.2.2.1 ≤ x + 29 + 6 + 1 ∧ x + 29 + 6 + 1 < N := ⟨by omega, by omega⟩
  have hld65 : G.2.2.1 ≤ x + 29 + 6 + 5 ∧ x + 29 + 6 + 5 < N := ⟨by omega, by omega⟩
  have hld610 : G.2.2.1 ≤ x + 29 + 6 + 10 ∧ x + 29 + 6 + 10 < N := ⟨by omega, by omega⟩
  have hld68 : G.2.2.1 ≤ x + 29 + 6 + 8 ∧ x + 29 + 6 + 8 < N := ⟨by omega, by omega⟩
  have hl1 := ltse.2.2.1
  have hl6 := ltrc.2.2.1
  have hl20 := ltsp.2.2.1
  have hl61 := ltrc.2.2.2.1.2.2.2.1
  have hl65 := ltrc.2.2.2.2.2.1.2.2.1
  have hl68 := ltrc.2.2.2.2.2.2.1.2.2.2.1
  have hl610 := ltrc.2.2.2.2.2.2.2.2.2.1
  have hld11 : G.2.2.1 ≤ x + 29 + 1 + 1 ∧ x + 29 + 1 + 1 < N := ⟨by omega, by omega⟩
  have hld12 : G.2.2.1 ≤ x + 29 + 1 + 2 ∧ x + 29 + 1 + 2 < N := ⟨by omega, by omega⟩
  have hld13 : G.2.2.1 ≤ x + 29 + 1 + 3 ∧ x + 29 + 1 + 3 < N := ⟨by omega, by omega⟩
  have hld652 : G.2.2.1 ≤ x + 29 + 6 + 5 + 2 ∧ x + 29 + 6 + 5 + 2 < N := ⟨by omega, by omega⟩
  have hld6102 : G.2.2.1 ≤ x + 29 + 6 + 10 + 2 ∧ x + 29 + 6 + 10 + 2 < N := ⟨by omega, by omega⟩
  have hl11 := ltse.2.2.2.1
  have hl12 := ltse.2.2.2.2.1
  have hl13 := ltse.2.2.2.2.2
  have hl652 := ltrc.2.2.2.2.2.1.2.2.2.2
  have hl6102 := ltrc.2.2.2.2.2.2.2.2.2.2.2
  have hE : zE M := hI.1.1
  have hk : mOK M := hE.1
  have hK2 := hk.1.1
  have hK12 := hk.1.2.1
  have hR3 := hk.1.2.2.1
  refine r_iload_n C (pc := 0) rfl rfl dX6_forecast_0 ?_
  refine r_iconst C (pc := 1) (x := (nI 0)) (by decide) dX6_forecast_1 ?_
  refine r_iconst C (pc := 2) (x := (nI 1)) (by decide) dX6_forecast_2 ?_
  refine r_callS C (pc := 3) (st := []) (m_X6_isWithin l G sh v N (x := a) (lo := (nI 0)) (hi := (nI 1))) kyX6_isWithin q_270 rfl rfl (Nat.le_of_ble_eq_true rfl) ⟨Nat.le_of_ble_eq_true rfl, Nat.le_of_ble_eq_true rfl⟩ ⟨Nat.le_of_ble_eq_true rfl, Nat.le_of_ble_eq_true rfl⟩ dX6_forecast_3 (fun r3 v3 hp3 => ?_)
  obtain ⟨rfl, ehp3⟩ := hp3
  refine VV.vq ehp3 ?_
  refine VV.eq (st2 := [.int (zb (decide ((nI 0) ≤ a ∧ a ≤ (nI 1))))]) rfl ?_
  refine n_ifb_ne C (pc := 6) (tgt := 11) dX6_forecast_6 (by decide) (fun c_6 => ?_) (fun c_6 => ?_)
  · have hc1 := (of_decide_eq_true c_6)
    obtain ⟨y, hy1, hy2, rfl⟩ := inR (of_decide_eq_true c_6) (by omega) (by omega)
    refine r_aload_n C (pc := 11) rfl rfl dX6_forecast_11 ?_
    refine r_get C (pc := 12) (ci := 6) (k := 1) (w := .ref (x + 29)) rfl (by decide) inX6 (by decide) q_232 (Or.inl hd0) hs0 (zl_ref _ _) dX6_forecast_12 ?_
    refine r_aload_n C (pc := 15) rfl rfl dX6_forecast_15 ?_
    refine r_get C (pc := 16) (ci := 6) (k := 0) (w := .ref (x + 1)) rfl (by decide) inX6 (by decide) q_231 (Or.inl hd0) hs0 (zl_ref _ _) dX6_forecast_16 ?_
    refine r_callV C (pc := 19) (st := []) (m_X5_copyFrom l G sh v N (t := x + 29) (o := x + 1) htri hnow hv (by omega)) kyX5_copyFrom q_281 rfl (Or.inl hld0) hl0 (by decide) rfl rfl rfl (Nat.le_of_ble_eq_true rfl) ⟨Nat.le_of_ble_eq_true rfl, Nat.le_of_ble_eq_true rfl⟩ ⟨Nat.le_of_ble_eq_true rfl, Nat.le_of_ble_eq_true rfl⟩ dX6_forecast_19 (fun r19 v19 hp19 => ?_)
    obtain ⟨rfl, g1, g2⟩ := hp19
    refine VV.eq (st2 := []) rfl ?_
    refine r_aload_n C (pc := 22) rfl rfl dX6_forecast_22 ?_
    refine r_iload_n C (pc := 23) rfl rfl dX6_forecast_23 ?_
    refine r_sipush C (pc := 24) (x := (nI 300)) (by decide) dX6_forecast_24 ?_
    refine r_callV C (pc := 27) (st := []) (m_X6_ticksOfTrial l G sh v19 N (k := y) (y := 300) hX g1 hI.1 (by omega) (by decide) (by omega)) kyX6_ticksOfTrial q_619 rfl (Or.inl hd0) hs0 (by decide) rfl rfl rfl (Nat.le_of_ble_eq_true rfl) ⟨Nat.le_of_ble_eq_true rfl, Nat.le_of_ble_eq_true rfl⟩ ⟨Nat.le_of_ble_eq_true rfl, Nat.le_of_ble_eq_true rfl⟩ dX6_forecast_27 (fun r27 v27 hp27 => ?_)
    obtain ⟨rfl, g3⟩ := hp27
    refine VV.eq (st2 := [.int (tkI y 300 M)]) rfl ?_
    exact r_iret C (pc := 30) rfl (rfl) dX6_forecast_30 ⟨rfl, rfl, (by have ho : qForecast (nI y) (M, h) = tkI y 300 M := (if_pos hc1).trans (by rw [nn_I (by omega)]); rw [ho]), zt_tri (zt_tri hv g2) g3, zxh_tri (zxh_tri hh hpq g2) hpq g3, (g2.tr g3).wide (by omega) (by omega)⟩
  · refine r_iconst C (pc := 9) (x := (-1)) (by decide) dX6_forecast_9 ?_
    exact r_iret C (pc := 10) rfl (rfl) dX6_forecast_10 ⟨rfl, rfl, (by have ho : qForecast a (M, h) = -1 := if_neg (fun z => (of_decide_eq_false c_6) z); rw [ho]), hv, hh, zfr.rf⟩
