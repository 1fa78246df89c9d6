/-! THE CLAIM OUT OF ONE WALK OF THE LAW'S BODY. Your part is whole_start (and what it stands on); all else here is the same for every law, but numbers. -/
def R_law : String := "RelayTransferLaw"
def lw_P (b : Addr) (xs : List Int32) (args : Array Value) (s : State) : Prop := args = #[.ref b] ∧ s.IntsAt b xs ∧ xs.length ≤ 2048 ∧ (Jvm.Cond.and given_1 narrow_1).before args s = true
/-- what a walk over the start with the record d0 says of its end, said of the start itself -/
theorem lw_closed {s t : State} {o : Outcome} {d0 : Drawn} {L : List Loc} {k n : Nat} (hd0 : s.drawn.sameBut d0 lw_cs) (hv : ∃ v, o = .returned v) (hW : (s.setDrawn d0).WarmedH t.vm) (hs : (s.setDrawn d0).sameButNew ({ t with vm := s.vm } : State) L k n) : State.butDraws s t lw_cs (fun t1 => Framed s o t1 L k n) := by
  have h2 : t.drawn = d0 := congrArg State.drawn hs.1
  refine ⟨⟨hv, hW, State.sameButNew.setDrawn hs s.drawn⟩, ?_, by decide⟩
  rw [h2]
  exact hd0
def lw_Q (_ : Array Value) (s : State) (o : Outcome) (t : State) : Prop := o = .returned (some (.int 1)) ∧ State.butDraws s t lw_cs (fun t1 => Framed s o t1 [] 600000 7302250)
def lw_Z (below : List Frame) (a : Array Value) (s : State) : State → Prop := fun t => ∃ o, t.status = .running ∧ Ended t below o ∧ lw_Q a s o t
/-- the law's own end, with 1 on the stack, nothing written that was there before, its room as the claim has it; d0: the record of draws at this point (at the entry s.drawn: begin with 'refine W.base ?_' and 'have hd0 := Drawn.sameBut.refl s.drawn lw_cs') -/
theorem lw_ret {p : Program} {l : Launch} {e : Env} {s : State} {m : MethodId} {below : List Frame} {meth : Method} {c : Code} {b : Nat} {d0 : Drawn} (hd0 : s.drawn.sameBut d0 lw_cs) (hx : p.tables.exec = Jvm.exec) (hb : c.code = code) (hr : meth.sig.returnType = ret) (hlocks : meth.locks = false) {pc : Nat} {H : Heap} {ls : Array Slot} (hdg : decode code pc = .ok (.ireturn, 1)) : W p l e room_1 (s.setDrawn d0) m #[Value.ref b] below meth c H [] 600000 7302250 (lw_Z below #[Value.ref b] s) (F0 m pc ls [.int 1]) := by
  intro T hT X
  obtain ⟨fs, hret, hrun, hended, hW, hframe⟩ := X.leave (v := some (.int 1)) (hlocks := hlocks) (fun h => by rw [hr] at h; cases h)
  have hmeth' : T.vm.method? m = some meth := X.method'
  refine ⟨T.setFrames fs, ?_, .returned (some (.int 1)), hrun, hended, rfl, lw_closed hd0 ⟨_, rfl⟩ hW hframe⟩
  jvm_step X.here [X.here.top, hx, hb, hdg, hmeth', hr, ret, narrow_b1]
  (try refine ⟨rfl, ?_⟩); (try refine ⟨rfl, ?_⟩)
  first | (intro acts; rw [hret _ acts rfl rfl rfl]) | rw [hret _ _ rfl rfl rfl]
  exact Steps.refl _
/-- what holds at the law's entry: the machine, the code, the tables' words (any of lw_tbl by 'hts w (by decide +kernel)'), the script of L ints xs at the cell b, what the Statement gives of the start (any of its parts by flat_of_before) -/
def lw_At (p : Program) (s : State) (m : MethodId) (meth : Method) (c : Code) (b L : Nat) (xs : Nat → Int32) : Prop :=
  p.tables.exec = Jvm.exec ∧ c.code = code ∧ meth.sig.returnType = ret ∧ c.maxLocals = 8 ∧ s.vm.findClass R_law = some m.cls ∧ (∀ w ∈ lw_tbl, w.before #[Value.ref b] s = true) ∧ va_X b L xs s s.heap ∧ b < s.heap.size ∧ meth.locks = false ∧ (Jvm.Cond.and given_1 narrow_1).before #[Value.ref b] s = true
section ZLAW
variable {p : Program} {l : Launch} {e : Env} {R : Room} {s : State} {m : MethodId} {args : Array Value} {below : List Frame} {meth : Method} {c : Code} {cells slots : Nat} {Q : State → Prop} {G : zG} {nL : Nat} {sh : zH} {v : zV} {N pc : Nat} {lv : List (Option Value)} {st : List Value} {own nm : String} {cc : ByteArray} {ret : Option FieldType}
theorem r_sld (C : zC p s m args meth c own nm cc nL ret G) {b L j : Nat} {xs : Nat → Int32} (hX : va_X b L xs s s.heap) (hbl : b < s.heap.size) (hbA : b < G.2.2.1) (hj : j < L) (hL : L < 2 ^ 31) (hdg : decode cc pc = .ok (.iaload, 1)) (kk : VV p l e R s m args below meth c cells slots Q G nL sh v N (pc + 1) lv (.int (xs j) :: st)) : VV p l e R s m args below meth c cells slots Q G nL sh v N pc lv (.int (nI j) :: .ref b :: st) := fun H locs ls h1 h2 h3 => va_sld C.1 C.2.1 hX hbl (Nat.not_le.mpr hbA) h2 (vp_in_nI hj hL) hdg (by rw [nI_clamp (show j < 2 ^ 31 by omega)]; exact kk H locs ls h1 h2 h3)
theorem r_slen (C : zC p s m args meth c own nm cc nL ret G) {b L : Nat} {xs : Nat → Int32} (hX : va_X b L xs s s.heap) (hbl : b < s.heap.size) (hbA : b < G.2.2.1) (hdg : decode cc pc = .ok (.arraylength, 1)) (kk : VV p l e R s m args below meth c cells slots Q G nL sh v N (pc + 1) lv (.int (nI L) :: st)) : VV p l e R s m args below meth c cells slots Q G nL sh v N pc lv (.ref b :: st) := fun H locs ls h1 h2 h3 => va_slen C.1 C.2.1 hX hbl (Nat.not_le.mpr hbA) h2 hdg (kk H locs ls h1 h2 h3)
theorem lo_set2b {ls : Array Slot} {nL i : Nat} {lv : List (Option Value)} {x : Value} (hc : ∀ w, i ≠ 0 → lv[i - 1]? = some (some w) → w.category = 1) (h : lv_has ls nL ((i, x) :: (asl 0 lv).filter (fun q => !(q.1 == i) && (!(q.1 == i + 1) && !(q.1 + 1 == i && q.2.category == 2))))) : lo ls nL ((lv.set i (some x)).set (i + 1) none) := by
  refine ⟨h.1, h.2.1, fun j w hj => ?_⟩
  rw [List.getElem?_set] at hj
  by_cases hij : i + 1 = j
  · rw [if_pos hij] at hj
    split at hj <;> cases hj
  · rw [if_neg hij, List.getElem?_set] at hj
    by_cases hij2 : i = j
    · rw [if_pos hij2] at hj
      by_cases hl : i < lv.length
      · rw [if_pos hl] at hj
        cases hj
        subst hij2
        exact h.2.2 (i, x) List.mem_cons_self
      · rw [if_neg hl] at hj
        cases hj
    · rw [if_neg hij2] at hj
      refine h.2.2 (j, w) (List.mem_cons_of_mem _ (List.mem_filter.mpr ⟨(asl_mem lv 0 j w).mpr ⟨j, by omega, hj⟩, ?_⟩))
      by_cases hji : j + 1 = i
      · have h2 := hc w (by omega) (by rw [show i - 1 = j by omega]; exact hj)
        simp [Ne.symm hij, Ne.symm hij2, h2]
      · simp [Ne.symm hij, Ne.symm hij2, hji]
theorem r_dstore (C : zC p s m args meth c own nm cc nL ret G) {i : Nat} {x : UInt64} {lv2 : List (Option Value)} (hn : i + 1 < nL) (hc : ∀ w, i ≠ 0 → lv[i - 1]? = some (some w) → w.category = 1) (hs : (lv.set i (some (.double x))).set (i + 1) none = lv2) (hdg : decode cc pc = .ok (.dstore i, 2)) (kk : VV p l e R s m args below meth c cells slots Q G nL sh v N (pc + 2) lv2 st) : VV p l e R s m args below meth c cells slots Q G nL sh v N pc lv (.double x :: st) := fun H locs ls h1 h2 h3 => lv_dstore C.1 C.2.1 hdg (lo_has h3) hn rfl (fun ls2 hl2 => kk H locs ls2 h1 h2 (hs ▸ lo_set2b hc hl2))
theorem r_dload (C : zC p s m args meth c own nm cc nL ret G) {i : Nat} {x : UInt64} (hl : lv[i]? = some (some (.double x))) (hdg : decode cc pc = .ok (.dload i, 2)) (kk : VV p l e R s m args below meth c cells slots Q G nL sh v N (pc + 2) lv (.double x :: st)) : VV p l e R s m args below meth c cells slots Q G nL sh v N pc lv st := fun H locs ls h1 h2 h3 => lv_dload C.1 C.2.1 hdg (h3.2.2 _ _ hl) (kk H locs ls h1 h2 h3)
theorem r_f2d (C : zC p s m args meth c own nm cc nL ret G) {x : UInt32} (hne : vf_n64 (FP.f2d x)) (hdg : decode cc pc = .ok (.f2d, 1)) (kk : VV p l e R s m args below meth c cells slots Q G nL sh v N (pc + 1) lv (.double (FP.f2d x) :: st)) : VV p l e R s m args below meth c cells slots Q G nL sh v N pc lv (.float x :: st) := fun H locs ls h1 h2 h3 => lv_f2d C.1 C.2.1 hdg hne (kk H locs ls h1 h2 h3)
theorem r_dcmp (C : zC p s m args meth c own nm cc nL ret G) {x y : UInt64} {op : CmpOp} (hdg : decode cc pc = .ok (.dcmp op, 1)) (kk : VV p l e R s m args below meth c cells slots Q G nL sh v N (pc + 1) lv (.int (Op.cmpValue (FP.dcmp x y) op) :: st)) : VV p l e R s m args below meth c cells slots Q G nL sh v N pc lv (.double y :: .double x :: st) := fun H locs ls h1 h2 h3 => lv_dcmp C.1 C.2.1 hdg (kk H locs ls h1 h2 h3)
end ZLAW
set_option maxRecDepth 100000 in
set_option maxHeartbeats 8000000 in
theorem law_loop {p : Program} {e : Env} {s : State} {m : MethodId} {below : List Frame} {meth : Method} {c : Code} (l : Launch) {b L : Nat} {xs : Nat → Int32} {G : zG} {x : Nat} {nm : String} (hL : L ≤ 2048) (C : zC p s m #[Value.ref b] meth c "RelayTransferLaw" nm cL_law 8 ret G) (hlocks : meth.locks = false) (hXs : va_X b L xs s s.heap) (hbl : b < s.heap.size) (hG : G.2.2.1 = s.heap.size) :
    ∀ (n k : Nat) (sh : zH) (v : zV) (N : Nat) (q : Nat → Nat) (S : zSt), L - 4 * k < n → 4 * k ≤ 2048 → zLW G sh v N x q S → zI (200 * k) S → VV p l e room_1 s m #[Value.ref b] below meth c 349 4336 (lw_Z below #[Value.ref b] s) G 8 sh v N 18 [some (.ref b), some (.ref x), some (.ref (x + 340)), some (.int (nI (4 * k))), none, none, none, none] [] := by
  have hbA : b < G.2.2.1 := by rw [hG]; exact hbl
  intro n
  induction n with
  | zero => intro k sh v N q S hm; omega
  | succ n ih =>
  intro k sh v N q S hm hk hS hI
  refine r_iload_n C (pc := 18) rfl rfl dL_law_18 ?_
  refine r_aload_n C (pc := 19) rfl rfl dL_law_19 ?_
  refine r_slen C (pc := 20) hXs hbl hbA dL_law_20 ?_
  refine r_iconst C (pc := 21) (x := nI 4) (by decide) dL_law_21 ?_
  refine r_isub C (pc := 22) (z := nI L - nI 4) rfl dL_law_22 ?_
  refine r_icmp_gt C (pc := 23) (tgt := 714) dL_law_23 (by decide) (fun _ => ?_) (fun hc => ?_)
  · refine r_iconst C (pc := 714) (x := 1) (by decide) dL_law_714 ?_
    intro H locs ls h1 h2 h3
    refine va_forget (fun z hz => ?_) ?_
    · have := h2.2.2 z hz
      rw [← hG]
      exact this
    refine W.widen (k := 600000) (n := 7302250) (Nat.le_of_ble_eq_true rfl) (Nat.le_of_ble_eq_true rfl) ?_
    refine W.base ?_
    exact lw_ret (Drawn.sameBut.refl s.drawn lw_cs) C.1 C.2.1 C.2.2.2.2.2.1 hlocks dL_law_715
  have h4 := hd4 hL hk hc
  have hT : 200 * k + 1000 < 2 ^ 30 := by omega
  obtain ⟨M, h⟩ := S
  obtain ⟨hN, hX, hMD, hv, hh, hw, hm2⟩ := hS
  have hm := hm2
  have hd6 : G.2.2.1 ≤ x ∧ x < N := ⟨hX.1, by omega⟩
  have hd7 : G.2.2.1 ≤ x + 340 ∧ x + 340 < N := ⟨hMD.1, by omega⟩
  have hov : vf_n64 (FP.f2d (ovF M)) := ovF_n (by have := hI.1.2.1.2.1; dsimp only at this; omega) (hv.2.2.2.2.2.2.2.2.1.2.1)
  have nxt : ∀ (sh' : zH) (v' : zV) (q' : Nat → Nat) (S' : zSt), zLW G sh' v' N x q' S' → zI (200 * k + 200) S' → VV p l e room_1 s m #[Value.ref b] below meth c 349 4336 (lw_Z below #[Value.ref b] s) G 8 sh' v' N 708 [some (.ref b), some (.ref x), some (.ref (x + 340)), some (.int (nI (4 * k))), none, none, none, none] [] := by
    intro sh' v' q' S' g1 g2
    refine r_iinc C (pc := 708) (lv2 := [some (.ref b), some (.ref x), some (.ref (x + 340)), some (.int (nI (4 * (k + 1)))), none, none, none, none]) (y := nI (4 * (k + 1))) rfl (nI_inc _ _) (Nat.le_of_ble_eq_true rfl) rfl rfl dL_law_708 ?_
    refine r_goto C (pc := 711) (tgt := 18) dL_law_711 (by decide) ?_
    exact ih (k + 1) sh' v' N q' S' (by omega) (by omega) g1 (by rw [show 200 * (k + 1) = 200 * k + 200 by omega]; exact g2)
  refine r_aload_n C (pc := 26) rfl rfl dL_law_26 ?_
  refine r_iload_n C (pc := 27) rfl rfl dL_law_27 ?_
  refine r_sld C (pc := 28) hXs hbl hbA (by omega) (by omega) dL_law_28 ?_
  refine r_bipush C (pc := 29) (x := nI 31) (by decide) dL_law_29 ?_
  refine r_iand C (pc := 31) (z := xs (4 * k) &&& nI 31) rfl dL_law_31 ?_
  generalize xs (4 * k) &&& nI 31 = y
  by_cases hr : nI 0 ≤ y ∧ y ≤ nI 19
  · obtain ⟨j, hj1, hj2, ey⟩ := inR hr (by decide) (by decide)
    subst ey
    rcases (show j = 0 ∨ j = 1 ∨ j = 2 ∨ j = 3 ∨ j = 4 ∨ j = 5 ∨ j = 6 ∨ j = 7 ∨ j = 8 ∨ j = 9 ∨ j = 10 ∨ j = 11 ∨ j = 12 ∨ j = 13 ∨ j = 14 ∨ j = 15 ∨ j = 16 ∨ j = 17 ∨ j = 18 ∨ j = 19 by omega) with rfl | rfl | rfl | rfl | rfl | rfl | rfl | rfl | rfl | rfl | rfl | rfl | rfl | rfl | rfl | rfl | rfl | rfl | rfl | rfl
    · refine r_tableIn C (pc := 32) (off := 96) (tgt := 128) dL_law_32 (by decide) (by decide) rfl (by decide) ?_
      refine r_aload_n C (pc := 128) rfl rfl dL_law_128 ?_
      refine r_aload_n C (pc := 129) rfl rfl dL_law_129 ?_
      refine r_iload_n C (pc := 130) rfl rfl dL_law_130 ?_
      refine r_iconst C (pc := 131) (x := nI 1) (by decide) dL_law_131 ?_
      refine r_iadd C (pc := 132) (z := nI (4 * k + 1)) (nI_add _ _) dL_law_132 ?_
      refine r_sld C (pc := 133) hXs hbl hbA (by omega) (by omega) dL_law_133 ?_
      refine r_aload_n C (pc := 134) rfl rfl dL_law_134 ?_
      refine r_iload_n C (pc := 135) rfl rfl dL_law_135 ?_
      refine r_iconst C (pc := 136) (x := nI 2) (by decide) dL_law_136 ?_
      refine r_iadd C (pc := 137) (z := nI (4 * k + 2)) (nI_add _ _) dL_law_137 ?_
      refine r_sld C (pc := 138) hXs hbl hbA (by omega) (by omega) dL_law_138 ?_
      refine r_callVM C (pc := 139) (st := []) (m_X6_begin l G sh v N (a := (xs (4 * k + 1))) (b := (xs (4 * k + 2))) hX hv hh hI hT) kyX6_begin q_286 rfl (Or.inl hd6) hX.2.2.1 (by decide) rfl rfl rfl (Nat.le_of_ble_eq_true rfl) ⟨Nat.le_of_ble_eq_true rfl, Nat.le_of_ble_eq_true rfl⟩ ⟨Nat.le_of_ble_eq_true rfl, Nat.le_of_ble_eq_true rfl⟩ dL_law_139 (fun r1 sh1 v1 N1 hp1 => ?_)
      obtain ⟨eN, q1, X1, X2, er, X3, X4, X5⟩ := hp1
      subst eN
      subst er
      obtain ⟨m1, m2⟩ := lw_m hw hm X5
      have hMD1 := zMD_sh hMD (fun b h1 h2 => X2 b (by omega))
      refine VV.c0 ?_
      refine VV.eq (st2 := [.int ((oBegin (xs (4 * k + 1)) (xs (4 * k + 2)) (M, h)).1)]) rfl ?_
      refine r_aload_n C (pc := 142) rfl rfl dL_law_142 ?_
      refine r_aload_n C (pc := 143) rfl rfl dL_law_143 ?_
      refine r_iload_n C (pc := 144) rfl rfl dL_law_144 ?_
      refine r_iconst C (pc := 145) (x := nI 1) (by decide) dL_law_145 ?_
      refine r_iadd C (pc := 146) (z := nI (4 * k + 1)) (nI_add _ _) dL_law_146 ?_
      refine r_sld C (pc := 147) hXs hbl hbA (by omega) (by omega) dL_law_147 ?_
      refine r_aload_n C (pc := 148) rfl rfl dL_law_148 ?_
      refine r_iload_n C (pc := 149) rfl rfl dL_law_149 ?_
      refine r_iconst C (pc := 150) (x := nI 2) (by decide) dL_law_150 ?_
      refine r_iadd C (pc := 151) (z := nI (4 * k + 2)) (nI_add _ _) dL_law_151 ?_
      refine r_sld C (pc := 152) hXs hbl hbA (by omega) (by omega) dL_law_152 ?_
      refine r_callV C (pc := 153) (st := [.int ((oBegin (xs (4 * k + 1)) (xs (4 * k + 2)) (M, h)).1)]) (m_X7_begin l G sh1 v1 N (a := (xs (4 * k + 1))) (b := (xs (4 * k + 2))) hMD1 m1 m2 hI hT) kyX7_begin q_697 rfl (Or.inl hd7) hMD1.2.2.1 (by decide) rfl rfl rfl (Nat.le_of_ble_eq_true rfl) ⟨Nat.le_of_ble_eq_true rfl, Nat.le_of_ble_eq_true rfl⟩ ⟨Nat.le_of_ble_eq_true rfl, Nat.le_of_ble_eq_true rfl⟩ dL_law_153 (fun r2 v2 hp2 => ?_)
      obtain ⟨er, Y1, Y2, Y3⟩ := hp2
      subst er
      obtain ⟨n1, n2⟩ := lw_x X1.2.2.2.2.2.2.2.2.2.2 X3 X4 Y3
      refine VV.eq (st2 := [.int ((oBegin (xs (4 * k + 1)) (xs (4 * k + 2)) (M, h)).1), .int ((oBegin (xs (4 * k + 1)) (xs (4 * k + 2)) (M, h)).1)]) rfl ?_
      exact r_icmp_eq C (pc := 156) (tgt := 708) dL_law_156 (by decide) (fun _ => nxt sh1 v2 q1 (oBegin (xs (4 * k + 1)) (xs (4 * k + 2)) (M, h)).2 ⟨hN, X1, hMD1, n1, n2, Y1, Y2⟩ (oBegin_I hI)) (fun z => absurd rfl z)
    · refine r_tableIn C (pc := 32) (off := 129) (tgt := 161) dL_law_32 (by decide) (by decide) rfl (by decide) ?_
      refine r_aload_n C (pc := 161) rfl rfl dL_law_161 ?_
      refine r_aload_n C (pc := 162) rfl rfl dL_law_162 ?_
      refine r_iload_n C (pc := 163) rfl rfl dL_law_163 ?_
      refine r_iconst C (pc := 164) (x := nI 1) (by decide) dL_law_164 ?_
      refine r_iadd C (pc := 165) (z := nI (4 * k + 1)) (nI_add _ _) dL_law_165 ?_
      refine r_sld C (pc := 166) hXs hbl hbA (by omega) (by omega) dL_law_166 ?_
      refine r_aload_n C (pc := 167) rfl rfl dL_law_167 ?_
      refine r_iload_n C (pc := 168) rfl rfl dL_law_168 ?_
      refine r_iconst C (pc := 169) (x := nI 2) (by decide) dL_law_169 ?_
      refine r_iadd C (pc := 170) (z := nI (4 * k + 2)) (nI_add _ _) dL_law_170 ?_
      refine r_sld C (pc := 171) hXs hbl hbA (by omega) (by omega) dL_law_171 ?_
      refine r_callVM C (pc := 172) (st := []) (m_X6_setBlock l G sh v N (a := (xs (4 * k + 1))) (b := (xs (4 * k + 2))) hX hv hh hI hT) kyX6_setBlock q_355 rfl (Or.inl hd6) hX.2.2.1 (by decide) rfl rfl rfl (Nat.le_of_ble_eq_true rfl) ⟨Nat.le_of_ble_eq_true rfl, Nat.le_of_ble_eq_true rfl⟩ ⟨Nat.le_of_ble_eq_true rfl, Nat.le_of_ble_eq_true rfl⟩ dL_law_172 (fun r1 sh1 v1 N1 hp1 => ?_)
      obtain ⟨eN, q1, X1, X2, er, X3, X4, X5⟩ := hp1
      subst eN
      subst er
      obtain ⟨m1, m2⟩ := lw_m hw hm X5
      have hMD1 := zMD_sh hMD (fun b h1 h2 => X2 b (by omega))
      refine VV.c0 ?_
      refine VV.eq (st2 := [.int ((oSetBlock (xs (4 * k + 1)) (xs (4 * k + 2)) (M, h)).1)]) rfl ?_
      refine r_aload_n C (pc := 175) rfl rfl dL_law_175 ?_
      refine r_aload_n C (pc := 176) rfl rfl dL_law_176 ?_
      refine r_iload_n C (pc := 177) rfl rfl dL_law_177 ?_
      refine r_iconst C (pc := 178) (x := nI 1) (by decide) dL_law_178 ?_
      refine r_iadd C (pc := 179) (z := nI (4 * k + 1)) (nI_add _ _) dL_law_179 ?_
      refine r_sld C (pc := 180) hXs hbl hbA (by omega) (by omega) dL_law_180 ?_
      refine r_aload_n C (pc := 181) rfl rfl dL_law_181 ?_
      refine r_iload_n C (pc := 182) rfl rfl dL_law_182 ?_
      refine r_iconst C (pc := 183) (x := nI 2) (by decide) dL_law_183 ?_
      refine r_iadd C (pc := 184) (z := nI (4 * k + 2)) (nI_add _ _) dL_law_184 ?_
      refine r_sld C (pc := 185) hXs hbl hbA (by omega) (by omega) dL_law_185 ?_
      refine r_callV C (pc := 186) (st := [.int ((oSetBlock (xs (4 * k + 1)) (xs (4 * k + 2)) (M, h)).1)]) (m_X7_setBlock l G sh1 v1 N (a := (xs (4 * k + 1))) (b := (xs (4 * k + 2))) hMD1 m1 m2 hI hT) kyX7_setBlock q_708 rfl (Or.inl hd7) hMD1.2.2.1 (by decide) rfl rfl rfl (Nat.le_of_ble_eq_true rfl) ⟨Nat.le_of_ble_eq_true rfl, Nat.le_of_ble_eq_true rfl⟩ ⟨Nat.le_of_ble_eq_true rfl, Nat.le_of_ble_eq_true rfl⟩ dL_law_186 (fun r2 v2 hp2 => ?_)
      obtain ⟨er, Y1, Y2, Y3⟩ := hp2
      subst er
      obtain ⟨n1, n2⟩ := lw_x X1.2.2.2.2.2.2.2.2.2.2 X3 X4 Y3
      refine VV.eq (st2 := [.int ((oSetBlock (xs (4 * k + 1)) (xs (4 * k + 2)) (M, h)).1), .int ((oSetBlock (xs (4 * k + 1)) (xs (4 * k + 2)) (M, h)).1)]) rfl ?_
      exact r_icmp_eq C (pc := 189) (tgt := 708) dL_law_189 (by decide) (fun _ => nxt sh1 v2 q1 (oSetBlock (xs (4 * k + 1)) (xs (4 * k + 2)) (M, h)).2 ⟨hN, X1, hMD1, n1, n2, Y1, Y2⟩ (oSetBlock_I hI)) (fun z => absurd rfl z)
    · refine r_tableIn C (pc := 32) (off := 162) (tgt := 194) dL_law_32 (by decide) (by decide) rfl (by decide) ?_
      refine r_aload_n C (pc := 194) rfl rfl dL_law_194 ?_
      refine r_aload_n C (pc := 195) rfl rfl dL_law_195 ?_
      refine r_iload_n C (pc := 196) rfl rfl dL_law_196 ?_
      refine r_iconst C (pc := 197) (x := nI 1) (by decide) dL_law_197 ?_
      refine r_iadd C (pc := 198) (z := nI (4 * k + 1)) (nI_add _ _) dL_law_198 ?_
      refine r_sld C (pc := 199) hXs hbl hbA (by omega) (by omega) dL_law_199 ?_
      refine r_aload_n C (pc := 200) rfl rfl dL_law_200 ?_
      refine r_iload_n C (pc := 201) rfl rfl dL_law_201 ?_
      refine r_iconst C (pc := 202) (x := nI 2) (by decide) dL_law_202 ?_
      refine r_iadd C (pc := 203) (z := nI (4 * k + 2)) (nI_add _ _) dL_law_203 ?_
      refine r_sld C (pc := 204) hXs hbl hbA (by omega) (by omega) dL_law_204 ?_
      refine r_callVM C (pc := 205) (st := []) (m_X6_setLoss l G sh v N (a := (xs (4 * k + 1))) (b := (xs (4 * k + 2))) hX hv hh hI hT) kyX6_setLoss q_363 rfl (Or.inl hd6) hX.2.2.1 (by decide) rfl rfl rfl (Nat.le_of_ble_eq_true rfl) ⟨Nat.le_of_ble_eq_true rfl, Nat.le_of_ble_eq_true rfl⟩ ⟨Nat.le_of_ble_eq_true rfl, Nat.le_of_ble_eq_true rfl⟩ dL_law_205 (fun r1 sh1 v1 N1 hp1 => ?_)
      obtain ⟨eN, q1, X1, X2, er, X3, X4, X5⟩ := hp1
      subst eN
      subst er
      obtain ⟨m1, m2⟩ := lw_m hw hm X5
      have hMD1 := zMD_sh hMD (fun b h1 h2 => X2 b (by omega))
      refine VV.c0 ?_
      refine VV.eq (st2 := [.int ((oSetLoss (xs (4 * k + 1)) (xs (4 * k + 2)) (M, h)).1)]) rfl ?_
      refine r_aload_n C (pc := 208) rfl rfl dL_law_208 ?_
      refine r_aload_n C (pc := 209) rfl rfl dL_law_209 ?_
      refine r_iload_n C (pc := 210) rfl rfl dL_law_210 ?_
      refine r_iconst C (pc := 211) (x := nI 1) (by decide) dL_law_211 ?_
      refine r_iadd C (pc := 212) (z := nI (4 * k + 1)) (nI_add _ _) dL_law_212 ?_
      refine r_sld C (pc := 213) hXs hbl hbA (by omega) (by omega) dL_law_213 ?_
      refine r_aload_n C (pc := 214) rfl rfl dL_law_214 ?_
      refine r_iload_n C (pc := 215) rfl rfl dL_law_215 ?_
      refine r_iconst C (pc := 216) (x := nI 2) (by decide) dL_law_216 ?_
      refine r_iadd C (pc := 217) (z := nI (4 * k + 2)) (nI_add _ _) dL_law_217 ?_
      refine r_sld C (pc := 218) hXs hbl hbA (by omega) (by omega) dL_law_218 ?_
      refine r_callV C (pc := 219) (st := [.int ((oSetLoss (xs (4 * k + 1)) (xs (4 * k + 2)) (M, h)).1)]) (m_X7_setLoss l G sh1 v1 N (a := (xs (4 * k + 1))) (b := (xs (4 * k + 2))) hMD1 m1 m2 hI hT) kyX7_setLoss q_720 rfl (Or.inl hd7) hMD1.2.2.1 (by decide) rfl rfl rfl (Nat.le_of_ble_eq_true rfl) ⟨Nat.le_of_ble_eq_true rfl, Nat.le_of_ble_eq_true rfl⟩ ⟨Nat.le_of_ble_eq_true rfl, Nat.le_of_ble_eq_true rfl⟩ dL_law_219 (fun r2 v2 hp2 => ?_)
      obtain ⟨er, Y1, Y2, Y3⟩ := hp2
      subst er
      obtain ⟨n1, n2⟩ := lw_x X1.2.2.2.2.2.2.2.2.2.2 X3 X4 Y3
      refine VV.eq (st2 := [.int ((oSetLoss (xs (4 * k + 1)) (xs (4 * k + 2)) (M, h)).1), .int ((oSetLoss (xs (4 * k + 1)) (xs (4 * k + 2)) (M, h)).1)]) rfl ?_
      exact r_icmp_eq C (pc := 222) (tgt := 708) dL_law_222 (by decide) (fun _ => nxt sh1 v2 q1 (oSetLoss (xs (4 * k + 1)) (xs (4 * k + 2)) (M, h)).2 ⟨hN, X1, hMD1, n1, n2, Y1, Y2⟩ (oSetLoss_I hI)) (fun z => absurd rfl z)
    · refine r_tableIn C (pc := 32) (off := 195) (tgt := 227) dL_law_32 (by decide) (by decide) rfl (by decide) ?_
      refine r_aload_n C (pc := 227) rfl rfl dL_law_227 ?_
      refine r_aload_n C (pc := 228) rfl rfl dL_law_228 ?_
      refine r_iload_n C (pc := 229) rfl rfl dL_law_229 ?_
      refine r_iconst C (pc := 230) (x := nI 1) (by decide) dL_law_230 ?_
      refine r_iadd C (pc := 231) (z := nI (4 * k + 1)) (nI_add _ _) dL_law_231 ?_
      refine r_sld C (pc := 232) hXs hbl hbA (by omega) (by omega) dL_law_232 ?_
      refine r_aload_n C (pc := 233) rfl rfl dL_law_233 ?_
      refine r_iload_n C (pc := 234) rfl rfl dL_law_234 ?_
      refine r_iconst C (pc := 235) (x := nI 2) (by decide) dL_law_235 ?_
      refine r_iadd C (pc := 236) (z := nI (4 * k + 2)) (nI_add _ _) dL_law_236 ?_
      refine r_sld C (pc := 237) hXs hbl hbA (by omega) (by omega) dL_law_237 ?_
      refine r_callVM C (pc := 238) (st := []) (m_X6_setWeight l G sh v N (a := (xs (4 * k + 1))) (b := (xs (4 * k + 2))) hX hv hh hI hT) kyX6_setWeight q_371 rfl (Or.inl hd6) hX.2.2.1 (by decide) rfl rfl rfl (Nat.le_of_ble_eq_true rfl) ⟨Nat.le_of_ble_eq_true rfl, Nat.le_of_ble_eq_true rfl⟩ ⟨Nat.le_of_ble_eq_true rfl, Nat.le_of_ble_eq_true rfl⟩ dL_law_238 (fun r1 sh1 v1 N1 hp1 => ?_)
      obtain ⟨eN, q1, X1, X2, er, X3, X4, X5⟩ := hp1
      subst eN
      subst er
      obtain ⟨m1, m2⟩ := lw_m hw hm X5
      have hMD1 := zMD_sh hMD (fun b h1 h2 => X2 b (by omega))
      refine VV.c0 ?_
      refine VV.eq (st2 := [.int ((oSetWeight (xs (4 * k + 1)) (xs (4 * k + 2)) (M, h)).1)]) rfl ?_
      refine r_aload_n C (pc := 241) rfl rfl dL_law_241 ?_
      refine r_aload_n C (pc := 242) rfl rfl dL_law_242 ?_
      refine r_iload_n C (pc := 243) rfl rfl dL_law_243 ?_
      refine r_iconst C (pc := 244) (x := nI 1) (by decide) dL_law_244 ?_
      refine r_iadd C (pc := 245) (z := nI (4 * k + 1)) (nI_add _ _) dL_law_245 ?_
      refine r_sld C (pc := 246) hXs hbl hbA (by omega) (by omega) dL_law_246 ?_
      refine r_aload_n C (pc := 247) rfl rfl dL_law_247 ?_
      refine r_iload_n C (pc := 248) rfl rfl dL_law_248 ?_
      refine r_iconst C (pc := 249) (x := nI 2) (by decide) dL_law_249 ?_
      refine r_iadd C (pc := 250) (z := nI (4 * k + 2)) (nI_add _ _) dL_law_250 ?_
      refine r_sld C (pc := 251) hXs hbl hbA (by omega) (by omega) dL_law_251 ?_
      refine r_callV C (pc := 252) (st := [.int ((oSetWeight (xs (4 * k + 1)) (xs (4 * k + 2)) (M, h)).1)]) (m_X7_setWeight l G sh1 v1 N (a := (xs (4 * k + 1))) (b := (xs (4 * k + 2))) hMD1 m1 m2 hI hT) kyX7_setWeight q_724 rfl (Or.inl hd7) hMD1.2.2.1 (by decide) rfl rfl rfl (Nat.le_of_ble_eq_true rfl) ⟨Nat.le_of_ble_eq_true rfl, Nat.le_of_ble_eq_true rfl⟩ ⟨Nat.le_of_ble_eq_true rfl, Nat.le_of_ble_eq_true rfl⟩ dL_law_252 (fun r2 v2 hp2 => ?_)
      obtain ⟨er, Y1, Y2, Y3⟩ := hp2
      subst er
      obtain ⟨n1, n2⟩ := lw_x X1.2.2.2.2.2.2.2.2.2.2 X3 X4 Y3
      refine VV.eq (st2 := [.int ((oSetWeight (xs (4 * k + 1)) (xs (4 * k + 2)) (M, h)).1), .int ((oSetWeight (xs (4 * k + 1)) (xs (4 * k + 2)) (M, h)).1)]) rfl ?_
      exact r_icmp_eq C (pc := 255) (tgt := 708) dL_law_255 (by decide) (fun _ => nxt sh1 v2 q1 (oSetWeight (xs (4 * k + 1)) (xs (4 * k + 2)) (M, h)).2 ⟨hN, X1, hMD1, n1, n2, Y1, Y2⟩ (oSetWeight_I hI)) (fun z => absurd rfl z)
    · refine r_tableIn C (pc := 32) (off := 228) (tgt := 260) dL_law_32 (by decide) (by decide) rfl (by decide) ?_
      refine r_aload_n C (pc := 260) rfl rfl dL_law_260 ?_
      refine r_aload_n C (pc := 261) rfl rfl dL_law_261 ?_
      refine r_iload_n C (pc := 262) rfl rfl dL_law_262 ?_
      refine r_iconst C (pc := 263) (x := nI 1) (by decide) dL_law_263 ?_
      refine r_iadd C (pc := 264) (z := nI (4 * k + 1)) (nI_add _ _) dL_law_264 ?_
      refine r_sld C (pc := 265) hXs hbl hbA (by omega) (by omega) dL_law_265 ?_
      refine r_aload_n C (pc := 266) rfl rfl dL_law_266 ?_
      refine r_iload_n C (pc := 267) rfl rfl dL_law_267 ?_
      refine r_iconst C (pc := 268) (x := nI 2) (by decide) dL_law_268 ?_
      refine r_iadd C (pc := 269) (z := nI (4 * k + 2)) (nI_add _ _) dL_law_269 ?_
      refine r_sld C (pc := 270) hXs hbl hbA (by omega) (by omega) dL_law_270 ?_
      refine r_callVM C (pc := 271) (st := []) (m_X6_set l G sh v N (a := (xs (4 * k + 1))) (b := (xs (4 * k + 2))) hX hv hh hI hT) kyX6_set q_379 rfl (Or.inl hd6) hX.2.2.1 (by decide) rfl rfl rfl (Nat.le_of_ble_eq_true rfl) ⟨Nat.le_of_ble_eq_true rfl, Nat.le_of_ble_eq_true rfl⟩ ⟨Nat.le_of_ble_eq_true rfl, Nat.le_of_ble_eq_true rfl⟩ dL_law_271 (fun r1 sh1 v1 N1 hp1 => ?_)
      obtain ⟨eN, q1, X1, X2, er, X3, X4, X5⟩ := hp1
      subst eN
      subst er
      obtain ⟨m1, m2⟩ := lw_m hw hm X5
      have hMD1 := zMD_sh hMD (fun b h1 h2 => X2 b (by omega))
      refine VV.c0 ?_
      refine VV.eq (st2 := [.int ((oSet (xs (4 * k + 1)) (xs (4 * k + 2)) (M, h)).1)]) rfl ?_
      refine r_aload_n C (pc := 274) rfl rfl dL_law_274 ?_
      refine r_aload_n C (pc := 275) rfl rfl dL_law_275 ?_
      refine r_iload_n C (pc := 276) rfl rfl dL_law_276 ?_
      refine r_iconst C (pc := 277) (x := nI 1) (by decide) dL_law_277 ?_
      refine r_iadd C (pc := 278) (z := nI (4 * k + 1)) (nI_add _ _) dL_law_278 ?_
      refine r_sld C (pc := 279) hXs hbl hbA (by omega) (by omega) dL_law_279 ?_
      refine r_aload_n C (pc := 280) rfl rfl dL_law_280 ?_
      refine r_iload_n C (pc := 281) rfl rfl dL_law_281 ?_
      refine r_iconst C (pc := 282) (x := nI 2) (by decide) dL_law_282 ?_
      refine r_iadd C (pc := 283) (z := nI (4 * k + 2)) (nI_add _ _) dL_law_283 ?_
      refine r_sld C (pc := 284) hXs hbl hbA (by omega) (by omega) dL_law_284 ?_
      refine r_callV C (pc := 285) (st := [.int ((oSet (xs (4 * k + 1)) (xs (4 * k + 2)) (M, h)).1)]) (m_X7_set l G sh1 v1 N (a := (xs (4 * k + 1))) (b := (xs (4 * k + 2))) hMD1 m1 m2 hI hT) kyX7_set q_732 rfl (Or.inl hd7) hMD1.2.2.1 (by decide) rfl rfl rfl (Nat.le_of_ble_eq_true rfl) ⟨Nat.le_of_ble_eq_true rfl, Nat.le_of_ble_eq_true rfl⟩ ⟨Nat.le_of_ble_eq_true rfl, Nat.le_of_ble_eq_true rfl⟩ dL_law_285 (fun r2 v2 hp2 => ?_)
      obtain ⟨er, Y1, Y2, Y3⟩ := hp2
      subst er
      obtain ⟨n1, n2⟩ := lw_x X1.2.2.2.2.2.2.2.2.2.2 X3 X4 Y3
      refine VV.eq (st2 := [.int ((oSet (xs (4 * k + 1)) (xs (4 * k + 2)) (M, h)).1), .int ((oSet (xs (4 * k + 1)) (xs (4 * k + 2)) (M, h)).1)]) rfl ?_
      exact r_icmp_eq C (pc := 288) (tgt := 708) dL_law_288 (by decide) (fun _ => nxt sh1 v2 q1 (oSet (xs (4 * k + 1)) (xs (4 * k + 2)) (M, h)).2 ⟨hN, X1, hMD1, n1, n2, Y1, Y2⟩ (oSet_I hI)) (fun z => absurd rfl z)
    · refine r_tableIn C (pc := 32) (off := 261) (tgt := 293) dL_law_32 (by decide) (by decide) rfl (by decide) ?_
      refine r_aload_n C (pc := 293) rfl rfl dL_law_293 ?_
      refine r_aload_n C (pc := 294) rfl rfl dL_law_294 ?_
      refine r_iload_n C (pc := 295) rfl rfl dL_law_295 ?_
      refine r_iconst C (pc := 296) (x := nI 1) (by decide) dL_law_296 ?_
      refine r_iadd C (pc := 297) (z := nI (4 * k + 1)) (nI_add _ _) dL_law_297 ?_
      refine r_sld C (pc := 298) hXs hbl hbA (by omega) (by omega) dL_law_298 ?_
      refine r_callVM C (pc := 299) (st := []) (m_X6_run l G sh v N (a := (xs (4 * k + 1))) hX hv hh hI hT) kyX6_run q_410 rfl (Or.inl hd6) hX.2.2.1 (by decide) rfl rfl rfl (Nat.le_of_ble_eq_true rfl) ⟨Nat.le_of_ble_eq_true rfl, Nat.le_of_ble_eq_true rfl⟩ ⟨Nat.le_of_ble_eq_true rfl, Nat.le_of_ble_eq_true rfl⟩ dL_law_299 (fun r1 sh1 v1 N1 hp1 => ?_)
      obtain ⟨eN, q1, X1, X2, er, X3, X4, X5⟩ := hp1
      subst eN
      subst er
      obtain ⟨m1, m2⟩ := lw_m hw hm X5
      have hMD1 := zMD_sh hMD (fun b h1 h2 => X2 b (by omega))
      refine VV.c0 ?_
      refine VV.eq (st2 := [.int ((oRun (xs (4 * k + 1)) (M, h)).1)]) rfl ?_
      refine r_aload_n C (pc := 302) rfl rfl dL_law_302 ?_
      refine r_aload_n C (pc := 303) rfl rfl dL_law_303 ?_
      refine r_iload_n C (pc := 304) rfl rfl dL_law_304 ?_
      refine r_iconst C (pc := 305) (x := nI 1) (by decide) dL_law_305 ?_
      refine r_iadd C (pc := 306) (z := nI (4 * k + 1)) (nI_add _ _) dL_law_306 ?_
      refine r_sld C (pc := 307) hXs hbl hbA (by omega) (by omega) dL_law_307 ?_
      refine r_callV C (pc := 308) (st := [.int ((oRun (xs (4 * k + 1)) (M, h)).1)]) (m_X7_run l G sh1 v1 N (a := (xs (4 * k + 1))) hMD1 m1 m2 hI hT) kyX7_run q_746 rfl (Or.inl hd7) hMD1.2.2.1 (by decide) rfl rfl rfl (Nat.le_of_ble_eq_true rfl) ⟨Nat.le_of_ble_eq_true rfl, Nat.le_of_ble_eq_true rfl⟩ ⟨Nat.le_of_ble_eq_true rfl, Nat.le_of_ble_eq_true rfl⟩ dL_law_308 (fun r2 v2 hp2 => ?_)
      obtain ⟨er, Y1, Y2, Y3⟩ := hp2
      subst er
      obtain ⟨n1, n2⟩ := lw_x X1.2.2.2.2.2.2.2.2.2.2 X3 X4 Y3
      refine VV.eq (st2 := [.int ((oRun (xs (4 * k + 1)) (M, h)).1), .int ((oRun (xs (4 * k + 1)) (M, h)).1)]) rfl ?_
      exact r_icmp_eq C (pc := 311) (tgt := 708) dL_law_311 (by decide) (fun _ => nxt sh1 v2 q1 (oRun (xs (4 * k + 1)) (M, h)).2 ⟨hN, X1, hMD1, n1, n2, Y1, Y2⟩ (oRun_I hI)) (fun z => absurd rfl z)
    · refine r_tableIn C (pc := 32) (off := 284) (tgt := 316) dL_law_32 (by decide) (by decide) rfl (by decide) ?_
      refine r_aload_n C (pc := 316) rfl rfl dL_law_316 ?_
      refine r_aload_n C (pc := 317) rfl rfl dL_law_317 ?_
      refine r_iload_n C (pc := 318) rfl rfl dL_law_318 ?_
      refine r_iconst C (pc := 319) (x := nI 1) (by decide) dL_law_319 ?_
      refine r_iadd C (pc := 320) (z := nI (4 * k + 1)) (nI_add _ _) dL_law_320 ?_
      refine r_sld C (pc := 321) hXs hbl hbA (by omega) (by omega) dL_law_321 ?_
      refine r_callVM C (pc := 322) (st := []) (m_X6_inject l G sh v N (a := (xs (4 * k + 1))) hX hv hh hI hT) kyX6_inject q_555 rfl (Or.inl hd6) hX.2.2.1 (by decide) rfl rfl rfl (Nat.le_of_ble_eq_true rfl) ⟨Nat.le_of_ble_eq_true rfl, Nat.le_of_ble_eq_true rfl⟩ ⟨Nat.le_of_ble_eq_true rfl, Nat.le_of_ble_eq_true rfl⟩ dL_law_322 (fun r1 sh1 v1 N1 hp1 => ?_)
      obtain ⟨eN, q1, X1, X2, er, X3, X4, X5⟩ := hp1
      subst eN
      subst er
      obtain ⟨m1, m2⟩ := lw_m hw hm X5
      have hMD1 := zMD_sh hMD (fun b h1 h2 => X2 b (by omega))
      refine VV.c0 ?_
      refine VV.eq (st2 := [.int ((oInject (xs (4 * k + 1)) (M, h)).1)]) rfl ?_
      refine r_aload_n C (pc := 325) rfl rfl dL_law_325 ?_
      refine r_aload_n C (pc := 326) rfl rfl dL_law_326 ?_
      refine r_iload_n C (pc := 327) rfl rfl dL_law_327 ?_
      refine r_iconst C (pc := 328) (x := nI 1) (by decide) dL_law_328 ?_
      refine r_iadd C (pc := 329) (z := nI (4 * k + 1)) (nI_add _ _) dL_law_329 ?_
      refine r_sld C (pc := 330) hXs hbl hbA (by omega) (by omega) dL_law_330 ?_
      refine r_callV C (pc := 331) (st := [.int ((oInject (xs (4 * k + 1)) (M, h)).1)]) (m_X7_inject l G sh1 v1 N (a := (xs (4 * k + 1))) hMD1 m1 m2 hI hT) kyX7_inject q_832 rfl (Or.inl hd7) hMD1.2.2.1 (by decide) rfl rfl rfl (Nat.le_of_ble_eq_true rfl) ⟨Nat.le_of_ble_eq_true rfl, Nat.le_of_ble_eq_true rfl⟩ ⟨Nat.le_of_ble_eq_true rfl, Nat.le_of_ble_eq_true rfl⟩ dL_law_331 (fun r2 v2 hp2 => ?_)
      obtain ⟨er, Y1, Y2, Y3⟩ := hp2
      subst er
      obtain ⟨n1, n2⟩ := lw_x X1.2.2.2.2.2.2.2.2.2.2 X3 X4 Y3
      refine VV.eq (st2 := [.int ((oInject (xs (4 * k + 1)) (M, h)).1), .int ((oInject (xs (4 * k + 1)) (M, h)).1)]) rfl ?_
      exact r_icmp_eq C (pc := 334) (tgt := 708) dL_law_334 (by decide) (fun _ => nxt sh1 v2 q1 (oInject (xs (4 * k + 1)) (M, h)).2 ⟨hN, X1, hMD1, n1, n2, Y1, Y2⟩ (oInject_I hI)) (fun z => absurd rfl z)
    · refine r_tableIn C (pc := 32) (off := 307) (tgt := 339) dL_law_32 (by decide) (by decide) rfl (by decide) ?_
      refine r_aload_n C (pc := 339) rfl rfl dL_law_339 ?_
      refine r_callVM C (pc := 340) (st := []) (m_X6_undo l G sh v N hX hv hh hI hT) kyX6_undo q_565 rfl (Or.inl hd6) hX.2.2.1 (by decide) rfl rfl rfl (Nat.le_of_ble_eq_true rfl) ⟨Nat.le_of_ble_eq_true rfl, Nat.le_of_ble_eq_true rfl⟩ ⟨Nat.le_of_ble_eq_true rfl, Nat.le_of_ble_eq_true rfl⟩ dL_law_340 (fun r1 sh1 v1 N1 hp1 => ?_)
      obtain ⟨eN, q1, X1, X2, er, X3, X4, X5⟩ := hp1
      subst eN
      subst er
      obtain ⟨m1, m2⟩ := lw_m hw hm X5
      have hMD1 := zMD_sh hMD (fun b h1 h2 => X2 b (by omega))
      refine VV.c0 ?_
      refine VV.eq (st2 := [.int ((oUndo (M, h)).1)]) rfl ?_
      refine r_aload_n C (pc := 343) rfl rfl dL_law_343 ?_
      refine r_callV C (pc := 344) (st := [.int ((oUndo (M, h)).1)]) (m_X7_undo l G sh1 v1 N  hMD1 m1 m2) kyX7_undo q_840 rfl (Or.inl hd7) hMD1.2.2.1 (by decide) rfl rfl rfl (Nat.le_of_ble_eq_true rfl) ⟨Nat.le_of_ble_eq_true rfl, Nat.le_of_ble_eq_true rfl⟩ ⟨Nat.le_of_ble_eq_true rfl, Nat.le_of_ble_eq_true rfl⟩ dL_law_344 (fun r2 v2 hp2 => ?_)
      obtain ⟨er, Y1, Y2, Y3⟩ := hp2
      subst er
      obtain ⟨n1, n2⟩ := lw_x X1.2.2.2.2.2.2.2.2.2.2 X3 X4 Y3
      refine VV.eq (st2 := [.int ((oUndo (M, h)).1), .int ((oUndo (M, h)).1)]) rfl ?_
      exact r_icmp_eq C (pc := 347) (tgt := 708) dL_law_347 (by decide) (fun _ => nxt sh1 v2 q1 (oUndo (M, h)).2 ⟨hN, X1, hMD1, n1, n2, Y1, Y2⟩ (oUndo_I hI)) (fun z => absurd rfl z)
    · refine r_tableIn C (pc := 32) (off := 320) (tgt := 352) dL_law_32 (by decide) (by decide) rfl (by decide) ?_
      refine r_aload_n C (pc := 352) rfl rfl dL_law_352 ?_
      refine r_aload_n C (pc := 353) rfl rfl dL_law_353 ?_
      refine r_iload_n C (pc := 354) rfl rfl dL_law_354 ?_
      refine r_iconst C (pc := 355) (x := nI 1) (by decide) dL_law_355 ?_
      refine r_iadd C (pc := 356) (z := nI (4 * k + 1)) (nI_add _ _) dL_law_356 ?_
      refine r_sld C (pc := 357) hXs hbl hbA (by omega) (by omega) dL_law_357 ?_
      refine r_callV C (pc := 358) (st := []) (m_X6_told l G sh v N (a := (xs (4 * k + 1))) hX hv hh hI hT) kyX6_told q_569 rfl (Or.inl hd6) hX.2.2.1 (by decide) rfl rfl rfl (Nat.le_of_ble_eq_true rfl) ⟨Nat.le_of_ble_eq_true rfl, Nat.le_of_ble_eq_true rfl⟩ ⟨Nat.le_of_ble_eq_true rfl, Nat.le_of_ble_eq_true rfl⟩ dL_law_358 (fun r1 v1 hp1 => ?_)
      obtain ⟨er, X3, X4, X5⟩ := hp1
      subst er
      obtain ⟨m1, m2⟩ := lw_m hw hm X5
      refine VV.eq (st2 := [.int (qTold (xs (4 * k + 1)) (M, h))]) rfl ?_
      refine r_aload_n C (pc := 361) rfl rfl dL_law_361 ?_
      refine r_aload_n C (pc := 362) rfl rfl dL_law_362 ?_
      refine r_iload_n C (pc := 363) rfl rfl dL_law_363 ?_
      refine r_iconst C (pc := 364) (x := nI 1) (by decide) dL_law_364 ?_
      refine r_iadd C (pc := 365) (z := nI (4 * k + 1)) (nI_add _ _) dL_law_365 ?_
      refine r_sld C (pc := 366) hXs hbl hbA (by omega) (by omega) dL_law_366 ?_
      refine r_callV C (pc := 367) (st := [.int (qTold (xs (4 * k + 1)) (M, h))]) (m_X7_told l G sh v1 N (a := (xs (4 * k + 1))) hMD m1 m2 hI hT) kyX7_told q_844 rfl (Or.inl hd7) hMD.2.2.1 (by decide) rfl rfl rfl (Nat.le_of_ble_eq_true rfl) ⟨Nat.le_of_ble_eq_true rfl, Nat.le_of_ble_eq_true rfl⟩ ⟨Nat.le_of_ble_eq_true rfl, Nat.le_of_ble_eq_true rfl⟩ dL_law_367 (fun r2 v2 hp2 => ?_)
      obtain ⟨er, Y1, Y2, Y3⟩ := hp2
      subst er
      obtain ⟨n1, n2⟩ := lw_x hX.2.2.2.2.2.2.2.2.2.2 X3 X4 Y3
      refine VV.eq (st2 := [.int (qTold (xs (4 * k + 1)) (M, h)), .int (qTold (xs (4 * k + 1)) (M, h))]) rfl ?_
      exact r_icmp_eq C (pc := 370) (tgt := 708) dL_law_370 (by decide) (fun _ => nxt sh v2 q (M, h) ⟨hN, hX, hMD, n1, n2, Y1, Y2⟩ (zI_same hI)) (fun z => absurd rfl z)
    · refine r_tableIn C (pc := 32) (off := 343) (tgt := 375) dL_law_32 (by decide) (by decide) rfl (by decide) ?_
      refine r_aload_n C (pc := 375) rfl rfl dL_law_375 ?_
      refine r_aload_n C (pc := 376) rfl rfl dL_law_376 ?_
      refine r_iload_n C (pc := 377) rfl rfl dL_law_377 ?_
      refine r_iconst C (pc := 378) (x := nI 1) (by decide) dL_law_378 ?_
      refine r_iadd C (pc := 379) (z := nI (4 * k + 1)) (nI_add _ _) dL_law_379 ?_
      refine r_sld C (pc := 380) hXs hbl hbA (by omega) (by omega) dL_law_380 ?_
      refine r_aload_n C (pc := 381) rfl rfl dL_law_381 ?_
      refine r_iload_n C (pc := 382) rfl rfl dL_law_382 ?_
      refine r_iconst C (pc := 383) (x := nI 2) (by decide) dL_law_383 ?_
      refine r_iadd C (pc := 384) (z := nI (4 * k + 2)) (nI_add _ _) dL_law_384 ?_
      refine r_sld C (pc := 385) hXs hbl hbA (by omega) (by omega) dL_law_385 ?_
      refine r_callV C (pc := 386) (st := []) (m_X6_block l G sh v N (a := (xs (4 * k + 1))) (b := (xs (4 * k + 2))) hX hv hh hI hT) kyX6_block q_573 rfl (Or.inl hd6) hX.2.2.1 (by decide) rfl rfl rfl (Nat.le_of_ble_eq_true rfl) ⟨Nat.le_of_ble_eq_true rfl, Nat.le_of_ble_eq_true rfl⟩ ⟨Nat.le_of_ble_eq_true rfl, Nat.le_of_ble_eq_true rfl⟩ dL_law_386 (fun r1 v1 hp1 => ?_)
      obtain ⟨er, X3, X4, X5⟩ := hp1
      subst er
      obtain ⟨m1, m2⟩ := lw_m hw hm X5
      refine VV.eq (st2 := [.int (qBlock (xs (4 * k + 1)) (xs (4 * k + 2)) (M, h))]) rfl ?_
      refine r_aload_n C (pc := 389) rfl rfl dL_law_389 ?_
      refine r_aload_n C (pc := 390) rfl rfl dL_law_390 ?_
      refine r_iload_n C (pc := 391) rfl rfl dL_law_391 ?_
      refine r_iconst C (pc := 392) (x := nI 1) (by decide) dL_law_392 ?_
      refine r_iadd C (pc := 393) (z := nI (4 * k + 1)) (nI_add _ _) dL_law_393 ?_
      refine r_sld C (pc := 394) hXs hbl hbA (by omega) (by omega) dL_law_394 ?_
      refine r_aload_n C (pc := 395) rfl rfl dL_law_395 ?_
      refine r_iload_n C (pc := 396) rfl rfl dL_law_396 ?_
      refine r_iconst C (pc := 397) (x := nI 2) (by decide) dL_law_397 ?_
      refine r_iadd C (pc := 398) (z := nI (4 * k + 2)) (nI_add _ _) dL_law_398 ?_
      refine r_sld C (pc := 399) hXs hbl hbA (by omega) (by omega) dL_law_399 ?_
      refine r_callV C (pc := 400) (st := [.int (qBlock (xs (4 * k + 1)) (xs (4 * k + 2)) (M, h))]) (m_X7_block l G sh v1 N (a := (xs (4 * k + 1))) (b := (xs (4 * k + 2))) hMD m1 m2 hI hT) kyX7_block q_856 rfl (Or.inl hd7) hMD.2.2.1 (by decide) rfl rfl rfl (Nat.le_of_ble_eq_true rfl) ⟨Nat.le_of_ble_eq_true rfl, Nat.le_of_ble_eq_true rfl⟩ ⟨Nat.le_of_ble_eq_true rfl, Nat.le_of_ble_eq_true rfl⟩ dL_law_400 (fun r2 v2 hp2 => ?_)
      obtain ⟨er, Y1, Y2, Y3⟩ := hp2
      subst er
      obtain ⟨n1, n2⟩ := lw_x hX.2.2.2.2.2.2.2.2.2.2 X3 X4 Y3
      refine VV.eq (st2 := [.int (qBlock (xs (4 * k + 1)) (xs (4 * k + 2)) (M, h)), .int (qBlock (xs (4 * k + 1)) (xs (4 * k + 2)) (M, h))]) rfl ?_
      exact r_icmp_eq C (pc := 403) (tgt := 708) dL_law_403 (by decide) (fun _ => nxt sh v2 q (M, h) ⟨hN, hX, hMD, n1, n2, Y1, Y2⟩ (zI_same hI)) (fun z => absurd rfl z)
    · refine r_tableIn C (pc := 32) (off := 376) (tgt := 408) dL_law_32 (by decide) (by decide) rfl (by decide) ?_
      refine r_aload_n C (pc := 408) rfl rfl dL_law_408 ?_
      refine r_aload_n C (pc := 409) rfl rfl dL_law_409 ?_
      refine r_iload_n C (pc := 410) rfl rfl dL_law_410 ?_
      refine r_iconst C (pc := 411) (x := nI 1) (by decide) dL_law_411 ?_
      refine r_iadd C (pc := 412) (z := nI (4 * k + 1)) (nI_add _ _) dL_law_412 ?_
      refine r_sld C (pc := 413) hXs hbl hbA (by omega) (by omega) dL_law_413 ?_
      refine r_aload_n C (pc := 414) rfl rfl dL_law_414 ?_
      refine r_iload_n C (pc := 415) rfl rfl dL_law_415 ?_
      refine r_iconst C (pc := 416) (x := nI 2) (by decide) dL_law_416 ?_
      refine r_iadd C (pc := 417) (z := nI (4 * k + 2)) (nI_add _ _) dL_law_417 ?_
      refine r_sld C (pc := 418) hXs hbl hbA (by omega) (by omega) dL_law_418 ?_
      refine r_aload_n C (pc := 419) rfl rfl dL_law_419 ?_
      refine r_iload_n C (pc := 420) rfl rfl dL_law_420 ?_
      refine r_iconst C (pc := 421) (x := nI 3) (by decide) dL_law_421 ?_
      refine r_iadd C (pc := 422) (z := nI (4 * k + 3)) (nI_add _ _) dL_law_422 ?_
      refine r_sld C (pc := 423) hXs hbl hbA (by omega) (by omega) dL_law_423 ?_
      refine r_callV C (pc := 424) (st := []) (m_X6_packet l G sh v N (a := (xs (4 * k + 1))) (b := (xs (4 * k + 2))) (c1 := (xs (4 * k + 3))) hX hv hh hI hT) kyX6_packet q_586 rfl (Or.inl hd6) hX.2.2.1 (by decide) rfl rfl rfl (Nat.le_of_ble_eq_true rfl) ⟨Nat.le_of_ble_eq_true rfl, Nat.le_of_ble_eq_true rfl⟩ ⟨Nat.le_of_ble_eq_true rfl, Nat.le_of_ble_eq_true rfl⟩ dL_law_424 (fun r1 v1 hp1 => ?_)
      obtain ⟨er, X3, X4, X5⟩ := hp1
      subst er
      obtain ⟨m1, m2⟩ := lw_m hw hm X5
      refine VV.eq (st2 := [.int (qPacket (xs (4 * k + 1)) (xs (4 * k + 2)) (xs (4 * k + 3)) (M, h))]) rfl ?_
      refine r_aload_n C (pc := 427) rfl rfl dL_law_427 ?_
      refine r_aload_n C (pc := 428) rfl rfl dL_law_428 ?_
      refine r_iload_n C (pc := 429) rfl rfl dL_law_429 ?_
      refine r_iconst C (pc := 430) (x := nI 1) (by decide) dL_law_430 ?_
      refine r_iadd C (pc := 431) (z := nI (4 * k + 1)) (nI_add _ _) dL_law_431 ?_
      refine r_sld C (pc := 432) hXs hbl hbA (by omega) (by omega) dL_law_432 ?_
      refine r_aload_n C (pc := 433) rfl rfl dL_law_433 ?_
      refine r_iload_n C (pc := 434) rfl rfl dL_law_434 ?_
      refine r_iconst C (pc := 435) (x := nI 2) (by decide) dL_law_435 ?_
      refine r_iadd C (pc := 436) (z := nI (4 * k + 2)) (nI_add _ _) dL_law_436 ?_
      refine r_sld C (pc := 437) hXs hbl hbA (by omega) (by omega) dL_law_437 ?_
      refine r_aload_n C (pc := 438) rfl rfl dL_law_438 ?_
      refine r_iload_n C (pc := 439) rfl rfl dL_law_439 ?_
      refine r_iconst C (pc := 440) (x := nI 3) (by decide) dL_law_440 ?_
      refine r_iadd C (pc := 441) (z := nI (4 * k + 3)) (nI_add _ _) dL_law_441 ?_
      refine r_sld C (pc := 442) hXs hbl hbA (by omega) (by omega) dL_law_442 ?_
      refine r_callV C (pc := 443) (st := [.int (qPacket (xs (4 * k + 1)) (xs (4 * k + 2)) (xs (4 * k + 3)) (M, h))]) (m_X7_packet l G sh v1 N (a := (xs (4 * k + 1))) (b := (xs (4 * k + 2))) (c1 := (xs (4 * k + 3))) hMD m1 m2 hI hT) kyX7_packet q_860 rfl (Or.inl hd7) hMD.2.2.1 (by decide) rfl rfl rfl (Nat.le_of_ble_eq_true rfl) ⟨Nat.le_of_ble_eq_true rfl, Nat.le_of_ble_eq_true rfl⟩ ⟨Nat.le_of_ble_eq_true rfl, Nat.le_of_ble_eq_true rfl⟩ dL_law_443 (fun r2 v2 hp2 => ?_)
      obtain ⟨er, Y1, Y2, Y3⟩ := hp2
      subst er
      obtain ⟨n1, n2⟩ := lw_x hX.2.2.2.2.2.2.2.2.2.2 X3 X4 Y3
      refine VV.eq (st2 := [.int (qPacket (xs (4 * k + 1)) (xs (4 * k + 2)) (xs (4 * k + 3)) (M, h)), .int (qPacket (xs (4 * k + 1)) (xs (4 * k + 2)) (xs (4 * k + 3)) (M, h))]) rfl ?_
      exact r_icmp_eq C (pc := 446) (tgt := 708) dL_law_446 (by decide) (fun _ => nxt sh v2 q (M, h) ⟨hN, hX, hMD, n1, n2, Y1, Y2⟩ (zI_same hI)) (fun z => absurd rfl z)
    · refine r_tableIn C (pc := 32) (off := 419) (tgt := 451) dL_law_32 (by decide) (by decide) rfl (by decide) ?_
      refine r_aload_n C (pc := 451) rfl rfl dL_law_451 ?_
      refine r_aload_n C (pc := 452) rfl rfl dL_law_452 ?_
      refine r_iload_n C (pc := 453) rfl rfl dL_law_453 ?_
      refine r_iconst C (pc := 454) (x := nI 1) (by decide) dL_law_454 ?_
      refine r_iadd C (pc := 455) (z := nI (4 * k + 1)) (nI_add _ _) dL_law_455 ?_
      refine r_sld C (pc := 456) hXs hbl hbA (by omega) (by omega) dL_law_456 ?_
      refine r_aload_n C (pc := 457) rfl rfl dL_law_457 ?_
      refine r_iload_n C (pc := 458) rfl rfl dL_law_458 ?_
      refine r_iconst C (pc := 459) (x := nI 2) (by decide) dL_law_459 ?_
      refine r_iadd C (pc := 460) (z := nI (4 * k + 2)) (nI_add _ _) dL_law_460 ?_
      refine r_sld C (pc := 461) hXs hbl hbA (by omega) (by omega) dL_law_461 ?_
      refine r_callV C (pc := 462) (st := []) (m_X6_waiting l G sh v N (b := (xs (4 * k + 1))) (c1 := (xs (4 * k + 2))) hX hv hh hI hT) kyX6_waiting q_598 rfl (Or.inl hd6) hX.2.2.1 (by decide) rfl rfl rfl (Nat.le_of_ble_eq_true rfl) ⟨Nat.le_of_ble_eq_true rfl, Nat.le_of_ble_eq_true rfl⟩ ⟨Nat.le_of_ble_eq_true rfl, Nat.le_of_ble_eq_true rfl⟩ dL_law_462 (fun r1 v1 hp1 => ?_)
      obtain ⟨er, X3, X4, X5⟩ := hp1
      subst er
      obtain ⟨m1, m2⟩ := lw_m hw hm X5
      refine VV.eq (st2 := [.int (qWaiting (xs (4 * k + 1)) (xs (4 * k + 2)) (M, h))]) rfl ?_
      refine r_aload_n C (pc := 465) rfl rfl dL_law_465 ?_
      refine r_aload_n C (pc := 466) rfl rfl dL_law_466 ?_
      refine r_iload_n C (pc := 467) rfl rfl dL_law_467 ?_
      refine r_iconst C (pc := 468) (x := nI 1) (by decide) dL_law_468 ?_
      refine r_iadd C (pc := 469) (z := nI (4 * k + 1)) (nI_add _ _) dL_law_469 ?_
      refine r_sld C (pc := 470) hXs hbl hbA (by omega) (by omega) dL_law_470 ?_
      refine r_aload_n C (pc := 471) rfl rfl dL_law_471 ?_
      refine r_iload_n C (pc := 472) rfl rfl dL_law_472 ?_
      refine r_iconst C (pc := 473) (x := nI 2) (by decide) dL_law_473 ?_
      refine r_iadd C (pc := 474) (z := nI (4 * k + 2)) (nI_add _ _) dL_law_474 ?_
      refine r_sld C (pc := 475) hXs hbl hbA (by omega) (by omega) dL_law_475 ?_
      refine r_callV C (pc := 476) (st := [.int (qWaiting (xs (4 * k + 1)) (xs (4 * k + 2)) (M, h))]) (m_X7_waiting l G sh v1 N (b := (xs (4 * k + 1))) (c1 := (xs (4 * k + 2))) hMD m1 m2 hI hT) kyX7_waiting q_876 rfl (Or.inl hd7) hMD.2.2.1 (by decide) rfl rfl rfl (Nat.le_of_ble_eq_true rfl) ⟨Nat.le_of_ble_eq_true rfl, Nat.le_of_ble_eq_true rfl⟩ ⟨Nat.le_of_ble_eq_true rfl, Nat.le_of_ble_eq_true rfl⟩ dL_law_476 (fun r2 v2 hp2 => ?_)
      obtain ⟨er, Y1, Y2, Y3⟩ := hp2
      subst er
      obtain ⟨n1, n2⟩ := lw_x hX.2.2.2.2.2.2.2.2.2.2 X3 X4 Y3
      refine VV.eq (st2 := [.int (qWaiting (xs (4 * k + 1)) (xs (4 * k + 2)) (M, h)), .int (qWaiting (xs (4 * k + 1)) (xs (4 * k + 2)) (M, h))]) rfl ?_
      exact r_icmp_eq C (pc := 479) (tgt := 708) dL_law_479 (by decide) (fun _ => nxt sh v2 q (M, h) ⟨hN, hX, hMD, n1, n2, Y1, Y2⟩ (zI_same hI)) (fun z => absurd rfl z)
    · refine r_tableIn C (pc := 32) (off := 452) (tgt := 484) dL_law_32 (by decide) (by decide) rfl (by decide) ?_
      refine r_aload_n C (pc := 484) rfl rfl dL_law_484 ?_
      refine r_aload_n C (pc := 485) rfl rfl dL_law_485 ?_
      refine r_iload_n C (pc := 486) rfl rfl dL_law_486 ?_
      refine r_iconst C (pc := 487) (x := nI 1) (by decide) dL_law_487 ?_
      refine r_iadd C (pc := 488) (z := nI (4 * k + 1)) (nI_add _ _) dL_law_488 ?_
      refine r_sld C (pc := 489) hXs hbl hbA (by omega) (by omega) dL_law_489 ?_
      refine r_aload_n C (pc := 490) rfl rfl dL_law_490 ?_
      refine r_iload_n C (pc := 491) rfl rfl dL_law_491 ?_
      refine r_iconst C (pc := 492) (x := nI 2) (by decide) dL_law_492 ?_
      refine r_iadd C (pc := 493) (z := nI (4 * k + 2)) (nI_add _ _) dL_law_493 ?_
      refine r_sld C (pc := 494) hXs hbl hbA (by omega) (by omega) dL_law_494 ?_
      refine r_callV C (pc := 495) (st := []) (m_X6_node l G sh v N (a := (xs (4 * k + 1))) (c1 := (xs (4 * k + 2))) hX hv hh hI hT) kyX6_node q_602 rfl (Or.inl hd6) hX.2.2.1 (by decide) rfl rfl rfl (Nat.le_of_ble_eq_true rfl) ⟨Nat.le_of_ble_eq_true rfl, Nat.le_of_ble_eq_true rfl⟩ ⟨Nat.le_of_ble_eq_true rfl, Nat.le_of_ble_eq_true rfl⟩ dL_law_495 (fun r1 v1 hp1 => ?_)
      obtain ⟨er, X3, X4, X5⟩ := hp1
      subst er
      obtain ⟨m1, m2⟩ := lw_m hw hm X5
      refine VV.eq (st2 := [.int (qNode (xs (4 * k + 1)) (xs (4 * k + 2)) (M, h))]) rfl ?_
      refine r_aload_n C (pc := 498) rfl rfl dL_law_498 ?_
      refine r_aload_n C (pc := 499) rfl rfl dL_law_499 ?_
      refine r_iload_n C (pc := 500) rfl rfl dL_law_500 ?_
      refine r_iconst C (pc := 501) (x := nI 1) (by decide) dL_law_501 ?_
      refine r_iadd C (pc := 502) (z := nI (4 * k + 1)) (nI_add _ _) dL_law_502 ?_
      refine r_sld C (pc := 503) hXs hbl hbA (by omega) (by omega) dL_law_503 ?_
      refine r_aload_n C (pc := 504) rfl rfl dL_law_504 ?_
      refine r_iload_n C (pc := 505) rfl rfl dL_law_505 ?_
      refine r_iconst C (pc := 506) (x := nI 2) (by decide) dL_law_506 ?_
      refine r_iadd C (pc := 507) (z := nI (4 * k + 2)) (nI_add _ _) dL_law_507 ?_
      refine r_sld C (pc := 508) hXs hbl hbA (by omega) (by omega) dL_law_508 ?_
      refine r_callV C (pc := 509) (st := [.int (qNode (xs (4 * k + 1)) (xs (4 * k + 2)) (M, h))]) (m_X7_node l G sh v1 N (a := (xs (4 * k + 1))) (c1 := (xs (4 * k + 2))) hMD m1 m2 hI hT) kyX7_node q_880 rfl (Or.inl hd7) hMD.2.2.1 (by decide) rfl rfl rfl (Nat.le_of_ble_eq_true rfl) ⟨Nat.le_of_ble_eq_true rfl, Nat.le_of_ble_eq_true rfl⟩ ⟨Nat.le_of_ble_eq_true rfl, Nat.le_of_ble_eq_true rfl⟩ dL_law_509 (fun r2 v2 hp2 => ?_)
      obtain ⟨er, Y1, Y2, Y3⟩ := hp2
      subst er
      obtain ⟨n1, n2⟩ := lw_x hX.2.2.2.2.2.2.2.2.2.2 X3 X4 Y3
      refine VV.eq (st2 := [.int (qNode (xs (4 * k + 1)) (xs (4 * k + 2)) (M, h)), .int (qNode (xs (4 * k + 1)) (xs (4 * k + 2)) (M, h))]) rfl ?_
      exact r_icmp_eq C (pc := 512) (tgt := 708) dL_law_512 (by decide) (fun _ => nxt sh v2 q (M, h) ⟨hN, hX, hMD, n1, n2, Y1, Y2⟩ (zI_same hI)) (fun z => absurd rfl z)
    · refine r_tableIn C (pc := 32) (off := 485) (tgt := 517) dL_law_32 (by decide) (by decide) rfl (by decide) ?_
      refine r_aload_n C (pc := 517) rfl rfl dL_law_517 ?_
      refine r_aload_n C (pc := 518) rfl rfl dL_law_518 ?_
      refine r_iload_n C (pc := 519) rfl rfl dL_law_519 ?_
      refine r_iconst C (pc := 520) (x := nI 1) (by decide) dL_law_520 ?_
      refine r_iadd C (pc := 521) (z := nI (4 * k + 1)) (nI_add _ _) dL_law_521 ?_
      refine r_sld C (pc := 522) hXs hbl hbA (by omega) (by omega) dL_law_522 ?_
      refine r_aload_n C (pc := 523) rfl rfl dL_law_523 ?_
      refine r_iload_n C (pc := 524) rfl rfl dL_law_524 ?_
      refine r_iconst C (pc := 525) (x := nI 2) (by decide) dL_law_525 ?_
      refine r_iadd C (pc := 526) (z := nI (4 * k + 2)) (nI_add _ _) dL_law_526 ?_
      refine r_sld C (pc := 527) hXs hbl hbA (by omega) (by omega) dL_law_527 ?_
      refine r_callV C (pc := 528) (st := []) (m_X6_novel l G sh v N (a := (xs (4 * k + 1))) (b := (xs (4 * k + 2))) hX hv hh hI hT) kyX6_novel q_607 rfl (Or.inl hd6) hX.2.2.1 (by decide) rfl rfl rfl (Nat.le_of_ble_eq_true rfl) ⟨Nat.le_of_ble_eq_true rfl, Nat.le_of_ble_eq_true rfl⟩ ⟨Nat.le_of_ble_eq_true rfl, Nat.le_of_ble_eq_true rfl⟩ dL_law_528 (fun r1 v1 hp1 => ?_)
      obtain ⟨er, X3, X4, X5⟩ := hp1
      subst er
      obtain ⟨m1, m2⟩ := lw_m hw hm X5
      refine VV.eq (st2 := [.int (qNovel (xs (4 * k + 1)) (xs (4 * k + 2)) (M, h))]) rfl ?_
      refine r_aload_n C (pc := 531) rfl rfl dL_law_531 ?_
      refine r_aload_n C (pc := 532) rfl rfl dL_law_532 ?_
      refine r_iload_n C (pc := 533) rfl rfl dL_law_533 ?_
      refine r_iconst C (pc := 534) (x := nI 1) (by decide) dL_law_534 ?_
      refine r_iadd C (pc := 535) (z := nI (4 * k + 1)) (nI_add _ _) dL_law_535 ?_
      refine r_sld C (pc := 536) hXs hbl hbA (by omega) (by omega) dL_law_536 ?_
      refine r_aload_n C (pc := 537) rfl rfl dL_law_537 ?_
      refine r_iload_n C (pc := 538) rfl rfl dL_law_538 ?_
      refine r_iconst C (pc := 539) (x := nI 2) (by decide) dL_law_539 ?_
      refine r_iadd C (pc := 540) (z := nI (4 * k + 2)) (nI_add _ _) dL_law_540 ?_
      refine r_sld C (pc := 541) hXs hbl hbA (by omega) (by omega) dL_law_541 ?_
      refine r_callV C (pc := 542) (st := [.int (qNovel (xs (4 * k + 1)) (xs (4 * k + 2)) (M, h))]) (m_X7_novel l G sh v1 N (a := (xs (4 * k + 1))) (b := (xs (4 * k + 2))) hMD m1 m2 hI hT) kyX7_novel q_884 rfl (Or.inl hd7) hMD.2.2.1 (by decide) rfl rfl rfl (Nat.le_of_ble_eq_true rfl) ⟨Nat.le_of_ble_eq_true rfl, Nat.le_of_ble_eq_true rfl⟩ ⟨Nat.le_of_ble_eq_true rfl, Nat.le_of_ble_eq_true rfl⟩ dL_law_542 (fun r2 v2 hp2 => ?_)
      obtain ⟨er, Y1, Y2, Y3⟩ := hp2
      subst er
      obtain ⟨n1, n2⟩ := lw_x hX.2.2.2.2.2.2.2.2.2.2 X3 X4 Y3
      refine VV.eq (st2 := [.int (qNovel (xs (4 * k + 1)) (xs (4 * k + 2)) (M, h)), .int (qNovel (xs (4 * k + 1)) (xs (4 * k + 2)) (M, h))]) rfl ?_
      exact r_icmp_eq C (pc := 545) (tgt := 708) dL_law_545 (by decide) (fun _ => nxt sh v2 q (M, h) ⟨hN, hX, hMD, n1, n2, Y1, Y2⟩ (zI_same hI)) (fun z => absurd rfl z)
    · refine r_tableIn C (pc := 32) (off := 518) (tgt := 550) dL_law_32 (by decide) (by decide) rfl (by decide) ?_
      refine r_aload_n C (pc := 550) rfl rfl dL_law_550 ?_
      refine r_callV C (pc := 551) (st := []) (m_X6_overhead l G sh v N hX hv hh hI hT) kyX6_overhead q_612 rfl (Or.inl hd6) hX.2.2.1 (by decide) rfl rfl rfl (Nat.le_of_ble_eq_true rfl) ⟨Nat.le_of_ble_eq_true rfl, Nat.le_of_ble_eq_true rfl⟩ ⟨Nat.le_of_ble_eq_true rfl, Nat.le_of_ble_eq_true rfl⟩ dL_law_551 (fun r1 v1 hp1 => ?_)
      obtain ⟨er, X3, X4, X5⟩ := hp1
      subst er
      obtain ⟨m1, m2⟩ := lw_m hw hm X5
      refine VV.eq (st2 := [.float (ovF M)]) rfl ?_
      refine r_f2d C (pc := 554) hov dL_law_554 ?_
      refine r_dstore C (pc := 555) (lv2 := [some (.ref b), some (.ref x), some (.ref (x + 340)), some (.int (nI (4 * k))), some (.double (FP.f2d (ovF M))), none, none, none]) (Nat.le_of_ble_eq_true rfl) (fun z _ hz => by first | (cases hz; done) | (cases hz; rfl)) rfl dL_law_555 ?_
      refine r_aload_n C (pc := 557) rfl rfl dL_law_557 ?_
      refine r_callV C (pc := 558) (st := []) (m_X7_overhead l G sh v1 N  hMD m1 m2 hI hT) kyX7_overhead q_888 rfl (Or.inl hd7) hMD.2.2.1 (by decide) rfl rfl rfl (Nat.le_of_ble_eq_true rfl) ⟨Nat.le_of_ble_eq_true rfl, Nat.le_of_ble_eq_true rfl⟩ ⟨Nat.le_of_ble_eq_true rfl, Nat.le_of_ble_eq_true rfl⟩ dL_law_558 (fun r2 v2 hp2 => ?_)
      obtain ⟨er, Y1, Y2, Y3⟩ := hp2
      subst er
      obtain ⟨n1, n2⟩ := lw_x hX.2.2.2.2.2.2.2.2.2.2 X3 X4 Y3
      refine VV.eq (st2 := [.float (ovF M)]) rfl ?_
      refine r_f2d C (pc := 561) hov dL_law_561 ?_
      refine r_dstore C (pc := 562) (lv2 := [some (.ref b), some (.ref x), some (.ref (x + 340)), some (.int (nI (4 * k))), some (.double (FP.f2d (ovF M))), none, some (.double (FP.f2d (ovF M))), none]) (Nat.le_of_ble_eq_true rfl) (fun z _ hz => by first | (cases hz; done) | (cases hz; rfl)) rfl dL_law_562 ?_
      have fin14 : VV p l e room_1 s m #[Value.ref b] below meth c 349 4336 (lw_Z below #[Value.ref b] s) G 8 sh v2 N 590 [some (.ref b), some (.ref x), some (.ref (x + 340)), some (.int (nI (4 * k))), some (.double (FP.f2d (ovF M))), none, some (.double (FP.f2d (ovF M))), none] [] := by
        refine r_goto C (pc := 590) (tgt := 708) dL_law_590 (by decide) ?_
        refine VV.fg 4 (lv2 := [some (.ref b), some (.ref x), some (.ref (x + 340)), some (.int (nI (4 * k))), none, none, some (.double (FP.f2d (ovF M))), none]) rfl ?_
        refine VV.fg 6 (lv2 := [some (.ref b), some (.ref x), some (.ref (x + 340)), some (.int (nI (4 * k))), none, none, none, none]) rfl ?_
        exact nxt sh v2 q (M, h) ⟨hN, hX, hMD, n1, n2, Y1, Y2⟩ (zI_same hI)
      refine r_dload C (pc := 564) rfl dL_law_564 ?_
      refine r_dload C (pc := 566) rfl dL_law_566 ?_
      refine r_dcmp C (pc := 568) dL_law_568 ?_
      refine r_if_eq C (pc := 569) (tgt := 590) dL_law_569 (by decide) (fun c1 => fin14) (fun c1 => ?_)
      refine r_dload C (pc := 572) rfl dL_law_572 ?_
      refine r_dload C (pc := 574) rfl dL_law_574 ?_
      refine r_dcmp C (pc := 576) dL_law_576 ?_
      refine r_if_eq C (pc := 577) (tgt := 588) dL_law_577 (by decide) (fun c2 => absurd c2 c1) (fun _ => ?_)
      refine r_dload C (pc := 580) rfl dL_law_580 ?_
      refine r_dload C (pc := 582) rfl dL_law_582 ?_
      refine r_dcmp C (pc := 584) dL_law_584 ?_
      exact r_if_ne C (pc := 585) (tgt := 590) dL_law_585 (by decide) (fun _ => fin14) (fun c2 => absurd c2 c1)
    · refine r_tableIn C (pc := 32) (off := 561) (tgt := 593) dL_law_32 (by decide) (by decide) rfl (by decide) ?_
      refine r_aload_n C (pc := 593) rfl rfl dL_law_593 ?_
      refine r_aload_n C (pc := 594) rfl rfl dL_law_594 ?_
      refine r_iload_n C (pc := 595) rfl rfl dL_law_595 ?_
      refine r_iconst C (pc := 596) (x := nI 1) (by decide) dL_law_596 ?_
      refine r_iadd C (pc := 597) (z := nI (4 * k + 1)) (nI_add _ _) dL_law_597 ?_
      refine r_sld C (pc := 598) hXs hbl hbA (by omega) (by omega) dL_law_598 ?_
      refine r_callV C (pc := 599) (st := []) (m_X6_forecast l G sh v N (a := (xs (4 * k + 1))) hX hv hh hI hT) kyX6_forecast q_616 rfl (Or.inl hd6) hX.2.2.1 (by decide) rfl rfl rfl (Nat.le_of_ble_eq_true rfl) ⟨Nat.le_of_ble_eq_true rfl, Nat.le_of_ble_eq_true rfl⟩ ⟨Nat.le_of_ble_eq_true rfl, Nat.le_of_ble_eq_true rfl⟩ dL_law_599 (fun r1 v1 hp1 => ?_)
      obtain ⟨er, X3, X4, X5⟩ := hp1
      subst er
      obtain ⟨m1, m2⟩ := lw_m hw hm X5
      refine VV.eq (st2 := [.int (qForecast (xs (4 * k + 1)) (M, h))]) rfl ?_
      refine r_aload_n C (pc := 602) rfl rfl dL_law_602 ?_
      refine r_aload_n C (pc := 603) rfl rfl dL_law_603 ?_
      refine r_iload_n C (pc := 604) rfl rfl dL_law_604 ?_
      refine r_iconst C (pc := 605) (x := nI 1) (by decide) dL_law_605 ?_
      refine r_iadd C (pc := 606) (z := nI (4 * k + 1)) (nI_add _ _) dL_law_606 ?_
      refine r_sld C (pc := 607) hXs hbl hbA (by omega) (by omega) dL_law_607 ?_
      refine r_callV C (pc := 608) (st := [.int (qForecast (xs (4 * k + 1)) (M, h))]) (m_X7_forecast l G sh v1 N (a := (xs (4 * k + 1))) hMD m1 m2 hI hT) kyX7_forecast q_892 rfl (Or.inl hd7) hMD.2.2.1 (by decide) rfl rfl rfl (Nat.le_of_ble_eq_true rfl) ⟨Nat.le_of_ble_eq_true rfl, Nat.le_of_ble_eq_true rfl⟩ ⟨Nat.le_of_ble_eq_true rfl, Nat.le_of_ble_eq_true rfl⟩ dL_law_608 (fun r2 v2 hp2 => ?_)
      obtain ⟨er, Y1, Y2, Y3⟩ := hp2
      subst er
      obtain ⟨n1, n2⟩ := lw_x hX.2.2.2.2.2.2.2.2.2.2 X3 X4 Y3
      refine VV.eq (st2 := [.int (qForecast (xs (4 * k + 1)) (M, h)), .int (qForecast (xs (4 * k + 1)) (M, h))]) rfl ?_
      exact r_icmp_eq C (pc := 611) (tgt := 708) dL_law_611 (by decide) (fun _ => nxt sh v2 q (M, h) ⟨hN, hX, hMD, n1, n2, Y1, Y2⟩ (zI_same hI)) (fun z => absurd rfl z)
    · refine r_tableIn C (pc := 32) (off := 584) (tgt := 616) dL_law_32 (by decide) (by decide) rfl (by decide) ?_
      refine r_aload_n C (pc := 616) rfl rfl dL_law_616 ?_
      refine r_callV C (pc := 617) (st := []) (m_X6_bestPolicy l G sh v N hX hv hh hI hT) kyX6_bestPolicy q_628 rfl (Or.inl hd6) hX.2.2.1 (by decide) rfl rfl rfl (Nat.le_of_ble_eq_true rfl) ⟨Nat.le_of_ble_eq_true rfl, Nat.le_of_ble_eq_true rfl⟩ ⟨Nat.le_of_ble_eq_true rfl, Nat.le_of_ble_eq_true rfl⟩ dL_law_617 (fun r1 v1 hp1 => ?_)
      obtain ⟨er, X3, X4, X5⟩ := hp1
      subst er
      obtain ⟨m1, m2⟩ := lw_m hw hm X5
      refine VV.eq (st2 := [.int (qBest (M, h))]) rfl ?_
      refine r_aload_n C (pc := 620) rfl rfl dL_law_620 ?_
      refine r_callV C (pc := 621) (st := [.int (qBest (M, h))]) (m_X7_bestPolicy l G sh v1 N  hMD m1 m2 hI hT) kyX7_bestPolicy q_912 rfl (Or.inl hd7) hMD.2.2.1 (by decide) rfl rfl rfl (Nat.le_of_ble_eq_true rfl) ⟨Nat.le_of_ble_eq_true rfl, Nat.le_of_ble_eq_true rfl⟩ ⟨Nat.le_of_ble_eq_true rfl, Nat.le_of_ble_eq_true rfl⟩ dL_law_621 (fun r2 v2 hp2 => ?_)
      obtain ⟨er, Y1, Y2, Y3⟩ := hp2
      subst er
      obtain ⟨n1, n2⟩ := lw_x hX.2.2.2.2.2.2.2.2.2.2 X3 X4 Y3
      refine VV.eq (st2 := [.int (qBest (M, h)), .int (qBest (M, h))]) rfl ?_
      exact r_icmp_eq C (pc := 624) (tgt := 708) dL_law_624 (by decide) (fun _ => nxt sh v2 q (M, h) ⟨hN, hX, hMD, n1, n2, Y1, Y2⟩ (zI_same hI)) (fun z => absurd rfl z)
    · refine r_tableIn C (pc := 32) (off := 597) (tgt := 629) dL_law_32 (by decide) (by decide) rfl (by decide) ?_
      refine r_aload_n C (pc := 629) rfl rfl dL_law_629 ?_
      refine r_aload_n C (pc := 630) rfl rfl dL_law_630 ?_
      refine r_iload_n C (pc := 631) rfl rfl dL_law_631 ?_
      refine r_iconst C (pc := 632) (x := nI 1) (by decide) dL_law_632 ?_
      refine r_iadd C (pc := 633) (z := nI (4 * k + 1)) (nI_add _ _) dL_law_633 ?_
      refine r_sld C (pc := 634) hXs hbl hbA (by omega) (by omega) dL_law_634 ?_
      refine r_aload_n C (pc := 635) rfl rfl dL_law_635 ?_
      refine r_iload_n C (pc := 636) rfl rfl dL_law_636 ?_
      refine r_iconst C (pc := 637) (x := nI 2) (by decide) dL_law_637 ?_
      refine r_iadd C (pc := 638) (z := nI (4 * k + 2)) (nI_add _ _) dL_law_638 ?_
      refine r_sld C (pc := 639) hXs hbl hbA (by omega) (by omega) dL_law_639 ?_
      refine r_callV C (pc := 640) (st := []) (m_X6_bearable l G sh v N (a := (xs (4 * k + 1))) (b := (xs (4 * k + 2))) hX hv hh hI hT) kyX6_bearable q_632 rfl (Or.inl hd6) hX.2.2.1 (by decide) rfl rfl rfl (Nat.le_of_ble_eq_true rfl) ⟨Nat.le_of_ble_eq_true rfl, Nat.le_of_ble_eq_true rfl⟩ ⟨Nat.le_of_ble_eq_true rfl, Nat.le_of_ble_eq_true rfl⟩ dL_law_640 (fun r1 v1 hp1 => ?_)
      obtain ⟨er, X3, X4, X5⟩ := hp1
      subst er
      obtain ⟨m1, m2⟩ := lw_m hw hm X5
      refine VV.eq (st2 := [.int (qBear (xs (4 * k + 1)) (xs (4 * k + 2)) (M, h))]) rfl ?_
      refine r_aload_n C (pc := 643) rfl rfl dL_law_643 ?_
      refine r_aload_n C (pc := 644) rfl rfl dL_law_644 ?_
      refine r_iload_n C (pc := 645) rfl rfl dL_law_645 ?_
      refine r_iconst C (pc := 646) (x := nI 1) (by decide) dL_law_646 ?_
      refine r_iadd C (pc := 647) (z := nI (4 * k + 1)) (nI_add _ _) dL_law_647 ?_
      refine r_sld C (pc := 648) hXs hbl hbA (by omega) (by omega) dL_law_648 ?_
      refine r_aload_n C (pc := 649) rfl rfl dL_law_649 ?_
      refine r_iload_n C (pc := 650) rfl rfl dL_law_650 ?_
      refine r_iconst C (pc := 651) (x := nI 2) (by decide) dL_law_651 ?_
      refine r_iadd C (pc := 652) (z := nI (4 * k + 2)) (nI_add _ _) dL_law_652 ?_
      refine r_sld C (pc := 653) hXs hbl hbA (by omega) (by omega) dL_law_653 ?_
      refine r_callV C (pc := 654) (st := [.int (qBear (xs (4 * k + 1)) (xs (4 * k + 2)) (M, h))]) (m_X7_bearable l G sh v1 N (a := (xs (4 * k + 1))) (b := (xs (4 * k + 2))) hMD m1 m2 hI hT) kyX7_bearable q_916 rfl (Or.inl hd7) hMD.2.2.1 (by decide) rfl rfl rfl (Nat.le_of_ble_eq_true rfl) ⟨Nat.le_of_ble_eq_true rfl, Nat.le_of_ble_eq_true rfl⟩ ⟨Nat.le_of_ble_eq_true rfl, Nat.le_of_ble_eq_true rfl⟩ dL_law_654 (fun r2 v2 hp2 => ?_)
      obtain ⟨er, Y1, Y2, Y3⟩ := hp2
      subst er
      obtain ⟨n1, n2⟩ := lw_x hX.2.2.2.2.2.2.2.2.2.2 X3 X4 Y3
      refine VV.eq (st2 := [.int (qBear (xs (4 * k + 1)) (xs (4 * k + 2)) (M, h)), .int (qBear (xs (4 * k + 1)) (xs (4 * k + 2)) (M, h))]) rfl ?_
      exact r_icmp_eq C (pc := 657) (tgt := 708) dL_law_657 (by decide) (fun _ => nxt sh v2 q (M, h) ⟨hN, hX, hMD, n1, n2, Y1, Y2⟩ (zI_same hI)) (fun z => absurd rfl z)
    · refine r_tableIn C (pc := 32) (off := 630) (tgt := 662) dL_law_32 (by decide) (by decide) rfl (by decide) ?_
      refine r_aload_n C (pc := 662) rfl rfl dL_law_662 ?_
      refine r_aload_n C (pc := 663) rfl rfl dL_law_663 ?_
      refine r_iload_n C (pc := 664) rfl rfl dL_law_664 ?_
      refine r_iconst C (pc := 665) (x := nI 1) (by decide) dL_law_665 ?_
      refine r_iadd C (pc := 666) (z := nI (4 * k + 1)) (nI_add _ _) dL_law_666 ?_
      refine r_sld C (pc := 667) hXs hbl hbA (by omega) (by omega) dL_law_667 ?_
      refine r_callVM C (pc := 668) (st := []) (m_X6_keep l G sh v N (a := (xs (4 * k + 1))) hX hv hh hI hT) kyX6_keep q_636 rfl (Or.inl hd6) hX.2.2.1 (by decide) rfl rfl rfl (Nat.le_of_ble_eq_true rfl) ⟨Nat.le_of_ble_eq_true rfl, Nat.le_of_ble_eq_true rfl⟩ ⟨Nat.le_of_ble_eq_true rfl, Nat.le_of_ble_eq_true rfl⟩ dL_law_668 (fun r1 sh1 v1 N1 hp1 => ?_)
      obtain ⟨eN, q1, X1, X2, er, X3, X4, X5⟩ := hp1
      subst eN
      subst er
      obtain ⟨m1, m2⟩ := lw_m hw hm X5
      have hMD1 := zMD_sh hMD (fun b h1 h2 => X2 b (by omega))
      refine VV.c0 ?_
      refine VV.eq (st2 := [.int ((oKeep (xs (4 * k + 1)) (M, h)).1)]) rfl ?_
      refine r_aload_n C (pc := 671) rfl rfl dL_law_671 ?_
      refine r_aload_n C (pc := 672) rfl rfl dL_law_672 ?_
      refine r_iload_n C (pc := 673) rfl rfl dL_law_673 ?_
      refine r_iconst C (pc := 674) (x := nI 1) (by decide) dL_law_674 ?_
      refine r_iadd C (pc := 675) (z := nI (4 * k + 1)) (nI_add _ _) dL_law_675 ?_
      refine r_sld C (pc := 676) hXs hbl hbA (by omega) (by omega) dL_law_676 ?_
      refine r_callV C (pc := 677) (st := [.int ((oKeep (xs (4 * k + 1)) (M, h)).1)]) (m_X7_keep l G sh1 v1 N (a := (xs (4 * k + 1))) hMD1 m1 m2 hI hT) kyX7_keep q_920 rfl (Or.inl hd7) hMD1.2.2.1 (by decide) rfl rfl rfl (Nat.le_of_ble_eq_true rfl) ⟨Nat.le_of_ble_eq_true rfl, Nat.le_of_ble_eq_true rfl⟩ ⟨Nat.le_of_ble_eq_true rfl, Nat.le_of_ble_eq_true rfl⟩ dL_law_677 (fun r2 v2 hp2 => ?_)
      obtain ⟨er, Y1, Y2, Y3⟩ := hp2
      subst er
      obtain ⟨n1, n2⟩ := lw_x X1.2.2.2.2.2.2.2.2.2.2 X3 X4 Y3
      refine VV.eq (st2 := [.int ((oKeep (xs (4 * k + 1)) (M, h)).1), .int ((oKeep (xs (4 * k + 1)) (M, h)).1)]) rfl ?_
      exact r_icmp_eq C (pc := 680) (tgt := 708) dL_law_680 (by decide) (fun _ => nxt sh1 v2 q1 (oKeep (xs (4 * k + 1)) (M, h)).2 ⟨hN, X1, hMD1, n1, n2, Y1, Y2⟩ (oKeep_I hI)) (fun z => absurd rfl z)
    · refine r_tableIn C (pc := 32) (off := 653) (tgt := 685) dL_law_32 (by decide) (by decide) rfl (by decide) ?_
      refine r_aload_n C (pc := 685) rfl rfl dL_law_685 ?_
      refine r_aload_n C (pc := 686) rfl rfl dL_law_686 ?_
      refine r_iload_n C (pc := 687) rfl rfl dL_law_687 ?_
      refine r_iconst C (pc := 688) (x := nI 1) (by decide) dL_law_688 ?_
      refine r_iadd C (pc := 689) (z := nI (4 * k + 1)) (nI_add _ _) dL_law_689 ?_
      refine r_sld C (pc := 690) hXs hbl hbA (by omega) (by omega) dL_law_690 ?_
      refine r_callVM C (pc := 691) (st := []) (m_X6_back l G sh v N (a := (xs (4 * k + 1))) hX hv hh hI hT) kyX6_back q_640 rfl (Or.inl hd6) hX.2.2.1 (by decide) rfl rfl rfl (Nat.le_of_ble_eq_true rfl) ⟨Nat.le_of_ble_eq_true rfl, Nat.le_of_ble_eq_true rfl⟩ ⟨Nat.le_of_ble_eq_true rfl, Nat.le_of_ble_eq_true rfl⟩ dL_law_691 (fun r1 sh1 v1 N1 hp1 => ?_)
      obtain ⟨eN, q1, X1, X2, er, X3, X4, X5⟩ := hp1
      subst eN
      subst er
      obtain ⟨m1, m2⟩ := lw_m hw hm X5
      have hMD1 := zMD_sh hMD (fun b h1 h2 => X2 b (by omega))
      refine VV.c0 ?_
      refine VV.eq (st2 := [.int ((oBack (xs (4 * k + 1)) (M, h)).1)]) rfl ?_
      refine r_aload_n C (pc := 694) rfl rfl dL_law_694 ?_
      refine r_aload_n C (pc := 695) rfl rfl dL_law_695 ?_
      refine r_iload_n C (pc := 696) rfl rfl dL_law_696 ?_
      refine r_iconst C (pc := 697) (x := nI 1) (by decide) dL_law_697 ?_
      refine r_iadd C (pc := 698) (z := nI (4 * k + 1)) (nI_add _ _) dL_law_698 ?_
      refine r_sld C (pc := 699) hXs hbl hbA (by omega) (by omega) dL_law_699 ?_
      refine r_callV C (pc := 700) (st := [.int ((oBack (xs (4 * k + 1)) (M, h)).1)]) (m_X7_back l G sh1 v1 N (a := (xs (4 * k + 1))) hMD1 m1 m2 hI hT) kyX7_back q_927 rfl (Or.inl hd7) hMD1.2.2.1 (by decide) rfl rfl rfl (Nat.le_of_ble_eq_true rfl) ⟨Nat.le_of_ble_eq_true rfl, Nat.le_of_ble_eq_true rfl⟩ ⟨Nat.le_of_ble_eq_true rfl, Nat.le_of_ble_eq_true rfl⟩ dL_law_700 (fun r2 v2 hp2 => ?_)
      obtain ⟨er, Y1, Y2, Y3⟩ := hp2
      subst er
      obtain ⟨n1, n2⟩ := lw_x X1.2.2.2.2.2.2.2.2.2.2 X3 X4 Y3
      refine VV.eq (st2 := [.int ((oBack (xs (4 * k + 1)) (M, h)).1), .int ((oBack (xs (4 * k + 1)) (M, h)).1)]) rfl ?_
      exact r_icmp_eq C (pc := 703) (tgt := 708) dL_law_703 (by decide) (fun _ => nxt sh1 v2 q1 (oBack (xs (4 * k + 1)) (M, h)).2 ⟨hN, X1, hMD1, n1, n2, Y1, Y2⟩ (oBack_I hI)) (fun z => absurd rfl z)
  · refine r_tableOut C (pc := 32) (tgt := 708) dL_law_32 (out_of (hi := 19) (by decide) hr) (by decide) ?_
    exact nxt sh v q (M, h) ⟨hN, hX, hMD, hv, hh, hw, hm⟩ (zI_same hI)

