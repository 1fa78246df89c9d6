/-- FIRST_WEIGHTS at the law's entry -/
theorem fw_start {s : State} {b : Nat} (hts : ∀ w ∈ lw_tbl, w.before #[Value.ref b] s = true) (hgv : (Jvm.Cond.and given_1 narrow_1).before #[Value.ref b] s = true) : ∃ t : Nat, t < s.heap.size ∧ va_Z "RelayTransfer$Setup" "FIRST_WEIGHTS" "[I" (.ref t) (fun q => s.heap.size ≤ q) s s.heap ∧ va_T .int t 7 (fun j => .int (nI (fwl.getD j 0))) (fun q => s.heap.size ≤ q) s s.heap := by
  have hs := flat_of_before _ hgv
  have hA : ∀ a : Nat, a < s.heap.size → ¬ (fun q => s.heap.size ≤ q) a := fun a ha hq => absurd ha (Nat.not_lt.mpr hq)
  have e0 : (Term.elem (Term.static "RelayTransfer$Setup" "FIRST_WEIGHTS" "[I") (.int 0)).eval #[Value.ref b] s none [] s = some (.int 0) := va_eqt (hs _ (by decide +kernel))
  have e1 : (Term.elem (Term.static "RelayTransfer$Setup" "FIRST_WEIGHTS" "[I") (.int 1)).eval #[Value.ref b] s none [] s = some (.int 1) := va_eqt (hs _ (by decide +kernel))
  have e2 : (Term.elem (Term.static "RelayTransfer$Setup" "FIRST_WEIGHTS" "[I") (.int 2)).eval #[Value.ref b] s none [] s = some (.int 5) := va_eqt (hs _ (by decide +kernel))
  have e3 : (Term.elem (Term.static "RelayTransfer$Setup" "FIRST_WEIGHTS" "[I") (.int 3)).eval #[Value.ref b] s none [] s = some (.int 2) := va_eqt (hs _ (by decide +kernel))
  have e4 : (Term.elem (Term.static "RelayTransfer$Setup" "FIRST_WEIGHTS" "[I") (.int 4)).eval #[Value.ref b] s none [] s = some (.int 1) := va_eqt (hs _ (by decide +kernel))
  have e5 : (Term.elem (Term.static "RelayTransfer$Setup" "FIRST_WEIGHTS" "[I") (.int 5)).eval #[Value.ref b] s none [] s = some (.int 0) := va_eqt (hs _ (by decide +kernel))
  have e6 : (Term.elem (Term.static "RelayTransfer$Setup" "FIRST_WEIGHTS" "[I") (.int 6)).eval #[Value.ref b] s none [] s = some (.int 0) := va_eqt (hs _ (by decide +kernel))
  have el : (Term.length (Term.static "RelayTransfer$Setup" "FIRST_WEIGHTS" "[I")).eval #[Value.ref b] s none [] s = some (.int 7) := va_eqt (hs _ (by decide +kernel))
  have ha : (Cond.arrayOf (Term.static "RelayTransfer$Setup" "FIRST_WEIGHTS" "[I") .int).before #[Value.ref b] s = true := hs _ (by decide +kernel)
  obtain ⟨t, h1, h2⟩ := va_Tof (N := 7) (f := fun j => .int (nI (fwl.getD j 0))) (A := fun q => s.heap.size ≤ q) (by decide) ha el (fun j hj => by
    rcases (show j = 0 ∨ j = 1 ∨ j = 2 ∨ j = 3 ∨ j = 4 ∨ j = 5 ∨ j = 6 by omega) with rfl | rfl | rfl | rfl | rfl | rfl | rfl
    · exact e0
    · exact e1
    · exact e2
    · exact e3
    · exact e4
    · exact e5
    · exact e6) hA
  obtain ⟨cell, g1, -⟩ := id h2
  exact ⟨t, (Array.getElem?_eq_some_iff.mp g1).1, va_Zref (hts _ (List.mem_of_getElem? (i := 45) (by decide +kernel))) (hts _ (TB_tbl q_16)) h1 hA, h2⟩
set_option maxRecDepth 100000 in
set_option maxHeartbeats 4000000 in
theorem whole_start {p : Program} {e : Env} {s : State} {m : MethodId} {below : List Frame} {meth : Method} {c : Code} (l : Launch) (hflags : l.flags = flags0) {b L : Nat} {xs : Nat → Int32} (hL : L ≤ 260) (C0 : lw_At p s m meth c b L xs) : W p l e room_1 s m #[Value.ref b] below meth c s.heap [] 0 0 (lw_Z below #[Value.ref b] s) (entryFrame m ([Value.ref b] : List Value).toArray 7) := by
  obtain ⟨hx, hb, hr, hml, hown, hts, hXs, hbl, hlocks, hgv⟩ := C0
  have htb : ∀ w ∈ TB, w.before #[Value.ref b] s = true := fun w hw => hts w (TB_tbl hw)
  obtain ⟨fw, hfw, hZ1, hT1⟩ := fw_start hts hgv
  obtain ⟨k0, s0_, hk0⟩ := u_known (C := RX0) (T := TX0) (N := 3) (n := 3) htb inX0 (htb _ q_144)
  obtain ⟨k1, s1_, hk1⟩ := u_known (C := RX1) (T := TX1) (N := 2) (n := 2) htb inX1 (htb _ q_111)
  obtain ⟨k2, s2_, hk2⟩ := u_known (C := RX2) (T := TX2) (N := 8) (n := 8) htb inX2 (htb _ q_105)
  obtain ⟨k3, s3_, hk3⟩ := u_known (C := RX3) (T := TX3) (N := 9) (n := 9) htb inX3 (htb _ q_39)
  obtain ⟨k4, s4_, hk4⟩ := u_known (C := RX4) (T := TX4) (N := 2) (n := 2) htb inX4 (htb _ q_130)
  obtain ⟨k5, s5_, hk5⟩ := u_known (C := RX5) (T := TX5) (N := 8) (n := 8) htb inX5 (htb _ q_33)
  obtain ⟨k6, s6_, hk6⟩ := u_known (C := RX6) (T := TX6) (N := 6) (n := 6) htb inX6 (htb _ q_25)
  obtain ⟨cI, kI, compI, hI1, hI2, hI3⟩ := Cond.arrayClass_spec (htb _ q_101)
  obtain ⟨cZ, kZ, compZ, hz1, hz2, hz3⟩ := Cond.arrayClass_spec (htb _ q_250)
  obtain ⟨compP, cP, kP, hP1, hP2, hP3, hP4, hP5⟩ := Cond.arrayOver_spec (hts _ q_103)
  obtain ⟨compT, cT, kT, hT2, hT3, hT4, hT5, hT6⟩ := Cond.arrayOver_spec (hts _ q_230)
  obtain ⟨G, hG⟩ : ∃ G : zG, G = ((fun k => if k = 0 then k0 else if k = 1 then k1 else if k = 2 then k2 else if k = 3 then k3 else if k = 4 then k4 else if k = 5 then k5 else k6, fun k => if k = 0 then s0_ else if k = 1 then s1_ else if k = 2 then s2_ else if k = 3 then s3_ else if k = 4 then s4_ else if k = 5 then s5_ else s6_), (fun k => if k = 8 then cI else if k = 9 then cZ else if k = 10 then cP else cT), s.heap.size, fw) := ⟨_, rfl⟩
  have hG1 : G.2.2.1 = s.heap.size := by rw [hG]
  have hG2 : G.2.2.2 = fw := by rw [hG]
  have hK1 : va_K G.1 zcl (zty G) s := by
    refine ⟨fun k q hq => ?_, fun k q hq => ?_⟩
    · match k, hq with
      | 0, hq => cases hq; rw [hG]; exact hk0
      | 1, hq => cases hq; rw [hG]; exact hk1
      | 2, hq => cases hq; rw [hG]; exact hk2
      | 3, hq => cases hq; rw [hG]; exact hk3
      | 4, hq => cases hq; rw [hG]; exact hk4
      | 5, hq => cases hq; rw [hG]; exact hk5
      | 6, hq => cases hq; rw [hG]; exact hk6
      | k + 7, hq => simp [zcl] at hq
    · match k, hq with
      | 0, hq => cases hq; rw [hG]; exact ⟨fun n z => ⟨fun k h => (by cases h), kI, hI2, compI, hI3⟩, hI1⟩
      | 1, hq => cases hq; rw [hG]; exact ⟨fun n z => ⟨fun k h => (by cases h), kZ, hz2, compZ, hz3⟩, hz1⟩
      | 2, hq => cases hq; rw [hG]; exact ⟨fun n z => ⟨fun k h => (by cases h), kP, hP3, compP, hP4⟩, kP, compP, hP3, hP4, hP1, hP5⟩
      | 3, hq => cases hq; rw [hG]; exact ⟨fun n z => ⟨fun k h => (by cases h), kT, hT4, compT, hT5⟩, kT, compT, hT4, hT5, hT2, hT6⟩
      | k + 4, hq => simp [zty] at hq
  have hK : zK G s := ⟨hK1, fun w hw => va_Nw.of (zNw_on (NB_n hw)) (hts w (NB_tbl hw)), va_AO.of (hts _ q_103), va_AO.of (hts _ q_230)⟩
  have hZ : zZ G s := by
    unfold zZ zA
    rw [hG1, hG2]
    exact ⟨hZ1, hT1⟩
  have hZX : zX G b L xs s := ⟨hXs, by rw [hG1]; exact hbl, hbl⟩
  have C : zC p s m #[Value.ref b] meth c "RelayTransferLaw" meth.name cL_law 7 ret G := ⟨hx, hb, hml, hown, htb, hr, hlocks, rfl, hK⟩
  have hR0 : zR G (fun _ => (99, 0, fun _ => 0)) (fun _ _ => 0) s.heap.size s.heap := by
    refine ⟨rfl, by rw [hG1]; exact Nat.le_refl _, by rw [hG1, hG2]; exact hfw, fun a ha => ⟨fun h => absurd h (by show ¬ 99 < 8; decide), fun h => absurd h.2 (by show ¬ 99 < 99; decide)⟩⟩
  have hc1 : ∀ x ∈ [Value.ref b], x.category = 1 := fun x hx => by rw [List.mem_singleton.mp hx]; rfl
  rw [lg_entry_eq]
  refine (?_ : VV p l e room_1 s m #[Value.ref b] below meth c 0 0 (lw_Z below #[Value.ref b] s) G 7 (fun _ => (99, 0, fun _ => 0)) (fun _ _ => 0) s.heap.size 0 [some (.ref b), none, none, none, none, none, none] []) s.heap [] _ hR0 va_S.rf (lo_entry hc1 (Nat.le_of_ble_eq_true rfl))
  clear hR0 hc1
  generalize hB : s.heap.size = B at hG1
  have hGB : G.2.2.1 ≤ B := by rw [hG1]; exact Nat.le_refl B
  refine r_new C (pc := 0) (ci := 6) (L := [1, 1, 1, 1, 1, 0]) rfl (by decide) inX6 tyX6_ok q_24 q_25 q_14 pt0_X6 (Nat.le_of_ble_eq_true rfl) (Nat.le_of_ble_eq_true rfl) dL_law_0 ?_
  refine VV.gc (k := 1) (n := 6) rfl rfl ?_
  refine VV.gs (fun s1 es1 => ?_)
  refine VV.gn (fun w1 ew1 => ?_)
  refine r_dup C (pc := 3) rfl dL_law_3 ?_
  refine r_callIZ C hZ (pc := 4) (st := [.ref B]) (m_X6_init l G s1 w1 (a := B) hGB (by rw [es1, s2_self])) kyX6_init q_26 rfl rfl (Nat.le_of_ble_eq_true rfl) ⟨Nat.le_of_ble_eq_true rfl, Nat.le_of_ble_eq_true rfl⟩ ⟨Nat.le_of_ble_eq_true rfl, Nat.le_of_ble_eq_true rfl⟩ dL_law_4 (fun r2 s2' w2 N2 hp2 => ?_)
  obtain ⟨er, eN, -, -, hX, hv, hh⟩ := hp2
  subst er
  subst eN
  refine VV.gc (k := 340) (n := 2310) rfl rfl ?_
  refine VV.eq (st2 := [.ref B]) rfl ?_
  refine r_astore_n C (pc := 7) (lv2 := [some (.ref b), some (.ref B), none, none, none, none, none]) rfl (Nat.le_of_ble_eq_true rfl) rfl rfl dL_law_7 ?_
  refine r_new C (pc := 8) (ci := 6) (L := [1, 1, 1, 1, 1, 0]) rfl (by decide) inX6 tyX6_ok q_24 q_25 q_14 pt0_X6 (Nat.le_of_ble_eq_true rfl) (Nat.le_of_ble_eq_true rfl) dL_law_8 ?_
  refine VV.gc (k := 341) (n := 2316) rfl rfl ?_
  refine VV.gs (fun s3 es3 => ?_)
  refine VV.gn (fun w3 ew3 => ?_)
  refine r_dup C (pc := 11) rfl dL_law_11 ?_
  refine r_callIZ C hZ (pc := 12) (st := [.ref (B + 340)]) (m_X6_init l G s3 w3 (a := B + 340) (by omega) (by rw [es3, s2_self])) kyX6_init q_26 rfl rfl (Nat.le_of_ble_eq_true rfl) ⟨Nat.le_of_ble_eq_true rfl, Nat.le_of_ble_eq_true rfl⟩ ⟨Nat.le_of_ble_eq_true rfl, Nat.le_of_ble_eq_true rfl⟩ dL_law_12 (fun r4 s4 w4 N4 hp4 => ?_)
  obtain ⟨er4, eN4, hs4, hv4, hX2, hv2, hh2⟩ := hp4
  subst er4
  obtain rfl : N4 = B + 680 := eN4
  refine VV.gc (k := 680) (n := 4620) rfl rfl ?_
  refine VV.eq (st2 := [.ref (B + 340)]) rfl ?_
  refine r_astore_n C (pc := 15) (lv2 := [some (.ref b), some (.ref B), some (.ref (B + 340)), none, none, none, none]) rfl (Nat.le_of_ble_eq_true rfl) rfl rfl dL_law_15 ?_
  refine r_iconst C (pc := 16) (x := nI 0) (by decide) dL_law_16 ?_
  refine r_istore_n C (pc := 17) (lv2 := [some (.ref b), some (.ref B), some (.ref (B + 340)), some (.int (nI 0)), none, none, none]) rfl (Nat.le_of_ble_eq_true rfl) rfl rfl dL_law_17 ?_
  have ks : ∀ i, i < B + 340 → s4 i = s2' i := fun i hi => (hs4 i hi).trans (by rw [es3, s2_ne (by omega)])
  have kv : ∀ i, i < B + 340 → w4 i = w2 i := fun i hi => (hv4 i hi).trans (by rw [ew3, z0_ne (by omega)])
  have hX4 : zXR G s4 (B + 680) B (fun i => i) := zXR_up hX (by omega) (fun i h1 h2 => ks i h2)
  have hv5 : zt w4 (B + 1) M0 := zt_all hv (fun i h1 h2 => kv i (by omega))
  have hh5 : zxh w4 B (fun i => i) h0 := hh.kept hX.2.2.2.2.2.2.2.2.2.2 (congrFun (kv B (by omega)) 5) (kv _ (by omega)) (fun i h1 h2 => kv i (by omega))
  have hK0 : zKK 0 (M0, h0) := ⟨zFA_lay Mz, fun i hi e => by cases e⟩
  exact law_loop l hL C hlocks hZX (hG1.trans hB.symm) ⟨hGB, by omega⟩ ⟨by omega, by omega⟩ 25 0 s4 w4 (fun i => i) (fun i => i) M0 h0 h0 (by decide) (by decide) ⟨hX4, hX2, ⟨⟨hv5, hh5⟩, hv2, hh2⟩, rfl, S0_I, S0_I, hK0⟩

set_option maxHeartbeats 4000000 in
theorem lw_walk (l : Launch) (hflags : l.flags = flags0) (b : Addr) (xs : List Int32) : MetFree l x (headSpec (Jvm.Cond.code x code maxLocals ret :: tables_1) room_1) (lw_P b xs) (fun _ _ _ _ _ => True) lw_Q := by
  refine MetFree.of_bodyS (code := code) (maxLocals := maxLocals) (ret := ret) (by decide) ?_ ?_
  · intro args s m h hn
    obtain ⟨meth, c, h1, h2, h3, h4, h5, h6, -, -⟩ := Cond.code_spec hn (atoms_spec (ws := Jvm.Cond.code x code maxLocals ret :: tables_1) h _ List.mem_cons_self)
    exact ⟨meth, c, h1, h2, h3, h4, h5, h6⟩
  · intro p e s m args below meth c s₁ B hml0 hP _
    obtain ⟨rfl, hx, hbd, hgv⟩ := hP
    obtain ⟨scr, harrAt, hlist, hof, hsmall⟩ := hx
    obtain ⟨hcb, hkn, -, -⟩ := State.arrayAt?_spec harrAt
    have hown : s.vm.findClass R_law = some m.cls := findClass_of_methodNamed B.named
    have hts0 : ∀ c ∈ (Jvm.Cond.code x code maxLocals ret :: tables_1), c.before #[Value.ref b] s = true := atoms_spec (ws := Jvm.Cond.code x code maxLocals ret :: tables_1) B.pre
    have hts : ∀ w ∈ lw_tbl, w.before #[Value.ref b] s = true := k2_hts_sels lw_privs (fun w hw => hts0 w (List.mem_cons_of_mem _ hw)) lw_privs_ok
    have hml : c.maxLocals = 7 := B.maxLocals_eq (hts0 _ List.mem_cons_self)
    have X₀ : Stand p l e room_1 s m #[Value.ref b] below meth c s₁ [] 0 0 := Stand.of_body B
    have hh0 : s₁.heap = s.heap := by rw [B.state]; rfl
    have hsz : scr.slots.size = xs.length := by rw [← Array.length_toList, hlist, List.length_map]
    have hval : ∀ j : Nat, j < xs.length → scr.slots[j]? = some (.int (xs.getD j 0)) := fun j hj => by
      rw [← Array.getElem?_toList, hlist]
      simp [hj]
    have hbl : b < s.heap.size := (Array.getElem?_eq_some_iff.mp hcb).1
    have hX : va_X b xs.length (fun j => xs.getD j 0) s s.heap := ⟨scr, hcb, hof, hkn, hsz, hval⟩
    have K : W p l e room_1 s m #[Value.ref b] below meth c s₁.heap [] 0 0 (lw_Z below #[Value.ref b] s) (entryFrame m ([Value.ref b] : List Value).toArray 7) := by
      rw [hh0]
      exact whole_start l hflags hbd ⟨B.exec, B.bytes, B.returns, hml, hown, hts, hX, hbl, B.notSynchronized, hgv⟩
    obtain ⟨t, a1, o, b1, b2, b3⟩ := K s₁ rfl X₀
    exact ⟨t, o, a1, b1, b2, b3⟩
theorem lw_pre_spec {args : Array Value} {s : State} (h : (Jvm.Cond.and given_1 narrow_1).before args s = true) (hr : rest_1_c.before args s = true) : ∃ (b : Addr) (xs : List Int32), lw_P b xs args s := by
  have hs := flat_of_before _ h
  have hq := flat_of_before _ hr
  have hc : (Cond.count 1).before args s = true := hs _ (by decide +kernel)
  have harr : (Cond.arrayOf (.arg 0) .int).before args s = true := hs _ (by decide +kernel)
  have hle : (Cond.le (.length (.arg 0)) (.int 260)).before args s = true := hs _ (by decide +kernel)
  have hlen : (Cond.isInt (.length (.arg 0))).before args s = true := hq _ (by decide +kernel)
  have hall : (Cond.all (.arg 0) (.isInt (.elem (.arg 0) (.index 0)))).before args s = true := hq _ (by decide +kernel)
  obtain ⟨b, xs, hb, hx⟩ := State.ints_of_pre rfl harr hlen hall
  have hsm : xs.length < 2 ^ 31 := hx.choose_spec.2.2.2
  have hev : (Term.length (.arg 0)).eval args s none [] s = some (.int xs.length.toInt32) := hx.length_eval hb
  have hv := Cond.le_ints hev (show (Term.int 260).eval args s none [] s = some (.int 260) from rfl)
  have hd : xs.length.toInt32 ≤ 260 := by
    simpa [Cond.before, Cond.holds, hv] using hle
  have hN : xs.length ≤ 260 := (Int32.ofNat_le_ofNat hsm (by decide)).mp (show Int32.ofNat xs.length ≤ Int32.ofNat 260 from hd)
  exact ⟨b, xs, Cond.one_arg hc (show args[0]? = some (.ref b) from hb), hx, hN, h⟩
theorem lw_comes (l : Launch) (hflags : l.flags = flags0) : Comes l x (Jvm.Cond.code x code maxLocals ret :: tables_1) room_1 (fun tb e args s => Calls_1 tb e args s ∧ rest_1 tb e args s ∧ Pre_1 tb e args s)
    (fun _ _ args s o t => lw_Q args s o t) := by
  intro p e ha hc hk s m args below hf hfit hheap happ hpre
  obtain ⟨b, xs, hP⟩ := lw_pre_spec hpre.2.2 hpre.2.1
  obtain ⟨k, o, h1, h2, h3, hQ⟩ := lw_walk l hflags b xs p e ha hc hk s m args below hf ((Spec.applies_iff_loose hf).mp happ).1 hP trivial
  exact ⟨k, o, h1, h2, h3, hQ⟩
theorem lw_frame {s t : State} {o : Outcome} {args : Array Value} (h : State.butDraws s t lw_cs (fun t1 => Framed s o t1 [] 638688 7186184)) :
    State.butDraws s t [Jvm.Choice.named "NaN.bits"] (fun t1 => Framed s o t1 (fieldLocs frame_1_writes args s ++ arrayLocs frame_1_arrays args s ++ staticLocs frame_1_statics s) 638688 7186184) := h
theorem lw_limb (L : Cond) (hL : ∀ (args : Array Value) (s t : State), L.after args s (.returned (some (.int 1))) t = true) :
    ArmFor flags0 classFile x code maxLocals ret World_1 tables_1 room_1 Calls_1 rest_1 Pre_1
      (fun tb e a s o t => postC L tb e a s o t ∧ State.butDraws s t [Jvm.Choice.named "NaN.bits"] (fun t1 => Framed s o t1 (fieldLocs frame_1_writes a s ++ arrayLocs frame_1_arrays a s ++ staticLocs frame_1_statics s) 638688 7186184)) := by
  intro l hflags _ _ p e ha hc hk s m args below hf hfit hheap happ hpre
  obtain ⟨k, o, h1, h2, h3, rfl, hF⟩ := lw_comes l hflags p e ha hc hk s m args below hf hfit hheap happ hpre
  exact ⟨k, _, h1, h2, h3, hL args s _, lw_frame hF⟩
theorem i_vc : Claimed_1_1 ∧ Claimed_1_2 := ⟨lw_limb limb_1_1 (fun args s t => by simp [limb_1_1, Cond.after, Cond.holds, Cond.value]), lw_limb limb_1_2 (fun args s t => Cond.after_iff.mpr (by
  first | (rw [show limb_1_2 = Cond.eq .result (.int 1) from rfl, Cond.eq_ints (x := 1) (y := 1) rfl rfl]; simp; done) | (simp [limb_1_2, Cond.value, Term.eval]; done)))⟩

