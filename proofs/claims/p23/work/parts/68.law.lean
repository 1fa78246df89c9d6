/-! THE CLAIM OUT OF ONE WALK OF THE LAW'S BODY. Your part is whole_start (and what it stands on); all else here is the same for every law, but numbers. -/
def R_law : String := "RelayTransferLaw"
def lw_P (b : Addr) (xs : List Int32) (args : Array Value) (s : State) : Prop := args = #[.ref b] ∧ s.IntsAt b xs ∧ xs.length ≤ 260 ∧ (Jvm.Cond.and given_1 narrow_1).before args s = true
/-- what a walk over the start with the record d0 says of its end, said of the start itself -/
theorem lw_closed {s t : State} {o : Outcome} {d0 : Drawn} {L : List Loc} {k n : Nat} (hd0 : s.drawn.sameBut d0 lw_cs) (hv : ∃ v, o = .returned v) (hW : (s.setDrawn d0).WarmedH t.vm) (hs : (s.setDrawn d0).sameButNew ({ t with vm := s.vm } : State) L k n) : State.butDraws s t lw_cs (fun t1 => Framed s o t1 L k n) := by
  have h2 : t.drawn = d0 := congrArg State.drawn hs.1
  refine ⟨⟨hv, hW, State.sameButNew.setDrawn hs s.drawn⟩, ?_, by decide⟩
  rw [h2]
  exact hd0
def lw_Q (_ : Array Value) (s : State) (o : Outcome) (t : State) : Prop := o = .returned (some (.int 1)) ∧ State.butDraws s t lw_cs (fun t1 => Framed s o t1 [] 638688 7186184)
def lw_Z (below : List Frame) (a : Array Value) (s : State) : State → Prop := fun t => ∃ o, t.status = .running ∧ Ended t below o ∧ lw_Q a s o t
/-- the law's own end, with 1 on the stack, nothing written that was there before, its room as the claim has it; d0: the record of draws at this point (at the entry s.drawn: begin with 'refine W.base ?_' and 'have hd0 := Drawn.sameBut.refl s.drawn lw_cs') -/
theorem lw_ret {p : Program} {l : Launch} {e : Env} {s : State} {m : MethodId} {below : List Frame} {meth : Method} {c : Code} {b : Nat} {d0 : Drawn} (hd0 : s.drawn.sameBut d0 lw_cs) (hx : p.tables.exec = Jvm.exec) (hb : c.code = code) (hr : meth.sig.returnType = ret) (hlocks : meth.locks = false) {pc : Nat} {H : Heap} {ls : Array Slot} (hdg : decode code pc = .ok (.ireturn, 1)) : W p l e room_1 (s.setDrawn d0) m #[Value.ref b] below meth c H [] 638688 7186184 (lw_Z below #[Value.ref b] s) (F0 m pc ls [.int 1]) := by
  intro T hT X
  obtain ⟨fs, hret, hrun, hended, hW, hframe⟩ := X.leave (v := some (.int 1)) (hlocks := hlocks) (fun h => by rw [hr] at h; cases h)
  have hmeth' : T.vm.method? m = some meth := X.method'
  refine ⟨T.setFrames fs, ?_, .returned (some (.int 1)), hrun, hended, rfl, lw_closed hd0 ⟨_, rfl⟩ hW hframe⟩
  jvm_step X.here [X.here.top, hx, hb, hdg, hmeth', hr, ret, narrow_b1]
  (try refine ⟨rfl, ?_⟩); (try refine ⟨rfl, ?_⟩)
  first | (intro acts; rw [hret _ acts rfl rfl rfl]) | rw [hret _ _ rfl rfl rfl]
  exact Steps.refl _
/-- what holds at the law's entry: the machine, the code, the tables' words (any of lw_tbl by 'hts w (by decide +kernel)'), the script of L ints xs at the cell b, what the Statement gives of the start (any of its parts by flat_of_before) -/
def lw_At (p : Program) (s : State) (m : MethodId) (meth : Method) (c : Code) (b L : Nat) (xs : Nat → Int32) : Prop :=
  p.tables.exec = Jvm.exec ∧ c.code = code ∧ meth.sig.returnType = ret ∧ c.maxLocals = 7 ∧ s.vm.findClass R_law = some m.cls ∧ (∀ w ∈ lw_tbl, w.before #[Value.ref b] s = true) ∧ va_X b L xs s s.heap ∧ b < s.heap.size ∧ meth.locks = false ∧ (Jvm.Cond.and given_1 narrow_1).before #[Value.ref b] s = true
theorem zXR_up {G : zG} {sh sh1 : zH} {N N1 x : Nat} {q : Nat → Nat} (h : zXR G sh N x q) (hN : N ≤ N1) (k : ∀ b, x ≤ b → b < x + 340 → sh1 b = sh b) : zXR G sh1 N1 x q := by
  obtain ⟨h1, h2, h3, h4, h5, h6, h7, h8, h9, h10, h11⟩ := h
  exact ⟨h1, by omega, by rw [k _ (by omega) (by omega)]; exact h3, by rw [k _ (by omega) (by omega)]; exact h4, by rw [k _ (by omega) (by omega)]; exact h5, by rw [k _ (by omega) (by omega)]; exact h6, zTR_up h7 hN (fun b g1 g2 => k b (by omega) (by omega)), zTR_up h8 hN (fun b g1 g2 => k b (by omega) (by omega)), fun i hi => zTR_up (h9 i hi) hN (fun b g1 g2 => k b (by omega) (by omega)), fun i hi => zTR_up (h10 i hi) hN (fun b g1 g2 => k b (by omega) (by omega)), h11⟩
theorem zXR_fr {G : zG} {sh sh1 : zH} {N x : Nat} {q : Nat → Nat} (h : zXR G sh N x q) (k : ∀ b, x ≤ b → b < x + 340 → sh1 b = sh b) : zXR G sh1 N x q := zXR_up h (Nat.le_refl _) k
theorem zKK_e {A : Nat} {M : zMS} {h h1 : zHs} (e : h1.2.2 = h.2.2) (g : zKK A (M, h)) : zKK A (M, h1) := by
  unfold zKK at g ⊢
  dsimp only at g ⊢
  rw [e]
  exact g
/-- two objects, one state but for what can be undone -/
def zTW (G : zG) (sh : zH) (v : zV) (N x : Nat) (q p : Nat → Nat) (M : zMS) (h g : zHs) (T A : Nat) : Prop := zXR G sh N x q ∧ zXR G sh N (x + 340) p ∧ zBB v x q M h (x + 340) p M g ∧ h.2.2 = g.2.2 ∧ zI T (M, h) ∧ zI T (M, g) ∧ zKK A (M, h)
set_option maxRecDepth 100000 in
set_option maxHeartbeats 8000000 in
theorem law_asks {p : Program} {e : Env} {s : State} {m : MethodId} {below : List Frame} {meth : Method} {c : Code} (l : Launch) {b L : Nat} {xs : Nat → Int32} {G : zG} {x N : Nat} {nm : String} (hL : L ≤ 260) (C : zC p s m #[Value.ref b] meth c "RelayTransferLaw" nm cL_law 7 ret G) (hlocks : meth.locks = false) (hZ : zX G b L xs s) (hG : G.2.2.1 = s.heap.size) (hd6 : G.2.2.1 ≤ x ∧ x < N) (hd7 : G.2.2.1 ≤ x + 340 ∧ x + 340 < N) {k : Nat} (hk : k < 24) (nxt : ∀ (sh : zH) (v : zV) (q p_ : Nat → Nat) (M : zMS) (h g : zHs), zTW G sh v N x q p_ M h g (1000 * k + 1000) (30 * k + 30) → VV p l e room_1 s m #[Value.ref b] below meth c 680 4620 (lw_Z below #[Value.ref b] s) G 7 sh v N 140 [some (.ref b), some (.ref x), some (.ref (x + 340)), some (.int (nI k)), none, none, none] []) {w mo : Int32} : ∀ (sh : zH) (v : zV) (q p_ : Nat → Nat) (M : zMS) (h g : zHs), zTW G sh v N x q p_ M h g (1000 * k + 200) (30 * k + 30) → VV p l e room_1 s m #[Value.ref b] below meth c 680 4620 (lw_Z below #[Value.ref b] s) G 7 sh v N 75 [some (.ref b), some (.ref x), some (.ref (x + 340)), some (.int (nI k)), some (.int w), some (.int mo), none] [] := by
  intro sh v q p_ M h g hS
  obtain ⟨hX, hY, hb, he, hI, hJ, hK⟩ := hS
  have hqx := hX.2.2.2.2.2.2.2.2.2.2
  have hqy := hY.2.2.2.2.2.2.2.2.2.2
  have hT : 1000 * k + 200 + 1000 < 2 ^ 30 := by omega
  have hT2 : 1000 * k + 200 < 2 ^ 28 := by omega
  have hF : zF M := hK.1.1
  have hA : M.1 31 ≤ 30 * k + 30 := hK.1.2
  have hR3 : M.1 1 ≤ 3 := hI.1.1.1.1.2.2.1
  have tail : ∀ v' : zV, zBB v' x q M h (x + 340) p_ M g → VV p l e room_1 s m #[Value.ref b] below meth c 680 4620 (lw_Z below #[Value.ref b] s) G 7 sh v' N 116 [some (.ref b), some (.ref x), some (.ref (x + 340)), some (.int (nI k)), none, some (.int mo), none] [] := by
    intro v' hb'
    refine r_iload_n C (pc := 116) rfl rfl dL_law_116 ?_
    refine r_bipush C (pc := 117) (x := (nI 8)) (by decide) dL_law_117 ?_
    refine r_irem C (pc := 119) (z := (nI (k % 8))) (nI_ne0 (by decide) (by decide)) (pk_rem (by omega) (by decide) (by decide)) dL_law_119 ?_
    refine r_bipush C (pc := 120) (x := (nI 7)) (by decide) dL_law_120 ?_
    refine n_icmp_ne C (pc := 122) (tgt := 140) (by omega) (by omega) dL_law_122 (by decide) (fun c_122 => ?_) (fun c_122 => ?_)
    · refine VV.fg 5 (lv2 := [some (.ref b), some (.ref x), some (.ref (x + 340)), some (.int (nI k)), none, none, none]) rfl ?_
      exact nxt _ v' _ _ _ _ _ ⟨hX, hY, hb', he, zI_mono hI (by omega), zI_mono hJ (by omega), hK⟩
    · refine r_aload_n C (pc := 125) rfl rfl dL_law_125 ?_
      refine r_iload C (pc := 126) rfl dL_law_126 ?_
      refine r_iconst C (pc := 128) (x := (nI 2)) (by decide) dL_law_128 ?_
      refine r_callS C (pc := 129) (st := [.ref x]) (m_L_low l G sh v' N (w := mo) (n := 2) (by decide) (by decide)) kyL_low q_259 rfl rfl (Nat.le_of_ble_eq_true rfl) ⟨Nat.le_of_ble_eq_true rfl, Nat.le_of_ble_eq_true rfl⟩ ⟨Nat.le_of_ble_eq_true rfl, Nat.le_of_ble_eq_true rfl⟩ dL_law_129 (fun r129 v129 hp129 => ?_)
      obtain ⟨rfl, ehp129⟩ := hp129
      refine VV.vq ehp129 ?_
      refine VV.eq (st2 := [.int (nI (lo_ mo 2)), .ref x]) rfl ?_
      have hlo := lo_lt mo (show 0 < 2 by decide)
      rcases (show lo_ mo 2 = 0 ∨ lo_ mo 2 = 1 by omega) with h0 | h0
      · refine VV.eq (st2 := [.int (nI (lo_ mo 2)), .ref x]) (st := [.int (nI 0), .ref x]) (by rw [h0]) ?_
        refine r_callSM C (pc := 132) (st := []) (m_L_isForetold0 l G sh v' N hX hb'.x hI hT hT2 hF) kyL_isForetold q_612 rfl rfl (Nat.le_of_ble_eq_true rfl) ⟨Nat.le_of_ble_eq_true rfl, Nat.le_of_ble_eq_true rfl⟩ ⟨Nat.le_of_ble_eq_true rfl, Nat.le_of_ble_eq_true rfl⟩ dL_law_132 (fun r132 sh v132 N' hp132 => ?_)
        obtain ⟨hN1, q1, h1, X1, F1, rfl, z1, I1, E1⟩ := hp132
        subst hN1
        have Y1 := zXR_fr hY (fun b h1 h2 => F1 b (by omega))
        have hb132 := hb'.gx hqy (Nat.le_refl _) z1
        refine VV.c0 ?_
        refine VV.eq (st2 := [.int (nI 1)]) rfl ?_
        refine n_if_ne C (pc := 135) (tgt := 140) (by omega) dL_law_135 (by decide) (fun c_135 => ?_) (fun c_135 => by exfalso; omega)
        refine VV.fg 5 (lv2 := [some (.ref b), some (.ref x), some (.ref (x + 340)), some (.int (nI k)), none, none, none]) rfl ?_
        exact nxt _ v132 _ _ _ _ _ ⟨X1, Y1, hb132, E1.trans he, I1, zI_mono hJ (by omega), zKK_e E1 hK⟩
      · refine VV.eq (st2 := [.int (nI (lo_ mo 2)), .ref x]) (st := [.int (nI 1), .ref x]) (by rw [h0]) ?_
        refine r_callSM C (pc := 132) (st := []) (m_L_isForetold1 l G sh v' N hX hb'.x hI hT hT2 hF) kyL_isForetold q_612 rfl rfl (Nat.le_of_ble_eq_true rfl) ⟨Nat.le_of_ble_eq_true rfl, Nat.le_of_ble_eq_true rfl⟩ ⟨Nat.le_of_ble_eq_true rfl, Nat.le_of_ble_eq_true rfl⟩ dL_law_132 (fun r132 sh v132 N' hp132 => ?_)
        obtain ⟨hN1, q1, h1, X1, F1, rfl, z1, I1, E1⟩ := hp132
        subst hN1
        have Y1 := zXR_fr hY (fun b h1 h2 => F1 b (by omega))
        have hb132 := hb'.gx hqy (Nat.le_refl _) z1
        refine VV.c0 ?_
        refine VV.eq (st2 := [.int (nI 1)]) rfl ?_
        refine n_if_ne C (pc := 135) (tgt := 140) (by omega) dL_law_135 (by decide) (fun c_135 => ?_) (fun c_135 => by exfalso; omega)
        refine VV.fg 5 (lv2 := [some (.ref b), some (.ref x), some (.ref (x + 340)), some (.int (nI k)), none, none, none]) rfl ?_
        exact nxt _ v132 _ _ _ _ _ ⟨X1, Y1, hb132, E1.trans he, I1, zI_mono hJ (by omega), zKK_e E1 hK⟩
  have nodes : ∀ (n' n : Nat) (v' : zV), M.1 1 + 2 - n < n' → 1 ≤ n → n ≤ M.1 1 + 2 → zBB v' x q M h (x + 340) p_ M g → VV p l e room_1 s m #[Value.ref b] below meth c 680 4620 (lw_Z below #[Value.ref b] s) G 7 sh v' N 87 [some (.ref b), some (.ref x), some (.ref (x + 340)), some (.int (nI k)), none, some (.int mo), some (.int (nI n))] [] := by
    intro n'
    induction n' with
    | zero => intro n v' hm; omega
    | succ n' ih =>
      intro n v' hm h1 hn2 hb'
      refine r_iload C (pc := 87) rfl dL_law_87 ?_
      refine r_aload_n C (pc := 89) rfl rfl dL_law_89 ?_
      refine r_iconst C (pc := 90) (x := (nI 1)) (by decide) dL_law_90 ?_
      refine r_callV C (pc := 91) (st := [.int (nI n)]) (t_told l G sh v' N (k := 1) hX hb'.x hI hT (by decide) (z := nI (M.1 1)) rfl) kyX6_told q_251 rfl (Or.inl hd6) hX.2.2.1 (by decide) rfl rfl rfl (Nat.le_of_ble_eq_true rfl) ⟨Nat.le_of_ble_eq_true rfl, Nat.le_of_ble_eq_true rfl⟩ ⟨Nat.le_of_ble_eq_true rfl, Nat.le_of_ble_eq_true rfl⟩ dL_law_91 (fun r91 v91 hp91 => ?_)
      obtain ⟨rfl, qhb91⟩ := hp91
      refine VV.eq (st2 := [.int (nI (M.1 1)), .int (nI n)]) rfl ?_
      have hb91 := hb'.gx hqy (Nat.le_refl _) qhb91
      refine r_iconst C (pc := 94) (x := (nI 1)) (by decide) dL_law_94 ?_
      refine r_iadd C (pc := 95) (z := (nI ((M.1 1) + 1))) (nI_add _ _) dL_law_95 ?_
      refine n_icmp_gt C (pc := 96) (tgt := 116) (by omega) (by omega) dL_law_96 (by decide) (fun c_96 => ?_) (fun c_96 => ?_)
      · refine VV.fg 6 (lv2 := [some (.ref b), some (.ref x), some (.ref (x + 340)), some (.int (nI k)), none, some (.int mo), none]) rfl ?_
        exact tail v91 hb91
      · refine r_aload_n C (pc := 99) rfl rfl dL_law_99 ?_
        refine r_iload C (pc := 100) rfl dL_law_100 ?_
        refine r_callS C (pc := 102) (st := []) (m_L_isList l G sh v91 N (n := n) hX hb91.x hI hT hF h1 (by omega)) kyL_isList q_557 rfl rfl (Nat.le_of_ble_eq_true rfl) ⟨Nat.le_of_ble_eq_true rfl, Nat.le_of_ble_eq_true rfl⟩ ⟨Nat.le_of_ble_eq_true rfl, Nat.le_of_ble_eq_true rfl⟩ dL_law_102 (fun r102 v102 hp102 => ?_)
        obtain ⟨rfl, qhb102⟩ := hp102
        refine VV.eq (st2 := [.int (nI 1)]) rfl ?_
        have hb102 := hb91.gx hqy (Nat.le_refl _) qhb102
        refine n_if_ne C (pc := 105) (tgt := 110) (by omega) dL_law_105 (by decide) (fun c_105 => ?_) (fun c_105 => by exfalso; omega)
        refine r_iinc C (pc := 110) (lv2 := [some (.ref b), some (.ref x), some (.ref (x + 340)), some (.int (nI k)), none, some (.int mo), some (.int (nI (n + 1)))]) (y := (nI (n + 1))) rfl (nI_inc _ _) (Nat.le_of_ble_eq_true rfl) rfl rfl dL_law_110 ?_
        refine r_goto C (pc := 113) (tgt := 87) dL_law_113 (by decide) ?_
        exact ih (n + 1) v102 (by omega) (by omega) (by omega) hb102
  refine r_aload_n C (pc := 75) rfl rfl dL_law_75 ?_
  refine r_callS C (pc := 76) (st := []) (m_L_isReceiver l G sh v N hX hb.x hI hT hT2 hF (by omega)) kyL_isReceiver q_601 rfl rfl (Nat.le_of_ble_eq_true rfl) ⟨Nat.le_of_ble_eq_true rfl, Nat.le_of_ble_eq_true rfl⟩ ⟨Nat.le_of_ble_eq_true rfl, Nat.le_of_ble_eq_true rfl⟩ dL_law_76 (fun r76 v76 hp76 => ?_)
  obtain ⟨rfl, qhb76⟩ := hp76
  refine VV.eq (st2 := [.int (nI 1)]) rfl ?_
  have hb76 := hb.gx hqy (Nat.le_refl _) qhb76
  refine n_if_ne C (pc := 79) (tgt := 84) (by omega) dL_law_79 (by decide) (fun c_79 => ?_) (fun c_79 => by exfalso; omega)
  refine r_iconst C (pc := 84) (x := (nI 1)) (by decide) dL_law_84 ?_
  refine r_istore C (pc := 85) (lv2 := [some (.ref b), some (.ref x), some (.ref (x + 340)), some (.int (nI k)), some (.int w), some (.int mo), some (.int (nI 1))]) (Nat.le_of_ble_eq_true rfl) rfl rfl dL_law_85 ?_
  refine VV.fg 4 (lv2 := [some (.ref b), some (.ref x), some (.ref (x + 340)), some (.int (nI k)), none, some (.int mo), some (.int (nI 1))]) rfl ?_
  exact nodes (M.1 1 + 3) 1 v76 (by omega) (Nat.le_refl _) (by omega) hb76
set_option maxRecDepth 100000 in
set_option maxHeartbeats 8000000 in
theorem law_loop {p : Program} {e : Env} {s : State} {m : MethodId} {below : List Frame} {meth : Method} {c : Code} (l : Launch) {b L : Nat} {xs : Nat → Int32} {G : zG} {x N : Nat} {nm : String} (hL : L ≤ 260) (C : zC p s m #[Value.ref b] meth c "RelayTransferLaw" nm cL_law 7 ret G) (hlocks : meth.locks = false) (hZ : zX G b L xs s) (hG : G.2.2.1 = s.heap.size) (hd6 : G.2.2.1 ≤ x ∧ x < N) (hd7 : G.2.2.1 ≤ x + 340 ∧ x + 340 < N) : ∀ (n k : Nat) (sh : zH) (v : zV) (q p_ : Nat → Nat) (M : zMS) (h g : zHs), 24 - k < n → k ≤ 24 → zTW G sh v N x q p_ M h g (1000 * k) (30 * k) → VV p l e room_1 s m #[Value.ref b] below meth c 680 4620 (lw_Z below #[Value.ref b] s) G 7 sh v N 18 [some (.ref b), some (.ref x), some (.ref (x + 340)), some (.int (nI k)), none, none, none] [] := by
  intro n
  induction n with
  | zero => intro k sh v q p_ M h g hm; omega
  | succ n ih =>
  intro k sh v q p_ M h g hm hk24 hS
  obtain ⟨hX, hY, hb, he, hI, hJ, hK⟩ := hS
  have hqx := hX.2.2.2.2.2.2.2.2.2.2
  have hqy := hY.2.2.2.2.2.2.2.2.2.2
  have hT : 1000 * k + 1000 < 2 ^ 30 := by omega
  refine r_iload_n C (pc := 18) rfl rfl dL_law_18 ?_
  refine r_bipush C (pc := 19) (x := nI 24) (by decide) dL_law_19 ?_
  refine n_icmp_ge C (pc := 21) (tgt := 146) (by omega) (by decide) dL_law_21 (by decide) (fun c_21 => ?_) (fun hk => ?_)
  · refine r_aload_n C (pc := 146) rfl rfl dL_law_146 ?_
    refine r_aload_n C (pc := 147) rfl rfl dL_law_147 ?_
    refine r_callS C (pc := 148) (st := []) (m_L_areAlike l G sh v N hX hY (Nat.le_refl _) hb hI hJ hT) kyL_areAlike q_627 rfl rfl (Nat.le_of_ble_eq_true rfl) ⟨Nat.le_of_ble_eq_true rfl, Nat.le_of_ble_eq_true rfl⟩ ⟨Nat.le_of_ble_eq_true rfl, Nat.le_of_ble_eq_true rfl⟩ dL_law_148 (fun r1 v1 hp1 => ?_)
    subst hp1
    refine VV.eq (st2 := [.int (nI 1)]) (st := [.int 1]) (by rw [show nI 1 = (1 : Int32) by decide]) ?_
    intro H locs ls h1 h2 h3
    refine va_forget (fun z hz => ?_) ?_
    · have := h2.2.2 z hz
      rw [← hG]
      exact this
    refine W.widen (k := 638688) (n := 7186184) (Nat.le_of_ble_eq_true rfl) (Nat.le_of_ble_eq_true rfl) ?_
    refine W.base ?_
    exact lw_ret (Drawn.sameBut.refl s.drawn lw_cs) C.1 C.2.1 C.2.2.2.2.2.1 hlocks dL_law_151
  · have nxt : ∀ (sh : zH) (v : zV) (q p_ : Nat → Nat) (M : zMS) (h g : zHs), zTW G sh v N x q p_ M h g (1000 * k + 1000) (30 * k + 30) → VV p l e room_1 s m #[Value.ref b] below meth c 680 4620 (lw_Z below #[Value.ref b] s) G 7 sh v N 140 [some (.ref b), some (.ref x), some (.ref (x + 340)), some (.int (nI k)), none, none, none] [] := by
      intro sh' v' q' p' M' h' g' hS'
      refine r_iinc C (pc := 140) (lv2 := [some (.ref b), some (.ref x), some (.ref (x + 340)), some (.int (nI (k + 1))), none, none, none]) (y := nI (k + 1)) rfl (nI_inc _ _) (Nat.le_of_ble_eq_true rfl) rfl rfl dL_law_140 ?_
      refine r_goto C (pc := 143) (tgt := 18) dL_law_143 (by decide) ?_
      exact ih (k + 1) sh' v' q' p' M' h' g' (by omega) (by omega) hS'
    refine r_aload_n C (pc := 24) rfl rfl dL_law_24 ?_
    refine r_iconst C (pc := 25) (x := nI 2) (by decide) dL_law_25 ?_
    refine r_iload_n C (pc := 26) rfl rfl dL_law_26 ?_
    refine r_imul C (pc := 27) (z := nI (2 * k)) (pk_mul _ _) dL_law_27 ?_
    refine r_callSX C hZ (pc := 28) (st := []) (m_L_cell l G sh v N (b := b) (L := L) (k := 2 * k) (xs := xs) hL (by omega)) kyL_cell q_255 rfl rfl (Nat.le_of_ble_eq_true rfl) ⟨Nat.le_of_ble_eq_true rfl, Nat.le_of_ble_eq_true rfl⟩ ⟨Nat.le_of_ble_eq_true rfl, Nat.le_of_ble_eq_true rfl⟩ dL_law_28 (fun r28 sh28 v28 N28 hp28 => ?_)
    obtain ⟨e1, e2, ⟨w, rfl⟩, e3⟩ := hp28
    have e1 := e1.symm
    have e2 := e2.symm
    have e3 := e3.symm
    subst e1 e2 e3
    refine VV.eq (st2 := [.int w]) rfl ?_
    refine r_istore C (pc := 31) (lv2 := [some (.ref b), some (.ref x), some (.ref (x + 340)), some (.int (nI k)), some (.int w), none, none]) (Nat.le_of_ble_eq_true rfl) rfl rfl dL_law_31 ?_
    refine r_aload_n C (pc := 33) rfl rfl dL_law_33 ?_
    refine r_iconst C (pc := 34) (x := nI 2) (by decide) dL_law_34 ?_
    refine r_iload_n C (pc := 35) rfl rfl dL_law_35 ?_
    refine r_imul C (pc := 36) (z := nI (2 * k)) (pk_mul _ _) dL_law_36 ?_
    refine r_iconst C (pc := 37) (x := nI 1) (by decide) dL_law_37 ?_
    refine r_iadd C (pc := 38) (z := nI (2 * k + 1)) (nI_add _ _) dL_law_38 ?_
    refine r_callSX C hZ (pc := 39) (st := []) (m_L_cell l G sh v N (b := b) (L := L) (k := 2 * k + 1) (xs := xs) hL (by omega)) kyL_cell q_255 rfl rfl (Nat.le_of_ble_eq_true rfl) ⟨Nat.le_of_ble_eq_true rfl, Nat.le_of_ble_eq_true rfl⟩ ⟨Nat.le_of_ble_eq_true rfl, Nat.le_of_ble_eq_true rfl⟩ dL_law_39 (fun r39 sh39 v39 N39 hp39 => ?_)
    obtain ⟨e1, e2, ⟨mo, rfl⟩, e3⟩ := hp39
    have e1 := e1.symm
    have e2 := e2.symm
    have e3 := e3.symm
    subst e1 e2 e3
    refine VV.eq (st2 := [.int mo]) rfl ?_
    refine r_istore C (pc := 42) (lv2 := [some (.ref b), some (.ref x), some (.ref (x + 340)), some (.int (nI k)), some (.int w), some (.int mo), none]) (Nat.le_of_ble_eq_true rfl) rfl rfl dL_law_42 ?_
    refine r_iload C (pc := 44) rfl dL_law_44 ?_
    refine r_bipush C (pc := 46) (x := (nI 18)) (by decide) dL_law_46 ?_
    refine r_callS C (pc := 48) (st := []) (m_L_low l G sh v N (w := w) (n := 18) (by decide) (by decide)) kyL_low q_259 rfl rfl (Nat.le_of_ble_eq_true rfl) ⟨Nat.le_of_ble_eq_true rfl, Nat.le_of_ble_eq_true rfl⟩ ⟨Nat.le_of_ble_eq_true rfl, Nat.le_of_ble_eq_true rfl⟩ dL_law_48 (fun r48 v48 hp48 => ?_)
    obtain ⟨rfl, ehp48⟩ := hp48
    refine VV.vq ehp48 ?_
    refine VV.eq (st2 := [.int (nI (lo_ w 18))]) rfl ?_
    refine r_bipush C (pc := 51) (x := (nI 10)) (by decide) dL_law_51 ?_
    refine n_icmp_eq C (pc := 53) (tgt := 75) (Nat.lt_trans (lo_lt w (show 0 < 18 by decide)) (by decide)) (by decide) dL_law_53 (by decide) (fun c_53 => ?_) (fun c_53 => ?_)
    · exact law_asks l hL C hlocks hZ hG hd6 hd7 hk nxt _ v _ _ _ _ _ ⟨hX, hY, hb, he, zI_mono hI (by omega), zI_mono hJ (by omega), zKK_mono hK (by omega)⟩
    · refine r_aload_n C (pc := 56) rfl rfl dL_law_56 ?_
      refine r_iload C (pc := 57) rfl dL_law_57 ?_
      refine r_iload C (pc := 59) rfl dL_law_59 ?_
      refine r_callSM C (pc := 61) (st := []) (m_L_change l G sh v N (w := w) (mo := mo) hX hb.x hI hT c_53) kyL_change q_263 rfl rfl (Nat.le_of_ble_eq_true rfl) ⟨Nat.le_of_ble_eq_true rfl, Nat.le_of_ble_eq_true rfl⟩ ⟨Nat.le_of_ble_eq_true rfl, Nat.le_of_ble_eq_true rfl⟩ dL_law_61 (fun r61 sh v61 N' hp61 => ?_)
      obtain ⟨hN1, q1, X1, F1, rfl, z1⟩ := hp61
      subst hN1
      have Y1 := zXR_fr hY (fun b h1 h2 => F1 b (by omega))
      have hb61 := hb.gx hqy (Nat.le_refl _) z1
      have hq1 := X1.2.2.2.2.2.2.2.2.2.2
      refine VV.c0 ?_
      refine VV.eq (st2 := [.int ((chg w mo (M, h)).1)]) rfl ?_
      refine r_aload_n C (pc := 64) rfl rfl dL_law_64 ?_
      refine r_iload C (pc := 65) rfl dL_law_65 ?_
      refine r_iload C (pc := 67) rfl dL_law_67 ?_
      refine r_callSM C (pc := 69) (st := [.int ((chg w mo (M, h)).1)]) (m_L_change l G sh v61 N (w := w) (mo := mo) Y1 hb61.y hJ hT c_53) kyL_change q_263 rfl rfl (Nat.le_of_ble_eq_true rfl) ⟨Nat.le_of_ble_eq_true rfl, Nat.le_of_ble_eq_true rfl⟩ ⟨Nat.le_of_ble_eq_true rfl, Nat.le_of_ble_eq_true rfl⟩ dL_law_69 (fun r69 sh v69 N' hp69 => ?_)
      obtain ⟨hN2, p1, Y2, F2, rfl, z2⟩ := hp69
      subst hN2
      have X2 := zXR_fr X1 (fun b h1 h2 => F2 b (by omega))
      have hb69 := hb61.gy hq1 (Nat.le_refl _) z2
      refine VV.c0 ?_
      refine VV.eq (st2 := [.int ((chg w mo (M, g)).1), .int ((chg w mo (M, h)).1)]) rfl ?_
      have hC := chg_A (m := mo) c_53 (show alk (M, h) (M, g) from ⟨rfl, he⟩)
      refine r_icmp_ne C (pc := 72) (tgt := 82) dL_law_72 (by decide) (fun c_72 => by exfalso; exact c_72 hC.1) (fun c_72 => ?_)
      have J2 : zI (1000 * k + 200) ((chg w mo (M, h)).2.1, (chg w mo (M, g)).2.2) := by
        rw [hC.2.1]
        exact chg_I c_53 hJ
      rw [← hC.2.1] at hb69
      exact law_asks l hL C hlocks hZ hG hd6 hd7 hk nxt _ v69 _ _ _ _ _ ⟨X2, Y2, hb69, hC.2.2, chg_I c_53 hI, J2, chg_F c_53 hI hK⟩

