def fwl : List Nat := [0, 1, 5, 2, 1, 0, 0]
theorem arrV_ex {c : ClassId} {n : Nat} {f g : Nat → Value} (h : ∀ j, j < n → f j = g j) : arrV c n f = arrV c n g := by
  unfold arrV
  have e : (fun j : Fin n => f j.val) = fun j => g j.val := funext (fun j => h j.val j.isLt)
  rw [e]
def z0 (v : zV) (a : Nat) : zV := fun b j => if b = a then 0 else v b j
theorem z0_self (v : zV) (a : Nat) : z0 v a a = fun _ => 0 := by funext j; exact if_pos rfl
theorem z0_ne {v : zV} {a b : Nat} (h : b ≠ a) : z0 v a b = v b := by funext j; exact if_neg h
theorem upn_pts {l : List Nat} {j q : Nat} {l2 : List Nat} (h : j < l.length) (e : l.set j q = l2) : upn (pts l) j q = pts l2 := by
  subst e
  funext i
  unfold upn pts
  rw [List.getD_eq_getElem?_getD, List.getD_eq_getElem?_getD, List.getElem?_set]
  by_cases hi : i = j
  · subst hi
    rw [if_pos rfl, if_pos rfl, if_pos h]
    rfl
  · rw [if_neg hi, if_neg (Ne.symm hi)]
theorem zR.new {G : zG} {sh : zH} {v : zV} {N : Nat} {H H1 : Heap} (h : zR G sh v N H) {K : Nat × Nat × (Nat → Nat)} (e : zok G N K (fun _ => 0) H1) (z : H1.size = N + 1) (oq : ∀ q : Nat, q < N → H1[q]? = H[q]?) : zR G (s2 sh N K) (z0 v N) (N + 1) H1 := by
  obtain ⟨h1, h2, h3, h4⟩ := h
  refine ⟨z, by omega, h3, fun b hb => ?_⟩
  by_cases hba : b = N
  · subst hba
    rw [s2_self, z0_self]
    exact e
  · rw [s2_ne hba, z0_ne hba]
    have hb2 : zdm G N b := by
      rcases hb with hb | hb
      · exact Or.inl ⟨hb.1, by omega⟩
      · exact Or.inr hb
    have hbN : b < N := by
      rcases hb2 with hb | hb
      · exact hb.2
      · rw [hb]; omega
    exact (h4 b hb2).kept (oq b hbN)
theorem zS_new {G : zG} {sh : zH} {v : zV} {N : Nat} {H0 H H1 : Heap} {locs : List Loc} (h1 : zR G sh v N H) (h : va_S (zA G) H0 H locs) (z : H1.size = N + 1) (oq : ∀ q : Nat, q < N → H1[q]? = H[q]?) : va_S (zA G) H0 H1 locs := by
  have hN : H.size = N := h1.1
  exact ⟨by have := h.1; omega, fun x g1 g2 => (oq x (by have := h.1; omega)).trans (h.2.1 x g1 g2), h.2.2⟩
section ZNEW
variable {p : Program} {l : Launch} {e : Env} {R : Room} {s : State} {m : MethodId} {args : Array Value} {below : List Frame} {meth : Method} {c : Code} {cells slots : Nat} {Q : State → Prop} {G : zG} {nL : Nat} {sh : zH} {v : zV} {N pc : Nat} {lv : List (Option Value)} {st : List Value} {own nm : String} {cc : ByteArray} {ret : Option FieldType}
theorem r_new (C : zC p s m args meth c own nm cc nL ret G) {ci NF index : Nat} {Cn : String} {Tn : u_T} {ty0 : Nat → FieldType} (hc : zcl[ci]? = some (Cn, Tn, NF)) (hci : ci < 8) (hin : ∀ w ∈ u_ws Cn Tn NF, w ∈ TB) (hty : ∀ k, k < NF → parseFieldDescriptor (Tn k).2.2.1 = some (ty0 k)) (hcl : Cond.classLink own index Cn ∈ TB) (hinst : Cond.instantiable Cn NF ∈ TB) (hini : Cond.initialized Cn ∈ TB) {L : List Nat} (hpt : ∀ j, j < NF → defaultValue (ty0 j) = zl (pts L j) 0) (hcells : cells + 1 ≤ R.cells) (hslots : slots + NF ≤ R.slots) (hdg : decode cc pc = .ok (.new index, 3)) (kk : VV p l e R s m args below meth c (cells + 1) (slots + NF) Q G nL (s2 sh N (ci, NF, pts L)) (z0 v N) (N + 1) (pc + 3) lv (.ref N :: st)) : VV p l e R s m args below meth c cells slots Q G nL sh v N pc lv st := fun H locs ls h1 h2 h3 => by
  have hts := C.2.2.2.2.1
  have hKn := C.k.1 ci _ hc
  refine W.newcK C.1 C.2.1 C.2.2.2.1 (hts _ hcl) (hts _ hinst) (hts _ hini) rfl hdg hcells hslots hKn.2.1 h1.1 fun H1 kC hkC e1 z1 o1 => ?_
  refine kk H1 locs ls (h1.new ?_ z1 o1) (zS_new h1 h2 z1 o1) h3
  refine ⟨fun _ => ?_, fun h => absurd h.1 (by show ¬ 8 ≤ ci; omega)⟩
  exact (u_born ty0 hts hin hKn hkC e1 hty).to hpt
theorem r_newi (C : zC p s m args meth c own nm cc nL ret G) {n : Nat} (harr : Cond.arrayClass .int ∈ TB) (hn : n < 2 ^ 20) (hcells : cells + 1 ≤ R.cells) (hslots : slots + n ≤ R.slots) (hdg : decode cc pc = .ok (.newarray .int, 2)) (kk : VV p l e R s m args below meth c (cells + 1) (slots + n) Q G nL (s2 sh N (8, n, fun _ => 0)) (z0 v N) (N + 1) (pc + 2) lv (.ref N :: st)) : VV p l e R s m args below meth c cells slots Q G nL sh v N pc lv (.int (nI n) :: st) := fun H locs ls h1 h2 h3 => by
  have hts := C.2.2.2.2.1
  have hb : n * componentBytes (newarray.typeOf .int) ≤ 536870912 := by
    show n * 4 ≤ 536870912
    omega
  refine va_newaK (atype := .int) C.1 C.2.1 (hts _ harr) rfl hdg rfl (nI_pos (by omega)) (nI_clamp (by omega)) hb hcells hslots h1.1 fun H1 cA e1 z1 o1 hAr hNm => ?_
  have hcA : G.2.1 8 = cA := Option.some.inj ((show s.vm.findClass ("[" ++ (FieldType.int).toString) = some (G.2.1 8) from (C.k.2 0 _ rfl).2).symm.trans hNm)
  refine kk H1 locs ls (h1.new ?_ z1 o1) (zS_new h1 h2 z1 o1) h3
  refine ⟨fun h => absurd h (Nat.lt_irrefl 8), fun _ => ?_⟩
  show H1[N]? = some (arrV (G.2.1 8) n _)
  rw [e1, hcA]
  rfl
theorem r_newz (C : zC p s m args meth c own nm cc nL ret G) {n : Nat} (harr : Cond.arrayClass .boolean ∈ TB) (hn : n < 2 ^ 20) (hcells : cells + 1 ≤ R.cells) (hslots : slots + n ≤ R.slots) (hdg : decode cc pc = .ok (.newarray .boolean, 2)) (kk : VV p l e R s m args below meth c (cells + 1) (slots + n) Q G nL (s2 sh N (9, n, fun _ => 0)) (z0 v N) (N + 1) (pc + 2) lv (.ref N :: st)) : VV p l e R s m args below meth c cells slots Q G nL sh v N pc lv (.int (nI n) :: st) := fun H locs ls h1 h2 h3 => by
  have hts := C.2.2.2.2.1
  have hb : n * componentBytes (newarray.typeOf .boolean) ≤ 536870912 := by
    show n * 1 ≤ 536870912
    omega
  refine va_newaK (atype := .boolean) C.1 C.2.1 (hts _ harr) rfl hdg rfl (nI_pos (by omega)) (nI_clamp (by omega)) hb hcells hslots h1.1 fun H1 cA e1 z1 o1 hAr hNm => ?_
  have hcA : G.2.1 9 = cA := Option.some.inj ((show s.vm.findClass ("[" ++ (FieldType.boolean).toString) = some (G.2.1 9) from (C.k.2 1 _ rfl).2).symm.trans hNm)
  refine kk H1 locs ls (h1.new ?_ z1 o1) (zS_new h1 h2 z1 o1) h3
  refine ⟨fun h => absurd h (by show ¬ 9 < 8; decide), fun _ => ?_⟩
  show H1[N]? = some (arrV (G.2.1 9) n _)
  rw [e1, hcA]
  rfl
theorem r_newr (C : zC p s m args meth c own nm cc nL ret G) {ci n index : Nat} {Cn : String} (hci : 8 ≤ ci) (ht : (zty G)[ci - 8]? = some (G.2.1 ci, .object Cn)) (hcl : Cond.classLink own index Cn ∈ TB) (hov : va_AO Cn s) {pt : Nat → Nat} (hpt : ∀ j, j < n → pt j = 1) (hn : n < 2 ^ 20) (hcells : cells + 1 ≤ R.cells) (hslots : slots + n ≤ R.slots) (hdg : decode cc pc = .ok (.anewarray index, 3)) (kk : VV p l e R s m args below meth c (cells + 1) (slots + n) Q G nL (s2 sh N (ci, n, pt)) (z0 v N) (N + 1) (pc + 3) lv (.ref N :: st)) : VV p l e R s m args below meth c cells slots Q G nL sh v N pc lv (.int (nI n) :: st) := fun H locs ls h1 h2 h3 => by
  have hts := C.2.2.2.2.1
  have hcl2 : (nI n).toNatClampNeg = n := nI_clamp (by omega)
  have kk2 := kk
  rw [← hcl2] at kk2
  refine W.anew C.1 C.2.1 C.2.2.2.1 (hts _ hcl) (va_AO.use hov) rfl hdg rfl (nI_pos (by omega)) (by rw [hcl2]; omega) hcells (by rw [hcl2]; exact hslots) fun cA kA comp f1 f2 f3 f4 => ?_
  obtain ⟨kA2, comp2, g1, g2, g3, g4⟩ := (C.k.2 _ _ ht).2
  have hcA : G.2.1 ci = cA := Option.some.inj (g4.symm.trans f1)
  generalize hH1 : H.push ({ cls := cA, slots := Array.replicate (nI n).toNatClampNeg .null, vm := .none } : Cell) = H1
  have z1 : H1.size = N + 1 := by rw [← hH1, Array.size_push, h1.1]
  have e1 : H1[N]? = some (arrV cA n (fun _ => .null)) := by rw [← hH1, ← h1.1, Array.getElem?_push_size, hcl2, ← arrV_new]
  have o1 : ∀ q : Nat, q < N → H1[q]? = H[q]? := fun q hq => by rw [← hH1, Array.getElem?_push, if_neg (by have := h1.1; omega)]
  rw [hcl2]
  have hHN : H.size = N := h1.1
  rw [hHN]
  refine kk H1 locs ls (h1.new ?_ z1 o1) (zS_new h1 h2 z1 o1) h3
  refine ⟨fun h => absurd h (by show ¬ ci < 8; omega), fun _ => ?_⟩
  show H1[N]? = some (arrV (G.2.1 ci) n _)
  rw [e1, hcA]
  exact congrArg some (arrV_ex (fun j hj => by show Value.null = zl (pt j) 0; rw [hpt j hj]; rfl))
theorem zok_setr {G : zG} {a ci NF k q : Nat} {pt : Nat → Nat} {f : Nat → Int32} {cell : Cell} {H1 : Heap} (hci : ci < 8) (q2 : cell.cls = G.1.1 ci) (q3 : cell.vm = .none) (q4 : ∀ j, j < NF → cell.slots[G.1.2 ci j]? = some (zl (pt j) (f j))) (hap : ∀ x y, x < NF → y < NF → x ≠ y → (G.1.2 ci) x ≠ (G.1.2 ci) y) (hk : k < NF) (e1 : H1[a]? = some (cell.setSlot (G.1.2 ci k) (.ref q))) : zok G a (ci, NF, upn pt k (q + 2)) f H1 := by
  refine ⟨fun _ => ⟨_, e1, q2, q3, fun j hj => ?_⟩, fun h => absurd h.1 (by simpa using hci)⟩
  rw [t_set q4 hap hk (.ref q) j hj]
  by_cases hjk : j = k
  · subst hjk
    simp [updV, upn, zl]
  · simp [updV, upn, hjk]
theorem r_putF (C : zC p s m args meth c own nm cc nL ret G) {ci NF a k q index : Nat} {L L2 : List Nat} {Cn : String} {Tn : u_T} {ty0 : Nat → FieldType} (hc : zcl[ci]? = some (Cn, Tn, NF)) (hci : ci < 8) (hin : ∀ w ∈ u_ws Cn Tn NF, w ∈ TB) (hty : ∀ k, k < NF → parseFieldDescriptor (Tn k).2.2.1 = some (ty0 k)) (hnm : ∀ a, a < NF → ∀ b, b < NF → a ≠ b → (Tn a).2.1 ≠ (Tn b).2.1) (hk : k < NF) (hfin : (Tn k).2.2.2 = true) (hin2 : nm = "<init>") (hdecl : (Tn k).1 = own) (hn : narrow (ty0 k) (.ref q) = .ref q) (hfit : fits (ty0 k) (.ref q) = true) (hlink : Cond.fieldLink own index (Tn k).1 (Tn k).2.1 (Tn k).2.2.1 ∈ TB) (hd : G.2.2.1 ≤ a ∧ a < N) (hsh : sh a = (ci, NF, pts L)) (hkl : k < L.length) (hL : L.set k (q + 2) = L2) (hdg : decode cc pc = .ok (.putfield index, 3)) (kk : VV p l e R s m args below meth c cells slots Q G nL (s2 sh a (ci, NF, pts L2)) v N (pc + 3) lv st) : VV p l e R s m args below meth c cells slots Q G nL sh v N pc lv (.ref q :: .ref a :: st) := fun H locs ls h1 h2 h3 => by
  have hts := C.2.2.2.2.1
  have hK := C.k
  have hap := va_apart (own := own) hts hin ty0 hty hnm hK hc
  obtain ⟨cell, q1, q2, q3, q4⟩ := (h1.2.2.2 a (Or.inl hd)).obj hsh hci
  obtain ⟨hS, hfc, kC, hkC, hkind⟩ := hK.1 ci _ hc
  obtain ⟨cf, kf, fi, f, hi, hsl⟩ := hS k hk
  have hlay := hts _ (hin _ (u_in_lay hk))
  unfold u_lay at hlay
  rw [if_pos hfin] at hlay
  have hst := (u_facts hfc hkC (u_lays hts hin hk) hi).1
  have hown := C.2.2.2.1
  have hcf : m.cls = cf := by
    obtain ⟨_, _, c', _, _, _, -, -, hf', -, -, -, hown2, -⟩ := Cond.laysFinal_spec hlay
    have e1 : c' = cf := by have := hi.symm.trans hf'; simp at this; exact this.1.symm
    rw [hdecl] at hown2
    rw [← e1]; exact Option.some.inj (hown.symm.trans hown2)
  have h6 := u_fits hfc hkC hkind (Or.inr hlay) hi (hty k hk) hn hfit
  refine W.putFinK C.1 C.2.1 hown (hts _ hlink) hi hst hcf (C.2.2.2.2.2.2.2.1.trans hin2) (by rw [q2]; exact h6) q1 q3 (by rw [hsl]; exact k2_hasslot (q4 k hk)) rfl rfl hdg fun H' e1 e2 e3 => ?_
  rw [hsl] at e1 ⊢
  refine kk H' _ ls (h1.shp ?_ e2 e3) (h2.put e2 e3 hd.1) h3
  rw [← upn_pts hkl hL]
  exact zok_setr hci q2 q3 q4 hap hk e1
theorem VV.gc {k n : Nat} (hk : cells = k) (hn : slots = n) (kk : VV p l e R s m args below meth c k n Q G nL sh v N pc lv st) : VV p l e R s m args below meth c cells slots Q G nL sh v N pc lv st := by rw [hk, hn]; exact kk
theorem VV.gN {N1 : Nat} (h : N = N1) (kk : VV p l e R s m args below meth c cells slots Q G nL sh v N1 pc lv st) : VV p l e R s m args below meth c cells slots Q G nL sh v N pc lv st := by rw [h]; exact kk
/-- FIRST_WEIGHTS, read -/
def zcF (v : zV) (a : Nat) : zV := fun b j => if b = a ∧ j < 7 then nI (fwl.getD j 0) else v b j
theorem zcF_at {v : zV} {a j : Nat} (h : j < 7) : zcF v a a j = nI (fwl.getD j 0) := by simp [zcF, h]
theorem zcF_ne {v : zV} {a b : Nat} (h : b ≠ a) : zcF v a b = v b := by funext j; simp [zcF, h]
def zZ (G : zG) (U : State) : Prop := va_Z "RelayTransfer$Setup" "FIRST_WEIGHTS" "[I" (.ref G.2.2.2) (zA G) U U.heap ∧ va_T .int G.2.2.2 7 (fun j => .int (nI (fwl.getD j 0))) (zA G) U U.heap
def zMZ (l : Launch) (G : zG) (y : MethodName) (b : ByteArray) (mL : Nat) (ret : Option FieldType) (dp mc ms : Nat) (as : List Value) (sh : zH) (v : zV) (N : Nat) (Post : Option Value → zH → zV → Nat → Prop) : Prop :=
  Met l y (Cond.code y b mL ret :: TB) ({ frames := dp, cells := mc, slots := ms, locals := 32 * dp }) (va_Pc as (fun U => (zR G sh v N U.heap ∧ zK G U) ∧ zZ G U)) (fun _ st o t => (∃ (r : Option Value) (sh1 : zH) (v1 : zV) (N1 : Nat), o = .returned r ∧ Post r sh1 v1 N1 ∧ zR G sh1 v1 N1 t.heap) ∧ va_F (zA G) st t) mc ms (zA G)
theorem zMZ.of {l : Launch} {G : zG} {y : MethodName} {b : ByteArray} {mL : Nat} {ret : Option FieldType} {dp mc ms : Nat} {as : List Value} {sh : zH} {v : zV} {N : Nat} {Post : Option Value → zH → zV → Nat → Prop} (hy : plainName y.cls = true) (hc : as.all (fun w => w.category == 1) = true) (hl : as.length ≤ mL)
    (h : ∀ (p : Program) (e : Env) (s : State) (m : MethodId) (args : Array Value) (below : List Frame) (meth : Method) (c : Code), zC p s m args meth c y.cls y.name b mL ret G → zZ G s →
      VV p l e ({ frames := dp, cells := mc, slots := ms, locals := 32 * dp }) s m args below meth c 0 0 (zQ below Post G args s mc ms) G mL sh v N 0 (as.map some ++ List.replicate (mL - as.length) none) []) : zMZ l G y b mL ret dp mc ms as sh v N Post := by
  refine Met.ofW (cc := b) (maxL := mL) (ret := ret) hy rfl ?_
  intro p e s m args below meth c s₁ B hml hv
  obtain ⟨rfl, ⟨hR, hK⟩, hZ⟩ := hv
  have hts := atoms_spec (ws := Cond.code y b mL ret :: TB) B.pre
  have C : zC p s m as.toArray meth c y.cls y.name b mL ret G := ⟨B.exec, B.bytes, hml, findClass_of_methodNamed B.named, fun w hw => hts w (List.mem_cons_of_mem _ hw), B.returns, B.notSynchronized, (name_of_methodNamed B.named B.method).1, hK⟩
  have hc1 : ∀ x ∈ as, x.category = 1 := fun x hx => by simpa using List.all_eq_true.mp hc x hx
  have := h p e s m as.toArray below meth c C hZ s.heap [] _ hR va_S.rf (lo_entry hc1 hl)
  rw [lg_entry_eq]
  exact this
theorem zZ.same {G : zG} {u U : State} (hv : u.vm = U.vm) (hh : u.heap = U.heap) (h : zZ G u) : zZ G U := by
  have ha : u.vm.Alike U.vm := by rw [hv]; exact Vm.Alike.refl U.vm
  unfold zZ at h ⊢
  rw [← hh]
  exact ⟨va_Z.moved ha h.1, va_T.moved ha h.2⟩
theorem zZ.at {G : zG} {s U : State} {H : Heap} {locs : List Loc} (h : zZ G s) (h2 : va_S (zA G) s.heap H locs) (hU : U.heap = H) (hW : s.WarmedH U.vm) : zZ G U := by
  unfold zZ at h ⊢
  rw [hU]
  exact ⟨va_Z.kept (va_Z.moved hW.alike h.1) h2.2.1, va_T.kept (va_T.moved hW.alike h.2) h2.2.1⟩
theorem zBlindZ {G : zG} {as : List Value} {sh : zH} {v : zV} {N : Nat} : FrameBlind (va_Pc as (fun U => (zR G sh v N U.heap ∧ zK G U) ∧ zZ G U)) := fun a U g mk q => ⟨q.1, ⟨q.2.1.1, zK.same (u := U) (U := U.calling g mk a) rfl q.2.1.2⟩, zZ.same (u := U) (U := U.calling g mk a) rfl rfl q.2.2⟩
theorem r_callIZ (C : zC p s m args meth c own nm cc nL ret G) (hZ : zZ G s) {y : MethodName} {b2 : ByteArray} {mL idx n dp mc ms : Nat} {a : Nat} {As : List Value} {stk : List Value} {Post : Option Value → zH → zV → Nat → Prop} (hM : zMZ l G y b2 mL none dp mc ms (.ref a :: As) sh v N Post) (hy : zYI y b2 mL n) (hlink : Cond.methodLink own idx y ∈ TB) (hn : As.length = n) (hstk : stk = As.reverse ++ .ref a :: st) (hcat : (st.map fun w => w.category).sum ≤ 8) (hR : dp + 1 ≤ R.frames ∧ 8 + (mL + 11) + 32 * dp ≤ R.locals) (hroom : cells + mc ≤ R.cells ∧ slots + ms ≤ R.slots) (hdg : decode cc pc = .ok (.invokespecial idx, 3))
    (kk : ∀ (r : Option Value) (sh1 : zH) (v1 : zV) (N1 : Nat), Post r sh1 v1 N1 → VV p l e R s m args below meth c (cells + mc) (slots + ms) Q G nL sh1 v1 N1 (pc + 3) lv (r.toList ++ st)) : VV p l e R s m args below meth c cells slots Q G nL sh v N pc lv stk := by
  subst hstk
  intro H locs ls h1 h2 h3
  have hts := C.2.2.2.2.1
  have run := va_runI (meth := meth) (below := below) (e := e) (cells := cells) (slots := slots) (locs := locs) (g := F0 m pc ls (As.reverse ++ .ref a :: st)) (rest := st) ⟨C.1, C.2.1, C.2.2.1, C.2.2.2.1, hts⟩ hM (⟨callB_of (ws' := TB) n hts (zGood hy.1) rfl rfl rfl (hts _ hy.2.1) (hts _ hlink) hy.2.2.2.2 hR, hy.2.2.2.1, hts _ hy.2.2.1⟩) ⟨zBlindZ, fun U hU hW => ⟨rfl, ⟨by rw [hU]; exact h1, zK.moved hW C.2.2.2.2.2.2.2.2⟩, hZ.at h2 hU hW⟩⟩ rfl hn h3.1 rfl (by simpa [JFrame.monitorRoom] using hcat) hdg hroom
  intro T hT X
  obtain ⟨v0, st0, t, T1, L, e0, X1, hL, e1, e2, ⟨⟨r, sh1, v1, N1, ho, hp, hz⟩, hF⟩, go⟩ := run T hT X
  cases ho
  obtain ⟨t2, a1, b1⟩ := kk v0 sh1 v1 N1 hp T1.heap (locs ++ L) ls (by rw [e1]; exact hz) (zS_after h2 e0 hF e1 hL) h3 T1 rfl X1
  exact ⟨t2, go t2 a1, b1⟩
theorem r_getsF (C : zC p s m args meth c own nm cc nL ret G) (hZ : zZ G s) {index : Nat} (hlink : Cond.fieldLink own index "RelayTransfer$Setup" "FIRST_WEIGHTS" "[I" ∈ TB) (hdg : decode cc pc = .ok (.getstatic index, 3)) (kk : VV p l e R s m args below meth c cells slots Q G nL sh v N (pc + 3) lv (.ref G.2.2.2 :: st)) : VV p l e R s m args below meth c cells slots Q G nL sh v N pc lv st := fun H locs ls h1 h2 h3 => va_gets C.1 C.2.1 hZ.1 h2 C.2.2.2.1 (C.2.2.2.2.1 _ hlink) (fun x h => h) hdg (kk H locs ls h1 h2 h3)
theorem r_alenT (C : zC p s m args meth c own nm cc nL ret G) (hZ : zZ G s) (hdg : decode cc pc = .ok (.arraylength, 1)) (kk : VV p l e R s m args below meth c cells slots Q G nL sh v N (pc + 1) lv (.int (nI 7) :: st)) : VV p l e R s m args below meth c cells slots Q G nL sh v N pc lv (.ref G.2.2.2 :: st) := fun H locs ls h1 h2 h3 => by
  obtain ⟨cell, g1, g2, g3, g4, g5, g6, g7⟩ := va_T.kept hZ.2 h2.2.1
  exact W.alen (n := nI 7) C.1 C.2.1 g1 g2 g5 rfl rfl hdg (kk H locs ls h1 h2 h3)
theorem r_copyT (C : zC p s m args meth c own nm cc nL ret G) (hZ : zZ G s) {a idx : Nat} (hlink : Cond.methodLink own idx arraycopyName ∈ TB) (hd : G.2.2.1 ≤ a ∧ a < N) (hs : sh a = (8, 7, fun _ => 0)) (hR : 1 ≤ R.frames ∧ (st.map fun w => w.category).sum + (nativeFrameWords "java/lang/System" "arraycopy" 5 + 11) ≤ R.locals) (hdg : decode cc pc = .ok (.invokestatic idx, 3)) (kk : VV p l e R s m args below meth c cells slots Q G nL sh (zcF v a) N (pc + 3) lv st) : VV p l e R s m args below meth c cells slots Q G nL sh v N pc lv (.int (nI 7) :: .int (nI 0) :: .ref a :: .int (nI 0) :: .ref G.2.2.2 :: st) := fun H locs ls h1 h2 h3 => by
  obtain ⟨cellT, t1, t2, t3, t4, t5, t6, t7⟩ := va_T.kept hZ.2 h2.2.1
  have hq1 := (h1.2.2.2 a (Or.inl hd)).arr hs (by decide)
  have hA := (C.k.2 0 _ rfl).1
  obtain ⟨-, k0, hk0, cm0, hkk0⟩ := hA 7 (fun j => .int (v a j))
  obtain ⟨hns, kT, hkT, cmT, hkkT⟩ := t2
  have hz : ¬ nI 7 < 0 := nI_pos (by omega)
  have hcl : (nI 7).toNatClampNeg = 7 := nI_clamp (by omega)
  have hti : (nI 7).toInt = (7 : Int) := nI_toInt (by omega)
  intro T hT X
  obtain ⟨vm1, X1, step⟩ := X.arraycopy C.1 C.2.2.2.1 (C.2.2.2.2.1 _ hlink) (C.2.2.2.2.1 _ q_acn) (C.2.2.2.2.1 _ q_acs) (C.2.2.2.2.1 _ q_sys) (src := G.2.2.2) (dst := a) (cs := cellT) (cd := arrV (G.2.1 8) 7 (fun j => .int (v a j))) (srcPos := nI 0) (destPos := nI 0) (n := nI 7) (by rw [hT]; exact t1) (by rw [hT]; exact hq1)
    hns (fun _ h => by cases h) t3 (fun h => by cases h) hkT hk0 hkkT hkk0 (by simp [refKind]) (by decide) (by decide) hz
    (by rw [hti]; show ¬ (0 : Int) + _ > (cellT.slots.size : Int); omega)
    (by rw [hti]; show ¬ (0 : Int) + _ > ((arrV _ 7 _).slots.size : Int); rw [arrV_size]; omega)
    (fun vm1 _ i hi => by
      have e : cellT.slots.getD ((nI 0).toNatClampNeg + i) .null = .int (nI (fwl.getD i 0)) := by
        rw [hcl] at hi
        rw [Array.getD_eq_getD_getElem?, show (nI 0).toNatClampNeg + i = i from Nat.zero_add i, t6 i hi]
        rfl
      exact ⟨by rw [e]; rfl, by rw [e]; exact trivial⟩)
    (g := F0 m pc ls (.int (nI 7) :: .int (nI 0) :: .ref a :: .int (nI 0) :: .ref G.2.2.2 :: st)) rfl (h3.1.trans C.2.2.1.symm) (rest := st) rfl (by rw [C.2.1]; exact hdg) hR.1 (by show 2 * 0 + _ + _ ≤ _; omega)
  have e1 : copied cellT (arrV (G.2.1 8) 7 (fun j => .int (v a j))) (nI 0) (nI 0) (nI 7) = vp_cell (G.2.1 8) (7, .inl (va_cpy (fun j => nI (fwl.getD j 0)) (v a) (nI 0).toNatClampNeg (nI 0).toNatClampNeg (nI 7).toNatClampNeg)) := va_copiedX (fun z => .int z) cellT (G.2.1 8) (n0 := 7) (fun j => nI (fwl.getD j 0)) (v a) (fun j hj => t6 j hj) (by rw [hcl]; show 0 + 7 ≤ 7; omega)
  rw [e1] at X1 step
  have hl : a < H.size := (Array.getElem?_eq_some_iff.mp hq1).1
  generalize hnew : vp_cell (G.2.1 8) (7, .inl (va_cpy (fun j => nI (fwl.getD j 0)) (v a) (nI 0).toNatClampNeg (nI 0).toNatClampNeg (nI 7).toNatClampNeg)) = new at X1 step
  have hheap : ((T.setVm vm1).setCell a new).heap = H.setIfInBounds a new := by rw [← hT]; rfl
  have oq : ∀ q : Nat, q ≠ a → (H.setIfInBounds a new)[q]? = H[q]? := fun q hq => by simp [Array.getElem?_setIfInBounds, Ne.symm hq]
  have hR2 : zR G sh (zcF v a) N (H.setIfInBounds a new) := by
    refine ⟨by simp; exact h1.1, h1.2.1, h1.2.2.1, fun b hb => ?_⟩
    by_cases hba : b = a
    · subst hba
      rw [hs]
      refine ⟨fun h => absurd h (Nat.lt_irrefl 8), fun _ => ?_⟩
      show _ = some (arrV (G.2.1 8) 7 _)
      rw [Array.getElem?_setIfInBounds_self_of_lt hl, ← hnew, vp_cell_i, hcl]
      congr 2
      funext j
      simp [zl, zcF, va_cpy, nI_0]
    · rw [zcF_ne hba]
      exact (h1.2.2.2 b hb).kept (oq b hba)
  obtain ⟨t, a1, b1⟩ := kk _ _ ls hR2 ⟨by simp; exact h2.1, fun q g1 g2 => by
      rw [oq q (fun e => g2 (by rw [e]; exact hd.1))]
      exact h2.2.1 q g1 g2, fun q hq => by
      rcases List.mem_append.mp hq with h | h
      · exact h2.2.2 q h
      · obtain ⟨z, -, hz⟩ := List.mem_map.mp h
        rw [← hz]
        exact hd.1⟩ h3 _ hheap X1
  exact ⟨t, step t a1, b1⟩
theorem r_callSNZ (C : zC p s m args meth c own nm cc nL ret G) (hZ : zZ G s) {y : MethodName} {b2 : ByteArray} {mL idx n dp mc ms : Nat} {rt : Option FieldType} {host : String} {As : List Value} {stk : List Value} {Post : Option Value → zH → zV → Nat → Prop} (hM : zMZ l G y b2 mL rt dp mc ms As sh v N Post) (hy : zYS y b2 mL rt n) (hlink : Cond.methodLinkNest own idx y host ∈ NB) (hn : As.length = n) (hstk : stk = As.reverse ++ st) (hcat : (st.map fun w => w.category).sum ≤ 8) (hR : dp + 1 ≤ R.frames ∧ 8 + (mL + 11) + 32 * dp ≤ R.locals) (hroom : cells + mc ≤ R.cells ∧ slots + ms ≤ R.slots) (hdg : decode cc pc = .ok (.invokestatic idx, 3))
    (kk : ∀ (r : Option Value) (sh1 : zH) (v1 : zV) (N1 : Nat), Post r sh1 v1 N1 → VV p l e R s m args below meth c (cells + mc) (slots + ms) Q G nL sh1 v1 N1 (pc + 3) lv (r.toList ++ st)) : VV p l e R s m args below meth c cells slots Q G nL sh v N pc lv stk := by
  subst hstk
  intro H locs ls h1 h2 h3
  have hts := C.2.2.2.2.1
  have run := va_runSN (meth := meth) (below := below) (e := e) (cells := cells) (slots := slots) (locs := locs) (g := F0 m pc ls (As.reverse ++ st)) (rest := st) ⟨C.1, C.2.1, C.2.2.1, C.2.2.2.1, hts⟩ hM (⟨⟨⟨rfl, rfl, hR.1, hR.2, pay_in hts (zGood hy.1), List.mem_cons_self⟩, hts _ hy.1, hts _ hy.2.1, ⟨hy.2.2.2.1, hy.2.2.2.2.1⟩, zPar hy.2.2.2.2.2, C.n hlink⟩, hts _ hy.2.2.1, trivial⟩) ⟨zBlindZ, fun U hU hW => ⟨rfl, ⟨by rw [hU]; exact h1, zK.moved hW C.2.2.2.2.2.2.2.2⟩, hZ.at h2 hU hW⟩⟩ rfl hn h3.1 rfl (by simpa [JFrame.monitorRoom] using hcat) hdg hroom
  intro T hT X
  obtain ⟨v0, st0, t, T1, L, e0, X1, hL, e1, e2, ⟨⟨r, sh1, v1, N1, ho, hp, hz⟩, hF⟩, go⟩ := run T hT X
  cases ho
  obtain ⟨t2, a1, b1⟩ := kk v0 sh1 v1 N1 hp T1.heap (locs ++ L) ls (by rw [e1]; exact hz) (zS_after h2 e0 hF e1 hL) h3 T1 rfl X1
  exact ⟨t2, go t2 a1, b1⟩
/-- floats -/
theorem r_fconst0 (C : zC p s m args meth c own nm cc nL ret G) (hdg : decode cc pc = .ok (.fconst 0, 1)) (kk : VV p l e R s m args below meth c cells slots Q G nL sh v N (pc + 1) lv (.float FP.fconst0 :: st)) : VV p l e R s m args below meth c cells slots Q G nL sh v N pc lv st := fun H locs ls h1 h2 h3 => lv_fconst0 C.1 C.2.1 hdg (kk H locs ls h1 h2 h3)
theorem r_i2f (C : zC p s m args meth c own nm cc nL ret G) {x : Int32} (hdg : decode cc pc = .ok (.i2f, 1)) (kk : VV p l e R s m args below meth c cells slots Q G nL sh v N (pc + 1) lv (.float (FP.i2f x) :: st)) : VV p l e R s m args below meth c cells slots Q G nL sh v N pc lv (.int x :: st) := fun H locs ls h1 h2 h3 => lv_i2f C.1 C.2.1 hdg (kk H locs ls h1 h2 h3)
theorem r_fdiv (C : zC p s m args meth c own nm cc nL ret G) {x y : UInt32} (hne : vf_n32 (FP.fdiv x y)) (hdg : decode cc pc = .ok (.fdiv, 1)) (kk : VV p l e R s m args below meth c cells slots Q G nL sh v N (pc + 1) lv (.float (FP.fdiv x y) :: st)) : VV p l e R s m args below meth c cells slots Q G nL sh v N pc lv (.float y :: .float x :: st) := fun H locs ls h1 h2 h3 => lv_fdiv C.1 C.2.1 hdg hne (kk H locs ls h1 h2 h3)
variable {Post : Option Value → zH → zV → Nat → Prop}
theorem r_fret (C : zC p s m args meth c own nm cc nL ret G) {x : UInt32} (hret : ret = some .float) (hdg : decode cc pc = .ok (.freturn, 1)) (hp : Post (some (.float x)) sh v N) : VV p l e R s m args below meth c cells slots (zQ below Post G args s cells slots) G nL sh v N pc lv [.float x] := fun H locs ls h1 h2 h3 =>
  W.fret C.1 C.2.1 (C.2.2.2.2.2.1.trans hret) (fun t ht hW => ⟨⟨_, _, _, _, rfl, hp, by rw [ht]; exact h1⟩, h2.F ht⟩) h2.2.2 hdg C.2.2.2.2.2.2.1
end ZNEW
/-- no NaN comes of the quotient of two counts -/
theorem b32_t : FP.Core.b32.tails = 8388608 := by decide +kernel
theorem b32_e : FP.Core.b32.exps = 256 := by decide +kernel
theorem b32_m : FP.Core.b32.qmin = -149 := by decide +kernel
theorem b32_M : FP.Core.b32.qmax = 104 := by decide +kernel
theorem b32_p : 2 ^ FP.Core.b32.p = 16777216 := by decide +kernel
theorem b64_t : FP.Core.b64.tails = 4503599627370496 := by decide +kernel
theorem b64_e : FP.Core.b64.exps = 2048 := by decide +kernel
theorem b64_m : FP.Core.b64.qmin = -1074 := by decide +kernel
theorem b64_M : FP.Core.b64.qmax = 971 := by decide +kernel
theorem b64_p : 2 ^ FP.Core.b64.p = 9007199254740992 := by decide +kernel
theorem e32_fin (s : Bool) (c : Nat) (q : Int) (hc : c < 16777216) : FP.Core.encode FP.Core.b32 (.fin s c q) = (if s then 2147483648 else 0) + (if c < 8388608 then c else ((q + 149).toNat + 1) * 8388608 + (c - 8388608)) := by
  unfold FP.Core.encode FP.Core.assemble
  rw [b32_t, b32_e, b32_m]
  have hq : q - -149 = q + 149 := by omega
  dsimp only
  rw [hq]
  by_cases h : c < 8388608
  · rw [if_pos h, if_pos h]
    cases s <;> simp [Bool.toNat] <;> omega
  · rw [if_neg h, if_neg h]
    cases s <;> simp [Bool.toNat] <;> omega
theorem e32_inf (s : Bool) : FP.Core.encode FP.Core.b32 (.inf s) = (if s then 2147483648 else 0) + 2139095040 := by cases s <;> decide +kernel
theorem e64_fin (s : Bool) (c : Nat) (q : Int) (hc : c < 9007199254740992) : FP.Core.encode FP.Core.b64 (.fin s c q) = (if s then 9223372036854775808 else 0) + (if c < 4503599627370496 then c else ((q + 1074).toNat + 1) * 4503599627370496 + (c - 4503599627370496)) := by
  unfold FP.Core.encode FP.Core.assemble
  rw [b64_t, b64_e, b64_m]
  have hq : q - -1074 = q + 1074 := by omega
  dsimp only
  rw [hq]
  by_cases h : c < 4503599627370496
  · rw [if_pos h, if_pos h]
    cases s <;> simp [Bool.toNat] <;> omega
  · rw [if_neg h, if_neg h]
    cases s <;> simp [Bool.toNat] <;> omega
theorem e64_inf (s : Bool) : FP.Core.encode FP.Core.b64 (.inf s) = (if s then 9223372036854775808 else 0) + 9218868437227405312 := by cases s <;> decide +kernel
def fok (f : FP.Core.Fmt) (M : Int) : FP.Core.Datum → Prop
  | .nan => False
  | .inf _ => True
  | .fin _ c q => c < 2 ^ f.p ∧ q ≤ M
theorem fok_rr (f : FP.Core.Fmt) (hp : f.tails < 2 ^ f.p) (hm : f.qmin ≤ f.qmax) (s : Bool) (num den : Nat) (e : Int) : fok f f.qmax (FP.Core.roundRatio f s num den e) := by
  have hb : ∀ (c : Nat) (q : Int), c < 2 ^ f.p → fok f f.qmax (FP.Core.bound f s c q) := fun c q hc => by
    unfold FP.Core.bound
    split
    · rename_i hq; exact ⟨hc, hq⟩
    · exact trivial
  unfold FP.Core.roundRatio
  split
  · exact ⟨Nat.two_pow_pos _, hm⟩
  · unfold FP.Core.roundAt FP.Core.settle
    split
    · rename_i hc; exact hb _ _ hc
    · exact hb _ _ hp
theorem fok32 {d : FP.Core.Datum} (h : fok FP.Core.b32 FP.Core.b32.qmax d) : FP.Core.encode FP.Core.b32 d < 4294967296 ∧ FP.Core.encode FP.Core.b32 d % 2147483648 ≤ 2139095040 := by
  cases d with
  | nan => exact h.elim
  | inf s => rw [e32_inf]; cases s <;> decide
  | fin s c q =>
    obtain ⟨h1, h2⟩ := h
    rw [b32_p] at h1
    rw [b32_M] at h2
    rw [e32_fin s c q h1]
    cases s
    · rw [if_neg (by decide)]
      split <;> omega
    · rw [if_pos rfl]
      split <;> omega
theorem fok64 {d : FP.Core.Datum} (h : fok FP.Core.b64 FP.Core.b64.qmax d) : FP.Core.encode FP.Core.b64 d < 18446744073709551616 ∧ FP.Core.encode FP.Core.b64 d % 9223372036854775808 ≤ 9218868437227405312 := by
  cases d with
  | nan => exact h.elim
  | inf s => rw [e64_inf]; cases s <;> decide
  | fin s c q =>
    obtain ⟨h1, h2⟩ := h
    rw [b64_p] at h1
    rw [b64_M] at h2
    rw [e64_fin s c q h1]
    cases s
    · rw [if_neg (by decide)]
      split <;> omega
    · rw [if_pos rfl]
      split <;> omega
theorem n32_iff (r : UInt32) : vf_n32 r ↔ r.toNat % 2147483648 ≤ 2139095040 := by
  unfold vf_n32
  rw [UInt32.le_iff_toNat_le, UInt32.toNat_and]
  show r.toNat &&& 2147483647 ≤ 2139095040 ↔ _
  rw [show (2147483647 : Nat) = 2 ^ 31 - 1 from rfl, Nat.and_two_pow_sub_one_eq_mod]
theorem n64_iff (r : UInt64) : vf_n64 r ↔ r.toNat % 9223372036854775808 ≤ 9218868437227405312 := by
  unfold vf_n64
  rw [UInt64.le_iff_toNat_le, UInt64.toNat_and]
  show r.toNat &&& 9223372036854775807 ≤ 9218868437227405312 ↔ _
  rw [show (9223372036854775807 : Nat) = 2 ^ 63 - 1 from rfl, Nat.and_two_pow_sub_one_eq_mod]
theorem dec_n32 {n : Nat} (h : n % 2147483648 ≤ 2139095040) : FP.Core.decode FP.Core.b32 n ≠ .nan := by
  unfold FP.Core.decode FP.Core.fieldE FP.Core.fieldT
  rw [b32_t, b32_e]
  split
  · split
    · exact fun h => by cases h
    · exfalso; omega
  · split <;> exact fun h => by cases h
theorem dec_fin {n : Nat} (h : n < 2139095040) : ∃ c q, FP.Core.decode FP.Core.b32 n = .fin false c q := by
  have hS : FP.Core.fieldS FP.Core.b32 n = false := by
    unfold FP.Core.fieldS
    rw [b32_t, b32_e]
    have : n / 8388608 / 256 % 2 = 0 := by omega
    rw [this]; rfl
  unfold FP.Core.decode
  rw [hS]
  unfold FP.Core.fieldE
  rw [b32_t, b32_e]
  split
  · exfalso; omega
  · split <;> exact ⟨_, _, rfl⟩
theorem i2f_bits {a : Nat} (h : a < 2 ^ 30) : (FP.i2f (nI a)).toNat < 2139095040 := by
  have e1 : FP.i2f (nI a) = UInt32.ofNat (FP.Core.encode FP.Core.b32 (FP.Core.roundRatio FP.Core.b32 false a 1 0)) := by
    show UInt32.ofNat (FP.Core.encode FP.Core.b32 (FP.Core.round FP.Core.b32 (FP.Core.ofInt (nI a).toInt))) = _
    rw [nI_toInt (by omega)]
    show UInt32.ofNat (FP.Core.encode FP.Core.b32 (FP.Core.roundRatio FP.Core.b32 (decide ((a : Int) < 0)) (a : Int).natAbs 1 0)) = _
    rw [decide_eq_false (by omega), Int.natAbs_natCast]
  have key : ∀ d, fok FP.Core.b32 8 d → (∀ s, d ≠ .inf s) → (∀ s c q, d = .fin s c q → s = false) → FP.Core.encode FP.Core.b32 d < 2139095040 := fun d hd hi hs => by
    cases d with
    | nan => exact hd.elim
    | inf s => exact absurd rfl (hi s)
    | fin s c q =>
      obtain ⟨h1, h2⟩ := hd
      rw [b32_p] at h1
      rw [e32_fin s c q h1, hs s c q rfl, if_neg (by decide)]
      split <;> omega
  have hl : FP.Core.leading a 1 ≤ 29 := by
    have h2 : a.log2 ≤ 29 := by
      by_cases h0 : a = 0
      · rw [h0]; decide
      · have := (Nat.log2_lt h0).mpr h
        omega
    have h3 : (1 : Nat).log2 = 0 := by decide
    unfold FP.Core.leading
    rw [h3]
    dsimp only
    split <;> omega
  have hq : FP.Core.quantum FP.Core.b32 a 1 0 ≤ 6 := by
    unfold FP.Core.quantum
    rw [b32_m, show ((FP.Core.b32.p : Nat) : Int) = 24 from rfl]
    omega
  have hR : FP.Core.encode FP.Core.b32 (FP.Core.roundRatio FP.Core.b32 false a 1 0) < 2139095040 := by
    unfold FP.Core.roundRatio
    split
    · exact key _ ⟨by rw [b32_p]; decide, by rw [b32_m]; decide⟩ (fun s h => by cases h) (fun s c q h => by cases h; rfl)
    · unfold FP.Core.roundAt FP.Core.settle FP.Core.bound
      rw [b32_M]
      split
      · rename_i hc
        rw [if_pos (by omega)]
        exact key _ ⟨hc, by omega⟩ (fun s h => by cases h) (fun s c q h => by cases h; rfl)
      · rw [if_pos (by omega)]
        exact key _ ⟨by rw [b32_p, b32_t]; decide, by omega⟩ (fun s h => by cases h) (fun s c q h => by cases h; rfl)
  rw [e1, UInt32.toNat_ofNat']
  omega
theorem i2f_12 : ∀ k, k < 13 → k ≠ 0 → ∃ c q, FP.Core.decode FP.Core.b32 (FP.i2f (nI k)).toNat = .fin false (c + 1) q := by
  have key : ∀ k, k < 13 → k ≠ 0 → (match FP.Core.decode FP.Core.b32 (FP.i2f (nI k)).toNat with | .fin s c _ => !s && c != 0 | _ => false) = true := by decide +kernel
  intro k h1 h2
  have h3 := key k h1 h2
  cases hd : FP.Core.decode FP.Core.b32 (FP.i2f (nI k)).toNat with
  | nan => rw [hd] at h3; cases h3
  | inf s => rw [hd] at h3; cases h3
  | fin s c q =>
    rw [hd] at h3
    cases s with
    | true => cases h3
    | false =>
      cases c with
      | zero => cases h3
      | succ c => exact ⟨c, q, rfl⟩
theorem ovN {a k : Nat} (ha : a < 2 ^ 30) (hk : 0 < k) (hk2 : k ≤ 12) : vf_n32 (FP.fdiv (FP.i2f (nI a)) (FP.i2f (nI k))) := by
  obtain ⟨c1, q1, e1⟩ := dec_fin (i2f_bits ha)
  obtain ⟨c2, q2, e2⟩ := i2f_12 k (by omega) (by omega)
  have e3 : FP.fdiv (FP.i2f (nI a)) (FP.i2f (nI k)) = UInt32.ofNat (FP.Core.encode FP.Core.b32 (FP.Core.roundRatio FP.Core.b32 (false != false) c1 (c2 + 1) (q1 - q2))) := by
    show UInt32.ofNat (FP.Core.encode FP.Core.b32 (FP.Core.quotient FP.Core.b32 (FP.Core.decode FP.Core.b32 (FP.i2f (nI a)).toNat) (FP.Core.decode FP.Core.b32 (FP.i2f (nI k)).toNat))) = _
    rw [e1, e2]
    rfl
  obtain ⟨h1, h2⟩ := fok32 (fok_rr FP.Core.b32 (by decide +kernel) (by decide +kernel) (false != false) c1 (c2 + 1) (q1 - q2))
  rw [n32_iff, e3, UInt32.toNat_ofNat']
  rw [Nat.mod_eq_of_lt (show _ < 2 ^ 32 from h1)]
  exact h2
theorem f2dN {r : UInt32} (h : vf_n32 r) : vf_n64 (FP.f2d r) := by
  have hn := dec_n32 ((n32_iff r).mp h)
  have e0 : FP.Core.fIsNaN r = false := decide_eq_false hn
  have e1 : FP.f2d r = UInt64.ofNat (FP.Core.encode FP.Core.b64 (FP.Core.round FP.Core.b64 (FP.Core.decode FP.Core.b32 r.toNat))) := by
    unfold FP.f2d
    rw [e0]
    rfl
  have hf : fok FP.Core.b64 FP.Core.b64.qmax (FP.Core.round FP.Core.b64 (FP.Core.decode FP.Core.b32 r.toNat)) := by
    cases hd : FP.Core.decode FP.Core.b32 r.toNat with
    | nan => exact absurd hd hn
    | inf s => exact trivial
    | fin s c q => exact fok_rr FP.Core.b64 (by decide +kernel) (by decide +kernel) s c 1 q
  obtain ⟨h1, h2⟩ := fok64 hf
  rw [n64_iff, e1, UInt64.toNat_ofNat']
  rw [Nat.mod_eq_of_lt (show _ < 2 ^ 64 from h1)]
  exact h2
def ovF (M : zMS) : UInt32 := if (M.2.1 3).length = 0 then FP.fconst0 else FP.fdiv (FP.i2f (nI (M.1 31))) (FP.i2f (nI (M.2.1 3).length))
theorem ovF_n {M : zMS} (ha : M.1 31 < 2 ^ 30) (hk : (M.2.1 3).length ≤ 12) : vf_n64 (FP.f2d (ovF M)) := by
  apply f2dN
  unfold ovF
  split
  · rw [n32_iff]; decide
  · exact ovN ha (by omega) hk
