/-! THE LAYER: one heap picture for all (a shape and a content for each address), one judgement VV that carries heap, locals and frame -/
section ZBASE
abbrev zG : Type := va_G × (Nat → ClassId) × Nat × Nat
abbrev zH : Type := Nat → Nat × Nat × (Nat → Nat)
abbrev zV : Type := Nat → Nat → Int32
def zl (p : Nat) (x : Int32) : Value := match p with
  | 0 => .int x
  | 1 => .null
  | q + 2 => .ref q
def zok (G : zG) (a : Nat) (k : Nat × Nat × (Nat → Nat)) (f : Nat → Int32) (H : Heap) : Prop :=
  (k.1 < 8 → t_OB a (G.1.1 k.1) k.2.1 (G.1.2 k.1) H (fun j => zl (k.2.2 j) (f j))) ∧ (8 ≤ k.1 ∧ k.1 < 99 → H[a]? = some (arrV (G.2.1 k.1) k.2.1 (fun j => zl (k.2.2 j) (f j))))
def zdm (G : zG) (N a : Nat) : Prop := (G.2.2.1 ≤ a ∧ a < N) ∨ a = G.2.2.2
def zR (G : zG) (sh : zH) (v : zV) (N : Nat) (H : Heap) : Prop := H.size = N ∧ G.2.2.1 ≤ N ∧ G.2.2.2 < G.2.2.1 ∧ ∀ a, zdm G N a → zok G a (sh a) (v a) H
abbrev zA (G : zG) : Nat → Prop := fun q => G.2.2.1 ≤ q
def zcl : List vw_C := [(RX0, TX0, 3), (RX1, TX1, 2), (RX2, TX2, 8), (RX3, TX3, 9), (RX4, TX4, 2), (RX5, TX5, 8), (RX6, TX6, 6)]
def zty (G : zG) : List (ClassId × FieldType) := [(G.2.1 8, .int), (G.2.1 9, .boolean), (G.2.1 10, .object RX1), (G.2.1 11, .object RX5)]
def zK (G : zG) (s : State) : Prop := va_K G.1 zcl (zty G) s ∧ (∀ w ∈ NB, va_Nw w s) ∧ va_AO RX1 s ∧ va_AO RX5 s
def z2 (v : zV) (a k : Nat) (x : Int32) : zV := fun b j => if b = a ∧ j = k then x else v b j
theorem z2_self (v : zV) (a k : Nat) (x : Int32) : z2 v a k x a k = x := by simp [z2]
theorem z2_ne {v : zV} {a k b j : Nat} {x : Int32} (h : ¬ (b = a ∧ j = k)) : z2 v a k x b j = v b j := by simp [z2, h]
theorem z2_addr {v : zV} {a k b : Nat} {x : Int32} (h : b ≠ a) : z2 v a k x b = v b := by funext j; simp [z2, h]
theorem z2_at (v : zV) (a k : Nat) (x : Int32) : z2 v a k x a = upd (v a) k x := by funext j; simp [z2, upd]
theorem zok.kept {G : zG} {a : Nat} {k : Nat × Nat × (Nat → Nat)} {f : Nat → Int32} {H H1 : Heap} (h : zok G a k f H) (hq : H1[a]? = H[a]?) : zok G a k f H1 := ⟨fun hk => (h.1 hk).kept hq, fun hk => by rw [hq]; exact h.2 hk⟩
theorem zty_lt {G : zG} {i : Nat} {q : ClassId × FieldType} (h : (zty G)[i]? = some q) : i < 4 := (List.getElem?_eq_some_iff.mp h).1
theorem zR.put {G : zG} {sh : zH} {v : zV} {N : Nat} {H H1 : Heap} (h : zR G sh v N H) {a k : Nat} {x : Int32} (e : zok G a (sh a) (upd (v a) k x) H1) (z : H1.size = H.size) (oq : ∀ q : Nat, q ≠ a → H1[q]? = H[q]?) : zR G sh (z2 v a k x) N H1 := by
  obtain ⟨h1, h2, h3, h4⟩ := h
  refine ⟨z.trans h1, h2, h3, fun b hb => ?_⟩
  by_cases hba : b = a
  · subst hba
    rw [z2_at]
    exact e
  · rw [z2_addr hba]
    exact (h4 b hb).kept (oq b hba)
theorem zNw_moved {w : Cond} (h : zN w = true) {u U : State} (hW : u.WarmedH U.vm) (hw : va_Nw w u) : va_Nw w U := by
  unfold zN at h
  split at h
  · exact va_Nw.warmF hW hw
  · exact va_Nw.warmM hW hw
  · cases h
theorem zNw_on {w : Cond} (h : zN w = true) : w.onTables = true := by
  unfold zN at h
  split at h
  · rfl
  · rfl
  · cases h
theorem zK.moved {G : zG} {u U : State} (hW : u.WarmedH U.vm) (h : zK G u) : zK G U := ⟨va_K.moved hW.alike h.1, fun w hw => zNw_moved (NB_n hw) hW (h.2.1 w hw), va_AO.moved hW.alike h.2.2.1, va_AO.moved hW.alike h.2.2.2⟩
theorem zK.same {G : zG} {u U : State} (hv : u.vm = U.vm) (h : zK G u) : zK G U := by
  have ha : u.vm.Alike U.vm := by rw [hv]; exact Vm.Alike.refl U.vm
  exact ⟨va_K.moved ha h.1, fun w hw => va_Nw.same (zNw_on (NB_n hw)) hv (h.2.1 w hw), va_AO.moved ha h.2.2.1, va_AO.moved ha h.2.2.2⟩
def lo (ls : Array Slot) (nL : Nat) (lv : List (Option Value)) : Prop := ls.size = nL ∧ lv_wf ls ∧ ∀ (i : Nat) (w : Value), lv[i]? = some (some w) → ls[i]? = some (.val w)
def asl : Nat → List (Option Value) → List (Nat × Value)
  | _, [] => []
  | i, none :: t => asl (i + 1) t
  | i, some w :: t => (i, w) :: asl (i + 1) t
theorem asl_mem (lv : List (Option Value)) : ∀ (n j : Nat) (w : Value), (j, w) ∈ asl n lv ↔ ∃ i, j = n + i ∧ lv[i]? = some (some w) := by
  induction lv with
  | nil => intro n j w; simp [asl]
  | cons o t ih =>
    intro n j w
    have key : (∃ i, j = n + 1 + i ∧ t[i]? = some (some w)) ↔ (∃ i, j = n + (i + 1) ∧ t[i]? = some (some w)) := by
      constructor
      · rintro ⟨i, h1, h2⟩; exact ⟨i, by omega, h2⟩
      · rintro ⟨i, h1, h2⟩; exact ⟨i, by omega, h2⟩
    cases o with
    | none =>
      simp only [asl, ih, key]
      constructor
      · rintro ⟨i, h1, h2⟩; exact ⟨i + 1, h1, by simpa using h2⟩
      · rintro ⟨i, h1, h2⟩
        cases i with
        | zero => simp at h2
        | succ i => exact ⟨i, h1, by simpa using h2⟩
    | some x =>
      simp only [asl, List.mem_cons, ih, key, Prod.mk.injEq]
      constructor
      · rintro (⟨h1, h2⟩ | ⟨i, h1, h2⟩)
        · exact ⟨0, by omega, by simp [h2]⟩
        · exact ⟨i + 1, h1, by simpa using h2⟩
      · rintro ⟨i, h1, h2⟩
        cases i with
        | zero => simp at h2; exact Or.inl ⟨by omega, h2.symm⟩
        | succ i => exact Or.inr ⟨i, h1, by simpa using h2⟩
theorem lo_has {ls : Array Slot} {nL : Nat} {lv : List (Option Value)} (h : lo ls nL lv) : lv_has ls nL (asl 0 lv) := by
  refine ⟨h.1, h.2.1, fun q hq => ?_⟩
  obtain ⟨i, h1, h2⟩ := (asl_mem lv 0 q.1 q.2).mp hq
  have h3 : q.1 = i := by omega
  rw [h3]
  exact h.2.2 i q.2 h2
def lvc (lv : List (Option Value)) : Bool := lv.all (fun o => match o with
  | some w => w.category == 1
  | none => true)
theorem lo_set1 {ls : Array Slot} {nL i : Nat} {lv : List (Option Value)} {x : Value} (hc : lvc lv = true) (h : lv_has ls nL ((i, x) :: (asl 0 lv).filter (fun q => !(q.1 == i) && !(q.1 + 1 == i && q.2.category == 2)))) : lo ls nL (lv.set i (some x)) := by
  refine ⟨h.1, h.2.1, fun j w hj => ?_⟩
  rw [List.getElem?_set] at hj
  by_cases hij : i = j
  · rw [if_pos hij] at hj
    by_cases hl : i < lv.length
    · rw [if_pos hl] at hj
      cases hj
      subst hij
      exact h.2.2 (i, x) List.mem_cons_self
    · rw [if_neg hl] at hj
      cases hj
  · rw [if_neg hij] at hj
    refine h.2.2 (j, w) (List.mem_cons_of_mem _ (List.mem_filter.mpr ⟨(asl_mem lv 0 j w).mpr ⟨j, by omega, hj⟩, ?_⟩))
    have h1 := List.all_eq_true.mp hc _ (List.mem_of_getElem? hj)
    have h2 : w.category = 1 := by simpa using h1
    simp [Ne.symm hij, h2]
theorem lo_set2 {ls : Array Slot} {nL i : Nat} {lv : List (Option Value)} {x : Value} (hc : lvc lv = true) (h : lv_has ls nL ((i, x) :: (asl 0 lv).filter (fun q => !(q.1 == i) && (!(q.1 == i + 1) && !(q.1 + 1 == i && q.2.category == 2))))) : lo ls nL ((lv.set i (some x)).set (i + 1) none) := by
  refine ⟨h.1, h.2.1, fun j w hj => ?_⟩
  rw [List.getElem?_set] at hj
  by_cases hij : i + 1 = j
  · rw [if_pos hij] at hj
    split at hj <;> cases hj
  · rw [if_neg hij, List.getElem?_set] at hj
    by_cases hij2 : i = j
    · rw [if_pos hij2] at hj
      by_cases hl : i < lv.length
      · rw [if_pos hl] at hj
        cases hj
        subst hij2
        exact h.2.2 (i, x) List.mem_cons_self
      · rw [if_neg hl] at hj
        cases hj
    · rw [if_neg hij2] at hj
      refine h.2.2 (j, w) (List.mem_cons_of_mem _ (List.mem_filter.mpr ⟨(asl_mem lv 0 j w).mpr ⟨j, by omega, hj⟩, ?_⟩))
      have h1 := List.all_eq_true.mp hc _ (List.mem_of_getElem? hj)
      have h2 : w.category = 1 := by simpa using h1
      simp [Ne.symm hij, Ne.symm hij2, h2]
theorem lo_args (as : List Value) : ∀ (k i : Nat) (w : Value), (∀ x ∈ as, x.category = 1) → as[i]? = some w → (k + i, w) ∈ lv_args k as := by
  induction as with
  | nil => intro k i w _ h; simp at h
  | cons x t ih =>
    intro k i w hc h
    have h1 : x.category = 1 := hc x List.mem_cons_self
    cases i with
    | zero =>
      simp at h
      subst h
      exact List.mem_cons_self
    | succ i =>
      refine List.mem_cons_of_mem _ ?_
      rw [if_neg (by rw [h1]; decide)]
      have := ih (k + 1) i w (fun y hy => hc y (List.mem_cons_of_mem _ hy)) (by simpa using h)
      rw [show k + (i + 1) = k + 1 + i by omega]
      exact this
theorem lo_entry {as : List Value} {n : Nat} (hc : ∀ x ∈ as, x.category = 1) (h : as.length ≤ n) : lo ((lg_sl as ++ List.replicate (n - (lg_sl as).length) Slot.unset).toArray) n (as.map some ++ List.replicate (n - as.length) none) := by
  have hl : (lg_sl as).length = as.length := by
    clear h
    induction as with
    | nil => rfl
    | cons x t ih =>
      have h1 : x.category = 1 := hc x List.mem_cons_self
      have h2 := ih (fun y hy => hc y (List.mem_cons_of_mem _ hy))
      simp only [lg_sl, List.flatMap_cons, h1] at h2 ⊢
      simp [h2]
  have h0 := lv_entry as (n := n) (by rw [hl]; exact h)
  refine ⟨h0.1, h0.2.1, fun i w hi => ?_⟩
  have h1 : as[i]? = some w := by
    by_cases hlt : i < as.length
    · rw [List.getElem?_append_left (by simpa using hlt)] at hi
      rw [List.getElem?_map] at hi
      cases h2 : as[i]? with
      | none => rw [h2] at hi; cases hi
      | some x => rw [h2] at hi; simp at hi; rw [hi]
    · rw [List.getElem?_append_right (by simpa using Nat.not_lt.mp hlt)] at hi
      have := List.eq_of_mem_replicate (List.mem_of_getElem? hi)
      cases this
  have h2 := lo_args as 0 i w hc h1
  rw [Nat.zero_add] at h2
  exact h0.2.2 (i, w) h2
end ZBASE
section ZROWS
def VV (p : Program) (l : Launch) (e : Env) (R : Room) (s : State) (m : MethodId) (args : Array Value) (below : List Frame) (meth : Method) (c : Code) (cells slots : Nat) (Q : State → Prop) (G : zG) (nL : Nat) (sh : zH) (v : zV) (N pc : Nat) (lv : List (Option Value)) (st : List Value) : Prop :=
  ∀ (H : Heap) (locs : List Loc) (ls : Array Slot), zR G sh v N H → va_S (zA G) s.heap H locs → lo ls nL lv → W p l e R s m args below meth c H locs cells slots Q (F0 m pc ls st)
def zC (p : Program) (s : State) (m : MethodId) (args : Array Value) (meth : Method) (c : Code) (own nm : String) (cc : ByteArray) (nL : Nat) (ret : Option FieldType) (G : zG) : Prop :=
  p.tables.exec = Jvm.exec ∧ c.code = cc ∧ c.maxLocals = nL ∧ s.vm.findClass own = some m.cls ∧ (∀ w ∈ TB, w.before args s = true) ∧ meth.sig.returnType = ret ∧ meth.locks = false ∧ meth.name = nm ∧ zK G s
def zM (l : Launch) (G : zG) (y : MethodName) (b : ByteArray) (mL : Nat) (ret : Option FieldType) (dp mc ms : Nat) (as : List Value) (sh : zH) (v : zV) (N : Nat) (Post : Option Value → zH → zV → Nat → Prop) : Prop :=
  Met l y (Cond.code y b mL ret :: TB) ({ frames := dp, cells := mc, slots := ms, locals := 32 * dp }) (va_Pc as (fun U => zR G sh v N U.heap ∧ zK G U)) (fun _ st o t => (∃ (r : Option Value) (sh1 : zH) (v1 : zV) (N1 : Nat), o = .returned r ∧ Post r sh1 v1 N1 ∧ zR G sh1 v1 N1 t.heap) ∧ va_F (zA G) st t) mc ms (zA G)
def zQ (below : List Frame) (Post : Option Value → zH → zV → Nat → Prop) (G : zG) (args : Array Value) (s : State) (mc ms : Nat) : State → Prop :=
  MQ below (fun _ st o t => (∃ (r : Option Value) (sh1 : zH) (v1 : zV) (N1 : Nat), o = .returned r ∧ Post r sh1 v1 N1 ∧ zR G sh1 v1 N1 t.heap) ∧ va_F (zA G) st t) args s mc ms (zA G)
def zm (l : Launch) (G : zG) (y : MethodName) (b : ByteArray) (mL : Nat) (ret : Option FieldType) (dp : Nat) (as : List Value) (sh : zH) (v : zV) (N : Nat) (Post : Option Value → zV → Prop) : Prop :=
  zM l G y b mL ret dp 0 0 as sh v N (fun r sh1 v1 N1 => sh1 = sh ∧ N1 = N ∧ Post r v1)
theorem zC.k {p : Program} {s : State} {m : MethodId} {args : Array Value} {meth : Method} {c : Code} {own nm : String} {cc : ByteArray} {nL : Nat} {ret : Option FieldType} {G : zG} (C : zC p s m args meth c own nm cc nL ret G) : va_K G.1 zcl (zty G) s := C.2.2.2.2.2.2.2.2.1
theorem zC.n {p : Program} {s : State} {m : MethodId} {args : Array Value} {meth : Method} {c : Code} {own nm : String} {cc : ByteArray} {nL : Nat} {ret : Option FieldType} {G : zG} (C : zC p s m args meth c own nm cc nL ret G) {w : Cond} (h : w ∈ NB) : w.before args s = true := va_Nw.use (zNw_on (NB_n h)) (C.2.2.2.2.2.2.2.2.2.1 w h)
theorem zM.of {l : Launch} {G : zG} {y : MethodName} {b : ByteArray} {mL : Nat} {ret : Option FieldType} {dp mc ms : Nat} {as : List Value} {sh : zH} {v : zV} {N : Nat} {Post : Option Value → zH → zV → Nat → Prop} (hy : plainName y.cls = true) (hc : as.all (fun w => w.category == 1) = true) (hl : as.length ≤ mL)
    (h : ∀ (p : Program) (e : Env) (s : State) (m : MethodId) (args : Array Value) (below : List Frame) (meth : Method) (c : Code), zC p s m args meth c y.cls y.name b mL ret G →
      VV p l e ({ frames := dp, cells := mc, slots := ms, locals := 32 * dp }) s m args below meth c 0 0 (zQ below Post G args s mc ms) G mL sh v N 0 (as.map some ++ List.replicate (mL - as.length) none) []) : zM l G y b mL ret dp mc ms as sh v N Post := by
  refine Met.ofW (cc := b) (maxL := mL) (ret := ret) hy rfl ?_
  intro p e s m args below meth c s₁ B hml hv
  obtain ⟨rfl, hR, hK⟩ := hv
  have hts := atoms_spec (ws := Cond.code y b mL ret :: TB) B.pre
  have C : zC p s m as.toArray meth c y.cls y.name b mL ret G := ⟨B.exec, B.bytes, hml, findClass_of_methodNamed B.named, fun w hw => hts w (List.mem_cons_of_mem _ hw), B.returns, B.notSynchronized, (name_of_methodNamed B.named B.method).1, hK⟩
  have hc1 : ∀ x ∈ as, x.category = 1 := fun x hx => by simpa using List.all_eq_true.mp hc x hx
  have := h p e s m as.toArray below meth c C s.heap [] _ hR va_S.rf (lo_entry hc1 hl)
  rw [lg_entry_eq]
  exact this
variable {p : Program} {l : Launch} {e : Env} {R : Room} {s : State} {m : MethodId} {args : Array Value} {below : List Frame} {meth : Method} {c : Code} {cells slots : Nat} {Q : State → Prop} {G : zG} {nL : Nat} {sh : zH} {v : zV} {N pc : Nat} {lv : List (Option Value)} {st : List Value} {own nm : String} {cc : ByteArray} {ret : Option FieldType}
theorem VV.eq {st2 : List Value} (h : st2 = st) (k : VV p l e R s m args below meth c cells slots Q G nL sh v N pc lv st) : VV p l e R s m args below meth c cells slots Q G nL sh v N pc lv st2 := h ▸ k
theorem VV.weak {lv2 : List (Option Value)} (h : ∀ (i : Nat) (w : Value), lv2[i]? = some (some w) → lv[i]? = some (some w)) (k : VV p l e R s m args below meth c cells slots Q G nL sh v N pc lv2 st) : VV p l e R s m args below meth c cells slots Q G nL sh v N pc lv st := fun H locs ls h1 h2 h3 => k H locs ls h1 h2 ⟨h3.1, h3.2.1, fun i w hi => h3.2.2 i w (h i w hi)⟩
theorem VV.vq {v2 : zV} (h : v = v2) (k : VV p l e R s m args below meth c cells slots Q G nL sh v2 N pc lv st) : VV p l e R s m args below meth c cells slots Q G nL sh v N pc lv st := h ▸ k

theorem r_iconst (C : zC p s m args meth c own nm cc nL ret G) {n : Int} {x : Int32} (hv : Int32.ofInt n = x) (hdg : decode cc pc = .ok (.iconst n, 1)) (kk : VV p l e R s m args below meth c cells slots Q G nL sh v N (pc + 1) lv (.int x :: st)) : VV p l e R s m args below meth c cells slots Q G nL sh v N pc lv st := fun H locs ls h1 h2 h3 => lv_iconst C.1 C.2.1 hdg hv (kk H locs ls h1 h2 h3)
theorem r_bipush (C : zC p s m args meth c own nm cc nL ret G) {n : Int} {x : Int32} (hv : (Int8.ofInt n).toInt32 = x) (hdg : decode cc pc = .ok (.bipush n, 2)) (kk : VV p l e R s m args below meth c cells slots Q G nL sh v N (pc + 2) lv (.int x :: st)) : VV p l e R s m args below meth c cells slots Q G nL sh v N pc lv st := fun H locs ls h1 h2 h3 => lv_bipush C.1 C.2.1 hdg hv (kk H locs ls h1 h2 h3)
theorem r_sipush (C : zC p s m args meth c own nm cc nL ret G) {n : Int} {x : Int32} (hv : (Int16.ofInt n).toInt32 = x) (hdg : decode cc pc = .ok (.sipush n, 3)) (kk : VV p l e R s m args below meth c cells slots Q G nL sh v N (pc + 3) lv (.int x :: st)) : VV p l e R s m args below meth c cells slots Q G nL sh v N pc lv st := fun H locs ls h1 h2 h3 => lv_sipush C.1 C.2.1 hdg hv (kk H locs ls h1 h2 h3)
theorem r_ldc (C : zC p s m args meth c own nm cc nL ret G) {index : Nat} {x : Int32} (hw : Cond.constant own index x ∈ TB) (hdg : decode cc pc = .ok (.ldc index, 2)) (kk : VV p l e R s m args below meth c cells slots Q G nL sh v N (pc + 2) lv (.int x :: st)) : VV p l e R s m args below meth c cells slots Q G nL sh v N pc lv st := fun H locs ls h1 h2 h3 => lv_ldc C.1 C.2.1 C.2.2.2.1 (C.2.2.2.2.1 _ hw) hdg (kk H locs ls h1 h2 h3)
theorem r_ldcw (C : zC p s m args meth c own nm cc nL ret G) {index : Nat} {x : Int32} (hw : Cond.constant own index x ∈ TB) (hdg : decode cc pc = .ok (.ldc_w index, 3)) (kk : VV p l e R s m args below meth c cells slots Q G nL sh v N (pc + 3) lv (.int x :: st)) : VV p l e R s m args below meth c cells slots Q G nL sh v N pc lv st := fun H locs ls h1 h2 h3 => lv_ldcw C.1 C.2.1 C.2.2.2.1 (C.2.2.2.2.1 _ hw) hdg (kk H locs ls h1 h2 h3)
theorem r_ldc2 (C : zC p s m args meth c own nm cc nL ret G) {index : Nat} {x : Int64} (hw : Cond.constantLong own index x ∈ TB) (hdg : decode cc pc = .ok (.ldc2_w index, 3)) (kk : VV p l e R s m args below meth c cells slots Q G nL sh v N (pc + 3) lv (.long x :: st)) : VV p l e R s m args below meth c cells slots Q G nL sh v N pc lv st := fun H locs ls h1 h2 h3 => lv_ldc2 C.1 C.2.1 C.2.2.2.1 (C.2.2.2.2.1 _ hw) hdg (kk H locs ls h1 h2 h3)
theorem r_null (C : zC p s m args meth c own nm cc nL ret G)  (hdg : decode cc pc = .ok (.aconst_null, 1)) (kk : VV p l e R s m args below meth c cells slots Q G nL sh v N (pc + 1) lv (.null :: st)) : VV p l e R s m args below meth c cells slots Q G nL sh v N pc lv st := fun H locs ls h1 h2 h3 => lv_null C.1 C.2.1 hdg (kk H locs ls h1 h2 h3)
theorem r_iload_n (C : zC p s m args meth c own nm cc nL ret G) {k : Fin 4} {i : Nat} {x : Int32} (hi : (k : Nat) = i) (hl : lv[i]? = some (some (.int x))) (hdg : decode cc pc = .ok (.iload_n k, 1)) (kk : VV p l e R s m args below meth c cells slots Q G nL sh v N (pc + 1) lv (.int x :: st)) : VV p l e R s m args below meth c cells slots Q G nL sh v N pc lv st := fun H locs ls h1 h2 h3 => lv_iload_n C.1 C.2.1 hdg hi (h3.2.2 _ _ hl) (kk H locs ls h1 h2 h3)
theorem r_iload (C : zC p s m args meth c own nm cc nL ret G) {i : Nat} {x : Int32} (hl : lv[i]? = some (some (.int x))) (hdg : decode cc pc = .ok (.iload i, 2)) (kk : VV p l e R s m args below meth c cells slots Q G nL sh v N (pc + 2) lv (.int x :: st)) : VV p l e R s m args below meth c cells slots Q G nL sh v N pc lv st := fun H locs ls h1 h2 h3 => lv_iload C.1 C.2.1 hdg (h3.2.2 _ _ hl) (kk H locs ls h1 h2 h3)
theorem r_aload_n (C : zC p s m args meth c own nm cc nL ret G) {k : Fin 4} {i : Nat} {x : Nat} (hi : (k : Nat) = i) (hl : lv[i]? = some (some (.ref x))) (hdg : decode cc pc = .ok (.aload_n k, 1)) (kk : VV p l e R s m args below meth c cells slots Q G nL sh v N (pc + 1) lv (.ref x :: st)) : VV p l e R s m args below meth c cells slots Q G nL sh v N pc lv st := fun H locs ls h1 h2 h3 => lv_aload_n C.1 C.2.1 hdg hi (h3.2.2 _ _ hl) (kk H locs ls h1 h2 h3)
theorem r_aload (C : zC p s m args meth c own nm cc nL ret G) {i : Nat} {x : Nat} (hl : lv[i]? = some (some (.ref x))) (hdg : decode cc pc = .ok (.aload i, 2)) (kk : VV p l e R s m args below meth c cells slots Q G nL sh v N (pc + 2) lv (.ref x :: st)) : VV p l e R s m args below meth c cells slots Q G nL sh v N pc lv st := fun H locs ls h1 h2 h3 => lv_aload C.1 C.2.1 hdg (h3.2.2 _ _ hl) (kk H locs ls h1 h2 h3)
theorem r_lload_n (C : zC p s m args meth c own nm cc nL ret G) {k : Fin 4} {i : Nat} {x : Int64} (hi : (k : Nat) = i) (hl : lv[i]? = some (some (.long x))) (hdg : decode cc pc = .ok (.lload_n k, 1)) (kk : VV p l e R s m args below meth c cells slots Q G nL sh v N (pc + 1) lv (.long x :: st)) : VV p l e R s m args below meth c cells slots Q G nL sh v N pc lv st := fun H locs ls h1 h2 h3 => lv_lload_n C.1 C.2.1 hdg hi (h3.2.2 _ _ hl) (kk H locs ls h1 h2 h3)
theorem r_lload (C : zC p s m args meth c own nm cc nL ret G) {i : Nat} {x : Int64} (hl : lv[i]? = some (some (.long x))) (hdg : decode cc pc = .ok (.lload i, 2)) (kk : VV p l e R s m args below meth c cells slots Q G nL sh v N (pc + 2) lv (.long x :: st)) : VV p l e R s m args below meth c cells slots Q G nL sh v N pc lv st := fun H locs ls h1 h2 h3 => lv_lload C.1 C.2.1 hdg (h3.2.2 _ _ hl) (kk H locs ls h1 h2 h3)
theorem r_istore_n (C : zC p s m args meth c own nm cc nL ret G) {k : Fin 4} {i : Nat} {x : Int32} (hi : (k : Nat) = i) {lv2 : List (Option Value)} (hn : i < nL) (hc : lvc lv = true) (hs : lv.set i (some (.int x)) = lv2) (hdg : decode cc pc = .ok (.istore_n k, 1)) (kk : VV p l e R s m args below meth c cells slots Q G nL sh v N (pc + 1) lv2 st) : VV p l e R s m args below meth c cells slots Q G nL sh v N pc lv (.int x :: st) := fun H locs ls h1 h2 h3 => lv_istore_n C.1 C.2.1 hdg hi (lo_has h3) hn rfl (fun ls2 hl2 => kk H locs ls2 h1 h2 (hs ▸ lo_set1 hc hl2))
theorem r_istore (C : zC p s m args meth c own nm cc nL ret G) {i : Nat} {x : Int32} {lv2 : List (Option Value)} (hn : i < nL) (hc : lvc lv = true) (hs : lv.set i (some (.int x)) = lv2) (hdg : decode cc pc = .ok (.istore i, 2)) (kk : VV p l e R s m args below meth c cells slots Q G nL sh v N (pc + 2) lv2 st) : VV p l e R s m args below meth c cells slots Q G nL sh v N pc lv (.int x :: st) := fun H locs ls h1 h2 h3 => lv_istore C.1 C.2.1 hdg (lo_has h3) hn rfl (fun ls2 hl2 => kk H locs ls2 h1 h2 (hs ▸ lo_set1 hc hl2))
theorem r_astore_n (C : zC p s m args meth c own nm cc nL ret G) {k : Fin 4} {i : Nat} {x : Nat} (hi : (k : Nat) = i) {lv2 : List (Option Value)} (hn : i < nL) (hc : lvc lv = true) (hs : lv.set i (some (.ref x)) = lv2) (hdg : decode cc pc = .ok (.astore_n k, 1)) (kk : VV p l e R s m args below meth c cells slots Q G nL sh v N (pc + 1) lv2 st) : VV p l e R s m args below meth c cells slots Q G nL sh v N pc lv (.ref x :: st) := fun H locs ls h1 h2 h3 => lv_astore_n C.1 C.2.1 hdg hi (lo_has h3) hn rfl (fun ls2 hl2 => kk H locs ls2 h1 h2 (hs ▸ lo_set1 hc hl2))
theorem r_astore (C : zC p s m args meth c own nm cc nL ret G) {i : Nat} {x : Nat} {lv2 : List (Option Value)} (hn : i < nL) (hc : lvc lv = true) (hs : lv.set i (some (.ref x)) = lv2) (hdg : decode cc pc = .ok (.astore i, 2)) (kk : VV p l e R s m args below meth c cells slots Q G nL sh v N (pc + 2) lv2 st) : VV p l e R s m args below meth c cells slots Q G nL sh v N pc lv (.ref x :: st) := fun H locs ls h1 h2 h3 => lv_astore C.1 C.2.1 hdg (lo_has h3) hn rfl (fun ls2 hl2 => kk H locs ls2 h1 h2 (hs ▸ lo_set1 hc hl2))
theorem r_lstore_n (C : zC p s m args meth c own nm cc nL ret G) {k : Fin 4} {i : Nat} {x : Int64} (hi : (k : Nat) = i) {lv2 : List (Option Value)} (hn : i + 1 < nL) (hc : lvc lv = true) (hs : (lv.set i (some (.long x))).set (i + 1) none = lv2) (hdg : decode cc pc = .ok (.lstore_n k, 1)) (kk : VV p l e R s m args below meth c cells slots Q G nL sh v N (pc + 1) lv2 st) : VV p l e R s m args below meth c cells slots Q G nL sh v N pc lv (.long x :: st) := fun H locs ls h1 h2 h3 => lv_lstore_n C.1 C.2.1 hdg hi (lo_has h3) hn rfl (fun ls2 hl2 => kk H locs ls2 h1 h2 (hs ▸ lo_set2 hc hl2))
theorem r_iinc (C : zC p s m args meth c own nm cc nL ret G) {i : Nat} {n : Int} {x y : Int32} {lv2 : List (Option Value)} (hl : lv[i]? = some (some (.int x))) (hv : x + Int32.ofInt n = y) (hn : i < nL) (hc : lvc lv = true) (hs : lv.set i (some (.int y)) = lv2) (hdg : decode cc pc = .ok (.iinc i n, 3)) (kk : VV p l e R s m args below meth c cells slots Q G nL sh v N (pc + 3) lv2 st) : VV p l e R s m args below meth c cells slots Q G nL sh v N pc lv st := fun H locs ls h1 h2 h3 => by
  obtain ⟨k, hk⟩ := List.getElem?_of_mem ((asl_mem lv 0 i (.int x)).mpr ⟨i, by omega, hl⟩)
  exact lv_iinc C.1 C.2.1 hdg (lo_has h3) hk hv hn rfl (fun ls2 hl2 => kk H locs ls2 h1 h2 (hs ▸ lo_set1 hc hl2))
theorem r_iadd (C : zC p s m args meth c own nm cc nL ret G) {x y z : Int32} (hv : x + y = z) (hdg : decode cc pc = .ok (.iadd, 1)) (kk : VV p l e R s m args below meth c cells slots Q G nL sh v N (pc + 1) lv (.int z :: st)) : VV p l e R s m args below meth c cells slots Q G nL sh v N pc lv (.int y :: .int x :: st) := fun H locs ls h1 h2 h3 => lv_iadd C.1 C.2.1 hdg (by rw [hv]; exact kk H locs ls h1 h2 h3)
theorem r_isub (C : zC p s m args meth c own nm cc nL ret G) {x y z : Int32} (hv : x - y = z) (hdg : decode cc pc = .ok (.isub, 1)) (kk : VV p l e R s m args below meth c cells slots Q G nL sh v N (pc + 1) lv (.int z :: st)) : VV p l e R s m args below meth c cells slots Q G nL sh v N pc lv (.int y :: .int x :: st) := fun H locs ls h1 h2 h3 => lv_isub C.1 C.2.1 hdg (by rw [hv]; exact kk H locs ls h1 h2 h3)
theorem r_imul (C : zC p s m args meth c own nm cc nL ret G) {x y z : Int32} (hv : x * y = z) (hdg : decode cc pc = .ok (.imul, 1)) (kk : VV p l e R s m args below meth c cells slots Q G nL sh v N (pc + 1) lv (.int z :: st)) : VV p l e R s m args below meth c cells slots Q G nL sh v N pc lv (.int y :: .int x :: st) := fun H locs ls h1 h2 h3 => lv_imul C.1 C.2.1 hdg (by rw [hv]; exact kk H locs ls h1 h2 h3)
theorem r_iand (C : zC p s m args meth c own nm cc nL ret G) {x y z : Int32} (hv : x &&& y = z) (hdg : decode cc pc = .ok (.iand, 1)) (kk : VV p l e R s m args below meth c cells slots Q G nL sh v N (pc + 1) lv (.int z :: st)) : VV p l e R s m args below meth c cells slots Q G nL sh v N pc lv (.int y :: .int x :: st) := fun H locs ls h1 h2 h3 => lv_iand C.1 C.2.1 hdg (by rw [hv]; exact kk H locs ls h1 h2 h3)
theorem r_ior (C : zC p s m args meth c own nm cc nL ret G) {x y z : Int32} (hv : x ||| y = z) (hdg : decode cc pc = .ok (.ior, 1)) (kk : VV p l e R s m args below meth c cells slots Q G nL sh v N (pc + 1) lv (.int z :: st)) : VV p l e R s m args below meth c cells slots Q G nL sh v N pc lv (.int y :: .int x :: st) := fun H locs ls h1 h2 h3 => lv_ior C.1 C.2.1 hdg (by rw [hv]; exact kk H locs ls h1 h2 h3)
theorem r_ixor (C : zC p s m args meth c own nm cc nL ret G) {x y z : Int32} (hv : x ^^^ y = z) (hdg : decode cc pc = .ok (.ixor, 1)) (kk : VV p l e R s m args below meth c cells slots Q G nL sh v N (pc + 1) lv (.int z :: st)) : VV p l e R s m args below meth c cells slots Q G nL sh v N pc lv (.int y :: .int x :: st) := fun H locs ls h1 h2 h3 => lv_ixor C.1 C.2.1 hdg (by rw [hv]; exact kk H locs ls h1 h2 h3)
theorem r_ishl (C : zC p s m args meth c own nm cc nL ret G) {x y z : Int32} (hv : x <<< (y &&& 31) = z) (hdg : decode cc pc = .ok (.ishl, 1)) (kk : VV p l e R s m args below meth c cells slots Q G nL sh v N (pc + 1) lv (.int z :: st)) : VV p l e R s m args below meth c cells slots Q G nL sh v N pc lv (.int y :: .int x :: st) := fun H locs ls h1 h2 h3 => lv_ishl C.1 C.2.1 hdg (by rw [hv]; exact kk H locs ls h1 h2 h3)
theorem r_ishr (C : zC p s m args meth c own nm cc nL ret G) {x y z : Int32} (hv : x >>> (y &&& 31) = z) (hdg : decode cc pc = .ok (.ishr, 1)) (kk : VV p l e R s m args below meth c cells slots Q G nL sh v N (pc + 1) lv (.int z :: st)) : VV p l e R s m args below meth c cells slots Q G nL sh v N pc lv (.int y :: .int x :: st) := fun H locs ls h1 h2 h3 => lv_ishr C.1 C.2.1 hdg (by rw [hv]; exact kk H locs ls h1 h2 h3)
theorem r_iushr (C : zC p s m args meth c own nm cc nL ret G) {x y z : Int32} (hv : (x.toUInt32 >>> (y.toUInt32 &&& Int32.toUInt32 31)).toInt32 = z) (hdg : decode cc pc = .ok (.iushr, 1)) (kk : VV p l e R s m args below meth c cells slots Q G nL sh v N (pc + 1) lv (.int z :: st)) : VV p l e R s m args below meth c cells slots Q G nL sh v N pc lv (.int y :: .int x :: st) := fun H locs ls h1 h2 h3 => lv_iushr C.1 C.2.1 hdg hv (kk H locs ls h1 h2 h3)
theorem r_idiv (C : zC p s m args meth c own nm cc nL ret G) {x y z : Int32} (hne : ¬ y = 0) (hv : x / y = z) (hdg : decode cc pc = .ok (.idiv, 1)) (kk : VV p l e R s m args below meth c cells slots Q G nL sh v N (pc + 1) lv (.int z :: st)) : VV p l e R s m args below meth c cells slots Q G nL sh v N pc lv (.int y :: .int x :: st) := fun H locs ls h1 h2 h3 => lv_idiv C.1 C.2.1 hdg hne (by rw [hv]; exact kk H locs ls h1 h2 h3)
theorem r_irem (C : zC p s m args meth c own nm cc nL ret G) {x y z : Int32} (hne : ¬ y = 0) (hv : x - x / y * y = z) (hdg : decode cc pc = .ok (.irem, 1)) (kk : VV p l e R s m args below meth c cells slots Q G nL sh v N (pc + 1) lv (.int z :: st)) : VV p l e R s m args below meth c cells slots Q G nL sh v N pc lv (.int y :: .int x :: st) := fun H locs ls h1 h2 h3 => lv_irem C.1 C.2.1 hdg hne (by rw [hv]; exact kk H locs ls h1 h2 h3)
theorem r_ladd (C : zC p s m args meth c own nm cc nL ret G) {x y z : Int64} (hv : x + y = z) (hdg : decode cc pc = .ok (.ladd, 1)) (kk : VV p l e R s m args below meth c cells slots Q G nL sh v N (pc + 1) lv (.long z :: st)) : VV p l e R s m args below meth c cells slots Q G nL sh v N pc lv (.long y :: .long x :: st) := fun H locs ls h1 h2 h3 => lv_ladd C.1 C.2.1 hdg (by rw [hv]; exact kk H locs ls h1 h2 h3)
theorem r_lmul (C : zC p s m args meth c own nm cc nL ret G) {x y z : Int64} (hv : x * y = z) (hdg : decode cc pc = .ok (.lmul, 1)) (kk : VV p l e R s m args below meth c cells slots Q G nL sh v N (pc + 1) lv (.long z :: st)) : VV p l e R s m args below meth c cells slots Q G nL sh v N pc lv (.long y :: .long x :: st) := fun H locs ls h1 h2 h3 => lv_lmul C.1 C.2.1 hdg (by rw [hv]; exact kk H locs ls h1 h2 h3)
theorem r_lrem (C : zC p s m args meth c own nm cc nL ret G) {x y z : Int64} (hne : ¬ y = 0) (hv : x - x / y * y = z) (hdg : decode cc pc = .ok (.lrem, 1)) (kk : VV p l e R s m args below meth c cells slots Q G nL sh v N (pc + 1) lv (.long z :: st)) : VV p l e R s m args below meth c cells slots Q G nL sh v N pc lv (.long y :: .long x :: st) := fun H locs ls h1 h2 h3 => lv_lrem C.1 C.2.1 hdg hne (by rw [hv]; exact kk H locs ls h1 h2 h3)
theorem r_i2l (C : zC p s m args meth c own nm cc nL ret G) {x : Int32} {z : Int64} (hv : x.toInt64 = z) (hdg : decode cc pc = .ok (.i2l, 1)) (kk : VV p l e R s m args below meth c cells slots Q G nL sh v N (pc + 1) lv (.long z :: st)) : VV p l e R s m args below meth c cells slots Q G nL sh v N pc lv (.int x :: st) := fun H locs ls h1 h2 h3 => lv_i2l C.1 C.2.1 hdg hv (kk H locs ls h1 h2 h3)
theorem r_l2i (C : zC p s m args meth c own nm cc nL ret G) {x : Int64} {z : Int32} (hv : x.toInt32 = z) (hdg : decode cc pc = .ok (.l2i, 1)) (kk : VV p l e R s m args below meth c cells slots Q G nL sh v N (pc + 1) lv (.int z :: st)) : VV p l e R s m args below meth c cells slots Q G nL sh v N pc lv (.long x :: st) := fun H locs ls h1 h2 h3 => lv_l2i C.1 C.2.1 hdg hv (kk H locs ls h1 h2 h3)
theorem r_dup (C : zC p s m args meth c own nm cc nL ret G) {w : Value} (hw : w.category = 1) (hdg : decode cc pc = .ok (.dup, 1)) (kk : VV p l e R s m args below meth c cells slots Q G nL sh v N (pc + 1) lv (w :: w :: st)) : VV p l e R s m args below meth c cells slots Q G nL sh v N pc lv (w :: st) := fun H locs ls h1 h2 h3 => lv_dup C.1 C.2.1 hdg hw (kk H locs ls h1 h2 h3)
theorem r_pop (C : zC p s m args meth c own nm cc nL ret G) {w : Value} (hw : w.category = 1) (hdg : decode cc pc = .ok (.pop, 1)) (kk : VV p l e R s m args below meth c cells slots Q G nL sh v N (pc + 1) lv st) : VV p l e R s m args below meth c cells slots Q G nL sh v N pc lv (w :: st) := fun H locs ls h1 h2 h3 => lv_pop C.1 C.2.1 hdg hw (kk H locs ls h1 h2 h3)
theorem r_dup2 (C : zC p s m args meth c own nm cc nL ret G) {w u : Value} (hw : w.category = 1) (hu : u.category = 1) (hdg : decode cc pc = .ok (.dup2, 1)) (kk : VV p l e R s m args below meth c cells slots Q G nL sh v N (pc + 1) lv (w :: u :: w :: u :: st)) : VV p l e R s m args below meth c cells slots Q G nL sh v N pc lv (w :: u :: st) := fun H locs ls h1 h2 h3 => lv_dup2_11 C.1 C.2.1 hdg hw hu (kk H locs ls h1 h2 h3)
theorem r_goto (C : zC p s m args meth c own nm cc nL ret G) {off : Int} {tgt : Nat} (hdg : decode cc pc = .ok (.goto off, 3)) (ht : (pc : Int) + off = (tgt : Int)) (kk : VV p l e R s m args below meth c cells slots Q G nL sh v N tgt lv st) : VV p l e R s m args below meth c cells slots Q G nL sh v N pc lv st := fun H locs ls h1 h2 h3 => lv_goto C.1 C.2.1 hdg ht (kk H locs ls h1 h2 h3)
theorem r_if_eq (C : zC p s m args meth c own nm cc nL ret G) {x : Int32} {off : Int} {tgt : Nat} (hdg : decode cc pc = .ok (.ifCond .eq off, 3)) (ht : (pc : Int) + off = (tgt : Int)) (kt : x = 0 → VV p l e R s m args below meth c cells slots Q G nL sh v N tgt lv st) (kf : ¬ x = 0 → VV p l e R s m args below meth c cells slots Q G nL sh v N (pc + 3) lv st) : VV p l e R s m args below meth c cells slots Q G nL sh v N pc lv (.int x :: st) := fun H locs ls h1 h2 h3 => lv_if_eq C.1 C.2.1 hdg ht (fun q => kt q H locs ls h1 h2 h3) (fun q => kf q H locs ls h1 h2 h3)
theorem r_icmp_eq (C : zC p s m args meth c own nm cc nL ret G) {x y : Int32} {off : Int} {tgt : Nat} (hdg : decode cc pc = .ok (.if_icmp .eq off, 3)) (ht : (pc : Int) + off = (tgt : Int)) (kt : x = y → VV p l e R s m args below meth c cells slots Q G nL sh v N tgt lv st) (kf : ¬ x = y → VV p l e R s m args below meth c cells slots Q G nL sh v N (pc + 3) lv st) : VV p l e R s m args below meth c cells slots Q G nL sh v N pc lv (.int y :: .int x :: st) := fun H locs ls h1 h2 h3 => lv_icmp_eq C.1 C.2.1 hdg ht (fun q => kt q H locs ls h1 h2 h3) (fun q => kf q H locs ls h1 h2 h3)
theorem r_if_ne (C : zC p s m args meth c own nm cc nL ret G) {x : Int32} {off : Int} {tgt : Nat} (hdg : decode cc pc = .ok (.ifCond .ne off, 3)) (ht : (pc : Int) + off = (tgt : Int)) (kt : ¬ x = 0 → VV p l e R s m args below meth c cells slots Q G nL sh v N tgt lv st) (kf : x = 0 → VV p l e R s m args below meth c cells slots Q G nL sh v N (pc + 3) lv st) : VV p l e R s m args below meth c cells slots Q G nL sh v N pc lv (.int x :: st) := fun H locs ls h1 h2 h3 => lv_if_ne C.1 C.2.1 hdg ht (fun q => kt q H locs ls h1 h2 h3) (fun q => kf q H locs ls h1 h2 h3)
theorem r_icmp_ne (C : zC p s m args meth c own nm cc nL ret G) {x y : Int32} {off : Int} {tgt : Nat} (hdg : decode cc pc = .ok (.if_icmp .ne off, 3)) (ht : (pc : Int) + off = (tgt : Int)) (kt : ¬ x = y → VV p l e R s m args below meth c cells slots Q G nL sh v N tgt lv st) (kf : x = y → VV p l e R s m args below meth c cells slots Q G nL sh v N (pc + 3) lv st) : VV p l e R s m args below meth c cells slots Q G nL sh v N pc lv (.int y :: .int x :: st) := fun H locs ls h1 h2 h3 => lv_icmp_ne C.1 C.2.1 hdg ht (fun q => kt q H locs ls h1 h2 h3) (fun q => kf q H locs ls h1 h2 h3)
theorem r_if_lt (C : zC p s m args meth c own nm cc nL ret G) {x : Int32} {off : Int} {tgt : Nat} (hdg : decode cc pc = .ok (.ifCond .lt off, 3)) (ht : (pc : Int) + off = (tgt : Int)) (kt : x < 0 → VV p l e R s m args below meth c cells slots Q G nL sh v N tgt lv st) (kf : ¬ x < 0 → VV p l e R s m args below meth c cells slots Q G nL sh v N (pc + 3) lv st) : VV p l e R s m args below meth c cells slots Q G nL sh v N pc lv (.int x :: st) := fun H locs ls h1 h2 h3 => lv_if_lt C.1 C.2.1 hdg ht (fun q => kt q H locs ls h1 h2 h3) (fun q => kf q H locs ls h1 h2 h3)
theorem r_icmp_lt (C : zC p s m args meth c own nm cc nL ret G) {x y : Int32} {off : Int} {tgt : Nat} (hdg : decode cc pc = .ok (.if_icmp .lt off, 3)) (ht : (pc : Int) + off = (tgt : Int)) (kt : x < y → VV p l e R s m args below meth c cells slots Q G nL sh v N tgt lv st) (kf : ¬ x < y → VV p l e R s m args below meth c cells slots Q G nL sh v N (pc + 3) lv st) : VV p l e R s m args below meth c cells slots Q G nL sh v N pc lv (.int y :: .int x :: st) := fun H locs ls h1 h2 h3 => lv_icmp_lt C.1 C.2.1 hdg ht (fun q => kt q H locs ls h1 h2 h3) (fun q => kf q H locs ls h1 h2 h3)
theorem r_if_ge (C : zC p s m args meth c own nm cc nL ret G) {x : Int32} {off : Int} {tgt : Nat} (hdg : decode cc pc = .ok (.ifCond .ge off, 3)) (ht : (pc : Int) + off = (tgt : Int)) (kt : 0 ≤ x → VV p l e R s m args below meth c cells slots Q G nL sh v N tgt lv st) (kf : ¬ 0 ≤ x → VV p l e R s m args below meth c cells slots Q G nL sh v N (pc + 3) lv st) : VV p l e R s m args below meth c cells slots Q G nL sh v N pc lv (.int x :: st) := fun H locs ls h1 h2 h3 => lv_if_ge C.1 C.2.1 hdg ht (fun q => kt q H locs ls h1 h2 h3) (fun q => kf q H locs ls h1 h2 h3)
theorem r_icmp_ge (C : zC p s m args meth c own nm cc nL ret G) {x y : Int32} {off : Int} {tgt : Nat} (hdg : decode cc pc = .ok (.if_icmp .ge off, 3)) (ht : (pc : Int) + off = (tgt : Int)) (kt : y ≤ x → VV p l e R s m args below meth c cells slots Q G nL sh v N tgt lv st) (kf : ¬ y ≤ x → VV p l e R s m args below meth c cells slots Q G nL sh v N (pc + 3) lv st) : VV p l e R s m args below meth c cells slots Q G nL sh v N pc lv (.int y :: .int x :: st) := fun H locs ls h1 h2 h3 => lv_icmp_ge C.1 C.2.1 hdg ht (fun q => kt q H locs ls h1 h2 h3) (fun q => kf q H locs ls h1 h2 h3)
theorem r_if_gt (C : zC p s m args meth c own nm cc nL ret G) {x : Int32} {off : Int} {tgt : Nat} (hdg : decode cc pc = .ok (.ifCond .gt off, 3)) (ht : (pc : Int) + off = (tgt : Int)) (kt : 0 < x → VV p l e R s m args below meth c cells slots Q G nL sh v N tgt lv st) (kf : ¬ 0 < x → VV p l e R s m args below meth c cells slots Q G nL sh v N (pc + 3) lv st) : VV p l e R s m args below meth c cells slots Q G nL sh v N pc lv (.int x :: st) := fun H locs ls h1 h2 h3 => lv_if_gt C.1 C.2.1 hdg ht (fun q => kt q H locs ls h1 h2 h3) (fun q => kf q H locs ls h1 h2 h3)
theorem r_icmp_gt (C : zC p s m args meth c own nm cc nL ret G) {x y : Int32} {off : Int} {tgt : Nat} (hdg : decode cc pc = .ok (.if_icmp .gt off, 3)) (ht : (pc : Int) + off = (tgt : Int)) (kt : y < x → VV p l e R s m args below meth c cells slots Q G nL sh v N tgt lv st) (kf : ¬ y < x → VV p l e R s m args below meth c cells slots Q G nL sh v N (pc + 3) lv st) : VV p l e R s m args below meth c cells slots Q G nL sh v N pc lv (.int y :: .int x :: st) := fun H locs ls h1 h2 h3 => lv_icmp_gt C.1 C.2.1 hdg ht (fun q => kt q H locs ls h1 h2 h3) (fun q => kf q H locs ls h1 h2 h3)
theorem r_if_le (C : zC p s m args meth c own nm cc nL ret G) {x : Int32} {off : Int} {tgt : Nat} (hdg : decode cc pc = .ok (.ifCond .le off, 3)) (ht : (pc : Int) + off = (tgt : Int)) (kt : x ≤ 0 → VV p l e R s m args below meth c cells slots Q G nL sh v N tgt lv st) (kf : ¬ x ≤ 0 → VV p l e R s m args below meth c cells slots Q G nL sh v N (pc + 3) lv st) : VV p l e R s m args below meth c cells slots Q G nL sh v N pc lv (.int x :: st) := fun H locs ls h1 h2 h3 => lv_if_le C.1 C.2.1 hdg ht (fun q => kt q H locs ls h1 h2 h3) (fun q => kf q H locs ls h1 h2 h3)
theorem r_icmp_le (C : zC p s m args meth c own nm cc nL ret G) {x y : Int32} {off : Int} {tgt : Nat} (hdg : decode cc pc = .ok (.if_icmp .le off, 3)) (ht : (pc : Int) + off = (tgt : Int)) (kt : x ≤ y → VV p l e R s m args below meth c cells slots Q G nL sh v N tgt lv st) (kf : ¬ x ≤ y → VV p l e R s m args below meth c cells slots Q G nL sh v N (pc + 3) lv st) : VV p l e R s m args below meth c cells slots Q G nL sh v N pc lv (.int y :: .int x :: st) := fun H locs ls h1 h2 h3 => lv_icmp_le C.1 C.2.1 hdg ht (fun q => kt q H locs ls h1 h2 h3) (fun q => kf q H locs ls h1 h2 h3)
theorem n_icmp_eq (C : zC p s m args meth c own nm cc nL ret G) {a b : Nat} {off : Int} {tgt : Nat} (ha : a < 2 ^ 31) (hb : b < 2 ^ 31) (hdg : decode cc pc = .ok (.if_icmp .eq off, 3)) (ht : (pc : Int) + off = (tgt : Int)) (kt : a = b → VV p l e R s m args below meth c cells slots Q G nL sh v N tgt lv st) (kf : a ≠ b → VV p l e R s m args below meth c cells slots Q G nL sh v N (pc + 3) lv st) : VV p l e R s m args below meth c cells slots Q G nL sh v N pc lv (.int (nI b) :: .int (nI a) :: st) := r_icmp_eq C hdg ht (fun q => kt ((nI_eq ha hb).mp q)) (fun q => kf (fun z => q ((nI_eq ha hb).mpr z)))
theorem n_icmp_ne (C : zC p s m args meth c own nm cc nL ret G) {a b : Nat} {off : Int} {tgt : Nat} (ha : a < 2 ^ 31) (hb : b < 2 ^ 31) (hdg : decode cc pc = .ok (.if_icmp .ne off, 3)) (ht : (pc : Int) + off = (tgt : Int)) (kt : a ≠ b → VV p l e R s m args below meth c cells slots Q G nL sh v N tgt lv st) (kf : a = b → VV p l e R s m args below meth c cells slots Q G nL sh v N (pc + 3) lv st) : VV p l e R s m args below meth c cells slots Q G nL sh v N pc lv (.int (nI b) :: .int (nI a) :: st) := r_icmp_ne C hdg ht (fun q => kt (fun z => q ((nI_eq ha hb).mpr z))) (fun q => kf ((nI_eq ha hb).mp q))
theorem n_icmp_lt (C : zC p s m args meth c own nm cc nL ret G) {a b : Nat} {off : Int} {tgt : Nat} (ha : a < 2 ^ 31) (hb : b < 2 ^ 31) (hdg : decode cc pc = .ok (.if_icmp .lt off, 3)) (ht : (pc : Int) + off = (tgt : Int)) (kt : a < b → VV p l e R s m args below meth c cells slots Q G nL sh v N tgt lv st) (kf : b ≤ a → VV p l e R s m args below meth c cells slots Q G nL sh v N (pc + 3) lv st) : VV p l e R s m args below meth c cells slots Q G nL sh v N pc lv (.int (nI b) :: .int (nI a) :: st) := r_icmp_lt C hdg ht (fun q => kt ((nI_ltI ha hb).mp q)) (fun q => kf (Nat.not_lt.mp (fun z => q ((nI_ltI ha hb).mpr z))))
theorem n_icmp_ge (C : zC p s m args meth c own nm cc nL ret G) {a b : Nat} {off : Int} {tgt : Nat} (ha : a < 2 ^ 31) (hb : b < 2 ^ 31) (hdg : decode cc pc = .ok (.if_icmp .ge off, 3)) (ht : (pc : Int) + off = (tgt : Int)) (kt : b ≤ a → VV p l e R s m args below meth c cells slots Q G nL sh v N tgt lv st) (kf : a < b → VV p l e R s m args below meth c cells slots Q G nL sh v N (pc + 3) lv st) : VV p l e R s m args below meth c cells slots Q G nL sh v N pc lv (.int (nI b) :: .int (nI a) :: st) := r_icmp_ge C hdg ht (fun q => kt ((nI_leI hb ha).mp q)) (fun q => kf (Nat.not_le.mp (fun z => q ((nI_leI hb ha).mpr z))))
theorem n_icmp_gt (C : zC p s m args meth c own nm cc nL ret G) {a b : Nat} {off : Int} {tgt : Nat} (ha : a < 2 ^ 31) (hb : b < 2 ^ 31) (hdg : decode cc pc = .ok (.if_icmp .gt off, 3)) (ht : (pc : Int) + off = (tgt : Int)) (kt : b < a → VV p l e R s m args below meth c cells slots Q G nL sh v N tgt lv st) (kf : a ≤ b → VV p l e R s m args below meth c cells slots Q G nL sh v N (pc + 3) lv st) : VV p l e R s m args below meth c cells slots Q G nL sh v N pc lv (.int (nI b) :: .int (nI a) :: st) := r_icmp_gt C hdg ht (fun q => kt ((nI_ltI hb ha).mp q)) (fun q => kf (Nat.not_lt.mp (fun z => q ((nI_ltI hb ha).mpr z))))
theorem n_icmp_le (C : zC p s m args meth c own nm cc nL ret G) {a b : Nat} {off : Int} {tgt : Nat} (ha : a < 2 ^ 31) (hb : b < 2 ^ 31) (hdg : decode cc pc = .ok (.if_icmp .le off, 3)) (ht : (pc : Int) + off = (tgt : Int)) (kt : a ≤ b → VV p l e R s m args below meth c cells slots Q G nL sh v N tgt lv st) (kf : b < a → VV p l e R s m args below meth c cells slots Q G nL sh v N (pc + 3) lv st) : VV p l e R s m args below meth c cells slots Q G nL sh v N pc lv (.int (nI b) :: .int (nI a) :: st) := r_icmp_le C hdg ht (fun q => kt ((nI_leI ha hb).mp q)) (fun q => kf (Nat.not_le.mp (fun z => q ((nI_leI ha hb).mpr z))))
theorem r_ifnull (C : zC p s m args meth c own nm cc nL ret G) {x : Nat} {off : Int} (hdg : decode cc pc = .ok (.ifnull off, 3)) (kk : VV p l e R s m args below meth c cells slots Q G nL sh v N (pc + 3) lv st) : VV p l e R s m args below meth c cells slots Q G nL sh v N pc lv (.ref x :: st) := fun H locs ls h1 h2 h3 => lv_ifnull C.1 C.2.1 hdg (kk H locs ls h1 h2 h3)
theorem r_ifnullN (C : zC p s m args meth c own nm cc nL ret G) {off : Int} {tgt : Nat} (hdg : decode cc pc = .ok (.ifnull off, 3)) (ht : (pc : Int) + off = (tgt : Int)) (kk : VV p l e R s m args below meth c cells slots Q G nL sh v N tgt lv st) : VV p l e R s m args below meth c cells slots Q G nL sh v N pc lv (.null :: st) := fun H locs ls h1 h2 h3 => lv_ifnullN C.1 C.2.1 hdg ht (kk H locs ls h1 h2 h3)
theorem r_ifnonnull (C : zC p s m args meth c own nm cc nL ret G) {x : Nat} {off : Int} {tgt : Nat} (hdg : decode cc pc = .ok (.ifnonnull off, 3)) (ht : (pc : Int) + off = (tgt : Int)) (kk : VV p l e R s m args below meth c cells slots Q G nL sh v N tgt lv st) : VV p l e R s m args below meth c cells slots Q G nL sh v N pc lv (.ref x :: st) := fun H locs ls h1 h2 h3 => lv_ifnonnull C.1 C.2.1 hdg ht (kk H locs ls h1 h2 h3)
theorem r_ifnonnullN (C : zC p s m args meth c own nm cc nL ret G) {off : Int} (hdg : decode cc pc = .ok (.ifnonnull off, 3)) (kk : VV p l e R s m args below meth c cells slots Q G nL sh v N (pc + 3) lv st) : VV p l e R s m args below meth c cells slots Q G nL sh v N pc lv (.null :: st) := fun H locs ls h1 h2 h3 => lv_ifnonnullN C.1 C.2.1 hdg (kk H locs ls h1 h2 h3)
theorem r_tableOut (C : zC p s m args meth c own nm cc nL ret G) {dflt lo hi : Int} {offs : Array Int} {len : Nat} {x : Int32} {tgt : Nat} (hdg : decode cc pc = .ok (.tableswitch dflt lo hi offs, len)) (h : x.toInt < lo ∨ hi < x.toInt) (ht : (pc : Int) + dflt = (tgt : Int)) (kk : VV p l e R s m args below meth c cells slots Q G nL sh v N tgt lv st) : VV p l e R s m args below meth c cells slots Q G nL sh v N pc lv (.int x :: st) := fun H locs ls h1 h2 h3 => lv_tableOut C.1 C.2.1 hdg h ht (kk H locs ls h1 h2 h3)
theorem r_tableIn (C : zC p s m args meth c own nm cc nL ret G) {dflt lo hi : Int} {offs : Array Int} {len : Nat} {x : Int32} {off : Int} {tgt : Nat} (hdg : decode cc pc = .ok (.tableswitch dflt lo hi offs, len)) (g1 : ¬ x.toInt < lo) (g2 : ¬ hi < x.toInt) (ho : offs[(x.toInt - lo).toNat]? = some off) (ht : (pc : Int) + off = (tgt : Int)) (kk : VV p l e R s m args below meth c cells slots Q G nL sh v N tgt lv st) : VV p l e R s m args below meth c cells slots Q G nL sh v N pc lv (.int x :: st) := fun H locs ls h1 h2 h3 => lv_tableIn C.1 C.2.1 hdg g1 g2 ho ht (kk H locs ls h1 h2 h3)
theorem r_lookup (C : zC p s m args meth c own nm cc nL ret G) {dflt : Int} {ps : Array (Int × Int)} {len : Nat} {x : Int32} {off : Int} {tgt : Nat} (hdg : decode cc pc = .ok (.lookupswitch dflt ps, len)) (hp : (ps.toList.zip (ps.toList.drop 1)).all (fun (a, next) => a.1 < next.1) = true) (ho : Op.lookupswitch.offset ps.toList dflt x.toInt = off) (ht : (pc : Int) + off = (tgt : Int)) (kk : VV p l e R s m args below meth c cells slots Q G nL sh v N tgt lv st) : VV p l e R s m args below meth c cells slots Q G nL sh v N pc lv (.int x :: st) := fun H locs ls h1 h2 h3 => lv_lookup C.1 C.2.1 hdg hp ho ht (kk H locs ls h1 h2 h3)
theorem VV.gn (k : ∀ w : zV, w = v → VV p l e R s m args below meth c cells slots Q G nL sh w N pc lv st) : VV p l e R s m args below meth c cells slots Q G nL sh v N pc lv st := k v rfl
theorem zl_ref (q : Nat) (x : Int32) : zl (q + 2) x = .ref q := rfl
theorem zl_int (x : Int32) : zl 0 x = .int x := rfl
theorem zl_i {x y : Int32} (h : x = y) : zl 0 x = .int y := by rw [h]; rfl
def pts (l : List Nat) (j : Nat) : Nat := l.getD j 0
def zb (b : Bool) : Int32 := if b then 1 else 0
theorem zb_nar (b : Bool) : narrow .boolean (.int (zb b)) = .int (zb b) := by cases b <;> rfl
theorem zb_eq (b : Bool) : zb b = 0 ↔ b = false := by cases b <;> decide
theorem nI_inc (j k : Nat) : nI j + Int32.ofInt (k : Int) = nI (j + k) := by
  have h : Int32.ofInt (k : Int) = nI k := rfl
  rw [h, nI_add]
theorem nI_dec (j : Nat) : nI (j + 1) + Int32.ofInt (-1) = nI j := pk_m1 j
theorem nI_ub {n : Nat} (h : n < 2 ^ 31) : nI n = 0 ↔ n = 0 := by
  have := nI_eq (a := n) (b := 0) h (by decide)
  exact this
theorem n_if_eq (C : zC p s m args meth c own nm cc nL ret G) {a : Nat} {off : Int} {tgt : Nat} (ha : a < 2 ^ 31) (hdg : decode cc pc = .ok (.ifCond .eq off, 3)) (ht : (pc : Int) + off = (tgt : Int)) (kt : a = 0 → VV p l e R s m args below meth c cells slots Q G nL sh v N tgt lv st) (kf : 0 < a → VV p l e R s m args below meth c cells slots Q G nL sh v N (pc + 3) lv st) : VV p l e R s m args below meth c cells slots Q G nL sh v N pc lv (.int (nI a) :: st) := r_if_eq C hdg ht (fun q => kt ((nI_ub ha).mp q)) (fun q => kf (Nat.pos_of_ne_zero (fun z => q ((nI_ub ha).mpr z))))
theorem n_if_ne (C : zC p s m args meth c own nm cc nL ret G) {a : Nat} {off : Int} {tgt : Nat} (ha : a < 2 ^ 31) (hdg : decode cc pc = .ok (.ifCond .ne off, 3)) (ht : (pc : Int) + off = (tgt : Int)) (kt : 0 < a → VV p l e R s m args below meth c cells slots Q G nL sh v N tgt lv st) (kf : a = 0 → VV p l e R s m args below meth c cells slots Q G nL sh v N (pc + 3) lv st) : VV p l e R s m args below meth c cells slots Q G nL sh v N pc lv (.int (nI a) :: st) := r_if_ne C hdg ht (fun q => kt (Nat.pos_of_ne_zero (fun z => q ((nI_ub ha).mpr z)))) (fun q => kf ((nI_ub ha).mp q))
theorem n_if_lt (C : zC p s m args meth c own nm cc nL ret G) {a : Nat} {off : Int} (ha : a < 2 ^ 31) (hdg : decode cc pc = .ok (.ifCond .lt off, 3)) (kf : VV p l e R s m args below meth c cells slots Q G nL sh v N (pc + 3) lv st) : VV p l e R s m args below meth c cells slots Q G nL sh v N pc lv (.int (nI a) :: st) := fun H locs ls h1 h2 h3 => W.eq rfl (by
  intro T hT X
  have h0 : ¬ nI a < 0 := nI_pos ha
  obtain ⟨t, a1, b1⟩ := kf H locs ls h1 h2 h3 T hT X
  refine ⟨t, ?_, b1⟩
  jvm_step X.here [X.here.top, C.1, C.2.1, hdg, Op.ifCond.holds, h0]
  exact a1)
theorem n_if_ge (C : zC p s m args meth c own nm cc nL ret G) {a : Nat} {off : Int} {tgt : Nat} (ha : a < 2 ^ 31) (hdg : decode cc pc = .ok (.ifCond .ge off, 3)) (ht : (pc : Int) + off = (tgt : Int)) (kt : VV p l e R s m args below meth c cells slots Q G nL sh v N tgt lv st) : VV p l e R s m args below meth c cells slots Q G nL sh v N pc lv (.int (nI a) :: st) := r_if_ge C hdg ht (fun _ => kt) (fun q => absurd (nI_pos' ha) q)
theorem n_if_gt (C : zC p s m args meth c own nm cc nL ret G) {a : Nat} {off : Int} {tgt : Nat} (ha : a < 2 ^ 31) (hdg : decode cc pc = .ok (.ifCond .gt off, 3)) (ht : (pc : Int) + off = (tgt : Int)) (kt : 0 < a → VV p l e R s m args below meth c cells slots Q G nL sh v N tgt lv st) (kf : a = 0 → VV p l e R s m args below meth c cells slots Q G nL sh v N (pc + 3) lv st) : VV p l e R s m args below meth c cells slots Q G nL sh v N pc lv (.int (nI a) :: st) := r_if_gt C hdg ht (fun q => kt ((nI_ltI (a := 0) (by decide) ha).mp q)) (fun q => kf (Nat.eq_zero_of_not_pos (fun z => q ((nI_ltI (a := 0) (by decide) ha).mpr z))))
theorem n_if_le (C : zC p s m args meth c own nm cc nL ret G) {a : Nat} {off : Int} {tgt : Nat} (ha : a < 2 ^ 31) (hdg : decode cc pc = .ok (.ifCond .le off, 3)) (ht : (pc : Int) + off = (tgt : Int)) (kt : a = 0 → VV p l e R s m args below meth c cells slots Q G nL sh v N tgt lv st) (kf : 0 < a → VV p l e R s m args below meth c cells slots Q G nL sh v N (pc + 3) lv st) : VV p l e R s m args below meth c cells slots Q G nL sh v N pc lv (.int (nI a) :: st) := r_if_le C hdg ht (fun q => kt (Nat.eq_zero_of_not_pos (fun z => nI_nle z ha q))) (fun q => kf (Nat.pos_of_ne_zero (fun z => q (by subst z; decide))))
theorem n_ifb_eq (C : zC p s m args meth c own nm cc nL ret G) {b : Bool} {off : Int} {tgt : Nat} (hdg : decode cc pc = .ok (.ifCond .eq off, 3)) (ht : (pc : Int) + off = (tgt : Int)) (kt : b = false → VV p l e R s m args below meth c cells slots Q G nL sh v N tgt lv st) (kf : b = true → VV p l e R s m args below meth c cells slots Q G nL sh v N (pc + 3) lv st) : VV p l e R s m args below meth c cells slots Q G nL sh v N pc lv (.int (zb b) :: st) := r_if_eq C hdg ht (fun q => kt ((zb_eq b).mp q)) (fun q => kf (by cases b with | false => exact absurd ((zb_eq false).mpr rfl) q | true => rfl))
theorem n_ifb_ne (C : zC p s m args meth c own nm cc nL ret G) {b : Bool} {off : Int} {tgt : Nat} (hdg : decode cc pc = .ok (.ifCond .ne off, 3)) (ht : (pc : Int) + off = (tgt : Int)) (kt : b = true → VV p l e R s m args below meth c cells slots Q G nL sh v N tgt lv st) (kf : b = false → VV p l e R s m args below meth c cells slots Q G nL sh v N (pc + 3) lv st) : VV p l e R s m args below meth c cells slots Q G nL sh v N pc lv (.int (zb b) :: st) := r_if_ne C hdg ht (fun q => kt (by cases b with | false => exact absurd ((zb_eq false).mpr rfl) q | true => rfl)) (fun q => kf ((zb_eq b).mp q))
theorem nI_max {a b : Nat} (ha : a < 2 ^ 31) (hb : b < 2 ^ 31) : (if nI a < nI b then nI b else nI a) = nI (max a b) := by
  by_cases h : a < b
  · rw [if_pos ((nI_ltI ha hb).mpr h), Nat.max_eq_right (Nat.le_of_lt h)]
  · rw [if_neg (fun z => h ((nI_ltI ha hb).mp z)), Nat.max_eq_left (Nat.not_lt.mp h)]
theorem nI_min {a b : Nat} (ha : a < 2 ^ 31) (hb : b < 2 ^ 31) : (if nI b < nI a then nI b else nI a) = nI (min a b) := by
  by_cases h : b < a
  · rw [if_pos ((nI_ltI hb ha).mpr h), Nat.min_eq_right (Nat.le_of_lt h)]
  · rw [if_neg (fun z => h ((nI_ltI hb ha).mp z)), Nat.min_eq_left (Nat.not_lt.mp h)]
theorem pfI : parseFieldDescriptor "I" = some .int := by decide +kernel

theorem r_max (C : zC p s m args meth c own nm cc nL ret G) {x y z : Int32} {idx : Nat} (hlink : Cond.methodLink own idx Lib.Math.max.name ∈ TB) (hv : (if x < y then y else x) = z) (hcat : (st.map fun w => w.category).sum ≤ 8) (hR : 1 ≤ R.frames ∧ 32 ≤ R.locals) (hroom : cells ≤ R.cells ∧ slots ≤ R.slots) (hdg : decode cc pc = .ok (.invokestatic idx, 3)) (kk : VV p l e R s m args below meth c cells slots Q G nL sh v N (pc + 3) lv (.int z :: st)) : VV p l e R s m args below meth c cells slots Q G nL sh v N pc lv (.int y :: .int x :: st) := fun H locs ls h1 h2 h3 =>
  va_mmax C.1 C.2.1 (C.2.2.1.trans h3.1.symm) C.2.2.2.1 (C.2.2.2.2.1 _ hlink) (C.2.2.2.2.1 _ q_mmaxs) (C.2.2.2.2.1 _ q_math) (C.2.2.2.2.1 _ q_mmaxc) hR.1 (by omega) hroom.1 hroom.2 hdg (by rw [hv]; exact kk H locs ls h1 h2 h3)

theorem r_min (C : zC p s m args meth c own nm cc nL ret G) {x y z : Int32} {idx : Nat} (hlink : Cond.methodLink own idx Lib.Math.min.name ∈ TB) (hv : (if y < x then y else x) = z) (hcat : (st.map fun w => w.category).sum ≤ 8) (hR : 1 ≤ R.frames ∧ 32 ≤ R.locals) (hroom : cells ≤ R.cells ∧ slots ≤ R.slots) (hdg : decode cc pc = .ok (.invokestatic idx, 3)) (kk : VV p l e R s m args below meth c cells slots Q G nL sh v N (pc + 3) lv (.int z :: st)) : VV p l e R s m args below meth c cells slots Q G nL sh v N pc lv (.int y :: .int x :: st) := fun H locs ls h1 h2 h3 =>
  va_mmin C.1 C.2.1 (C.2.2.1.trans h3.1.symm) C.2.2.2.1 (C.2.2.2.2.1 _ hlink) (C.2.2.2.2.1 _ q_mmins) (C.2.2.2.2.1 _ q_math) (C.2.2.2.2.1 _ q_mminc) hR.1 (by omega) hroom.1 hroom.2 hdg (by rw [hv]; exact kk H locs ls h1 h2 h3)

theorem zok.obj {G : zG} {a ci NF : Nat} {pt : Nat → Nat} {k : Nat × Nat × (Nat → Nat)} {f : Nat → Int32} {H : Heap} (h : zok G a k f H) (hs : k = (ci, NF, pt)) (hci : ci < 8) : t_OB a (G.1.1 ci) NF (G.1.2 ci) H (fun j => zl (pt j) (f j)) := by
  subst hs
  exact h.1 hci
theorem zok.arr {G : zG} {a ci n : Nat} {pt : Nat → Nat} {k : Nat × Nat × (Nat → Nat)} {f : Nat → Int32} {H : Heap} (h : zok G a k f H) (hs : k = (ci, n, pt)) (hci : 8 ≤ ci) (h99 : ci < 99 := by omega) : H[a]? = some (arrV (G.2.1 ci) n (fun j => zl (pt j) (f j))) := by
  subst hs
  exact h.2 ⟨hci, h99⟩
theorem r_get (C : zC p s m args meth c own nm cc nL ret G) {ci NF a k index : Nat} {pt : Nat → Nat} {Cn : String} {Tn : u_T} {w : Value} (hc : zcl[ci]? = some (Cn, Tn, NF)) (hci : ci < 8) (hin : ∀ w ∈ u_ws Cn Tn NF, w ∈ TB) (hk : k < NF) (hlink : Cond.fieldLink own index (Tn k).1 (Tn k).2.1 (Tn k).2.2.1 ∈ TB) (hd : zdm G N a) (hsh : sh a = (ci, NF, pt)) (hw : zl (pt k) (v a k) = w) (hdg : decode cc pc = .ok (.getfield index, 3)) (kk : VV p l e R s m args below meth c cells slots Q G nL sh v N (pc + 3) lv (w :: st)) : VV p l e R s m args below meth c cells slots Q G nL sh v N pc lv (.ref a :: st) := fun H locs ls h1 h2 h3 => by
  obtain ⟨cell, q1, q2, q3, q4⟩ := (h1.2.2.2 a hd).obj hsh hci
  obtain ⟨hS, hfc, kC, hkC, hkind⟩ := C.k.1 ci _ hc
  obtain ⟨cf, kf, fi, f, hi, hsl⟩ := hS k hk
  refine W.getf C.1 C.2.1 C.2.2.2.1 (C.2.2.2.2.1 _ hlink) hi (u_facts hfc hkC (u_lays C.2.2.2.2.1 hin hk) hi).1 q1 (by rw [q3]; exact fun h => by cases h) (v := w) ?_ rfl rfl hdg (kk H locs ls h1 h2 h3)
  rw [hsl, q4 k hk]
  exact congrArg some hw
theorem r_getN (C : zC p s m args meth c own nm cc nL ret G) {ci NF a k index : Nat} {pt : Nat → Nat} {Cn host : String} {Tn : u_T} {w : Value} (hc : zcl[ci]? = some (Cn, Tn, NF)) (hci : ci < 8) (hin : ∀ w ∈ u_ws Cn Tn NF, w ∈ TB) (hk : k < NF) (hlink : Cond.fieldLinkNest own index (Tn k).1 (Tn k).2.1 (Tn k).2.2.1 host ∈ NB) (hd : zdm G N a) (hsh : sh a = (ci, NF, pt)) (hw : zl (pt k) (v a k) = w) (hdg : decode cc pc = .ok (.getfield index, 3)) (kk : VV p l e R s m args below meth c cells slots Q G nL sh v N (pc + 3) lv (w :: st)) : VV p l e R s m args below meth c cells slots Q G nL sh v N pc lv (.ref a :: st) := fun H locs ls h1 h2 h3 => by
  obtain ⟨cell, q1, q2, q3, q4⟩ := (h1.2.2.2 a hd).obj hsh hci
  obtain ⟨hS, hfc, kC, hkC, hkind⟩ := C.k.1 ci _ hc
  obtain ⟨cf, kf, fi, f, hi, hsl⟩ := hS k hk
  refine va_Wgetf C.1 C.2.1 C.2.2.2.1 (C.n hlink) hi (u_facts hfc hkC (u_lays C.2.2.2.2.1 hin hk) hi).1 q1 (by rw [q3]; exact fun h => by cases h) (v := w) ?_ rfl rfl hdg (kk H locs ls h1 h2 h3)
  rw [hsl, q4 k hk]
  exact congrArg some hw
theorem zok_set {G : zG} {a ci NF k : Nat} {pt : Nat → Nat} {f : Nat → Int32} {x : Int32} {cell : Cell} {H1 : Heap} (hci : ci < 8) (hp : pt k = 0) (q2 : cell.cls = G.1.1 ci) (q3 : cell.vm = .none) (q4 : ∀ j, j < NF → cell.slots[G.1.2 ci j]? = some (zl (pt j) (f j))) (hap : ∀ x y, x < NF → y < NF → x ≠ y → (G.1.2 ci) x ≠ (G.1.2 ci) y) (hk : k < NF) (e1 : H1[a]? = some (cell.setSlot (G.1.2 ci k) (.int x))) : zok G a (ci, NF, pt) (upd f k x) H1 := by
  refine ⟨fun _ => ⟨_, e1, q2, q3, fun j hj => ?_⟩, fun h => absurd h.1 (by simpa using hci)⟩
  rw [t_set q4 hap hk (.int x) j hj]
  by_cases hjk : j = k
  · subst hjk
    simp [updV, upd, hp, zl]
  · simp [updV, upd, hjk]
theorem r_put (C : zC p s m args meth c own nm cc nL ret G) {ci NF a k index : Nat} {pt : Nat → Nat} {Cn : String} {Tn : u_T} {x : Int32} {ty0 : Nat → FieldType} (hc : zcl[ci]? = some (Cn, Tn, NF)) (hci : ci < 8) (hin : ∀ w ∈ u_ws Cn Tn NF, w ∈ TB) (hty : ∀ k, k < NF → parseFieldDescriptor (Tn k).2.2.1 = some (ty0 k)) (hnm : ∀ a, a < NF → ∀ b, b < NF → a ≠ b → (Tn a).2.1 ≠ (Tn b).2.1) (hk : k < NF) (hfin : (Tn k).2.2.2 = false) (hint : parseFieldDescriptor (Tn k).2.2.1 = some .int) (hp : pt k = 0) (hlink : Cond.fieldLink own index (Tn k).1 (Tn k).2.1 (Tn k).2.2.1 ∈ TB) (hd : G.2.2.1 ≤ a ∧ a < N) (hsh : sh a = (ci, NF, pt)) (hdg : decode cc pc = .ok (.putfield index, 3)) (kk : VV p l e R s m args below meth c cells slots Q G nL sh (z2 v a k x) N (pc + 3) lv st) : VV p l e R s m args below meth c cells slots Q G nL sh v N pc lv (.int x :: .ref a :: st) := fun H locs ls h1 h2 h3 => by
  have hts := C.2.2.2.2.1
  have hK := C.k
  have hap := va_apart (own := own) hts hin ty0 hty hnm hK hc
  obtain ⟨cell, q1, q2, q3, q4⟩ := (h1.2.2.2 a (Or.inl hd)).obj hsh hci
  obtain ⟨hS, hfc, kC, hkC, hkind⟩ := hK.1 ci _ hc
  obtain ⟨cf, kf, fi, f, hi, hsl⟩ := hS k hk
  have hlay := hts _ (hin _ (u_in_lay hk))
  unfold u_lay at hlay
  rw [if_neg (by rw [hfin]; decide)] at hlay
  have hst := (u_facts hfc hkC (u_lays hts hin hk) hi).1
  have h6 := u_store hfc hkC hkind hlay hi hint (v := .int x) rfl rfl
  refine W.putK C.1 C.2.1 (f := f) ⟨C.2.2.2.1, hts _ hlink, ⟨_, _, _, hi⟩, hst⟩ (by rw [q2]; exact h6) q1 q3 (by rw [hsl]; exact k2_hasslot (q4 k hk)) rfl rfl hdg fun H1 e1 e2 e3 => ?_
  rw [hsl] at e1 ⊢
  refine kk H1 _ ls (h1.put ?_ e2 e3) (h2.put e2 e3 hd.1) h3
  rw [hsh]
  exact zok_set hci hp q2 q3 q4 hap hk e1
theorem r_putN (C : zC p s m args meth c own nm cc nL ret G) {ci NF a k index : Nat} {pt : Nat → Nat} {Cn host : String} {Tn : u_T} {x : Int32} {ty0 : Nat → FieldType} (hc : zcl[ci]? = some (Cn, Tn, NF)) (hci : ci < 8) (hin : ∀ w ∈ u_ws Cn Tn NF, w ∈ TB) (hty : ∀ k, k < NF → parseFieldDescriptor (Tn k).2.2.1 = some (ty0 k)) (hnm : ∀ a, a < NF → ∀ b, b < NF → a ≠ b → (Tn a).2.1 ≠ (Tn b).2.1) (hk : k < NF) (hfin : (Tn k).2.2.2 = false) (hint : parseFieldDescriptor (Tn k).2.2.1 = some .int) (hp : pt k = 0) (hlink : Cond.fieldLinkNest own index (Tn k).1 (Tn k).2.1 (Tn k).2.2.1 host ∈ NB) (hd : G.2.2.1 ≤ a ∧ a < N) (hsh : sh a = (ci, NF, pt)) (hdg : decode cc pc = .ok (.putfield index, 3)) (kk : VV p l e R s m args below meth c cells slots Q G nL sh (z2 v a k x) N (pc + 3) lv st) : VV p l e R s m args below meth c cells slots Q G nL sh v N pc lv (.int x :: .ref a :: st) := fun H locs ls h1 h2 h3 => by
  have hts := C.2.2.2.2.1
  have hK := C.k
  have hap := va_apart (own := own) hts hin ty0 hty hnm hK hc
  obtain ⟨cell, q1, q2, q3, q4⟩ := (h1.2.2.2 a (Or.inl hd)).obj hsh hci
  obtain ⟨hS, hfc, kC, hkC, hkind⟩ := hK.1 ci _ hc
  obtain ⟨cf, kf, fi, f, hi, hsl⟩ := hS k hk
  have hlay := hts _ (hin _ (u_in_lay hk))
  unfold u_lay at hlay
  rw [if_neg (by rw [hfin]; decide)] at hlay
  have hst := (u_facts hfc hkC (u_lays hts hin hk) hi).1
  have h6 := u_store hfc hkC hkind hlay hi hint (v := .int x) rfl rfl
  refine va_WputK C.1 C.2.1 (f := f) C.2.2.2.1 (C.n hlink) hi hst (by rw [q2]; exact h6) q1 q3 (by rw [hsl]; exact k2_hasslot (q4 k hk)) rfl rfl hdg fun H1 e1 e2 e3 => ?_
  rw [hsl] at e1 ⊢
  refine kk H1 _ ls (h1.put ?_ e2 e3) (h2.put e2 e3 hd.1) h3
  rw [hsh]
  exact zok_set hci hp q2 q3 q4 hap hk e1
theorem r_alen (C : zC p s m args meth c own nm cc nL ret G) {a ci n : Nat} {pt : Nat → Nat} {ty : FieldType} {x : Int32} (hd : zdm G N a) (hsh : sh a = (ci, n, pt)) (hci : 8 ≤ ci) (ht : (zty G)[ci - 8]? = some (G.2.1 ci, ty)) (hx : Int32.ofNat n = x) (hdg : decode cc pc = .ok (.arraylength, 1)) (kk : VV p l e R s m args below meth c cells slots Q G nL sh v N (pc + 1) lv (.int x :: st)) : VV p l e R s m args below meth c cells slots Q G nL sh v N pc lv (.ref a :: st) := fun H locs ls h1 h2 h3 => by
  have hz4 := zty_lt ht
  have hq := (h1.2.2.2 a hd).arr hsh hci
  exact W.alen (n := x) C.1 C.2.1 hq ((C.k.2 _ _ ht).1 _ _) (by rw [arrV_size]; exact hx) rfl rfl hdg (kk H locs ls h1 h2 h3)
theorem r_iald (C : zC p s m args meth c own nm cc nL ret G) {a n j : Nat} (hd : zdm G N a) (hsh : sh a = (8, n, fun _ => 0)) (hj : j < n) (hn : j < 2 ^ 31) {x : Int32} (hx : v a j = x) (hdg : decode cc pc = .ok (.iaload, 1)) (kk : VV p l e R s m args below meth c cells slots Q G nL sh v N (pc + 1) lv (.int x :: st)) : VV p l e R s m args below meth c cells slots Q G nL sh v N pc lv (.int (nI j) :: .ref a :: st) := fun H locs ls h1 h2 h3 => by
  have hq := (h1.2.2.2 a hd).arr hsh (by decide)
  subst hx
  refine W.iald (v := .int (v a j)) C.1 C.2.1 hq ((C.k.2 0 _ rfl).1 _ _) (fun q => by cases q) (by rw [arrV_size]; exact fun z => z.elim (fun z => nI_pos hn z) (fun z => by rw [nI_clamp hn] at z; omega)) ?_ rfl rfl hdg (kk H locs ls h1 h2 h3)
  rw [nI_clamp hn, arrV_read _ _ hj]
  rfl
theorem r_iast (C : zC p s m args meth c own nm cc nL ret G) {a n j : Nat} {x : Int32} (hd : G.2.2.1 ≤ a ∧ a < N) (hsh : sh a = (8, n, fun _ => 0)) (hj : j < n) (hn : j < 2 ^ 31) (hdg : decode cc pc = .ok (.iastore, 1)) (kk : VV p l e R s m args below meth c cells slots Q G nL sh (z2 v a j x) N (pc + 1) lv st) : VV p l e R s m args below meth c cells slots Q G nL sh v N pc lv (.int x :: .int (nI j) :: .ref a :: st) := fun H locs ls h1 h2 h3 => by
  have hq := (h1.2.2.2 a (Or.inl hd)).arr hsh (by decide)
  refine W.iast C.1 C.2.1 hq ((C.k.2 0 _ rfl).1 _ _) (fun q => by cases q) (by rw [arrV_size]; exact fun z => z.elim (fun z => nI_pos hn z) (fun z => by rw [nI_clamp hn] at z; omega)) rfl rfl hdg fun H1 e z oq => ?_
  refine kk H1 _ ls (h1.put ?_ z oq) (h2.put z oq hd.1) h3
  rw [hsh]
  refine ⟨fun h => absurd h (Nat.lt_irrefl 8), fun _ => ?_⟩
  show H1[a]? = some (arrV (G.2.1 8) n _)
  rw [e, nI_clamp hn, arrV_store]
  congr 2
  funext q
  by_cases hqj : q = j
  · subst hqj
    simp [updV, upd, zl]
  · simp [updV, upd, hqj]
theorem r_zald (C : zC p s m args meth c own nm cc nL ret G) {a n j : Nat} (hd : zdm G N a) (hsh : sh a = (9, n, fun _ => 0)) (hj : j < n) (hn : j < 2 ^ 31) {x : Int32} (hx : v a j = x) (hdg : decode cc pc = .ok (.baload, 1)) (kk : VV p l e R s m args below meth c cells slots Q G nL sh v N (pc + 1) lv (.int x :: st)) : VV p l e R s m args below meth c cells slots Q G nL sh v N pc lv (.int (nI j) :: .ref a :: st) := fun H locs ls h1 h2 h3 => by
  have hq := (h1.2.2.2 a hd).arr hsh (by decide)
  subst hx
  refine W.zald (v := .int (v a j)) C.1 C.2.1 hq ((C.k.2 1 _ rfl).1 _ _) (fun q => by cases q) (by rw [arrV_size]; exact fun z => z.elim (fun z => nI_pos hn z) (fun z => by rw [nI_clamp hn] at z; omega)) ?_ rfl rfl hdg (kk H locs ls h1 h2 h3)
  rw [nI_clamp hn, arrV_read _ _ hj]
  rfl
theorem r_zast (C : zC p s m args meth c own nm cc nL ret G) {a n j : Nat} {x : Int32} (hd : G.2.2.1 ≤ a ∧ a < N) (hsh : sh a = (9, n, fun _ => 0)) (hj : j < n) (hn : j < 2 ^ 31) (hx : narrow .boolean (.int x) = .int x) (hdg : decode cc pc = .ok (.bastore, 1)) (kk : VV p l e R s m args below meth c cells slots Q G nL sh (z2 v a j x) N (pc + 1) lv st) : VV p l e R s m args below meth c cells slots Q G nL sh v N pc lv (.int x :: .int (nI j) :: .ref a :: st) := fun H locs ls h1 h2 h3 => by
  have hq := (h1.2.2.2 a (Or.inl hd)).arr hsh (by decide)
  refine W.zast C.1 C.2.1 hq ((C.k.2 1 _ rfl).1 _ _) (fun q => by cases q) (by rw [arrV_size]; exact fun z => z.elim (fun z => nI_pos hn z) (fun z => by rw [nI_clamp hn] at z; omega)) rfl rfl hdg fun H1 e z oq => ?_
  refine kk H1 _ ls (h1.put ?_ z oq) (h2.put z oq hd.1) h3
  rw [hsh]
  refine ⟨fun h => absurd h (show ¬ (9 < 8) by decide), fun _ => ?_⟩
  show H1[a]? = some (arrV (G.2.1 9) n _)
  rw [e, nI_clamp hn, arrV_store, hx]
  congr 2
  funext q
  by_cases hqj : q = j
  · subst hqj
    simp [updV, upd, zl]
  · simp [updV, upd, hqj]
theorem r_aald (C : zC p s m args meth c own nm cc nL ret G) {a ci n j : Nat} {pt : Nat → Nat} {Cn : String} {w : Value} (hd : zdm G N a) (hsh : sh a = (ci, n, pt)) (hci : 8 ≤ ci) (ht : (zty G)[ci - 8]? = some (G.2.1 ci, .object Cn)) (hj : j < n) (hn : j < 2 ^ 31) (hw : zl (pt j) (v a j) = w) (hdg : decode cc pc = .ok (.aaload, 1)) (kk : VV p l e R s m args below meth c cells slots Q G nL sh v N (pc + 1) lv (w :: st)) : VV p l e R s m args below meth c cells slots Q G nL sh v N pc lv (.int (nI j) :: .ref a :: st) := fun H locs ls h1 h2 h3 => by
  have hz4 := zty_lt ht
  have hq := (h1.2.2.2 a hd).arr hsh hci
  refine W.aald (v := w) C.1 C.2.1 hq ((C.k.2 _ _ ht).1 _ _) rfl (fun q => by cases q) (by rw [arrV_size]; exact fun z => z.elim (fun z => nI_pos hn z) (fun z => by rw [nI_clamp hn] at z; omega)) ?_ rfl rfl hdg (kk H locs ls h1 h2 h3)
  rw [nI_clamp hn, arrV_read _ _ hj, hw]

variable {Post : Option Value → zH → zV → Nat → Prop}
theorem r_iret (C : zC p s m args meth c own nm cc nL ret G) {x : Int32} {ty : FieldType} (hret : ret = some ty) (hn : narrow ty (.int x) = .int x) (hdg : decode cc pc = .ok (.ireturn, 1)) (hp : Post (some (.int x)) sh v N) : VV p l e R s m args below meth c cells slots (zQ below Post G args s cells slots) G nL sh v N pc lv [.int x] := fun H locs ls h1 h2 h3 =>
  W.zret (ty := ty) C.1 C.2.1 (C.2.2.2.2.2.1.trans hret) hn (fun t ht hW => ⟨⟨_, _, _, _, rfl, hp, by rw [ht]; exact h1⟩, h2.F ht⟩) h2.2.2 hdg C.2.2.2.2.2.2.1
theorem r_vret (C : zC p s m args meth c own nm cc nL ret G) (hret : ret = none) (hdg : decode cc pc = .ok (.return_, 1)) (hp : Post none sh v N) : VV p l e R s m args below meth c cells slots (zQ below Post G args s cells slots) G nL sh v N pc lv [] := fun H locs ls h1 h2 h3 =>
  W.vret C.1 C.2.1 (C.2.2.2.2.2.1.trans hret) (fun t ht hW => ⟨⟨_, _, _, _, rfl, hp, by rw [ht]; exact h1⟩, h2.F ht⟩) h2.2.2 hdg C.2.2.2.2.2.2.1
theorem r_aret (C : zC p s m args meth c own nm cc nL ret G) {w : Value} {cn : String} (hret : ret = some (.object cn)) (hw : w = .null ∨ ∃ a, w = .ref a) (hdg : decode cc pc = .ok (.areturn, 1)) (hp : Post (some w) sh v N) : VV p l e R s m args below meth c cells slots (zQ below Post G args s cells slots) G nL sh v N pc lv [w] := fun H locs ls h1 h2 h3 =>
  W.aret C.1 C.2.1 (C.2.2.2.2.2.1.trans hret) (Or.inl ⟨_, rfl⟩) hw (fun t ht hW => ⟨⟨_, _, _, _, rfl, hp, by rw [ht]; exact h1⟩, h2.F ht⟩) h2.2.2 hdg C.2.2.2.2.2.2.1

theorem zGood {y : MethodName} {b : ByteArray} {mL : Nat} {rt : Option FieldType} (h : Cond.code y b mL rt ∈ TB) : GoodIn TB (Cond.code y b mL rt :: TB) := fun w hw => by
  have hw2 : w ∈ TB := by
    rcases List.mem_cons.mp hw with h1 | h1
    · rw [h1]; exact h
    · exact h1
  exact ⟨hw2, good_of_word (TB_good hw2)⟩
theorem zPar {y : MethodName} {n : Nat} (h : (parseMethodDescriptor y.desc).map (fun d => d.parameters.length) = some n) : ∀ sig, parseMethodDescriptor y.desc = some sig → n = sig.parameters.length := fun sig hs => by
  rw [hs] at h
  exact (Option.some.inj h).symm
theorem zBlind {G : zG} {as : List Value} {sh : zH} {v : zV} {N : Nat} : FrameBlind (va_Pc as (fun U => zR G sh v N U.heap ∧ zK G U)) := fun a U g mk q => ⟨q.1, q.2.1, zK.same (u := U) (U := U.calling g mk a) rfl q.2.2⟩
theorem zS_after {A : Nat → Prop} {H0 H : Heap} {locs L : List Loc} {st t T : State} (h2 : va_S A H0 H locs) (e0 : st.heap = H) (hF : va_F A st t) (e1 : T.heap = t.heap) (hL : ∀ q ∈ L, A q.base) : va_S A H0 T.heap (locs ++ L) := by
  obtain ⟨z, k⟩ := hF
  rw [e0] at z k
  refine ⟨Nat.le_trans h2.1 (by rw [e1]; exact z), fun q g1 g2 => ?_, fun q hq => ?_⟩
  · rw [e1, k q (Nat.lt_of_lt_of_le g1 h2.1) g2]
    exact h2.2.1 q g1 g2
  · rcases List.mem_append.mp hq with h | h
    · exact h2.2.2 q h
    · exact hL q h

theorem r_callVM (C : zC p s m args meth c own nm cc nL ret G) {y : MethodName} {b2 : ByteArray} {mL idx n dp mc ms : Nat} {rt : Option FieldType} {a ci NF : Nat} {pt : Nat → Nat} {qc : vw_C} {As : List Value} {stk : List Value} {Post : Option Value → zH → zV → Nat → Prop} (hM : zM l G y b2 mL rt dp mc ms (.ref a :: As) sh v N Post) (hy : zYV y b2 mL rt n) (hlink : Cond.methodLink own idx y ∈ TB) (hn : As.length = n) (hd : zdm G N a) (hsh : sh a = (ci, NF, pt)) (hci : ci < 8) (hc : zcl[ci]? = some qc) (hq : qc.1 = y.cls) (hstk : stk = As.reverse ++ .ref a :: st) (hcat : (st.map fun w => w.category).sum ≤ 8) (hR : dp + 1 ≤ R.frames ∧ 8 + (mL + 11) + 32 * dp ≤ R.locals) (hroom : cells + mc ≤ R.cells ∧ slots + ms ≤ R.slots) (hdg : decode cc pc = .ok (.invokevirtual idx, 3))
    (kk : ∀ (r : Option Value) (sh1 : zH) (v1 : zV) (N1 : Nat), Post r sh1 v1 N1 → VV p l e R s m args below meth c (cells + mc) (slots + ms) Q G nL sh1 v1 N1 (pc + 3) lv (r.toList ++ st)) : VV p l e R s m args below meth c cells slots Q G nL sh v N pc lv stk := by
  subst hstk
  intro H locs ls h1 h2 h3
  have hts := C.2.2.2.2.1
  have hrec : ∃ cellB : Cell, H[a]? = some cellB ∧ cellB.vm.isStatics = false ∧ s.vm.findClass y.cls = some cellB.cls := by
    obtain ⟨cell, q1, q2, q3, -⟩ := (h1.2.2.2 a hd).obj hsh hci
    obtain ⟨-, hfc, -⟩ := C.k.1 ci _ hc
    exact ⟨cell, q1, by rw [q3]; rfl, by rw [q2, ← hq]; exact hfc⟩
  have run := va_runV (meth := meth) (below := below) (e := e) (cells := cells) (slots := slots) (locs := locs) (g := F0 m pc ls (As.reverse ++ .ref a :: st)) (rest := st) ⟨C.1, C.2.1, C.2.2.1, C.2.2.2.1, hts⟩ hM (⟨callB_of (ws' := TB) n hts (zGood hy.1) rfl rfl rfl (hts _ hy.2.1) (hts _ hlink) hy.2.2.2.2 hR, hts _ hy.2.2.1, hts _ hy.2.2.2.1⟩) ⟨zBlind, hrec, fun U hU hW => ⟨rfl, by rw [hU]; exact h1, zK.moved hW C.2.2.2.2.2.2.2.2⟩⟩ rfl hn h3.1 rfl (by simpa [JFrame.monitorRoom] using hcat) hdg hroom
  intro T hT X
  obtain ⟨v0, st0, t, T1, L, e0, X1, hL, e1, e2, ⟨⟨r, sh1, v1, N1, ho, hp, hz⟩, hF⟩, go⟩ := run T hT X
  cases ho
  obtain ⟨t2, a1, b1⟩ := kk v0 sh1 v1 N1 hp T1.heap (locs ++ L) ls (by rw [e1]; exact hz) (zS_after h2 e0 hF e1 hL) h3 T1 rfl X1
  exact ⟨t2, go t2 a1, b1⟩
theorem r_callV (C : zC p s m args meth c own nm cc nL ret G) {y : MethodName} {b2 : ByteArray} {mL idx n dp : Nat} {rt : Option FieldType} {a ci NF : Nat} {pt : Nat → Nat} {qc : vw_C} {As : List Value} {stk : List Value} {Post : Option Value → zV → Prop} (hM : zm l G y b2 mL rt dp (.ref a :: As) sh v N Post) (hy : zYV y b2 mL rt n) (hlink : Cond.methodLink own idx y ∈ TB) (hn : As.length = n) (hd : zdm G N a) (hsh : sh a = (ci, NF, pt)) (hci : ci < 8) (hc : zcl[ci]? = some qc) (hq : qc.1 = y.cls) (hstk : stk = As.reverse ++ .ref a :: st) (hcat : (st.map fun w => w.category).sum ≤ 8) (hR : dp + 1 ≤ R.frames ∧ 8 + (mL + 11) + 32 * dp ≤ R.locals) (hroom : cells ≤ R.cells ∧ slots ≤ R.slots) (hdg : decode cc pc = .ok (.invokevirtual idx, 3))
    (kk : ∀ (r : Option Value) (v1 : zV), Post r v1 → VV p l e R s m args below meth c cells slots Q G nL sh v1 N (pc + 3) lv (r.toList ++ st)) : VV p l e R s m args below meth c cells slots Q G nL sh v N pc lv stk :=
  r_callVM C hM hy hlink hn hd hsh hci hc hq hstk hcat hR hroom hdg (fun r sh1 v1 N1 hp => by obtain ⟨rfl, rfl, hp⟩ := hp; exact kk r v1 hp)

theorem r_callSM (C : zC p s m args meth c own nm cc nL ret G) {y : MethodName} {b2 : ByteArray} {mL idx n dp mc ms : Nat} {rt : Option FieldType} {As : List Value} {stk : List Value} {Post : Option Value → zH → zV → Nat → Prop} (hM : zM l G y b2 mL rt dp mc ms As sh v N Post) (hy : zYS y b2 mL rt n) (hlink : Cond.methodLink own idx y ∈ TB) (hn : As.length = n) (hstk : stk = As.reverse ++ st) (hcat : (st.map fun w => w.category).sum ≤ 8) (hR : dp + 1 ≤ R.frames ∧ 8 + (mL + 11) + 32 * dp ≤ R.locals) (hroom : cells + mc ≤ R.cells ∧ slots + ms ≤ R.slots) (hdg : decode cc pc = .ok (.invokestatic idx, 3))
    (kk : ∀ (r : Option Value) (sh1 : zH) (v1 : zV) (N1 : Nat), Post r sh1 v1 N1 → VV p l e R s m args below meth c (cells + mc) (slots + ms) Q G nL sh1 v1 N1 (pc + 3) lv (r.toList ++ st)) : VV p l e R s m args below meth c cells slots Q G nL sh v N pc lv stk := by
  subst hstk
  intro H locs ls h1 h2 h3
  have hts := C.2.2.2.2.1
  have run := va_runS (meth := meth) (below := below) (e := e) (cells := cells) (slots := slots) (locs := locs) (g := F0 m pc ls (As.reverse ++ st)) (rest := st) ⟨C.1, C.2.1, C.2.2.1, C.2.2.2.1, hts⟩ hM (⟨callB_of (ws' := TB) n hts (zGood hy.1) rfl rfl rfl (hts _ hy.2.1) (hts _ hlink) hy.2.2.2 hR, hts _ hy.2.2.1⟩) ⟨zBlind, fun U hU hW => ⟨rfl, by rw [hU]; exact h1, zK.moved hW C.2.2.2.2.2.2.2.2⟩⟩ rfl hn h3.1 rfl (by simpa [JFrame.monitorRoom] using hcat) hdg hroom
  intro T hT X
  obtain ⟨v0, st0, t, T1, L, e0, X1, hL, e1, e2, ⟨⟨r, sh1, v1, N1, ho, hp, hz⟩, hF⟩, go⟩ := run T hT X
  cases ho
  obtain ⟨t2, a1, b1⟩ := kk v0 sh1 v1 N1 hp T1.heap (locs ++ L) ls (by rw [e1]; exact hz) (zS_after h2 e0 hF e1 hL) h3 T1 rfl X1
  exact ⟨t2, go t2 a1, b1⟩
theorem r_callS (C : zC p s m args meth c own nm cc nL ret G) {y : MethodName} {b2 : ByteArray} {mL idx n dp : Nat} {rt : Option FieldType} {As : List Value} {stk : List Value} {Post : Option Value → zV → Prop} (hM : zm l G y b2 mL rt dp As sh v N Post) (hy : zYS y b2 mL rt n) (hlink : Cond.methodLink own idx y ∈ TB) (hn : As.length = n) (hstk : stk = As.reverse ++ st) (hcat : (st.map fun w => w.category).sum ≤ 8) (hR : dp + 1 ≤ R.frames ∧ 8 + (mL + 11) + 32 * dp ≤ R.locals) (hroom : cells ≤ R.cells ∧ slots ≤ R.slots) (hdg : decode cc pc = .ok (.invokestatic idx, 3))
    (kk : ∀ (r : Option Value) (v1 : zV), Post r v1 → VV p l e R s m args below meth c cells slots Q G nL sh v1 N (pc + 3) lv (r.toList ++ st)) : VV p l e R s m args below meth c cells slots Q G nL sh v N pc lv stk :=
  r_callSM C hM hy hlink hn hstk hcat hR hroom hdg (fun r sh1 v1 N1 hp => by obtain ⟨rfl, rfl, hp⟩ := hp; exact kk r v1 hp)

theorem r_callIM (C : zC p s m args meth c own nm cc nL ret G) {y : MethodName} {b2 : ByteArray} {mL idx n dp mc ms : Nat} {a : Nat} {As : List Value} {stk : List Value} {Post : Option Value → zH → zV → Nat → Prop} (hM : zM l G y b2 mL none dp mc ms (.ref a :: As) sh v N Post) (hy : zYI y b2 mL n) (hlink : Cond.methodLink own idx y ∈ TB) (hn : As.length = n) (hstk : stk = As.reverse ++ .ref a :: st) (hcat : (st.map fun w => w.category).sum ≤ 8) (hR : dp + 1 ≤ R.frames ∧ 8 + (mL + 11) + 32 * dp ≤ R.locals) (hroom : cells + mc ≤ R.cells ∧ slots + ms ≤ R.slots) (hdg : decode cc pc = .ok (.invokespecial idx, 3))
    (kk : ∀ (r : Option Value) (sh1 : zH) (v1 : zV) (N1 : Nat), Post r sh1 v1 N1 → VV p l e R s m args below meth c (cells + mc) (slots + ms) Q G nL sh1 v1 N1 (pc + 3) lv (r.toList ++ st)) : VV p l e R s m args below meth c cells slots Q G nL sh v N pc lv stk := by
  subst hstk
  intro H locs ls h1 h2 h3
  have hts := C.2.2.2.2.1
  have run := va_runI (meth := meth) (below := below) (e := e) (cells := cells) (slots := slots) (locs := locs) (g := F0 m pc ls (As.reverse ++ .ref a :: st)) (rest := st) ⟨C.1, C.2.1, C.2.2.1, C.2.2.2.1, hts⟩ hM (⟨callB_of (ws' := TB) n hts (zGood hy.1) rfl rfl rfl (hts _ hy.2.1) (hts _ hlink) hy.2.2.2.2 hR, hy.2.2.2.1, hts _ hy.2.2.1⟩) ⟨zBlind, fun U hU hW => ⟨rfl, by rw [hU]; exact h1, zK.moved hW C.2.2.2.2.2.2.2.2⟩⟩ rfl hn h3.1 rfl (by simpa [JFrame.monitorRoom] using hcat) hdg hroom
  intro T hT X
  obtain ⟨v0, st0, t, T1, L, e0, X1, hL, e1, e2, ⟨⟨r, sh1, v1, N1, ho, hp, hz⟩, hF⟩, go⟩ := run T hT X
  cases ho
  obtain ⟨t2, a1, b1⟩ := kk v0 sh1 v1 N1 hp T1.heap (locs ++ L) ls (by rw [e1]; exact hz) (zS_after h2 e0 hF e1 hL) h3 T1 rfl X1
  exact ⟨t2, go t2 a1, b1⟩
theorem r_callI (C : zC p s m args meth c own nm cc nL ret G) {y : MethodName} {b2 : ByteArray} {mL idx n dp : Nat} {a : Nat} {As : List Value} {stk : List Value} {Post : Option Value → zV → Prop} (hM : zm l G y b2 mL none dp (.ref a :: As) sh v N Post) (hy : zYI y b2 mL n) (hlink : Cond.methodLink own idx y ∈ TB) (hn : As.length = n) (hstk : stk = As.reverse ++ .ref a :: st) (hcat : (st.map fun w => w.category).sum ≤ 8) (hR : dp + 1 ≤ R.frames ∧ 8 + (mL + 11) + 32 * dp ≤ R.locals) (hroom : cells ≤ R.cells ∧ slots ≤ R.slots) (hdg : decode cc pc = .ok (.invokespecial idx, 3))
    (kk : ∀ (r : Option Value) (v1 : zV), Post r v1 → VV p l e R s m args below meth c cells slots Q G nL sh v1 N (pc + 3) lv (r.toList ++ st)) : VV p l e R s m args below meth c cells slots Q G nL sh v N pc lv stk :=
  r_callIM C hM hy hlink hn hstk hcat hR hroom hdg (fun r sh1 v1 N1 hp => by obtain ⟨rfl, rfl, hp⟩ := hp; exact kk r v1 hp)

theorem r_callVNM (C : zC p s m args meth c own nm cc nL ret G) {y : MethodName} {b2 : ByteArray} {mL idx n dp mc ms : Nat} {rt : Option FieldType} {host : String} {a ci NF : Nat} {pt : Nat → Nat} {qc : vw_C} {As : List Value} {stk : List Value} {Post : Option Value → zH → zV → Nat → Prop} (hM : zM l G y b2 mL rt dp mc ms (.ref a :: As) sh v N Post) (hy : zYV y b2 mL rt n) (hlink : Cond.methodLinkNest own idx y host ∈ NB) (hn : As.length = n) (hd : zdm G N a) (hsh : sh a = (ci, NF, pt)) (hci : ci < 8) (hc : zcl[ci]? = some qc) (hq : qc.1 = y.cls) (hstk : stk = As.reverse ++ .ref a :: st) (hcat : (st.map fun w => w.category).sum ≤ 8) (hR : dp + 1 ≤ R.frames ∧ 8 + (mL + 11) + 32 * dp ≤ R.locals) (hroom : cells + mc ≤ R.cells ∧ slots + ms ≤ R.slots) (hdg : decode cc pc = .ok (.invokevirtual idx, 3))
    (kk : ∀ (r : Option Value) (sh1 : zH) (v1 : zV) (N1 : Nat), Post r sh1 v1 N1 → VV p l e R s m args below meth c (cells + mc) (slots + ms) Q G nL sh1 v1 N1 (pc + 3) lv (r.toList ++ st)) : VV p l e R s m args below meth c cells slots Q G nL sh v N pc lv stk := by
  subst hstk
  intro H locs ls h1 h2 h3
  have hts := C.2.2.2.2.1
  have hrec : ∃ cellB : Cell, H[a]? = some cellB ∧ cellB.vm.isStatics = false ∧ s.vm.findClass y.cls = some cellB.cls := by
    obtain ⟨cell, q1, q2, q3, -⟩ := (h1.2.2.2 a hd).obj hsh hci
    obtain ⟨-, hfc, -⟩ := C.k.1 ci _ hc
    exact ⟨cell, q1, by rw [q3]; rfl, by rw [q2, ← hq]; exact hfc⟩
  have run := va_runVN (meth := meth) (below := below) (e := e) (cells := cells) (slots := slots) (locs := locs) (g := F0 m pc ls (As.reverse ++ .ref a :: st)) (rest := st) ⟨C.1, C.2.1, C.2.2.1, C.2.2.2.1, hts⟩ hM (⟨⟨⟨rfl, rfl, hR.1, hR.2, pay_in hts (zGood hy.1), List.mem_cons_self⟩, hts _ hy.1, hts _ hy.2.1, ⟨hy.2.2.2.2.1, hy.2.2.2.2.2.1⟩, zPar hy.2.2.2.2.2.2, C.n hlink⟩, hts _ hy.2.2.1, hts _ hy.2.2.2.1⟩) ⟨zBlind, hrec, fun U hU hW => ⟨rfl, by rw [hU]; exact h1, zK.moved hW C.2.2.2.2.2.2.2.2⟩⟩ rfl hn h3.1 rfl (by simpa [JFrame.monitorRoom] using hcat) hdg hroom
  intro T hT X
  obtain ⟨v0, st0, t, T1, L, e0, X1, hL, e1, e2, ⟨⟨r, sh1, v1, N1, ho, hp, hz⟩, hF⟩, go⟩ := run T hT X
  cases ho
  obtain ⟨t2, a1, b1⟩ := kk v0 sh1 v1 N1 hp T1.heap (locs ++ L) ls (by rw [e1]; exact hz) (zS_after h2 e0 hF e1 hL) h3 T1 rfl X1
  exact ⟨t2, go t2 a1, b1⟩
theorem r_callVN (C : zC p s m args meth c own nm cc nL ret G) {y : MethodName} {b2 : ByteArray} {mL idx n dp : Nat} {rt : Option FieldType} {host : String} {a ci NF : Nat} {pt : Nat → Nat} {qc : vw_C} {As : List Value} {stk : List Value} {Post : Option Value → zV → Prop} (hM : zm l G y b2 mL rt dp (.ref a :: As) sh v N Post) (hy : zYV y b2 mL rt n) (hlink : Cond.methodLinkNest own idx y host ∈ NB) (hn : As.length = n) (hd : zdm G N a) (hsh : sh a = (ci, NF, pt)) (hci : ci < 8) (hc : zcl[ci]? = some qc) (hq : qc.1 = y.cls) (hstk : stk = As.reverse ++ .ref a :: st) (hcat : (st.map fun w => w.category).sum ≤ 8) (hR : dp + 1 ≤ R.frames ∧ 8 + (mL + 11) + 32 * dp ≤ R.locals) (hroom : cells ≤ R.cells ∧ slots ≤ R.slots) (hdg : decode cc pc = .ok (.invokevirtual idx, 3))
    (kk : ∀ (r : Option Value) (v1 : zV), Post r v1 → VV p l e R s m args below meth c cells slots Q G nL sh v1 N (pc + 3) lv (r.toList ++ st)) : VV p l e R s m args below meth c cells slots Q G nL sh v N pc lv stk :=
  r_callVNM C hM hy hlink hn hd hsh hci hc hq hstk hcat hR hroom hdg (fun r sh1 v1 N1 hp => by obtain ⟨rfl, rfl, hp⟩ := hp; exact kk r v1 hp)

theorem r_callSNM (C : zC p s m args meth c own nm cc nL ret G) {y : MethodName} {b2 : ByteArray} {mL idx n dp mc ms : Nat} {rt : Option FieldType} {host : String} {As : List Value} {stk : List Value} {Post : Option Value → zH → zV → Nat → Prop} (hM : zM l G y b2 mL rt dp mc ms As sh v N Post) (hy : zYS y b2 mL rt n) (hlink : Cond.methodLinkNest own idx y host ∈ NB) (hn : As.length = n) (hstk : stk = As.reverse ++ st) (hcat : (st.map fun w => w.category).sum ≤ 8) (hR : dp + 1 ≤ R.frames ∧ 8 + (mL + 11) + 32 * dp ≤ R.locals) (hroom : cells + mc ≤ R.cells ∧ slots + ms ≤ R.slots) (hdg : decode cc pc = .ok (.invokestatic idx, 3))
    (kk : ∀ (r : Option Value) (sh1 : zH) (v1 : zV) (N1 : Nat), Post r sh1 v1 N1 → VV p l e R s m args below meth c (cells + mc) (slots + ms) Q G nL sh1 v1 N1 (pc + 3) lv (r.toList ++ st)) : VV p l e R s m args below meth c cells slots Q G nL sh v N pc lv stk := by
  subst hstk
  intro H locs ls h1 h2 h3
  have hts := C.2.2.2.2.1
  have run := va_runSN (meth := meth) (below := below) (e := e) (cells := cells) (slots := slots) (locs := locs) (g := F0 m pc ls (As.reverse ++ st)) (rest := st) ⟨C.1, C.2.1, C.2.2.1, C.2.2.2.1, hts⟩ hM (⟨⟨⟨rfl, rfl, hR.1, hR.2, pay_in hts (zGood hy.1), List.mem_cons_self⟩, hts _ hy.1, hts _ hy.2.1, ⟨hy.2.2.2.1, hy.2.2.2.2.1⟩, zPar hy.2.2.2.2.2, C.n hlink⟩, hts _ hy.2.2.1, trivial⟩) ⟨zBlind, fun U hU hW => ⟨rfl, by rw [hU]; exact h1, zK.moved hW C.2.2.2.2.2.2.2.2⟩⟩ rfl hn h3.1 rfl (by simpa [JFrame.monitorRoom] using hcat) hdg hroom
  intro T hT X
  obtain ⟨v0, st0, t, T1, L, e0, X1, hL, e1, e2, ⟨⟨r, sh1, v1, N1, ho, hp, hz⟩, hF⟩, go⟩ := run T hT X
  cases ho
  obtain ⟨t2, a1, b1⟩ := kk v0 sh1 v1 N1 hp T1.heap (locs ++ L) ls (by rw [e1]; exact hz) (zS_after h2 e0 hF e1 hL) h3 T1 rfl X1
  exact ⟨t2, go t2 a1, b1⟩
theorem r_callSN (C : zC p s m args meth c own nm cc nL ret G) {y : MethodName} {b2 : ByteArray} {mL idx n dp : Nat} {rt : Option FieldType} {host : String} {As : List Value} {stk : List Value} {Post : Option Value → zV → Prop} (hM : zm l G y b2 mL rt dp As sh v N Post) (hy : zYS y b2 mL rt n) (hlink : Cond.methodLinkNest own idx y host ∈ NB) (hn : As.length = n) (hstk : stk = As.reverse ++ st) (hcat : (st.map fun w => w.category).sum ≤ 8) (hR : dp + 1 ≤ R.frames ∧ 8 + (mL + 11) + 32 * dp ≤ R.locals) (hroom : cells ≤ R.cells ∧ slots ≤ R.slots) (hdg : decode cc pc = .ok (.invokestatic idx, 3))
    (kk : ∀ (r : Option Value) (v1 : zV), Post r v1 → VV p l e R s m args below meth c cells slots Q G nL sh v1 N (pc + 3) lv (r.toList ++ st)) : VV p l e R s m args below meth c cells slots Q G nL sh v N pc lv stk :=
  r_callSNM C hM hy hlink hn hstk hcat hR hroom hdg (fun r sh1 v1 N1 hp => by obtain ⟨rfl, rfl, hp⟩ := hp; exact kk r v1 hp)

theorem r_callINM (C : zC p s m args meth c own nm cc nL ret G) {y : MethodName} {b2 : ByteArray} {mL idx n dp mc ms : Nat} {host : String} {a : Nat} {As : List Value} {stk : List Value} {Post : Option Value → zH → zV → Nat → Prop} (hM : zM l G y b2 mL none dp mc ms (.ref a :: As) sh v N Post) (hy : zYI y b2 mL n) (hlink : Cond.methodLinkNest own idx y host ∈ NB) (hn : As.length = n) (hstk : stk = As.reverse ++ .ref a :: st) (hcat : (st.map fun w => w.category).sum ≤ 8) (hR : dp + 1 ≤ R.frames ∧ 8 + (mL + 11) + 32 * dp ≤ R.locals) (hroom : cells + mc ≤ R.cells ∧ slots + ms ≤ R.slots) (hdg : decode cc pc = .ok (.invokespecial idx, 3))
    (kk : ∀ (r : Option Value) (sh1 : zH) (v1 : zV) (N1 : Nat), Post r sh1 v1 N1 → VV p l e R s m args below meth c (cells + mc) (slots + ms) Q G nL sh1 v1 N1 (pc + 3) lv (r.toList ++ st)) : VV p l e R s m args below meth c cells slots Q G nL sh v N pc lv stk := by
  subst hstk
  intro H locs ls h1 h2 h3
  have hts := C.2.2.2.2.1
  have run := va_runIN (meth := meth) (below := below) (e := e) (cells := cells) (slots := slots) (locs := locs) (g := F0 m pc ls (As.reverse ++ .ref a :: st)) (rest := st) ⟨C.1, C.2.1, C.2.2.1, C.2.2.2.1, hts⟩ hM (⟨⟨⟨rfl, rfl, hR.1, hR.2, pay_in hts (zGood hy.1), List.mem_cons_self⟩, hts _ hy.1, hts _ hy.2.1, ⟨hy.2.2.2.2.1, hy.2.2.2.2.2.1⟩, zPar hy.2.2.2.2.2.2, C.n hlink⟩, hy.2.2.2.1, hts _ hy.2.2.1⟩) ⟨zBlind, fun U hU hW => ⟨rfl, by rw [hU]; exact h1, zK.moved hW C.2.2.2.2.2.2.2.2⟩⟩ rfl hn h3.1 rfl (by simpa [JFrame.monitorRoom] using hcat) hdg hroom
  intro T hT X
  obtain ⟨v0, st0, t, T1, L, e0, X1, hL, e1, e2, ⟨⟨r, sh1, v1, N1, ho, hp, hz⟩, hF⟩, go⟩ := run T hT X
  cases ho
  obtain ⟨t2, a1, b1⟩ := kk v0 sh1 v1 N1 hp T1.heap (locs ++ L) ls (by rw [e1]; exact hz) (zS_after h2 e0 hF e1 hL) h3 T1 rfl X1
  exact ⟨t2, go t2 a1, b1⟩
theorem r_callIN (C : zC p s m args meth c own nm cc nL ret G) {y : MethodName} {b2 : ByteArray} {mL idx n dp : Nat} {host : String} {a : Nat} {As : List Value} {stk : List Value} {Post : Option Value → zV → Prop} (hM : zm l G y b2 mL none dp (.ref a :: As) sh v N Post) (hy : zYI y b2 mL n) (hlink : Cond.methodLinkNest own idx y host ∈ NB) (hn : As.length = n) (hstk : stk = As.reverse ++ .ref a :: st) (hcat : (st.map fun w => w.category).sum ≤ 8) (hR : dp + 1 ≤ R.frames ∧ 8 + (mL + 11) + 32 * dp ≤ R.locals) (hroom : cells ≤ R.cells ∧ slots ≤ R.slots) (hdg : decode cc pc = .ok (.invokespecial idx, 3))
    (kk : ∀ (r : Option Value) (v1 : zV), Post r v1 → VV p l e R s m args below meth c cells slots Q G nL sh v1 N (pc + 3) lv (r.toList ++ st)) : VV p l e R s m args below meth c cells slots Q G nL sh v N pc lv stk :=
  r_callINM C hM hy hlink hn hstk hcat hR hroom hdg (fun r sh1 v1 N1 hp => by obtain ⟨rfl, rfl, hp⟩ := hp; exact kk r v1 hp)

theorem r_objInit (C : zC p s m args meth c own nm cc nL ret G) {a idx : Nat} (hlink : Cond.methodLink own idx objectInit ∈ TB) (hinst : Cond.instanceMethod objectInit ∈ TB) (hcode : Cond.code objectInit ⟨#[0xb1]⟩ 1 none ∈ TB) (hcat : (st.map fun w => w.category).sum ≤ 8) (hR : 1 ≤ R.frames ∧ 32 ≤ R.locals) (hdg : decode cc pc = .ok (.invokespecial idx, 3)) (kk : VV p l e R s m args below meth c cells slots Q G nL sh v N (pc + 3) lv st) : VV p l e R s m args below meth c cells slots Q G nL sh v N pc lv (.ref a :: st) := fun H locs ls h1 h2 h3 =>
  W.objInit C.1 C.2.1 C.2.2.2.1 (C.2.2.2.2.1 _ hlink) (C.2.2.2.2.1 _ hinst) (C.2.2.2.2.1 _ hcode) rfl (h3.1.trans C.2.2.1.symm) rfl hdg hR.1 (by have : (F0 m pc ls (Value.ref a :: st)).monitorRoom = 0 := rfl
                                                                                                                                                 omega) (kk H locs ls h1 h2 h3)

end ZROWS
