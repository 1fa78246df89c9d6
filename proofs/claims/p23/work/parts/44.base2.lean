section ZSHAPE
variable {p : Program} {l : Launch} {e : Env} {R : Room} {s : State} {m : MethodId} {args : Array Value} {below : List Frame} {meth : Method} {c : Code} {cells slots : Nat} {Q : State → Prop} {G : zG} {nL : Nat} {sh : zH} {v : zV} {N pc : Nat} {lv : List (Option Value)} {st : List Value} {own nm : String} {cc : ByteArray} {ret : Option FieldType}
def s2 (sh : zH) (a : Nat) (K : Nat × Nat × (Nat → Nat)) : zH := fun b => if b = a then K else sh b
def upn (pt : Nat → Nat) (j q : Nat) : Nat → Nat := fun i => if i = j then q else pt i
theorem s2_self (sh : zH) (a : Nat) (K : Nat × Nat × (Nat → Nat)) : s2 sh a K a = K := if_pos rfl
theorem s2_ne {sh : zH} {a b : Nat} {K : Nat × Nat × (Nat → Nat)} (h : b ≠ a) : s2 sh a K b = sh b := if_neg h
theorem s2_s2 (sh : zH) (a : Nat) (K L : Nat × Nat × (Nat → Nat)) : s2 (s2 sh a K) a L = s2 sh a L := by
  funext b
  unfold s2
  split <;> rfl
theorem s2_id {sh : zH} {a : Nat} {K : Nat × Nat × (Nat → Nat)} (h : sh a = K) : s2 sh a K = sh := by
  funext b
  unfold s2
  split
  · rename_i hb; rw [hb, h]
  · rfl
theorem VV.gs (k : ∀ w : zH, w = sh → VV p l e R s m args below meth c cells slots Q G nL w v N pc lv st) : VV p l e R s m args below meth c cells slots Q G nL sh v N pc lv st := k sh rfl
theorem VV.c0 (k : VV p l e R s m args below meth c cells slots Q G nL sh v N pc lv st) : VV p l e R s m args below meth c (cells + 0) (slots + 0) Q G nL sh v N pc lv st := k
theorem zR.shp {G : zG} {sh : zH} {v : zV} {N : Nat} {H H1 : Heap} (h : zR G sh v N H) {a : Nat} {K : Nat × Nat × (Nat → Nat)} (e : zok G a K (v a) H1) (z : H1.size = H.size) (oq : ∀ q : Nat, q ≠ a → H1[q]? = H[q]?) : zR G (s2 sh a K) v N H1 := by
  obtain ⟨h1, h2, h3, h4⟩ := h
  refine ⟨z.trans h1, h2, h3, fun b hb => ?_⟩
  by_cases hba : b = a
  · subst hba
    rw [s2_self]
    exact e
  · rw [s2_ne hba]
    exact (h4 b hb).kept (oq b hba)
theorem r_aast (C : zC p s m args meth c own nm cc nL ret G) {a t ci cj n j NF : Nat} {pt pt2 : Nat → Nat} {qc : vw_C} (hd : G.2.2.1 ≤ a ∧ a < N) (hsh : sh a = (ci, n, pt)) (hci : 8 ≤ ci) (hd2 : zdm G N t) (hsh2 : sh t = (cj, NF, pt2)) (hcj : cj < 8) (hc : zcl[cj]? = some qc) (ht : (zty G)[ci - 8]? = some (G.2.1 ci, .object qc.1)) (hj : j < n) (hn : j < 2 ^ 31) (hdg : decode cc pc = .ok (.aastore, 1)) (kk : VV p l e R s m args below meth c cells slots Q G nL (s2 sh a (ci, n, upn pt j (t + 2))) v N (pc + 1) lv st) : VV p l e R s m args below meth c cells slots Q G nL sh v N pc lv (.ref t :: .int (nI j) :: .ref a :: st) := fun H locs ls h1 h2 h3 => by
  have hz4 := zty_lt ht
  have hq := (h1.2.2.2 a (Or.inl hd)).arr hsh hci
  obtain ⟨cellV, g1, g2, g3, -⟩ := (h1.2.2.2 t hd2).obj hsh2 hcj
  have hcls := (C.k.1 cj qc hc).2
  obtain ⟨kA, comp, k1, k2, k3, -⟩ := (C.k.2 _ _ ht).2
  have hcomp : comp = G.1.1 cj := Option.some.inj (k3.symm.trans hcls.1)
  subst hcomp
  obtain ⟨kC, hkC, -⟩ := hcls.2
  refine W.aast C.1 C.2.1 hq (fun q h => by cases h) (fun h => by cases h) k1 k2 rfl hkC ⟨nI_pos hn, by rw [arrV_size, nI_clamp hn]; exact hj⟩ g1 (fun q h => by rw [g3] at h; cases h) (by rw [g2]; exact hkC) (by rw [g2]; exact va_assign hcls) rfl rfl hdg fun H1 e z oq => ?_
  refine kk H1 _ ls (h1.shp ?_ z oq) (h2.put z oq hd.1) h3
  refine ⟨fun h => absurd h (by show ¬ ci < 8; omega), fun _ => ?_⟩
  show H1[a]? = some (arrV (G.2.1 ci) n _)
  rw [e, nI_clamp hn, arrV_store]
  congr 2
  funext q
  by_cases hqj : q = j
  · subst hqj
    simp [updV, upn, zl]
  · simp [updV, upn, hqj]
end ZSHAPE
theorem zPL_sh {G : zG} {sh sh1 : zH} {N a cap : Nat} (h : zPL G sh N a cap) (k : ∀ b, a ≤ b → b < a + 2 → sh1 b = sh b) : zPL G sh1 N a cap := ⟨h.1, h.2.1, h.2.2.1, by rw [k _ (by omega) (by omega)]; exact h.2.2.2.1, by rw [k _ (by omega) (by omega)]; exact h.2.2.2.2⟩
theorem zSP_sh {G : zG} {sh sh1 : zH} {N a : Nat} (h : zSP G sh N a) (k : ∀ b, a ≤ b → b < a + 2 → sh1 b = sh b) : zSP G sh1 N a := ⟨h.1, h.2.1, by rw [k _ (by omega) (by omega)]; exact h.2.2.1, by rw [k _ (by omega) (by omega)]; exact h.2.2.2⟩
theorem zFI_sh {G : zG} {sh sh1 : zH} {N a : Nat} (h : zFI G sh N a) (k : ∀ b, a ≤ b → b < a + 3 → sh1 b = sh b) : zFI G sh1 N a := ⟨h.1, h.2.1, by rw [k _ (by omega) (by omega)]; exact h.2.2.1, by rw [k _ (by omega) (by omega)]; exact h.2.2.2.1, by rw [k _ (by omega) (by omega)]; exact h.2.2.2.2⟩
theorem zSE_sh {G : zG} {sh sh1 : zH} {N a : Nat} (h : zSE G sh N a) (k : ∀ b, a ≤ b → b < a + 4 → sh1 b = sh b) : zSE G sh1 N a := ⟨h.1, h.2.1, by rw [k _ (by omega) (by omega)]; exact h.2.2.1, by rw [k _ (by omega) (by omega)]; exact h.2.2.2.1, by rw [k _ (by omega) (by omega)]; exact h.2.2.2.2.1, by rw [k _ (by omega) (by omega)]; exact h.2.2.2.2.2⟩
theorem zRC_sh {G : zG} {sh sh1 : zH} {N q : Nat} (h : zRC G sh N q) (k : ∀ b, q ≤ b → b < q + 13 → sh1 b = sh b) : zRC G sh1 N q := ⟨h.1, h.2.1, by rw [k _ (by omega) (by omega)]; exact h.2.2.1, zPL_sh h.2.2.2.1 (fun b h1 h2 => k b (by omega) (by omega)), zSP_sh h.2.2.2.2.1 (fun b h1 h2 => k b (by omega) (by omega)), zFI_sh h.2.2.2.2.2.1 (fun b h1 h2 => k b (by omega) (by omega)), zPL_sh h.2.2.2.2.2.2.1 (fun b h1 h2 => k b (by omega) (by omega)), zFI_sh h.2.2.2.2.2.2.2 (fun b h1 h2 => k b (by omega) (by omega))⟩
theorem zTR_sh {G : zG} {sh sh1 : zH} {N t : Nat} (h : zTR G sh N t) (k : ∀ b, t ≤ b → b < t + 28 → sh1 b = sh b) : zTR G sh1 N t := by
  obtain ⟨h1, h2, h3, h4, h5, h6, h7, h8, h9⟩ := h
  exact ⟨h1, h2, by rw [k _ (by omega) (by omega)]; exact h3, zSE_sh h4 (fun b g1 g2 => k b (by omega) (by omega)), by rw [k _ (by omega) (by omega)]; exact h5, zRC_sh h6 (fun b g1 g2 => k b (by omega) (by omega)), by rw [k _ (by omega) (by omega)]; exact h7, zSP_sh h8 (fun b g1 g2 => k b (by omega) (by omega)), fun r hr => zPL_sh (h9 r hr) (fun b g1 g2 => k b (by omega) (by omega))⟩
/-- the class's own object -/
def pq (q : Nat → Nat) : Prop := (∀ i, i < 8 → q i < 8) ∧ ∀ i, i < 8 → ∀ j, j < 8 → q i = q j → i = j
def hpt (x : Nat) (q : Nat → Nat) : Nat → Nat := fun j => x + 60 + 28 * q j + 2
def zXR (G : zG) (sh : zH) (N x : Nat) (q : Nat → Nat) : Prop := G.2.2.1 ≤ x ∧ x + 339 < N ∧ sh x = (6, 6, pts [x + 1 + 2, x + 29 + 2, x + 57 + 2, x + 58 + 2, x + 59 + 2, 0]) ∧ sh (x + 57) = (11, 8, hpt x q) ∧ sh (x + 58) = (11, 2, pts [x + 284 + 2, x + 284 + 28 + 2]) ∧ sh (x + 59) = (9, 2, fun _ => 0) ∧ zTR G sh N (x + 1) ∧ zTR G sh N (x + 29) ∧ (∀ i, i < 8 → zTR G sh N (x + 60 + 28 * i)) ∧ (∀ i, i < 2 → zTR G sh N (x + 284 + 28 * i)) ∧ pq q
def zxh (v : zV) (x : Nat) (q : Nat → Nat) (h : zHs) : Prop := v x 5 = nI h.1 ∧ h.1 ≤ 8 ∧ (∀ i, i < h.1 → zt v (x + 60 + 28 * q i) (h.2.1 i)) ∧ (∀ i, i < 2 → v (x + 59) i = zb (h.2.2.2 i)) ∧ ∀ i, i < 2 → h.2.2.2 i = true → zt v (x + 284 + 28 * i) (h.2.2.1 i)
theorem zt_all {v v1 : zV} {t : Nat} {M : zMS} (h : zt v t M) (k : ∀ b, t ≤ b → b < t + 28 → v1 b = v b) : zt v1 t M := h.kept (fun b h1 h2 _ _ _ => k b h1 h2)
theorem zxh.kept {v v1 : zV} {x : Nat} {q : Nat → Nat} {h : zHs} (g : zxh v x q h) (hq : pq q) (e : v1 x 5 = v x 5) (e59 : v1 (x + 59) = v (x + 59)) (k : ∀ b, x + 60 ≤ b → b < x + 340 → v1 b = v b) : zxh v1 x q h := by
  obtain ⟨h1, h2, h3, h4, h5⟩ := g
  refine ⟨by rw [e]; exact h1, h2, fun i hi => zt_all (h3 i hi) (fun b g1 g2 => ?_), fun i hi => by rw [e59]; exact h4 i hi, fun i hi hf => zt_all (h5 i hi hf) (fun b g1 g2 => k b (by omega) (by omega))⟩
  have := hq.1 i (by omega)
  exact k b (by omega) (by omega)
/-- the oldest record goes behind the others -/
def rot (q : Nat → Nat) : Nat → Nat := fun j => if j < 7 then q (j + 1) else if j = 7 then q 0 else q j
theorem rot_pq {q : Nat → Nat} (h : pq q) : pq (rot q) := by
  refine ⟨fun i hi => ?_, fun i hi j hj e => ?_⟩
  · unfold rot
    split
    · exact h.1 _ (by omega)
    · split
      · exact h.1 0 (by decide)
      · exact h.1 i hi
  · have key : ∀ k, k < 8 → rot q k = q (if k < 7 then k + 1 else 0) := fun k hk => by
      unfold rot
      by_cases hk7 : k < 7
      · rw [if_pos hk7, if_pos hk7]
      · rw [if_neg hk7, if_neg hk7, if_pos (by omega)]
    rw [key i hi, key j hj] at e
    have e2 := h.2 _ (by split <;> omega) _ (by split <;> omega) e
    split at e2 <;> split at e2 <;> omega
theorem zXR_sh {G : zG} {sh sh1 : zH} {N x : Nat} {q q1 : Nat → Nat} (h : zXR G sh N x q) (hq : pq q1) (e : sh1 (x + 57) = (11, 8, hpt x q1)) (k : ∀ b, b ≠ x + 57 → sh1 b = sh b) : zXR G sh1 N x q1 := by
  obtain ⟨h1, h2, h3, h4, h5, h6, h7, h8, h9, h10, h11⟩ := h
  exact ⟨h1, h2, by rw [k _ (by omega)]; exact h3, e, by rw [k _ (by omega)]; exact h5, by rw [k _ (by omega)]; exact h6, zTR_sh h7 (fun b g1 g2 => k b (by omega)), zTR_sh h8 (fun b g1 g2 => k b (by omega)), fun i hi => zTR_sh (h9 i hi) (fun b g1 g2 => k b (by omega)), fun i hi => zTR_sh (h10 i hi) (fun b g1 g2 => k b (by omega)), hq⟩
