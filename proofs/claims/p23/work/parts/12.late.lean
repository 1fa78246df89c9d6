section ZLATE
variable {p : Program} {l : Launch} {e : Env} {R : Room} {s : State} {m : MethodId} {args : Array Value} {below : List Frame} {meth : Method} {c : Code} {cells slots : Nat} {Q : State → Prop} {G : zG} {nL : Nat} {sh : zH} {v : zV} {N pc : Nat} {lv : List (Option Value)} {st : List Value} {own nm : String} {cc : ByteArray} {ret : Option FieldType}
theorem VV.fg (k : Nat) {lv2 : List (Option Value)} (h : lv.set k none = lv2) (kk : VV p l e R s m args below meth c cells slots Q G nL sh v N pc lv2 st) : VV p l e R s m args below meth c cells slots Q G nL sh v N pc lv st := VV.weak (lv2 := lv2) (fun i w hi => by
  rw [← h, List.getElem?_set] at hi
  split at hi
  · split at hi <;> cases hi
  · exact hi) kk
def zcp (v : zV) (a0 a n : Nat) : zV := fun b j => if b = a ∧ j < n then v a0 j else v b j
theorem zcp_at {v : zV} {a0 a n j : Nat} (h : j < n) : zcp v a0 a n a j = v a0 j := by simp [zcp, h]
theorem zcp_ne {v : zV} {a0 a n b : Nat} (h : b ≠ a) : zcp v a0 a n b = v b := by funext j; simp [zcp, h]
theorem r_copy (C : zC p s m args meth c own nm cc nL ret G) {a0 a n idx : Nat} (hne : a0 ≠ a) (hlink : Cond.methodLink own idx arraycopyName ∈ TB) (hn : n < 2 ^ 20) (hd0 : zdm G N a0) (hs0 : sh a0 = (8, n, fun _ => 0)) (hd : G.2.2.1 ≤ a ∧ a < N) (hs : sh a = (8, n, fun _ => 0)) (hR : 1 ≤ R.frames ∧ (st.map fun w => w.category).sum + (nativeFrameWords "java/lang/System" "arraycopy" 5 + 11) ≤ R.locals) (hdg : decode cc pc = .ok (.invokestatic idx, 3)) (kk : VV p l e R s m args below meth c cells slots Q G nL sh (zcp v a0 a n) N (pc + 3) lv st) : VV p l e R s m args below meth c cells slots Q G nL sh v N pc lv (.int (nI n) :: .int (nI 0) :: .ref a :: .int (nI 0) :: .ref a0 :: st) := fun H locs ls h1 h2 h3 => by
  have hq0 := (h1.2.2.2 a0 hd0).arr hs0 (by decide)
  have hq1 := (h1.2.2.2 a (Or.inl hd)).arr hs (by decide)
  have hA := (C.k.2 0 _ rfl).1
  obtain ⟨-, k0, hk0, cm0, hkk0⟩ := hA n (fun j => .int (v a0 j))
  have hz : ¬ nI n < 0 := nI_pos (by omega)
  have hcl : (nI n).toNatClampNeg = n := nI_clamp (by omega)
  have hti : (nI n).toInt = (n : Int) := nI_toInt (by omega)
  intro T hT X
  obtain ⟨vm1, X1, step⟩ := X.arraycopy C.1 C.2.2.2.1 (C.2.2.2.2.1 _ hlink) (C.2.2.2.2.1 _ q_acn) (C.2.2.2.2.1 _ q_acs) (C.2.2.2.2.1 _ q_sys) (src := a0) (dst := a) (cs := arrV (G.2.1 8) n (fun j => .int (v a0 j))) (cd := arrV (G.2.1 8) n (fun j => .int (v a j))) (srcPos := nI 0) (destPos := nI 0) (n := nI n) (by rw [hT]; exact hq0) (by rw [hT]; exact hq1)
    (fun _ h => by cases h) (fun _ h => by cases h) (fun h => by cases h) (fun h => by cases h) hk0 hk0 hkk0 hkk0 (by simp [refKind]) (by decide) (by decide) hz
    (by rw [hti]; show ¬ (0 : Int) + _ > ((arrV _ n _).slots.size : Int); rw [arrV_size]; omega)
    (by rw [hti]; show ¬ (0 : Int) + _ > ((arrV _ n _).slots.size : Int); rw [arrV_size]; omega)
    (fun vm1 _ i hi => by
      have e : (arrV (G.2.1 8) n (fun j => .int (v a0 j))).slots.getD ((nI 0).toNatClampNeg + i) .null = .int (v a0 ((nI 0).toNatClampNeg + i)) := by
        rw [hcl] at hi
        rw [Array.getD_eq_getD_getElem?, arrV_read _ _ (by show 0 + i < n; omega)]
        rfl
      exact ⟨by rw [e]; rfl, by rw [e]; exact trivial⟩)
    (g := F0 m pc ls (.int (nI n) :: .int (nI 0) :: .ref a :: .int (nI 0) :: .ref a0 :: st)) rfl (h3.1.trans C.2.2.1.symm) (rest := st) rfl (by rw [C.2.1]; exact hdg) hR.1 (by show 2 * 0 + _ + _ ≤ _; omega)
  have e1 : copied (arrV (G.2.1 8) n (fun j => .int (v a0 j))) (arrV (G.2.1 8) n (fun j => .int (v a j))) (nI 0) (nI 0) (nI n) = vp_cell (G.2.1 8) (n, .inl (va_cpy (v a0) (v a) (nI 0).toNatClampNeg (nI 0).toNatClampNeg (nI n).toNatClampNeg)) := va_copied (fun z => .int z) (G.2.1 8) (G.2.1 8) (v a0) (v a) (by rw [hcl]; show 0 + n ≤ n; omega)
  rw [e1] at X1 step
  have hl : a < H.size := (Array.getElem?_eq_some_iff.mp hq1).1
  have hheap : ((T.setVm vm1).setCell a (vp_cell (G.2.1 8) (n, .inl (va_cpy (v a0) (v a) (nI 0).toNatClampNeg (nI 0).toNatClampNeg (nI n).toNatClampNeg)))).heap = H.setIfInBounds a (vp_cell (G.2.1 8) (n, .inl (va_cpy (v a0) (v a) (nI 0).toNatClampNeg (nI 0).toNatClampNeg (nI n).toNatClampNeg))) := by rw [← hT]; rfl
  have oq : ∀ q : Nat, q ≠ a → (H.setIfInBounds a (vp_cell (G.2.1 8) (n, .inl (va_cpy (v a0) (v a) (nI 0).toNatClampNeg (nI 0).toNatClampNeg (nI n).toNatClampNeg))))[q]? = H[q]? := fun q hq => by simp [Array.getElem?_setIfInBounds, Ne.symm hq]
  have hR2 : zR G sh (zcp v a0 a n) N (H.setIfInBounds a (vp_cell (G.2.1 8) (n, .inl (va_cpy (v a0) (v a) (nI 0).toNatClampNeg (nI 0).toNatClampNeg (nI n).toNatClampNeg)))) := by
    refine ⟨by simp; exact h1.1, h1.2.1, h1.2.2.1, fun b hb => ?_⟩
    by_cases hba : b = a
    · subst hba
      rw [hs]
      refine ⟨fun h => absurd h (Nat.lt_irrefl 8), fun _ => ?_⟩
      show _ = some (arrV (G.2.1 8) n _)
      rw [Array.getElem?_setIfInBounds_self_of_lt hl, vp_cell_i, hcl]
      congr 2
      funext j
      simp [zl, zcp, va_cpy, nI_0]
    · rw [zcp_ne hba]
      exact (h1.2.2.2 b hb).kept (oq b hba)
  obtain ⟨t, a1, b1⟩ := kk _ _ ls hR2 ⟨by simp; exact h2.1, fun q g1 g2 => by
      rw [oq q (fun e => g2 (by rw [e]; exact hd.1))]
      exact h2.2.1 q g1 g2, fun q hq => by
      rcases List.mem_append.mp hq with h | h
      · exact h2.2.2 q h
      · obtain ⟨z, -, hz⟩ := List.mem_map.mp h
        rw [← hz]
        exact hd.1⟩ h3 _ hheap X1
  exact ⟨t, step t a1, b1⟩
end ZLATE
