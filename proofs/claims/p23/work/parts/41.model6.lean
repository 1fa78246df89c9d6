theorem a0 {a : Int32} (h : a = 0) : a = nI 0 := h.trans nI_0.symm
theorem nI_m1 {K : Nat} (h : 1 ≤ K) : nI K - nI 1 = nI (K - 1) := pk_sub h
theorem zwf_v {f g : Nat → Int32} {M : zMS} {b x : Nat} (h : zwf f M) (hb : b < 12) (hn : ∀ b, M.2.2.2 b = none) (e : g (17 + b) = nI x) (k : ∀ j, j ≠ 17 + b → g j = f j) : zwf g (upc M.1 (17 + b) x, M.2) := by
  obtain ⟨h1, h2, h3, h4, h5⟩ := h
  refine ⟨fun j hj => ?_, fun r hr => (h2 r hr).kept (fun j h1 h2 => k j (by have := lb_top r hr; omega)), fun c hc => ?_, fun c hc => by rw [k _ (by omega)]; exact h4 c hc, fun c hc => by rw [k _ (by omega)]; exact h5 c hc⟩
  · show g j = nI (upc M.1 (17 + b) x j)
    by_cases hji : j = 17 + b
    · subst hji; rw [upc_s]; exact e
    · rw [upc_n hji, k j hji]; exact h1 j hj
  · show g (86 + c) = knI (M.2.2.2 c) _
    rw [k _ (by omega), h3 c hc, hn c]
    rfl
