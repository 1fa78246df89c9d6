def fT (v v1 : zV) (m : Nat) : Prop := (∀ b, b ≠ m → b ≠ m + 1 → b ≠ m + 4 → b ≠ m + 5 → b ≠ m + 6 → b ≠ m + 7 → v1 b = v b) ∧ v1 m 2 = v m 2 ∧ v1 m 4 = v m 4
theorem fT.rf {v : zV} {m : Nat} : fT v v m := ⟨fun _ _ _ _ _ _ _ => rfl, rfl, rfl⟩
theorem fT.tr {v v1 v2 : zV} {m : Nat} (h : fT v v1 m) (g : fT v1 v2 m) : fT v v2 m := ⟨fun b h1 h2 h3 h4 h5 h6 => (g.1 b h1 h2 h3 h4 h5 h6).trans (h.1 b h1 h2 h3 h4 h5 h6), g.2.1.trans h.2.1, g.2.2.trans h.2.2⟩
theorem fB.T {v v1 : zV} {m : Nat} (h : fB v v1 m) : fT v v1 m := ⟨fun b h1 h2 h3 h4 _ _ => h.1 b h1 h2 h3 h4, h.2.1, h.2.2⟩
theorem fT.zw {v v1 : zV} {m a k : Nat} {x : Int32} (h : fT v v1 m) (ha : a = m + 1 ∨ a = m + 6 ∨ a = m + 7) : fT v (z2 v1 a k x) m := ⟨fun b g1 g2 g3 g4 g5 g6 => by rw [z2_addr (by omega)]; exact h.1 b g1 g2 g3 g4 g5 g6, by rw [z2_addr (by omega)]; exact h.2.1, by rw [z2_addr (by omega)]; exact h.2.2⟩
