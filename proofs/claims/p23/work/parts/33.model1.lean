/-! what the check has laid -/
def zbs (v : zV) (m : Nat) (r : Nat → Nat) : Prop := (∀ j, j < 12 → v (m + 4) j = nI (r j / 256)) ∧ ∀ j, j < 12 → r j ≠ 0 → v (m + 5) j = nI (r j % 256)
def fR (v v1 : zV) (m : Nat) : Prop := (∀ b, b ≠ m → v1 b = v b) ∧ ∀ k, k ≠ 7 → k ≠ 8 → v1 m k = v m k
theorem fR.rf {v : zV} {m : Nat} : fR v v m := ⟨fun _ _ => rfl, fun _ _ _ => rfl⟩
theorem fR.z {v v1 : zV} {m k : Nat} {x : Int32} (h : fR v v1 m) (hk : k = 7 ∨ k = 8) : fR v (z2 v1 m k x) m := ⟨fun b hb => by rw [z2_addr hb]; exact h.1 b hb, fun j h7 h8 => by rw [z2_ne (by omega)]; exact h.2 j h7 h8⟩
theorem fR.B {v v1 : zV} {m : Nat} (h : fR v v1 m) : fB v v1 m := ⟨fun b h1 _ _ _ => h.1 b h1, h.2 2 (by decide) (by decide), h.2 4 (by decide) (by decide)⟩
theorem fR.tr {v v1 v2 : zV} {m : Nat} (h : fR v v1 m) (g : fR v1 v2 m) : fR v v2 m := ⟨fun b hb => (g.1 b hb).trans (h.1 b hb), fun k h7 h8 => (g.2 k h7 h8).trans (h.2 k h7 h8)⟩
theorem zbs.kept {v v1 : zV} {m : Nat} {r : Nat → Nat} (h : zbs v m r) (e4 : v1 (m + 4) = v (m + 4)) (e5 : v1 (m + 5) = v (m + 5)) : zbs v1 m r := ⟨fun j hj => by rw [e4]; exact h.1 j hj, fun j hj h0 => by rw [e5]; exact h.2 j hj h0⟩
theorem ech_nz {r : Nat → Nat} (h : ech r) {n : Nat} (hn : n < 12) : r n / 256 = 0 ↔ r n = 0 := by
  constructor
  · intro h0
    by_cases hr : r n = 0
    · exact hr
    · exact absurd h0 (dv_bit (h n hn hr).2)
  · intro h0; rw [h0]
theorem ds_tb (y n : Nat) : (y / 256).testBit n = y.testBit (8 + n) := dv_tb y n
theorem sh256 {s : Nat} : s * 256 / 256 = s ∧ s * 256 % 256 = 0 := ⟨Nat.mul_div_cancel s (by decide), Nat.mul_mod_left s 256⟩
theorem p256 (b : Nat) : 2 ^ b * 256 = 2 ^ (8 + b) := by rw [Nat.add_comm, Nat.pow_add]
theorem fpr_20 {l : List Nat} (h : ∀ q ∈ l, q < 2 ^ 20) (n : Nat) {x : Nat} (hx : x < 2 ^ 20) : rdp (fpr l n) 12 x < 2 ^ 20 := rdp_lt (fun j hj => ech_20 (eqv_spr h n).2.1 hj) 12 x (Nat.le_refl 12) hx
theorem nov_fpr {l : List Nat} (h : ∀ q ∈ l, q < 2 ^ 20) (p : Nat) : nov l p = decide (rdp (fpr l l.length) 12 (p / 256 * 256) / 256 ≠ 0) := by
  rw [rd_div, nov, spo, (eqv_spr h l.length).2.2.2 p]
theorem zbs_ups {v : zV} {m t x : Nat} {r : Nat → Nat} (h : zbs v m r) : zbs (z2 (z2 v (m + 4) t (nI (x / 256))) (m + 5) t (nI (x % 256))) m (ups r t x) := by
  refine ⟨fun j hj => ?_, fun j hj h0 => ?_⟩
  · rw [z2_addr (by omega)]
    by_cases hjt : j = t
    · subst hjt; rw [z2_self, ups_s]
    · rw [z2_ne (by omega), ups_n hjt]; exact h.1 j hj
  · by_cases hjt : j = t
    · subst hjt; rw [z2_self, ups_s]
    · rw [ups_n hjt] at h0 ⊢
      rw [z2_ne (by omega), z2_addr (by omega)]; exact h.2 j hj h0
