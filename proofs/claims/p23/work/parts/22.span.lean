/-! the span's rows and the findings, as functions -/
def zSP (G : zG) (sh : zH) (N a : Nat) : Prop := G.2.2.1 ≤ a ∧ a + 1 < N ∧ sh a = (4, 2, pts [a + 1 + 2, 0]) ∧ sh (a + 1) = (8, 12, fun _ => 0)
def zsp (v : zV) (a : Nat) (r : Nat → Nat) (rk : Nat) : Prop := v a 1 = nI rk ∧ ∀ j, j < 12 → v (a + 1) j = nI (r j)
theorem zsp.kept {v v1 : zV} {a : Nat} {r : Nat → Nat} {rk : Nat} (h : zsp v a r rk) (h0 : v1 a = v a) (h1 : v1 (a + 1) = v (a + 1)) : zsp v1 a r rk := ⟨by rw [h0]; exact h.1, fun k hk => by rw [h1]; exact h.2 k hk⟩
def rdp (r : Nat → Nat) : Nat → Nat → Nat
  | 0, x => x
  | n + 1, x => rdp r n (if x.testBit (8 + n) then x ^^^ r n else x)
def tkp (r : Nat → Nat) : Nat → Nat → Option (Nat × Nat)
  | 0, _ => none
  | n + 1, x => if x.testBit (8 + n) then (if r n = 0 then some (n, x) else tkp r n (x ^^^ r n)) else tkp r n x
def ups (r : Nat → Nat) (t x : Nat) : Nat → Nat := fun j => if j = t then x else r j
def tkr (r : Nat → Nat) (q : Nat) : Nat → Nat := match tkp r 12 q with
  | some z => ups r z.1 z.2
  | none => r
def tkb (r : Nat → Nat) (q : Nat) : Bool := (tkp r 12 q).isSome
def tI (n : Nat) : Int32 := nI n + Int32.ofInt (-1)
theorem tI_s (n : Nat) : tI (n + 1) = nI n := nI_dec n
theorem tI_12 : nI 12 - nI 1 = tI 12 := by decide
theorem tI_0 : tI 0 < 0 := by decide
theorem z2_row {v : zV} {a : Nat} {r : Nat → Nat} {n t x : Nat} (h : ∀ j, j < n → v a j = nI (r j)) : ∀ j, j < n → z2 v a t (nI x) a j = nI (ups r t x j) := fun j hj => by
  by_cases hjt : j = t
  · subst hjt; rw [z2_self]; simp [ups]
  · rw [z2_ne (by omega), h j hj]; simp [ups, hjt]
def cntn (tm : Nat → Option Nat) : Nat → Nat
  | 0 => 0
  | n + 1 => cntn tm n + (if (tm n).isSome then 1 else 0)
abbrev cnt (tm : Nat → Option Nat) : Nat := cntn tm 12
theorem cntn_le (tm : Nat → Option Nat) : ∀ n, cntn tm n ≤ n
  | 0 => Nat.le_refl 0
  | n + 1 => by
    have := cntn_le tm n
    show cntn tm n + (if (tm n).isSome then 1 else 0) ≤ n + 1
    split <;> omega
def upo (tm : Nat → Option Nat) (b t : Nat) : Nat → Option Nat := fun j => if j = b then some t else tm j
theorem cntn_upo {tm : Nat → Option Nat} {b t : Nat} (h : (tm b).isSome = false) : ∀ n, cntn (upo tm b t) n = cntn tm n + (if b < n then 1 else 0)
  | 0 => rfl
  | n + 1 => by
    show cntn (upo tm b t) n + (if (upo tm b t n).isSome then 1 else 0) = cntn tm n + (if (tm n).isSome then 1 else 0) + _
    rw [cntn_upo h n]
    by_cases hb : n = b
    · subst hb
      simp [upo, h]
    · have h2 : upo tm b t n = tm n := by simp [upo, hb]
      rw [h2]
      have h3 : (if b < n + 1 then 1 else 0 : Nat) = if b < n then 1 else 0 := by
        by_cases hbn : b < n
        · rw [if_pos hbn, if_pos (show b < n + 1 by omega)]
        · rw [if_neg hbn, if_neg (show ¬ b < n + 1 by omega)]
      rw [h3, Nat.add_right_comm]
def tmI (o : Option Nat) : Int32 := match o with
  | none => -9
  | some t => nI t
def sgl (V : Nat → Nat) (tm : Nat → Option Nat) (b : Nat) : Nat := if (tm b).isSome then 2 ^ (8 + b) + V b else 0
def zFI (G : zG) (sh : zH) (N a : Nat) : Prop := G.2.2.1 ≤ a ∧ a + 2 < N ∧ sh a = (0, 3, pts [a + 1 + 2, a + 2 + 2, 0]) ∧ sh (a + 1) = (8, 12, fun _ => 0) ∧ sh (a + 2) = (8, 12, fun _ => 0)
def zfi (v : zV) (a : Nat) (V : Nat → Nat) (tm : Nat → Option Nat) : Prop := v a 2 = nI (cnt tm) ∧ (∀ b, b < 12 → v (a + 1) b = nI (sgl V tm b)) ∧ ∀ b, b < 12 → v (a + 2) b = tmI (tm b)
theorem zfi.kept {v v1 : zV} {a : Nat} {V : Nat → Nat} {tm : Nat → Option Nat} (h : zfi v a V tm) (h0 : v1 a = v a) (h1 : v1 (a + 1) = v (a + 1)) (h2 : v1 (a + 2) = v (a + 2)) : zfi v1 a V tm := ⟨by rw [h0]; exact h.1, fun k hk => by rw [h1]; exact h.2.1 k hk, fun k hk => by rw [h2]; exact h.2.2 k hk⟩
theorem p20 {b x : Nat} (hb : b < 12) (hx : x < 256) : 2 ^ (8 + b) + x < 2 ^ 20 := by
  have : 2 ^ (8 + b) ≤ 2 ^ 19 := Nat.pow_le_pow_right (by decide) (by omega)
  omega
theorem p20p {b x : Nat} : 0 < 2 ^ (8 + b) + x := by
  have := Nat.two_pow_pos (8 + b)
  omega
theorem sgl_lt {V : Nat → Nat} {tm : Nat → Option Nat} {b : Nat} (hb : b < 12) (hV : ∀ b, b < 12 → V b < 256) : sgl V tm b < 2 ^ 20 := by
  unfold sgl
  split
  · exact p20 hb (hV b hb)
  · decide
theorem sgl_0 {V : Nat → Nat} {tm : Nat → Option Nat} {b : Nat} : sgl V tm b = 0 ↔ (tm b).isSome = false := by
  unfold sgl
  have := @p20p b (V b)
  by_cases h : (tm b).isSome = true
  · rw [if_pos h, h]; simp
  · rw [if_neg h]; simpa using h
theorem sgl_mod {V : Nat → Nat} {tm : Nat → Option Nat} {b : Nat} (hb : b < 12) (hV : ∀ b, b < 12 → V b < 256) (h : (tm b).isSome = true) : sgl V tm b % 256 = V b := by
  unfold sgl
  have hv := hV b hb
  rw [if_pos h, Nat.pow_add, Nat.mul_comm, show (2 : Nat) ^ 8 = 256 from rfl, Nat.add_comm, Nat.add_mul_mod_self_right, Nat.mod_eq_of_lt hv]
theorem bit_one {b j x : Nat} (hb : b < 12) (hx : x < 256) : (2 ^ (8 + b) + x).testBit (8 + j) = decide (j = b) := by
  have h : 2 ^ (8 + b) + x = 2 ^ 8 * 2 ^ b + x := by rw [Nat.pow_add]
  rw [h, Nat.testBit_two_pow_mul_add _ (show x < 2 ^ 8 from hx), if_neg (by omega), show 8 + j - 8 = j by omega, Nat.testBit_two_pow]
  by_cases hjb : b = j <;> simp [hjb, eq_comm]
def tofn (V : Nat → Nat) (tm : Nat → Option Nat) (q : Nat) : Nat → Nat
  | 0 => q
  | n + 1 => if q.testBit (8 + n) then tofn V tm q n ^^^ sgl V tm n else tofn V tm q n
theorem tofn_lt {V : Nat → Nat} {tm : Nat → Option Nat} {q : Nat} (hq : q < 2 ^ 20) (hV : ∀ b, b < 12 → V b < 256) : ∀ n, n ≤ 12 → tofn V tm q n < 2 ^ 20
  | 0, _ => hq
  | n + 1, h => by
    have h1 := tofn_lt (V := V) (tm := tm) hq hV n (by omega)
    show (if _ then _ else _) < _
    split
    · exact xor20 h1 (sgl_lt (by omega) hV)
    · exact h1
set_option maxRecDepth 100000 in
set_option maxHeartbeats 4000000 in
theorem m_X4_reduce (l : Launch) (G : zG) (sh : zH) (v : zV) (N : Nat) {a : Nat} {r : Nat → Nat} {rk q : Nat} (hp : zSP G sh N a) (hv : zsp v a r rk) (hq : q < 2 ^ 20) (hr : ∀ j, j < 12 → r j < 2 ^ 20) : zm l G yX4_reduce cX4_reduce 5 (some .int) 0 [.ref a, .int (nI q)] sh v N (fun rr v1 => rr = some (.int (nI (rdp r 12 q))) ∧ v1 = v) := by
  refine zM.of (by decide) rfl (Nat.le_of_ble_eq_true rfl) ?_
  intro p e s m args below meth c C
  obtain ⟨hB, hN, hs0, hs1⟩ := id hp
  obtain ⟨h1, h2⟩ := id hv
  have hd0 : G.2.2.1 ≤ a ∧ a < N := ⟨hB, by omega⟩
  have hd1 : G.2.2.1 ≤ a + 1 ∧ a + 1 < N := ⟨by omega, hN⟩
  have loop : ∀ (n x : Nat), n ≤ 12 → x < 2 ^ 20 → rdp r n x = rdp r 12 q → VV p l e ({ frames := 0, cells := 0, slots := 0, locals := 32 * 0 }) s m args below meth c 0 0 (zQ below (fun rr sh1 v1 N1 => sh1 = sh ∧ N1 = N ∧ (rr = some (.int (nI (rdp r 12 q))) ∧ v1 = v)) G args s 0 0) G 5 sh v N 10 [some (.ref a), some (.int (nI q)), some (.int (nI x)), some (.int (tI n)), none] [] := by
    intro n
    induction n with
    | zero =>
      intro x hn hx0 hx
      refine r_iload_n C (pc := 10) rfl rfl dX4_reduce_10 ?_
      refine r_if_lt C (pc := 11) (tgt := 44) dX4_reduce_11 (by decide) (fun c_11 => ?_) (fun c_11 => by exfalso; exact c_11 tI_0)
      refine r_iload_n C (pc := 44) rfl rfl dX4_reduce_44 ?_
      exact r_iret C (pc := 45) rfl (rfl) dX4_reduce_45 ⟨rfl, rfl, by rw [← hx]; rfl, rfl⟩
    | succ n ih =>
      intro x hn hx0 hx
      rw [tI_s n]
      refine r_iload_n C (pc := 10) rfl rfl dX4_reduce_10 ?_
      refine n_if_lt C (pc := 11) (by omega) dX4_reduce_11 ?_
      refine r_iconst C (pc := 14) (x := (nI 1)) (by decide) dX4_reduce_14 ?_
      refine r_bipush C (pc := 15) (x := (nI 8)) (by decide) dX4_reduce_15 ?_
      refine r_iload_n C (pc := 17) rfl rfl dX4_reduce_17 ?_
      refine r_iadd C (pc := 18) (z := (nI (8 + n))) (nI_add _ _) dX4_reduce_18 ?_
      refine r_ishl C (pc := 19) (z := (nI (2 ^ (8 + n)))) (nI_shl1 (by omega)) dX4_reduce_19 ?_
      refine r_istore C (pc := 20) (lv2 := [some (.ref a), some (.int (nI q)), some (.int (nI x)), some (.int (nI n)), some (.int (nI (2 ^ (8 + n))))]) (Nat.le_of_ble_eq_true rfl) rfl rfl dX4_reduce_20 ?_
      refine r_iload_n C (pc := 22) rfl rfl dX4_reduce_22 ?_
      refine r_iload C (pc := 23) rfl dX4_reduce_23 ?_
      refine r_iand C (pc := 25) (z := (nI (x &&& 2 ^ (8 + n)))) (nx_and _ _) dX4_reduce_25 ?_
      refine n_if_eq C (pc := 26) (tgt := 38) (and_lt (by omega)) dX4_reduce_26 (by decide) (fun c_26 => ?_) (fun c_26 => ?_)
      · refine r_iinc C (pc := 38) (lv2 := [some (.ref a), some (.int (nI q)), some (.int (nI x)), some (.int (tI n)), some (.int (nI (2 ^ (8 + n))))]) (y := (tI n)) rfl (rfl) (Nat.le_of_ble_eq_true rfl) rfl rfl dX4_reduce_38 ?_
        refine r_goto C (pc := 41) (tgt := 10) dX4_reduce_41 (by decide) ?_
        refine VV.fg 4 (lv2 := [some (.ref a), some (.int (nI q)), some (.int (nI x)), some (.int (tI n)), none]) rfl ?_
        exact ih x (by omega) hx0 (by rw [← hx]; show _ = rdp r n (if _ then _ else _); rw [if_neg (by rw [tb_zero.mp c_26]; decide)])
      · refine r_iload_n C (pc := 29) rfl rfl dX4_reduce_29 ?_
        refine r_aload_n C (pc := 30) rfl rfl dX4_reduce_30 ?_
        refine r_get C (pc := 31) (ci := 4) (k := 0) (w := .ref (a + 1)) rfl (by decide) inX4 (by decide) q_135 (Or.inl hd0) hs0 (zl_ref _ _) dX4_reduce_31 ?_
        refine r_iload_n C (pc := 34) rfl rfl dX4_reduce_34 ?_
        refine r_iald C (pc := 35) (x := (nI (r n))) (Or.inl hd1) hs1 (by omega) (by omega) (h2 n (by omega)) dX4_reduce_35 ?_
        refine r_ixor C (pc := 36) (z := (nI (x ^^^ r n))) (nx_xor _ _) dX4_reduce_36 ?_
        refine r_istore_n C (pc := 37) (lv2 := [some (.ref a), some (.int (nI q)), some (.int (nI (x ^^^ r n))), some (.int (nI n)), some (.int (nI (2 ^ (8 + n))))]) rfl (Nat.le_of_ble_eq_true rfl) rfl rfl dX4_reduce_37 ?_
        refine r_iinc C (pc := 38) (lv2 := [some (.ref a), some (.int (nI q)), some (.int (nI (x ^^^ r n))), some (.int (tI n)), some (.int (nI (2 ^ (8 + n))))]) (y := (tI n)) rfl (rfl) (Nat.le_of_ble_eq_true rfl) rfl rfl dX4_reduce_38 ?_
        refine r_goto C (pc := 41) (tgt := 10) dX4_reduce_41 (by decide) ?_
        refine VV.fg 4 (lv2 := [some (.ref a), some (.int (nI q)), some (.int (nI (x ^^^ r n))), some (.int (tI n)), none]) rfl ?_
        exact ih (x ^^^ r n) (by omega) (xor20 hx0 (hr n (by omega))) (by rw [← hx]; show _ = rdp r n (if _ then _ else _); rw [if_pos (tb_pos.mp c_26)])
  refine r_iload_n C (pc := 0) rfl rfl dX4_reduce_0 ?_
  refine r_istore_n C (pc := 1) (lv2 := [some (.ref a), some (.int (nI q)), some (.int (nI q)), none, none]) rfl (Nat.le_of_ble_eq_true rfl) rfl rfl dX4_reduce_1 ?_
  refine r_aload_n C (pc := 2) rfl rfl dX4_reduce_2 ?_
  refine r_get C (pc := 3) (ci := 4) (k := 0) (w := .ref (a + 1)) rfl (by decide) inX4 (by decide) q_135 (Or.inl hd0) hs0 (zl_ref _ _) dX4_reduce_3 ?_
  refine r_alen C (pc := 6) (x := nI 12) (Or.inl hd1) hs1 (by decide) rfl rfl dX4_reduce_6 ?_
  refine r_iconst C (pc := 7) (x := (nI 1)) (by decide) dX4_reduce_7 ?_
  refine r_isub C (pc := 8) (z := (tI 12)) (tI_12) dX4_reduce_8 ?_
  refine r_istore_n C (pc := 9) (lv2 := [some (.ref a), some (.int (nI q)), some (.int (nI q)), some (.int (tI 12)), none]) rfl (Nat.le_of_ble_eq_true rfl) rfl rfl dX4_reduce_9 ?_
  exact loop 12 q (Nat.le_refl 12) hq rfl
set_option maxRecDepth 100000 in
set_option maxHeartbeats 4000000 in
theorem m_X4_take (l : Launch) (G : zG) (sh : zH) (v : zV) (N : Nat) {a : Nat} {r : Nat → Nat} {rk q : Nat} (hp : zSP G sh N a) (hv : zsp v a r rk) (hq : q < 2 ^ 20) (hr : ∀ j, j < 12 → r j < 2 ^ 20) : zm l G yX4_take cX4_take 5 (some .boolean) 0 [.ref a, .int (nI q)] sh v N (fun rr v1 => rr = some (.int (zb (tkb r q))) ∧ zsp v1 a (tkr r q) (rk + (if tkb r q then 1 else 0)) ∧ zfr v v1 a 2) := by
  refine zM.of (by decide) rfl (Nat.le_of_ble_eq_true rfl) ?_
  intro p e s m args below meth c C
  obtain ⟨hB, hN, hs0, hs1⟩ := id hp
  obtain ⟨h1, h2⟩ := id hv
  have hd0 : G.2.2.1 ≤ a ∧ a < N := ⟨hB, by omega⟩
  have hd1 : G.2.2.1 ≤ a + 1 ∧ a + 1 < N := ⟨by omega, hN⟩
  have loop : ∀ (n x : Nat), n ≤ 12 → x < 2 ^ 20 → tkp r n x = tkp r 12 q → VV p l e ({ frames := 0, cells := 0, slots := 0, locals := 32 * 0 }) s m args below meth c 0 0 (zQ below (fun rr sh1 v1 N1 => sh1 = sh ∧ N1 = N ∧ (rr = some (.int (zb (tkb r q))) ∧ zsp v1 a (tkr r q) (rk + (if tkb r q then 1 else 0)) ∧ zfr v v1 a 2)) G args s 0 0) G 5 sh v N 10 [some (.ref a), some (.int (nI q)), some (.int (nI x)), some (.int (tI n)), none] [] := by
    intro n
    induction n with
    | zero =>
      intro x hn hx0 hx
      refine r_iload_n C (pc := 10) rfl rfl dX4_take_10 ?_
      refine r_if_lt C (pc := 11) (tgt := 75) dX4_take_11 (by decide) (fun c_11 => ?_) (fun c_11 => by exfalso; exact c_11 tI_0)
      refine r_iconst C (pc := 75) (x := (nI 0)) (by decide) dX4_take_75 ?_
      exact r_iret C (pc := 76) rfl (rfl) dX4_take_76 ⟨rfl, rfl, by rw [show tkb r q = false by rw [tkb, ← hx]; rfl]; rfl, by rw [show tkb r q = false by rw [tkb, ← hx]; rfl, show tkr r q = r by rw [tkr, ← hx]; rfl]; exact hv, zfr.rf⟩
    | succ n ih =>
      intro x hn hx0 hx
      rw [tI_s n]
      refine r_iload_n C (pc := 10) rfl rfl dX4_take_10 ?_
      refine n_if_lt C (pc := 11) (by omega) dX4_take_11 ?_
      refine r_iconst C (pc := 14) (x := (nI 1)) (by decide) dX4_take_14 ?_
      refine r_bipush C (pc := 15) (x := (nI 8)) (by decide) dX4_take_15 ?_
      refine r_iload_n C (pc := 17) rfl rfl dX4_take_17 ?_
      refine r_iadd C (pc := 18) (z := (nI (8 + n))) (nI_add _ _) dX4_take_18 ?_
      refine r_ishl C (pc := 19) (z := (nI (2 ^ (8 + n)))) (nI_shl1 (by omega)) dX4_take_19 ?_
      refine r_istore C (pc := 20) (lv2 := [some (.ref a), some (.int (nI q)), some (.int (nI x)), some (.int (nI n)), some (.int (nI (2 ^ (8 + n))))]) (Nat.le_of_ble_eq_true rfl) rfl rfl dX4_take_20 ?_
      refine r_iload_n C (pc := 22) rfl rfl dX4_take_22 ?_
      refine r_iload C (pc := 23) rfl dX4_take_23 ?_
      refine r_iand C (pc := 25) (z := (nI (x &&& 2 ^ (8 + n)))) (nx_and _ _) dX4_take_25 ?_
      refine n_if_ne C (pc := 26) (tgt := 32) (and_lt (by omega)) dX4_take_26 (by decide) (fun c_26 => ?_) (fun c_26 => ?_)
      · refine r_aload_n C (pc := 32) rfl rfl dX4_take_32 ?_
        refine r_get C (pc := 33) (ci := 4) (k := 0) (w := .ref (a + 1)) rfl (by decide) inX4 (by decide) q_135 (Or.inl hd0) hs0 (zl_ref _ _) dX4_take_33 ?_
        refine r_iload_n C (pc := 36) rfl rfl dX4_take_36 ?_
        refine r_iald C (pc := 37) (x := (nI (r n))) (Or.inl hd1) hs1 (by omega) (by omega) (h2 n (by omega)) dX4_take_37 ?_
        refine n_if_ne C (pc := 38) (tgt := 60) (by have := hr n (by omega); omega) dX4_take_38 (by decide) (fun c_38 => ?_) (fun c_38 => ?_)
        · refine r_iload_n C (pc := 60) rfl rfl dX4_take_60 ?_
          refine r_aload_n C (pc := 61) rfl rfl dX4_take_61 ?_
          refine r_get C (pc := 62) (ci := 4) (k := 0) (w := .ref (a + 1)) rfl (by decide) inX4 (by decide) q_135 (Or.inl hd0) hs0 (zl_ref _ _) dX4_take_62 ?_
          refine r_iload_n C (pc := 65) rfl rfl dX4_take_65 ?_
          refine r_iald C (pc := 66) (x := (nI (r n))) (Or.inl hd1) hs1 (by omega) (by omega) (h2 n (by omega)) dX4_take_66 ?_
          refine r_ixor C (pc := 67) (z := (nI (x ^^^ r n))) (nx_xor _ _) dX4_take_67 ?_
          refine r_istore_n C (pc := 68) (lv2 := [some (.ref a), some (.int (nI q)), some (.int (nI (x ^^^ r n))), some (.int (nI n)), some (.int (nI (2 ^ (8 + n))))]) rfl (Nat.le_of_ble_eq_true rfl) rfl rfl dX4_take_68 ?_
          refine r_iinc C (pc := 69) (lv2 := [some (.ref a), some (.int (nI q)), some (.int (nI (x ^^^ r n))), some (.int (tI n)), some (.int (nI (2 ^ (8 + n))))]) (y := (tI n)) rfl (rfl) (Nat.le_of_ble_eq_true rfl) rfl rfl dX4_take_69 ?_
          refine r_goto C (pc := 72) (tgt := 10) dX4_take_72 (by decide) ?_
          refine VV.fg 4 (lv2 := [some (.ref a), some (.int (nI q)), some (.int (nI (x ^^^ r n))), some (.int (tI n)), none]) rfl ?_
          exact ih (x ^^^ r n) (by omega) (xor20 hx0 (hr n (by omega))) (by rw [← hx]; show _ = (if _ then (if _ then _ else _) else _); rw [if_pos (tb_pos.mp c_26), if_neg (by omega)])
        · have hsm : tkp r (n + 1) x = some (n, x) := by
            show (if _ then (if _ then _ else _) else _) = _
            rw [if_pos (tb_pos.mp c_26), if_pos c_38]
          refine r_aload_n C (pc := 41) rfl rfl dX4_take_41 ?_
          refine r_get C (pc := 42) (ci := 4) (k := 0) (w := .ref (a + 1)) rfl (by decide) inX4 (by decide) q_135 (Or.inl hd0) hs0 (zl_ref _ _) dX4_take_42 ?_
          refine r_iload_n C (pc := 45) rfl rfl dX4_take_45 ?_
          refine r_iload_n C (pc := 46) rfl rfl dX4_take_46 ?_
          refine r_iast C (pc := 47) hd1 hs1 (by omega) (by omega) dX4_take_47 ?_
          refine VV.gn (fun w47 ew47 => ?_)
          refine r_aload_n C (pc := 48) rfl rfl dX4_take_48 ?_
          refine r_dup C (pc := 49) rfl dX4_take_49 ?_
          refine r_get C (pc := 50) (ci := 4) (k := 1) (w := .int (nI rk)) rfl (by decide) inX4 (by decide) q_136 (Or.inl hd0) hs0 (zl_i (by rw [ew47, z2_addr (by omega)]; exact h1)) dX4_take_50 ?_
          refine r_iconst C (pc := 53) (x := (nI 1)) (by decide) dX4_take_53 ?_
          refine r_iadd C (pc := 54) (z := (nI (rk + 1))) (nI_add _ _) dX4_take_54 ?_
          refine r_put C (pc := 55) (ci := 4) (k := 1) rfl (by decide) inX4 tyX4_ok nmX4 (by decide) rfl pfI rfl q_136 hd0 hs0 dX4_take_55 ?_
          refine VV.gn (fun w55 ew55 => ?_)
          refine r_iconst C (pc := 58) (x := (nI 1)) (by decide) dX4_take_58 ?_
          exact r_iret C (pc := 59) rfl (rfl) dX4_take_59 ⟨rfl, rfl, by rw [show tkb r q = true by rw [tkb, ← hx, hsm]; rfl]; rfl, by rw [show tkb r q = true by rw [tkb, ← hx, hsm]; rfl, show tkr r q = ups r n x by rw [tkr, ← hx, hsm]]; exact ⟨by rw [ew55, z2_self]; rfl, by rw [ew55, z2_addr (by omega), ew47]; exact z2_row h2⟩, by rw [ew55, ew47]; exact (zfr.rf.z2 (by omega) (by omega)).z2 (by omega) (by omega)⟩
      · refine r_goto C (pc := 29) (tgt := 69) dX4_take_29 (by decide) ?_
        refine r_iinc C (pc := 69) (lv2 := [some (.ref a), some (.int (nI q)), some (.int (nI x)), some (.int (tI n)), some (.int (nI (2 ^ (8 + n))))]) (y := (tI n)) rfl (rfl) (Nat.le_of_ble_eq_true rfl) rfl rfl dX4_take_69 ?_
        refine r_goto C (pc := 72) (tgt := 10) dX4_take_72 (by decide) ?_
        refine VV.fg 4 (lv2 := [some (.ref a), some (.int (nI q)), some (.int (nI x)), some (.int (tI n)), none]) rfl ?_
        exact ih x (by omega) hx0 (by rw [← hx]; show _ = (if _ then _ else _); rw [if_neg (by rw [tb_zero.mp c_26]; decide)])
  refine r_iload_n C (pc := 0) rfl rfl dX4_take_0 ?_
  refine r_istore_n C (pc := 1) (lv2 := [some (.ref a), some (.int (nI q)), some (.int (nI q)), none, none]) rfl (Nat.le_of_ble_eq_true rfl) rfl rfl dX4_take_1 ?_
  refine r_aload_n C (pc := 2) rfl rfl dX4_take_2 ?_
  refine r_get C (pc := 3) (ci := 4) (k := 0) (w := .ref (a + 1)) rfl (by decide) inX4 (by decide) q_135 (Or.inl hd0) hs0 (zl_ref _ _) dX4_take_3 ?_
  refine r_alen C (pc := 6) (x := nI 12) (Or.inl hd1) hs1 (by decide) rfl rfl dX4_take_6 ?_
  refine r_iconst C (pc := 7) (x := (nI 1)) (by decide) dX4_take_7 ?_
  refine r_isub C (pc := 8) (z := (tI 12)) (tI_12) dX4_take_8 ?_
  refine r_istore_n C (pc := 9) (lv2 := [some (.ref a), some (.int (nI q)), some (.int (nI q)), some (.int (tI 12)), none]) rfl (Nat.le_of_ble_eq_true rfl) rfl rfl dX4_take_9 ?_
  exact loop 12 q (Nat.le_refl 12) hq rfl
set_option maxRecDepth 100000 in
set_option maxHeartbeats 4000000 in
theorem m_X4_clear (l : Launch) (G : zG) (sh : zH) (v : zV) (N : Nat) {a : Nat} (hp : zSP G sh N a) : zm l G yX4_clear cX4_clear 2 none 0 [.ref a] sh v N (fun rr v1 => rr = none ∧ zsp v1 a (fun _ => 0) 0 ∧ zfr v v1 a 2) := by
  refine zM.of (by decide) rfl (Nat.le_of_ble_eq_true rfl) ?_
  intro p e s m args below meth c C
  obtain ⟨hB, hN, hs0, hs1⟩ := id hp
  have hd0 : G.2.2.1 ≤ a ∧ a < N := ⟨hB, by omega⟩
  have hd1 : G.2.2.1 ≤ a + 1 ∧ a + 1 < N := ⟨by omega, hN⟩
  have loop : ∀ (n i : Nat) (v' : zV), 12 - i < n → i ≤ 12 → (∀ j, j < i → v' (a + 1) j = nI 0) → zfr v v' a 2 → VV p l e ({ frames := 0, cells := 0, slots := 0, locals := 32 * 0 }) s m args below meth c 0 0 (zQ below (fun rr sh1 v1 N1 => sh1 = sh ∧ N1 = N ∧ (rr = none ∧ zsp v1 a (fun _ => 0) 0 ∧ zfr v v1 a 2)) G args s 0 0) G 2 sh v' N 2 [some (.ref a), some (.int (nI i))] [] := by
    intro n
    induction n with
    | zero => intro i v' hm; omega
    | succ n ih =>
      intro i v' hm hi e1 e2
      refine r_iload_n C (pc := 2) rfl rfl dX4_clear_2 ?_
      refine r_aload_n C (pc := 3) rfl rfl dX4_clear_3 ?_
      refine r_get C (pc := 4) (ci := 4) (k := 0) (w := .ref (a + 1)) rfl (by decide) inX4 (by decide) q_135 (Or.inl hd0) hs0 (zl_ref _ _) dX4_clear_4 ?_
      refine r_alen C (pc := 7) (x := nI 12) (Or.inl hd1) hs1 (by decide) rfl rfl dX4_clear_7 ?_
      refine n_icmp_ge C (pc := 8) (tgt := 24) (by omega) (by omega) dX4_clear_8 (by decide) (fun c_8 => ?_) (fun c_8 => ?_)
      · refine r_aload_n C (pc := 24) rfl rfl dX4_clear_24 ?_
        refine r_iconst C (pc := 25) (x := (nI 0)) (by decide) dX4_clear_25 ?_
        refine r_put C (pc := 26) (ci := 4) (k := 1) rfl (by decide) inX4 tyX4_ok nmX4 (by decide) rfl pfI rfl q_136 hd0 hs0 dX4_clear_26 ?_
        refine VV.gn (fun w26 ew26 => ?_)
        exact r_vret C (pc := 29) rfl dX4_clear_29 ⟨rfl, rfl, rfl, ⟨by rw [ew26, z2_self], by rw [ew26, z2_addr (by omega)]; exact fun j hj => e1 j (by omega)⟩, by rw [ew26]; exact e2.z2 (by omega) (by omega)⟩
      · refine r_aload_n C (pc := 11) rfl rfl dX4_clear_11 ?_
        refine r_get C (pc := 12) (ci := 4) (k := 0) (w := .ref (a + 1)) rfl (by decide) inX4 (by decide) q_135 (Or.inl hd0) hs0 (zl_ref _ _) dX4_clear_12 ?_
        refine r_iload_n C (pc := 15) rfl rfl dX4_clear_15 ?_
        refine r_iconst C (pc := 16) (x := (nI 0)) (by decide) dX4_clear_16 ?_
        refine r_iast C (pc := 17) hd1 hs1 (by omega) (by omega) dX4_clear_17 ?_
        refine VV.gn (fun w17 ew17 => ?_)
        refine r_iinc C (pc := 18) (lv2 := [some (.ref a), some (.int (nI (i + 1)))]) (y := (nI (i + 1))) rfl (nI_inc _ _) (Nat.le_of_ble_eq_true rfl) rfl rfl dX4_clear_18 ?_
        refine r_goto C (pc := 21) (tgt := 2) dX4_clear_21 (by decide) ?_
        exact ih (i + 1) w17 (by omega) (by omega) (fun j hj => by
          rw [ew17]
          by_cases hji : j = i
          · subst hji; rw [z2_self]
          · rw [z2_ne (by omega)]; exact e1 j (by omega)) (by rw [ew17]; exact e2.z2 (by omega) (by omega))
  refine r_iconst C (pc := 0) (x := (nI 0)) (by decide) dX4_clear_0 ?_
  refine r_istore_n C (pc := 1) (lv2 := [some (.ref a), some (.int (nI 0))]) rfl (Nat.le_of_ble_eq_true rfl) rfl rfl dX4_clear_1 ?_
  exact loop 13 0 v (by omega) (by omega) (fun j hj => by omega) zfr.rf
set_option maxRecDepth 100000 in
set_option maxHeartbeats 4000000 in
theorem m_X4_copyFrom (l : Launch) (G : zG) (sh : zH) (v : zV) (N : Nat) {a o : Nat} {r2 : Nat → Nat} {rk2 : Nat} (hp : zSP G sh N a) (hpo : zSP G sh N o) (hvo : zsp v o r2 rk2) (hno : o + 2 ≤ a ∨ a + 2 ≤ o) : zm l G yX4_copyFrom cX4_copyFrom 2 none 2 [.ref a, .ref o] sh v N (fun rr v1 => rr = none ∧ zsp v1 a r2 rk2 ∧ zfr v v1 a 2) := by
  refine zM.of (by decide) rfl (Nat.le_of_ble_eq_true rfl) ?_
  intro p e s m args below meth c C
  obtain ⟨hB, hN, hs0, hs1⟩ := id hp
  have hd0 : G.2.2.1 ≤ a ∧ a < N := ⟨hB, by omega⟩
  have hd1 : G.2.2.1 ≤ a + 1 ∧ a + 1 < N := ⟨by omega, hN⟩
  obtain ⟨gB, gN, ho0, ho1⟩ := id hpo
  obtain ⟨g1, g2⟩ := id hvo
  have gd0 : G.2.2.1 ≤ o ∧ o < N := ⟨gB, by omega⟩
  have gd1 : G.2.2.1 ≤ o + 1 ∧ o + 1 < N := ⟨by omega, gN⟩
  refine r_aload_n C (pc := 0) rfl rfl dX4_copyFrom_0 ?_
  refine r_get C (pc := 1) (ci := 4) (k := 0) (w := .ref (o + 1)) rfl (by decide) inX4 (by decide) q_135 (Or.inl gd0) ho0 (zl_ref _ _) dX4_copyFrom_1 ?_
  refine r_aload_n C (pc := 4) rfl rfl dX4_copyFrom_4 ?_
  refine r_get C (pc := 5) (ci := 4) (k := 0) (w := .ref (a + 1)) rfl (by decide) inX4 (by decide) q_135 (Or.inl hd0) hs0 (zl_ref _ _) dX4_copyFrom_5 ?_
  refine r_callSN C (pc := 8) (st := []) (m_X6_copyRow l G sh v N (a0 := o + 1) (a := a + 1) (n := 12) (by omega) (by omega) (Or.inl gd1) ho1 hd1 hs1) kyX6_copyRow q_304 rfl rfl (Nat.le_of_ble_eq_true rfl) ⟨Nat.le_of_ble_eq_true rfl, Nat.le_of_ble_eq_true rfl⟩ ⟨Nat.le_of_ble_eq_true rfl, Nat.le_of_ble_eq_true rfl⟩ dX4_copyFrom_8 (fun r8 v8 hp8 => ?_)
  obtain ⟨rfl, hz8⟩ := hp8
  refine VV.eq (st2 := []) rfl ?_
  refine r_aload_n C (pc := 11) rfl rfl dX4_copyFrom_11 ?_
  refine r_aload_n C (pc := 12) rfl rfl dX4_copyFrom_12 ?_
  refine r_get C (pc := 13) (ci := 4) (k := 1) (w := .int (nI rk2)) rfl (by decide) inX4 (by decide) q_136 (Or.inl gd0) ho0 (zl_i (by rw [hz8, zcp_ne (by omega)]; exact g1)) dX4_copyFrom_13 ?_
  refine r_put C (pc := 16) (ci := 4) (k := 1) rfl (by decide) inX4 tyX4_ok nmX4 (by decide) rfl pfI rfl q_136 hd0 hs0 dX4_copyFrom_16 ?_
  refine VV.gn (fun w16 ew16 => ?_)
  exact r_vret C (pc := 19) rfl dX4_copyFrom_19 ⟨rfl, rfl, rfl, ⟨by rw [ew16, z2_self], fun k hk => by rw [ew16, z2_addr (by omega), hz8, zcp_at (by omega)]; exact g2 k hk⟩, fun b hb => by rw [ew16, z2_addr (by omega), hz8, zcp_ne (by omega)]⟩
