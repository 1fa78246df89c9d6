/-! the receiver -/
def vln (V : Nat → Nat) (s : Nat) : Nat → Nat
  | 0 => 0
  | n + 1 => if s.testBit n then vln V s n ^^^ V n else vln V s n
theorem xlc (a b c : Nat) : a ^^^ (b ^^^ c) = b ^^^ (a ^^^ c) := by rw [← Nat.xor_assoc, Nat.xor_comm a b, Nat.xor_assoc]
theorem xcc (a b : Nat) : a ^^^ (a ^^^ b) = b := by rw [← Nat.xor_assoc, Nat.xor_self, Nat.zero_xor]
theorem vln_xor (V : Nat → Nat) (s t : Nat) : ∀ n, vln V (s ^^^ t) n = vln V s n ^^^ vln V t n
  | 0 => by simp [vln]
  | n + 1 => by
    show (if _ then _ else _) = (if _ then _ else _) ^^^ (if _ then _ else _)
    rw [vln_xor V s t n, Nat.testBit_xor]
    cases hs : s.testBit n <;> cases ht : t.testBit n <;> simp [Nat.xor_assoc, Nat.xor_comm, xlc, xcc]
theorem vln_0 (V : Nat → Nat) : ∀ n, vln V 0 n = 0
  | 0 => rfl
  | n + 1 => by
    show (if _ then _ else _) = _
    rw [Nat.zero_testBit, vln_0 V n]; rfl
theorem vln_lt {V : Nat → Nat} {s : Nat} (hV : ∀ b, b < 12 → V b < 256) : ∀ n, n ≤ 12 → vln V s n < 256
  | 0, _ => by show 0 < 256; decide
  | n + 1, h => by
    have h1 := vln_lt (V := V) (s := s) hV n (by omega)
    show (if _ then _ else _) < _
    split
    · exact Nat.xor_lt_two_pow (n := 8) h1 (hV n (by omega))
    · exact h1
theorem vln_one {V : Nat → Nat} {b : Nat} : ∀ n, vln V (2 ^ b) n = if b < n then V b else 0
  | 0 => rfl
  | n + 1 => by
    show (if _ then _ else _) = _
    rw [vln_one n, Nat.testBit_two_pow]
    by_cases h : b = n
    · subst h; simp
    · by_cases h2 : b < n
      · rw [if_neg (by simpa using h), if_pos h2, if_pos (show b < n + 1 by omega)]
      · rw [if_neg (by simpa using h), if_neg h2, if_neg (show ¬ b < n + 1 by omega)]
theorem x_div (a b : Nat) : (a ^^^ b) / 256 = a / 256 ^^^ b / 256 := Nat.xor_div_two_pow (n := 8)
theorem x_mod (a b : Nat) : (a ^^^ b) % 256 = a % 256 ^^^ b % 256 := Nat.xor_mod_two_pow (n := 8)
def con (V : Nat → Nat) (p : Nat) : Prop := p < 2 ^ 20 ∧ p % 256 = vln V (p / 256) 12
theorem con_0 (V : Nat → Nat) : con V 0 := ⟨by decide, (vln_0 V 12).symm⟩
theorem con_xor {V : Nat → Nat} {p q : Nat} (hp : con V p) (hq : con V q) : con V (p ^^^ q) := ⟨xor20 hp.1 hq.1, by rw [x_mod, x_div, vln_xor, hp.2, hq.2]⟩
theorem pw_div {b x : Nat} (hx : x < 256) : (2 ^ (8 + b) + x) / 256 = 2 ^ b := by
  rw [Nat.pow_add, show (2 : Nat) ^ 8 = 256 from rfl, Nat.mul_add_div (by decide), Nat.div_eq_of_lt hx, Nat.add_zero]
theorem pw_mod {b x : Nat} (hx : x < 256) : (2 ^ (8 + b) + x) % 256 = x := by
  rw [Nat.pow_add, show (2 : Nat) ^ 8 = 256 from rfl, Nat.mul_add_mod, Nat.mod_eq_of_lt hx]
theorem con_one {V : Nat → Nat} {b : Nat} (hb : b < 12) (hV : ∀ b, b < 12 → V b < 256) : con V (2 ^ (8 + b) + V b) := ⟨p20 hb (hV b hb), by rw [pw_div (hV b hb), pw_mod (hV b hb), vln_one, if_pos hb]⟩
theorem pop_one0 : ∀ i, i < 64 → ∀ j, j < 64 → pop (64 * i + j) = 1 → ∃ b, b < 12 ∧ 64 * i + j = 2 ^ b := by decide +kernel
theorem pop_one {x : Nat} (h : x < 4096) (h1 : pop x = 1) : ∃ b, b < 12 ∧ x = 2 ^ b := by
  have := pop_one0 (x / 64) (by omega) (x % 64) (by omega)
  rw [Nat.div_add_mod] at this
  exact this h1
theorem log2_p : ∀ b, b < 12 → Nat.log2 (2 ^ b) = b := by decide +kernel
theorem con_single {V : Nat → Nat} {p : Nat} (h : con V p) (h1 : pop (p / 256) = 1) : Nat.log2 (p / 256) < 12 ∧ p = 2 ^ (8 + Nat.log2 (p / 256)) + V (Nat.log2 (p / 256)) := by
  obtain ⟨b, hb, e⟩ := pop_one (by have := h.1; omega) h1
  have hl := log2_p b hb
  rw [e, hl]
  refine ⟨hb, ?_⟩
  have h2 := h.2
  rw [e, vln_one, if_pos hb] at h2
  have h3 := Nat.div_add_mod p 256
  rw [e, h2] at h3
  rw [Nat.pow_add]
  exact h3.symm
def lrn (kt : Nat → Option Nat) (b t : Nat) : Nat → Option Nat := if (kt b).isSome then kt else upo kt b t
theorem con_tof {V : Nat → Nat} {tm : Nat → Option Nat} {q : Nat} (hq : con V q) (hV : ∀ b, b < 12 → V b < 256) : ∀ n, n ≤ 12 → con V (tofn V tm q n)
  | 0, _ => hq
  | n + 1, h => by
    have h1 := con_tof (tm := tm) hq hV n (by omega)
    show con V (if _ then _ else _)
    split
    · refine con_xor h1 ?_
      unfold sgl
      split
      · exact con_one (by omega) hV
      · exact con_0 V
    · exact h1
theorem con_tk1 {V : Nat → Nat} {s q : Nat} (hs : con V s) (hq : con V q) : con V (tk1 s q) := by
  unfold tk1
  split
  · exact hq
  · exact con_xor hq hs
theorem con_tko {V : Nat → Nat} {s : Nat} {ps : List Nat} (hs : con V s) (h : ∀ q ∈ ps, con V q) : ∀ q ∈ tko s ps, con V q := by
  intro q hq
  obtain ⟨h1, -⟩ := List.mem_filter.mp hq
  obtain ⟨x, hx, rfl⟩ := List.mem_map.mp h1
  exact con_tk1 hs (h x hx)
theorem con_gd {V : Nat → Nat} {ps : List Nat} {i : Nat} (h : ∀ q ∈ ps, con V q) : con V (ps.getD i 0) := by
  rcases Nat.lt_or_ge i ps.length with hi | hi
  · exact gd_mem h hi
  · rw [gd_ge hi]; exact con_0 V
theorem con_er {V : Nat → Nat} {ps : List Nat} {i : Nat} (h : ∀ q ∈ ps, con V q) : ∀ q ∈ ps.eraseIdx i, con V q := fun q hq => h q (List.mem_of_mem_eraseIdx hq)
theorem rfs_pop : ∀ (ps : List Nat), ps.getD (rfs ps) 0 / 256 ≠ 0 → pop (ps.getD (rfs ps) 0 / 256) = 1
  | [], h => by simp [rfs] at h
  | q :: t, h => by
    by_cases h0 : pop (q / 256) = 1
    · have : rfs (q :: t) = 0 := if_pos h0
      rw [this]; exact h0
    · have : rfs (q :: t) = rfs t + 1 := if_neg h0
      rw [this] at h ⊢
      exact rfs_pop t h
def pl1 (t : Nat) : Nat → Nat → (Nat → Option Nat) → List Nat → (Nat → Option Nat) × List Nat
  | 0, _, kt, wt => (kt, wt)
  | n + 1, x, kt, wt => if x / 256 = 0 then (kt, wt) else pl1 t n ((tko x wt).getD (rfs (tko x wt)) 0) (lrn kt (Nat.log2 (x / 256)) t) ((tko x wt).eraseIdx (rfs (tko x wt)))
def plM (V : Nat → Nat) (t p : Nat) (kt : Nat → Option Nat) (wt : List Nat) : (Nat → Option Nat) × List Nat := if 1 < pop (tofn V kt p 12 / 256) then (kt, wt.drop (wt.length - 19) ++ [tofn V kt p 12]) else pl1 t 12 (tofn V kt p 12) kt wt
def slv (r : Nat → Nat) (so : Nat → Option Nat) (t : Nat) : Nat → Nat → Option Nat
  | 0 => so
  | n + 1 => if rdp r 12 (2 ^ (8 + n)) / 256 = 0 then lrn (slv r so t n) n t else slv r so t n
theorem con_tkp {V : Nat → Nat} {r : Nat → Nat} (hr : ∀ j, j < 12 → con V (r j)) : ∀ (n x : Nat), n ≤ 12 → con V x → ∀ z, tkp r n x = some z → con V z.2
  | 0, _, _, _, z, h => by cases h
  | n + 1, x, hn, hx, z, h => by
    have h2 : (if x.testBit (8 + n) then (if r n = 0 then some (n, x) else tkp r n (x ^^^ r n)) else tkp r n x) = some z := h
    split at h2
    · split at h2
      · cases h2; exact hx
      · exact con_tkp hr n _ (by omega) (con_xor hx (hr n (by omega))) z h2
    · exact con_tkp hr n x (by omega) hx z h2
theorem con_tkr {V : Nat → Nat} {r : Nat → Nat} {p : Nat} (hr : ∀ j, j < 12 → con V (r j)) (hp : con V p) : ∀ j, j < 12 → con V (tkr r p j) := by
  intro j hj
  cases hz : tkp r 12 p with
  | none =>
    have e : tkr r p = r := by simp only [tkr, hz]
    rw [e]; exact hr j hj
  | some z =>
    have e : tkr r p = ups r z.1 z.2 := by simp only [tkr, hz]
    rw [e]
    unfold ups
    split
    · exact con_tkp hr 12 p (Nat.le_refl 12) hp z hz
    · exact hr j hj
def dfc (V : Nat → Nat) (p : Nat) : Nat := p % 256 ^^^ vln V (p / 256) 12
theorem dfc_con {V : Nat → Nat} {p : Nat} (h : con V p) : dfc V p = 0 := by
  unfold dfc
  rw [h.2, Nat.xor_self]
theorem dfc_rd {V : Nat → Nat} {r : Nat → Nat} (hr : ∀ j, j < 12 → con V (r j)) : ∀ (n x : Nat), n ≤ 12 → dfc V (rdp r n x) = dfc V x
  | 0, _, _ => rfl
  | n + 1, x, hn => by
    show dfc V (rdp r n (if _ then _ else _)) = _
    rw [dfc_rd hr n _ (by omega)]
    split
    · have h0 := dfc_con (hr n (by omega))
      unfold dfc at h0 ⊢
      rw [x_mod, x_div, vln_xor, Nat.xor_assoc, xlc (r n % 256), h0, Nat.xor_zero]
    · rfl
theorem rd_val {V : Nat → Nat} {r : Nat → Nat} {b : Nat} (hr : ∀ j, j < 12 → con V (r j)) (hb : b < 12) (h : rdp r 12 (2 ^ (8 + b)) / 256 = 0) : rdp r 12 (2 ^ (8 + b)) % 256 = V b := by
  have h1 := dfc_rd hr 12 (2 ^ (8 + b)) (Nat.le_refl 12)
  unfold dfc at h1
  have e1 : (2 ^ (8 + b)) / 256 = 2 ^ b := pw_div (x := 0) (by decide)
  have e2 : (2 ^ (8 + b)) % 256 = 0 := pw_mod (x := 0) (by decide)
  rw [h, vln_0, Nat.xor_zero, e1, e2, Nat.zero_xor, vln_one, if_pos hb] at h1
  exact h1
theorem rdp_lt {r : Nat → Nat} (hr : ∀ j, j < 12 → r j < 2 ^ 20) : ∀ (n x : Nat), n ≤ 12 → x < 2 ^ 20 → rdp r n x < 2 ^ 20
  | 0, _, _, h => h
  | n + 1, x, hn, h => by
    show rdp r n (if _ then _ else _) < _
    apply rdp_lt hr n _ (by omega)
    split
    · exact xor20 h (hr n (by omega))
    · exact h
def zRC (G : zG) (sh : zH) (N q : Nat) : Prop := G.2.2.1 ≤ q ∧ q + 12 < N ∧ sh q = (2, 8, pts [q + 1 + 2, q + 3 + 2, q + 5 + 2, q + 8 + 2, q + 10 + 2, 0, 0, 0]) ∧ zPL G sh N (q + 1) 12 ∧ zSP G sh N (q + 3) ∧ zFI G sh N (q + 5) ∧ zPL G sh N (q + 8) 20 ∧ zFI G sh N (q + 10)
def zrc (v : zV) (q : Nat) (V : Nat → Nat) (kp : List Nat) (r : Nat → Nat) (rk : Nat) (wt : List Nat) (so kt : Nat → Option Nat) (ar sl lg : Nat) : Prop := v q 5 = nI ar ∧ v q 6 = nI sl ∧ v q 7 = nI lg ∧ zpl v (q + 1) 12 kp ∧ zsp v (q + 3) r rk ∧ zfi v (q + 5) V so ∧ zpl v (q + 8) 20 wt ∧ zfi v (q + 10) V kt
theorem zrc.kept {v v1 : zV} {q : Nat} {V : Nat → Nat} {kp : List Nat} {r : Nat → Nat} {rk : Nat} {wt : List Nat} {so kt : Nat → Option Nat} {ar sl lg : Nat} (h : zrc v q V kp r rk wt so kt ar sl lg) (k : ∀ b, q ≤ b → b < q + 13 → v1 b = v b) : zrc v1 q V kp r rk wt so kt ar sl lg := by
  obtain ⟨h1, h2, h3, h4, h5, h6, h7, h8⟩ := h
  have e0 := k q (by omega) (by omega)
  exact ⟨by rw [e0]; exact h1, by rw [e0]; exact h2, by rw [e0]; exact h3, h4.kept (k _ (by omega) (by omega)) (k _ (by omega) (by omega)), h5.kept (k _ (by omega) (by omega)) (k _ (by omega) (by omega)), h6.kept (k _ (by omega) (by omega)) (k _ (by omega) (by omega)) (k _ (by omega) (by omega)), h7.kept (k _ (by omega) (by omega)) (k _ (by omega) (by omega)), h8.kept (k _ (by omega) (by omega)) (k _ (by omega) (by omega)) (k _ (by omega) (by omega))⟩
section ZRCM
variable {v v1 : zV} {q : Nat} {V : Nat → Nat} {kp kp1 : List Nat} {r r1 : Nat → Nat} {rk rk1 : Nat} {wt wt1 : List Nat} {so so1 kt kt1 : Nat → Option Nat} {ar sl lg : Nat}
theorem zrc_kp (h : zrc v q V kp r rk wt so kt ar sl lg) (g : zpl v1 (q + 1) 12 kp1) (f : zfr v v1 (q + 1) 2) : zrc v1 q V kp1 r rk wt so kt ar sl lg := by
  obtain ⟨h1, h2, h3, h4, h5, h6, h7, h8⟩ := h
  exact ⟨by rw [f q (by omega)]; exact h1, by rw [f q (by omega)]; exact h2, by rw [f q (by omega)]; exact h3, g, h5.kept (f _ (by omega)) (f _ (by omega)), h6.kept (f _ (by omega)) (f _ (by omega)) (f _ (by omega)), h7.kept (f _ (by omega)) (f _ (by omega)), h8.kept (f _ (by omega)) (f _ (by omega)) (f _ (by omega))⟩
theorem zrc_sp (h : zrc v q V kp r rk wt so kt ar sl lg) (g : zsp v1 (q + 3) r1 rk1) (f : zfr v v1 (q + 3) 2) : zrc v1 q V kp r1 rk1 wt so kt ar sl lg := by
  obtain ⟨h1, h2, h3, h4, h5, h6, h7, h8⟩ := h
  exact ⟨by rw [f q (by omega)]; exact h1, by rw [f q (by omega)]; exact h2, by rw [f q (by omega)]; exact h3, h4.kept (f _ (by omega)) (f _ (by omega)), g, h6.kept (f _ (by omega)) (f _ (by omega)) (f _ (by omega)), h7.kept (f _ (by omega)) (f _ (by omega)), h8.kept (f _ (by omega)) (f _ (by omega)) (f _ (by omega))⟩
theorem zrc_so (h : zrc v q V kp r rk wt so kt ar sl lg) (g : zfi v1 (q + 5) V so1) (f : zfr v v1 (q + 5) 3) : zrc v1 q V kp r rk wt so1 kt ar sl lg := by
  obtain ⟨h1, h2, h3, h4, h5, h6, h7, h8⟩ := h
  exact ⟨by rw [f q (by omega)]; exact h1, by rw [f q (by omega)]; exact h2, by rw [f q (by omega)]; exact h3, h4.kept (f _ (by omega)) (f _ (by omega)), h5.kept (f _ (by omega)) (f _ (by omega)), g, h7.kept (f _ (by omega)) (f _ (by omega)), h8.kept (f _ (by omega)) (f _ (by omega)) (f _ (by omega))⟩
theorem zrc_wt (h : zrc v q V kp r rk wt so kt ar sl lg) (g : zpl v1 (q + 8) 20 wt1) (f : zfr v v1 (q + 8) 2) : zrc v1 q V kp r rk wt1 so kt ar sl lg := by
  obtain ⟨h1, h2, h3, h4, h5, h6, h7, h8⟩ := h
  exact ⟨by rw [f q (by omega)]; exact h1, by rw [f q (by omega)]; exact h2, by rw [f q (by omega)]; exact h3, h4.kept (f _ (by omega)) (f _ (by omega)), h5.kept (f _ (by omega)) (f _ (by omega)), h6.kept (f _ (by omega)) (f _ (by omega)) (f _ (by omega)), g, h8.kept (f _ (by omega)) (f _ (by omega)) (f _ (by omega))⟩
theorem zrc_kt (h : zrc v q V kp r rk wt so kt ar sl lg) (g : zfi v1 (q + 10) V kt1) (f : zfr v v1 (q + 10) 3) : zrc v1 q V kp r rk wt so kt1 ar sl lg := by
  obtain ⟨h1, h2, h3, h4, h5, h6, h7, h8⟩ := h
  exact ⟨by rw [f q (by omega)]; exact h1, by rw [f q (by omega)]; exact h2, by rw [f q (by omega)]; exact h3, h4.kept (f _ (by omega)) (f _ (by omega)), h5.kept (f _ (by omega)) (f _ (by omega)), h6.kept (f _ (by omega)) (f _ (by omega)) (f _ (by omega)), h7.kept (f _ (by omega)) (f _ (by omega)), g⟩
theorem zrc_f (h : zrc v q V kp r rk wt so kt ar sl lg) {ar1 sl1 lg1 k x : Nat} (g : (k = 5 ∧ x = ar1 ∧ sl1 = sl ∧ lg1 = lg) ∨ (k = 6 ∧ x = sl1 ∧ ar1 = ar ∧ lg1 = lg) ∨ (k = 7 ∧ x = lg1 ∧ ar1 = ar ∧ sl1 = sl)) : zrc (z2 v q k (nI x)) q V kp r rk wt so kt ar1 sl1 lg1 := by
  obtain ⟨h1, h2, h3, h4, h5, h6, h7, h8⟩ := h
  have f : ∀ b, b ≠ q → z2 v q k (nI x) b = v b := fun b hb => z2_addr hb
  refine ⟨?_, ?_, ?_, h4.kept (f _ (by omega)) (f _ (by omega)), h5.kept (f _ (by omega)) (f _ (by omega)), h6.kept (f _ (by omega)) (f _ (by omega)) (f _ (by omega)), h7.kept (f _ (by omega)) (f _ (by omega)), h8.kept (f _ (by omega)) (f _ (by omega)) (f _ (by omega))⟩
  · rcases g with ⟨rfl, rfl, rfl, rfl⟩ | ⟨rfl, rfl, rfl, rfl⟩ | ⟨rfl, rfl, rfl, rfl⟩
    · rw [z2_self]
    · rw [z2_ne (by omega)]; exact h1
    · rw [z2_ne (by omega)]; exact h1
  · rcases g with ⟨rfl, rfl, rfl, rfl⟩ | ⟨rfl, rfl, rfl, rfl⟩ | ⟨rfl, rfl, rfl, rfl⟩
    · rw [z2_ne (by omega)]; exact h2
    · rw [z2_self]
    · rw [z2_ne (by omega)]; exact h2
  · rcases g with ⟨rfl, rfl, rfl, rfl⟩ | ⟨rfl, rfl, rfl, rfl⟩ | ⟨rfl, rfl, rfl, rfl⟩
    · rw [z2_ne (by omega)]; exact h3
    · rw [z2_ne (by omega)]; exact h3
    · rw [z2_self]
end ZRCM
theorem pop_pos0 : ∀ i, i < 64 → ∀ j, j < 64 → 64 * i + j ≠ 0 → 0 < pop (64 * i + j) := by decide +kernel
theorem pop_pos {x : Nat} (h : x < 4096) (h1 : x ≠ 0) : 0 < pop x := by
  have := pop_pos0 (x / 64) (by omega) (x % 64) (by omega)
  rw [Nat.div_add_mod] at this
  exact this h1
theorem zfi_V {v : zV} {a : Nat} {V V2 : Nat → Nat} (h : zfi v a V (fun _ => none)) : zfi v a V2 (fun _ => none) := h
theorem zrc_V {v : zV} {q : Nat} {V V2 : Nat → Nat} {kp : List Nat} {r : Nat → Nat} {rk : Nat} {wt : List Nat} {ar sl lg : Nat} (h : zrc v q V kp r rk wt (fun _ => none) (fun _ => none) ar sl lg) : zrc v q V2 kp r rk wt (fun _ => none) (fun _ => none) ar sl lg := h
set_option maxRecDepth 100000 in
set_option maxHeartbeats 4000000 in
theorem m_X2_peel (l : Launch) (G : zG) (sh : zH) (v : zV) (N : Nat) {q : Nat} {V : Nat → Nat} {kp : List Nat} {r : Nat → Nat} {rk : Nat} {wt : List Nat} {so kt : Nat → Option Nat} {ar sl lg : Nat} {x t : Nat} (hp : zRC G sh N q) (hv : zrc v q V kp r rk wt so kt ar sl lg) (hV : ∀ b, b < 12 → V b < 256) (hx : con V x) (hwt : ∀ z ∈ wt, con V z) : zm l G yX2_peel cX2_peel 5 none 3 [.ref q, .int (nI x), .int (nI t)] sh v N (fun rr v1 => rr = none ∧ zrc v1 q V kp r rk (plM V t x kt wt).2 so (plM V t x kt wt).1 ar sl lg ∧ zfr v v1 q 13) := by
  refine zM.of (by decide) rfl (Nat.le_of_ble_eq_true rfl) ?_
  intro p e s m args below meth c C
  obtain ⟨hB, hN, hs0, pk, ps, pf, pw, pg⟩ := id hp
  have hd0 : G.2.2.1 ≤ q ∧ q < N := ⟨hB, by omega⟩
  have hd1 : G.2.2.1 ≤ q + 1 ∧ q + 1 < N := ⟨by omega, by omega⟩
  have hd3 : G.2.2.1 ≤ q + 3 ∧ q + 3 < N := ⟨by omega, by omega⟩
  have hd5 : G.2.2.1 ≤ q + 5 ∧ q + 5 < N := ⟨by omega, by omega⟩
  have hd8 : G.2.2.1 ≤ q + 8 ∧ q + 8 < N := ⟨by omega, by omega⟩
  have hd10 : G.2.2.1 ≤ q + 10 ∧ q + 10 < N := ⟨by omega, by omega⟩
  have hs1 := pk.2.2.2.1
  have hs3 := ps.2.2.1
  have hs5 := pf.2.2.1
  have hs8 := pw.2.2.2.1
  have hs10 := pg.2.2.1
  have loop : ∀ (n i y : Nat) (wt1 : List Nat) (kt1 : Nat → Option Nat) (v' : zV), 12 - i < n → i ≤ 12 → con V y → (y / 256 ≠ 0 → pop (y / 256) = 1) → (∀ z ∈ wt1, con V z) → pl1 t (12 - i) y kt1 wt1 = plM V t x kt wt → zrc v' q V kp r rk wt1 so kt1 ar sl lg → zfr v v' q 13 → VV p l e ({ frames := 3, cells := 0, slots := 0, locals := 32 * 3 }) s m args below meth c 0 0 (zQ below (fun rr sh1 v1 N1 => sh1 = sh ∧ N1 = N ∧ (rr = none ∧ zrc v1 q V kp r rk (plM V t x kt wt).2 so (plM V t x kt wt).1 ar sl lg ∧ zfr v v1 q 13)) G args s 0 0) G 5 sh v' N 38 [some (.ref q), some (.int (nI x)), some (.int (nI t)), some (.int (nI y)), some (.int (nI i))] [] := by
    intro n
    induction n with
    | zero => intro i y wt1 kt1 v' hm; omega
    | succ n ih =>
      intro i y wt1 kt1 v' hm hi hy hy1 hw1 hf e1 e3
      refine r_iload C (pc := 38) rfl dX2_peel_38 ?_
      refine r_bipush C (pc := 40) (x := (nI 12)) (by decide) dX2_peel_40 ?_
      refine n_icmp_ge C (pc := 42) (tgt := 83) (by omega) (by omega) dX2_peel_42 (by decide) (fun c_42 => ?_) (fun c_42 => ?_)
      · exact r_vret C (pc := 83) rfl dX2_peel_83 ⟨rfl, rfl, rfl, by rw [← hf, show 12 - i = 0 by omega]; exact e1, e3⟩
      · refine r_iload_n C (pc := 45) rfl rfl dX2_peel_45 ?_
        refine r_callSN C (pc := 46) (st := []) (m_X6_setIn l G sh v' N (q := y) (by have := hy.1; omega)) kyX6_setIn q_434 rfl rfl (Nat.le_of_ble_eq_true rfl) ⟨Nat.le_of_ble_eq_true rfl, Nat.le_of_ble_eq_true rfl⟩ ⟨Nat.le_of_ble_eq_true rfl, Nat.le_of_ble_eq_true rfl⟩ dX2_peel_46 (fun r46 v46 hp46 => ?_)
        obtain ⟨rfl, ehp46⟩ := hp46
        refine VV.vq ehp46 ?_
        refine VV.eq (st2 := [.int (nI (y / 256))]) rfl ?_
        refine n_if_eq C (pc := 49) (tgt := 83) (by have := hy.1; omega) dX2_peel_49 (by decide) (fun c_49 => ?_) (fun c_49 => ?_)
        · have hfs : pl1 t (12 - i) y kt1 wt1 = (kt1, wt1) := by
            obtain ⟨m, hm2⟩ : ∃ m, 12 - i = m + 1 := ⟨11 - i, by omega⟩
            rw [hm2]
            exact if_pos c_49
          exact r_vret C (pc := 83) rfl dX2_peel_83 ⟨rfl, rfl, rfl, by rw [← hf, hfs]; exact e1, e3⟩
        · have hsg := con_single hy (hy1 (by omega))
          refine r_aload_n C (pc := 52) rfl rfl dX2_peel_52 ?_
          refine r_get C (pc := 53) (ci := 2) (k := 4) (w := .ref (q + 10)) rfl (by decide) inX2 (by decide) q_171 (Or.inl hd0) hs0 (zl_ref _ _) dX2_peel_53 ?_
          refine r_iload_n C (pc := 56) rfl rfl dX2_peel_56 ?_
          refine r_iload_n C (pc := 57) rfl rfl dX2_peel_57 ?_
          refine VV.eq (st := [.int (nI t), .int (nI (2 ^ (8 + (Nat.log2 (y / 256))) + V (Nat.log2 (y / 256)))), .ref (q + 10)]) (by rw [← hsg.2]) ?_
          refine r_callV C (pc := 58) (st := []) (m_X0_add l G sh v' N (b := (Nat.log2 (y / 256))) (t := t) pg e1.2.2.2.2.2.2.2 hsg.1 hV) kyX0_add q_437 rfl (Or.inl hd10) hs10 (by decide) rfl rfl rfl (Nat.le_of_ble_eq_true rfl) ⟨Nat.le_of_ble_eq_true rfl, Nat.le_of_ble_eq_true rfl⟩ ⟨Nat.le_of_ble_eq_true rfl, Nat.le_of_ble_eq_true rfl⟩ dX2_peel_58 (fun r58 v58 hp58 => ?_)
          obtain ⟨rfl, g1, g2⟩ := hp58
          refine VV.eq (st2 := []) rfl ?_
          have e1b := zrc_kt e1 g1 g2
          clear g1
          refine r_aload_n C (pc := 61) rfl rfl dX2_peel_61 ?_
          refine r_get C (pc := 62) (ci := 2) (k := 3) (w := .ref (q + 8)) rfl (by decide) inX2 (by decide) q_169 (Or.inl hd0) hs0 (zl_ref _ _) dX2_peel_62 ?_
          refine r_iload_n C (pc := 65) rfl rfl dX2_peel_65 ?_
          refine r_callV C (pc := 66) (st := []) (m_X1_takeOut l G sh v58 N (q0 := y) pw e1b.2.2.2.2.2.2.1 hy.1 (fun z hz => (hw1 z hz).1)) kyX1_takeOut q_441 rfl (Or.inl hd8) hs8 (by decide) rfl rfl rfl (Nat.le_of_ble_eq_true rfl) ⟨Nat.le_of_ble_eq_true rfl, Nat.le_of_ble_eq_true rfl⟩ ⟨Nat.le_of_ble_eq_true rfl, Nat.le_of_ble_eq_true rfl⟩ dX2_peel_66 (fun r66 v66 hp66 => ?_)
          obtain ⟨rfl, g3, g4⟩ := hp66
          refine VV.eq (st2 := []) rfl ?_
          have e1c := zrc_wt e1b g3 g4
          clear g3
          refine r_aload_n C (pc := 69) rfl rfl dX2_peel_69 ?_
          refine r_get C (pc := 70) (ci := 2) (k := 3) (w := .ref (q + 8)) rfl (by decide) inX2 (by decide) q_169 (Or.inl hd0) hs0 (zl_ref _ _) dX2_peel_70 ?_
          refine r_callV C (pc := 73) (st := []) (m_X1_removeFirstSingle l G sh v66 N (ps := (tko y wt1)) pw e1c.2.2.2.2.2.2.1 (fun z hz => (con_tko hy hw1 z hz).1)) kyX1_removeFirstSingle q_446 rfl (Or.inl hd8) hs8 (by decide) rfl rfl rfl (Nat.le_of_ble_eq_true rfl) ⟨Nat.le_of_ble_eq_true rfl, Nat.le_of_ble_eq_true rfl⟩ ⟨Nat.le_of_ble_eq_true rfl, Nat.le_of_ble_eq_true rfl⟩ dX2_peel_73 (fun r73 v73 hp73 => ?_)
          obtain ⟨rfl, g5, g6⟩ := hp73
          refine VV.eq (st2 := [.int (nI ((tko y wt1).getD (rfs (tko y wt1)) 0))]) rfl ?_
          have e1d := zrc_wt e1c g5 g6
          clear g5
          refine r_istore_n C (pc := 76) (lv2 := [some (.ref q), some (.int (nI x)), some (.int (nI t)), some (.int (nI ((tko y wt1).getD (rfs (tko y wt1)) 0))), some (.int (nI i))]) rfl (Nat.le_of_ble_eq_true rfl) rfl rfl dX2_peel_76 ?_
          refine r_iinc C (pc := 77) (lv2 := [some (.ref q), some (.int (nI x)), some (.int (nI t)), some (.int (nI ((tko y wt1).getD (rfs (tko y wt1)) 0))), some (.int (nI (i + 1)))]) (y := (nI (i + 1))) rfl (nI_inc _ _) (Nat.le_of_ble_eq_true rfl) rfl rfl dX2_peel_77 ?_
          refine r_goto C (pc := 80) (tgt := 38) dX2_peel_80 (by decide) ?_
          exact ih (i + 1) ((tko y wt1).getD (rfs (tko y wt1)) 0) ((tko y wt1).eraseIdx (rfs (tko y wt1))) (lrn kt1 (Nat.log2 (y / 256)) t) v73 (by omega) (by omega) (con_gd (con_tko hy hw1)) (rfs_pop _) (con_er (con_tko hy hw1)) (by
            rw [← hf]
            obtain ⟨m, hm2⟩ : ∃ m, 12 - i = m + 1 := ⟨11 - i, by omega⟩
            rw [hm2, show 12 - (i + 1) = m by omega]
            show _ = (if _ then _ else _)
            rw [if_neg (by omega)]) e1d (((e3.tr (g2.wide (by omega) (by omega))).tr (g4.wide (by omega) (by omega))).tr (g6.wide (by omega) (by omega)))
  refine r_aload_n C (pc := 0) rfl rfl dX2_peel_0 ?_
  refine r_get C (pc := 1) (ci := 2) (k := 4) (w := .ref (q + 10)) rfl (by decide) inX2 (by decide) q_171 (Or.inl hd0) hs0 (zl_ref _ _) dX2_peel_1 ?_
  refine r_iload_n C (pc := 4) rfl rfl dX2_peel_4 ?_
  refine r_callV C (pc := 5) (st := []) (m_X0_takenOutOf l G sh v N (q := x) pg hv.2.2.2.2.2.2.2 hx.1 hV) kyX0_takenOutOf q_413 rfl (Or.inl hd10) hs10 (by decide) rfl rfl rfl (Nat.le_of_ble_eq_true rfl) ⟨Nat.le_of_ble_eq_true rfl, Nat.le_of_ble_eq_true rfl⟩ ⟨Nat.le_of_ble_eq_true rfl, Nat.le_of_ble_eq_true rfl⟩ dX2_peel_5 (fun r5 v5 hp5 => ?_)
  obtain ⟨rfl, ehp5⟩ := hp5
  refine VV.vq ehp5 ?_
  refine VV.eq (st2 := [.int (nI (tofn V kt x 12))]) rfl ?_
  have hrc : con V (tofn V kt x 12) := con_tof hx hV 12 (Nat.le_refl 12)
  refine r_istore_n C (pc := 8) (lv2 := [some (.ref q), some (.int (nI x)), some (.int (nI t)), some (.int (nI (tofn V kt x 12))), none]) rfl (Nat.le_of_ble_eq_true rfl) rfl rfl dX2_peel_8 ?_
  refine r_iload_n C (pc := 9) rfl rfl dX2_peel_9 ?_
  refine r_callSN C (pc := 10) (st := []) (m_X6_degreeOf l G sh v N (q := (tofn V kt x 12)) hrc.1) kyX6_degreeOf q_420 rfl rfl (Nat.le_of_ble_eq_true rfl) ⟨Nat.le_of_ble_eq_true rfl, Nat.le_of_ble_eq_true rfl⟩ ⟨Nat.le_of_ble_eq_true rfl, Nat.le_of_ble_eq_true rfl⟩ dX2_peel_10 (fun r10 v10 hp10 => ?_)
  obtain ⟨rfl, ehp10⟩ := hp10
  refine VV.vq ehp10 ?_
  refine VV.eq (st2 := [.int (nI (pop ((tofn V kt x 12) / 256)))]) rfl ?_
  refine r_iconst C (pc := 13) (x := (nI 1)) (by decide) dX2_peel_13 ?_
  refine n_icmp_le C (pc := 14) (tgt := 35) (by have := pop_le ((tofn V kt x 12) / 256); omega) (by decide) dX2_peel_14 (by decide) (fun c_14 => ?_) (fun c_14 => ?_)
  · refine r_iconst C (pc := 35) (x := (nI 0)) (by decide) dX2_peel_35 ?_
    refine r_istore C (pc := 36) (lv2 := [some (.ref q), some (.int (nI x)), some (.int (nI t)), some (.int (nI (tofn V kt x 12))), some (.int (nI 0))]) (Nat.le_of_ble_eq_true rfl) rfl rfl dX2_peel_36 ?_
    exact loop 13 0 (tofn V kt x 12) wt kt v (by omega) (by omega) hrc (fun h0 => by have := pop_pos (by have := hrc.1; omega) h0; omega) hwt (by show _ = plM V t x kt wt; unfold plM; rw [if_neg (by omega)]) hv zfr.rf
  · refine r_aload_n C (pc := 17) rfl rfl dX2_peel_17 ?_
    refine r_get C (pc := 18) (ci := 2) (k := 3) (w := .ref (q + 8)) rfl (by decide) inX2 (by decide) q_169 (Or.inl hd0) hs0 (zl_ref _ _) dX2_peel_18 ?_
    refine r_bipush C (pc := 21) (x := (nI 19)) (by decide) dX2_peel_21 ?_
    refine r_callV C (pc := 23) (st := []) (m_X1_removeFrontsBeyond l G sh v N (b := 19) pw hv.2.2.2.2.2.2.1 (by decide)) kyX1_removeFrontsBeyond q_429 rfl (Or.inl hd8) hs8 (by decide) rfl rfl rfl (Nat.le_of_ble_eq_true rfl) ⟨Nat.le_of_ble_eq_true rfl, Nat.le_of_ble_eq_true rfl⟩ ⟨Nat.le_of_ble_eq_true rfl, Nat.le_of_ble_eq_true rfl⟩ dX2_peel_23 (fun r23 v23 hp23 => ?_)
    obtain ⟨rfl, g1, g2⟩ := hp23
    refine VV.eq (st2 := []) rfl ?_
    refine r_aload_n C (pc := 26) rfl rfl dX2_peel_26 ?_
    refine r_get C (pc := 27) (ci := 2) (k := 3) (w := .ref (q + 8)) rfl (by decide) inX2 (by decide) q_169 (Or.inl hd0) hs0 (zl_ref _ _) dX2_peel_27 ?_
    refine r_iload_n C (pc := 30) rfl rfl dX2_peel_30 ?_
    refine r_callV C (pc := 31) (st := []) (m_X1_append l G sh v23 N (q := (tofn V kt x 12)) pw g1 (by rw [List.length_drop]; omega)) kyX1_append q_430 rfl (Or.inl hd8) hs8 (by decide) rfl rfl rfl (Nat.le_of_ble_eq_true rfl) ⟨Nat.le_of_ble_eq_true rfl, Nat.le_of_ble_eq_true rfl⟩ ⟨Nat.le_of_ble_eq_true rfl, Nat.le_of_ble_eq_true rfl⟩ dX2_peel_31 (fun r31 v31 hp31 => ?_)
    obtain ⟨rfl, g3, g4⟩ := hp31
    refine VV.eq (st2 := []) rfl ?_
    exact r_vret C (pc := 34) rfl dX2_peel_34 ⟨rfl, rfl, rfl, by unfold plM; rw [if_pos c_14]; exact zrc_wt (zrc_wt hv g1 g2) g3 g4, (g2.tr g4).wide (by omega) (by omega)⟩
set_option maxRecDepth 100000 in
set_option maxHeartbeats 4000000 in
theorem m_X2_solve (l : Launch) (G : zG) (sh : zH) (v : zV) (N : Nat) {q : Nat} {V : Nat → Nat} {kp : List Nat} {r : Nat → Nat} {rk : Nat} {wt : List Nat} {so kt : Nat → Option Nat} {ar sl lg : Nat} {t : Nat} (hp : zRC G sh N q) (hv : zrc v q V kp r rk wt so kt ar sl lg) (hV : ∀ b, b < 12 → V b < 256) (hr : ∀ j, j < 12 → con V (r j)) : zm l G yX2_solve cX2_solve 4 none 2 [.ref q, .int (nI t)] sh v N (fun rr v1 => rr = none ∧ zrc v1 q V kp r rk wt (slv r so t 12) kt ar sl lg ∧ zfr v v1 q 13) := by
  refine zM.of (by decide) rfl (Nat.le_of_ble_eq_true rfl) ?_
  intro p e s m args below meth c C
  obtain ⟨hB, hN, hs0, pk, ps, pf, pw, pg⟩ := id hp
  have hd0 : G.2.2.1 ≤ q ∧ q < N := ⟨hB, by omega⟩
  have hd1 : G.2.2.1 ≤ q + 1 ∧ q + 1 < N := ⟨by omega, by omega⟩
  have hd3 : G.2.2.1 ≤ q + 3 ∧ q + 3 < N := ⟨by omega, by omega⟩
  have hd5 : G.2.2.1 ≤ q + 5 ∧ q + 5 < N := ⟨by omega, by omega⟩
  have hd8 : G.2.2.1 ≤ q + 8 ∧ q + 8 < N := ⟨by omega, by omega⟩
  have hd10 : G.2.2.1 ≤ q + 10 ∧ q + 10 < N := ⟨by omega, by omega⟩
  have hs1 := pk.2.2.2.1
  have hs3 := ps.2.2.1
  have hs5 := pf.2.2.1
  have hs8 := pw.2.2.2.1
  have hs10 := pg.2.2.1
  have loop : ∀ (n b : Nat) (v' : zV), 12 - b < n → b ≤ 12 → zrc v' q V kp r rk wt (slv r so t b) kt ar sl lg → zfr v v' q 13 → VV p l e ({ frames := 2, cells := 0, slots := 0, locals := 32 * 2 }) s m args below meth c 0 0 (zQ below (fun rr sh1 v1 N1 => sh1 = sh ∧ N1 = N ∧ (rr = none ∧ zrc v1 q V kp r rk wt (slv r so t 12) kt ar sl lg ∧ zfr v v1 q 13)) G args s 0 0) G 4 sh v' N 2 [some (.ref q), some (.int (nI t)), some (.int (nI b)), none] [] := by
    intro n
    induction n with
    | zero => intro b v' hm; omega
    | succ n ih =>
      intro b v' hm hb e1 e2
      refine r_iload_n C (pc := 2) rfl rfl dX2_solve_2 ?_
      refine r_bipush C (pc := 3) (x := (nI 12)) (by decide) dX2_solve_3 ?_
      refine n_icmp_ge C (pc := 5) (tgt := 50) (by omega) (by omega) dX2_solve_5 (by decide) (fun c_5 => ?_) (fun c_5 => ?_)
      · exact r_vret C (pc := 50) rfl dX2_solve_50 ⟨rfl, rfl, rfl, by rw [show b = 12 by omega] at e1; exact e1, e2⟩
      · refine r_aload_n C (pc := 8) rfl rfl dX2_solve_8 ?_
        refine r_get C (pc := 9) (ci := 2) (k := 1) (w := .ref (q + 3)) rfl (by decide) inX2 (by decide) q_165 (Or.inl hd0) hs0 (zl_ref _ _) dX2_solve_9 ?_
        refine r_iload_n C (pc := 12) rfl rfl dX2_solve_12 ?_
        refine r_iconst C (pc := 13) (x := (nI 0)) (by decide) dX2_solve_13 ?_
        refine r_callSN C (pc := 14) (st := [.ref (q + 3)]) (m_X6_packetWith l G sh v' N (b := b) (x := 0) (by omega) (by decide)) kyX6_packetWith q_464 rfl rfl (Nat.le_of_ble_eq_true rfl) ⟨Nat.le_of_ble_eq_true rfl, Nat.le_of_ble_eq_true rfl⟩ ⟨Nat.le_of_ble_eq_true rfl, Nat.le_of_ble_eq_true rfl⟩ dX2_solve_14 (fun r14 v14 hp14 => ?_)
        obtain ⟨rfl, ehp14⟩ := hp14
        refine VV.vq ehp14 ?_
        refine VV.eq (st2 := [.int (nI (2 ^ (8 + b) + 0)), .ref (q + 3)]) rfl ?_
        rw [Nat.add_zero]
        refine r_callV C (pc := 17) (st := []) (m_X4_reduce l G sh v' N (q := 2 ^ (8 + b)) ps e1.2.2.2.2.1 (p20 (x := 0) (by omega) (by decide)) (fun j hj => (hr j hj).1)) kyX4_reduce q_465 rfl (Or.inl hd3) hs3 (by decide) rfl rfl rfl (Nat.le_of_ble_eq_true rfl) ⟨Nat.le_of_ble_eq_true rfl, Nat.le_of_ble_eq_true rfl⟩ ⟨Nat.le_of_ble_eq_true rfl, Nat.le_of_ble_eq_true rfl⟩ dX2_solve_17 (fun r17 v17 hp17 => ?_)
        obtain ⟨rfl, ehp17⟩ := hp17
        refine VV.vq ehp17 ?_
        refine VV.eq (st2 := [.int (nI (rdp r 12 (2 ^ (8 + b))))]) rfl ?_
        have hrl : (rdp r 12 (2 ^ (8 + b))) < 2 ^ 20 := rdp_lt (fun j hj => (hr j hj).1) 12 _ (Nat.le_refl 12) (p20 (x := 0) (by omega) (by decide))
        refine r_istore_n C (pc := 20) (lv2 := [some (.ref q), some (.int (nI t)), some (.int (nI b)), some (.int (nI (rdp r 12 (2 ^ (8 + b)))))]) rfl (Nat.le_of_ble_eq_true rfl) rfl rfl dX2_solve_20 ?_
        refine r_iload_n C (pc := 21) rfl rfl dX2_solve_21 ?_
        refine r_callSN C (pc := 22) (st := []) (m_X6_setIn l G sh v' N (q := (rdp r 12 (2 ^ (8 + b)))) (by omega)) kyX6_setIn q_434 rfl rfl (Nat.le_of_ble_eq_true rfl) ⟨Nat.le_of_ble_eq_true rfl, Nat.le_of_ble_eq_true rfl⟩ ⟨Nat.le_of_ble_eq_true rfl, Nat.le_of_ble_eq_true rfl⟩ dX2_solve_22 (fun r22 v22 hp22 => ?_)
        obtain ⟨rfl, ehp22⟩ := hp22
        refine VV.vq ehp22 ?_
        refine VV.eq (st2 := [.int (nI ((rdp r 12 (2 ^ (8 + b))) / 256))]) rfl ?_
        refine n_if_ne C (pc := 25) (tgt := 44) (by omega) dX2_solve_25 (by decide) (fun c_25 => ?_) (fun c_25 => ?_)
        · refine r_iinc C (pc := 44) (lv2 := [some (.ref q), some (.int (nI t)), some (.int (nI (b + 1))), some (.int (nI (rdp r 12 (2 ^ (8 + b)))))]) (y := (nI (b + 1))) rfl (nI_inc _ _) (Nat.le_of_ble_eq_true rfl) rfl rfl dX2_solve_44 ?_
          refine r_goto C (pc := 47) (tgt := 2) dX2_solve_47 (by decide) ?_
          refine VV.fg 3 (lv2 := [some (.ref q), some (.int (nI t)), some (.int (nI (b + 1))), none]) rfl ?_
          exact ih (b + 1) v' (by omega) (by omega) (by
            have hs : slv r so t (b + 1) = slv r so t b := if_neg (by omega)
            rw [hs]; exact e1) e2
        · refine r_aload_n C (pc := 28) rfl rfl dX2_solve_28 ?_
          refine r_get C (pc := 29) (ci := 2) (k := 2) (w := .ref (q + 5)) rfl (by decide) inX2 (by decide) q_166 (Or.inl hd0) hs0 (zl_ref _ _) dX2_solve_29 ?_
          refine r_iload_n C (pc := 32) rfl rfl dX2_solve_32 ?_
          refine r_iload_n C (pc := 33) rfl rfl dX2_solve_33 ?_
          refine r_callSN C (pc := 34) (st := [.int (nI b), .ref (q + 5)]) (m_X6_valueIn l G sh v' N (q := (rdp r 12 (2 ^ (8 + b))))) kyX6_valueIn q_469 rfl rfl (Nat.le_of_ble_eq_true rfl) ⟨Nat.le_of_ble_eq_true rfl, Nat.le_of_ble_eq_true rfl⟩ ⟨Nat.le_of_ble_eq_true rfl, Nat.le_of_ble_eq_true rfl⟩ dX2_solve_34 (fun r34 v34 hp34 => ?_)
          obtain ⟨rfl, ehp34⟩ := hp34
          refine VV.vq ehp34 ?_
          refine VV.eq (st2 := [.int (nI ((rdp r 12 (2 ^ (8 + b))) % 256)), .int (nI b), .ref (q + 5)]) rfl ?_
          rw [rd_val hr (by omega) c_25]
          refine r_callSN C (pc := 37) (st := [.ref (q + 5)]) (m_X6_packetWith l G sh v' N (b := b) (x := V b) (by omega) (hV b (by omega))) kyX6_packetWith q_464 rfl rfl (Nat.le_of_ble_eq_true rfl) ⟨Nat.le_of_ble_eq_true rfl, Nat.le_of_ble_eq_true rfl⟩ ⟨Nat.le_of_ble_eq_true rfl, Nat.le_of_ble_eq_true rfl⟩ dX2_solve_37 (fun r37 v37 hp37 => ?_)
          obtain ⟨rfl, ehp37⟩ := hp37
          refine VV.vq ehp37 ?_
          refine VV.eq (st2 := [.int (nI (2 ^ (8 + b) + V b)), .ref (q + 5)]) rfl ?_
          refine r_iload_n C (pc := 40) rfl rfl dX2_solve_40 ?_
          refine r_callV C (pc := 41) (st := []) (m_X0_add l G sh v' N (b := b) (t := t) pf e1.2.2.2.2.2.1 (by omega) hV) kyX0_add q_437 rfl (Or.inl hd5) hs5 (by decide) rfl rfl rfl (Nat.le_of_ble_eq_true rfl) ⟨Nat.le_of_ble_eq_true rfl, Nat.le_of_ble_eq_true rfl⟩ ⟨Nat.le_of_ble_eq_true rfl, Nat.le_of_ble_eq_true rfl⟩ dX2_solve_41 (fun r41 v41 hp41 => ?_)
          obtain ⟨rfl, g1, g2⟩ := hp41
          refine VV.eq (st2 := []) rfl ?_
          refine r_iinc C (pc := 44) (lv2 := [some (.ref q), some (.int (nI t)), some (.int (nI (b + 1))), some (.int (nI (rdp r 12 (2 ^ (8 + b)))))]) (y := (nI (b + 1))) rfl (nI_inc _ _) (Nat.le_of_ble_eq_true rfl) rfl rfl dX2_solve_44 ?_
          refine r_goto C (pc := 47) (tgt := 2) dX2_solve_47 (by decide) ?_
          refine VV.fg 3 (lv2 := [some (.ref q), some (.int (nI t)), some (.int (nI (b + 1))), none]) rfl ?_
          exact ih (b + 1) v41 (by omega) (by omega) (by
            have hs : slv r so t (b + 1) = lrn (slv r so t b) b t := if_pos c_25
            rw [hs]; exact zrc_so e1 g1 g2) (e2.tr (g2.wide (by omega) (by omega)))
  refine r_iconst C (pc := 0) (x := (nI 0)) (by decide) dX2_solve_0 ?_
  refine r_istore_n C (pc := 1) (lv2 := [some (.ref q), some (.int (nI t)), some (.int (nI 0)), none]) rfl (Nat.le_of_ble_eq_true rfl) rfl rfl dX2_solve_1 ?_
  exact loop 13 0 v (by omega) (by omega) hv zfr.rf
set_option maxRecDepth 100000 in
set_option maxHeartbeats 4000000 in
theorem m_X2_accept (l : Launch) (G : zG) (sh : zH) (v : zV) (N : Nat) {q : Nat} {V : Nat → Nat} {kp : List Nat} {r : Nat → Nat} {rk : Nat} {wt : List Nat} {so kt : Nat → Option Nat} {ar sl lg : Nat} {x t : Nat} (hp : zRC G sh N q) (hv : zrc v q V kp r rk wt so kt ar sl lg) (hV : ∀ b, b < 12 → V b < 256) (hx : con V x) (hwt : ∀ z ∈ wt, con V z) (hr : ∀ j, j < 12 → con V (r j)) (hk : tkb r x = true → kp.length < 12) (hlg : lg < 2 ^ 30) : zm l G yX2_accept cX2_accept 3 (some .boolean) 4 [.ref q, .int (nI x), .int (nI t)] sh v N (fun rr v1 => rr = some (.int (zb (tkb r x))) ∧ zrc v1 q V (if tkb r x then kp ++ [x] else kp) (tkr r x) (rk + if tkb r x then 1 else 0) (plM V t x kt wt).2 (if tkb r x then slv (tkr r x) so t 12 else so) (plM V t x kt wt).1 (ar + 1) (if tkb r x then sl else sl + 1) (max lg (plM V t x kt wt).2.length) ∧ zfr v v1 q 13) := by
  refine zM.of (by decide) rfl (Nat.le_of_ble_eq_true rfl) ?_
  intro p e s m args below meth c C
  obtain ⟨hB, hN, hs0, pk, ps, pf, pw, pg⟩ := id hp
  have hd0 : G.2.2.1 ≤ q ∧ q < N := ⟨hB, by omega⟩
  have hd1 : G.2.2.1 ≤ q + 1 ∧ q + 1 < N := ⟨by omega, by omega⟩
  have hd3 : G.2.2.1 ≤ q + 3 ∧ q + 3 < N := ⟨by omega, by omega⟩
  have hd5 : G.2.2.1 ≤ q + 5 ∧ q + 5 < N := ⟨by omega, by omega⟩
  have hd8 : G.2.2.1 ≤ q + 8 ∧ q + 8 < N := ⟨by omega, by omega⟩
  have hd10 : G.2.2.1 ≤ q + 10 ∧ q + 10 < N := ⟨by omega, by omega⟩
  have hs1 := pk.2.2.2.1
  have hs3 := ps.2.2.1
  have hs5 := pf.2.2.1
  have hs8 := pw.2.2.2.1
  have hs10 := pg.2.2.1
  refine r_aload_n C (pc := 0) rfl rfl dX2_accept_0 ?_
  refine r_dup C (pc := 1) rfl dX2_accept_1 ?_
  refine r_get C (pc := 2) (ci := 2) (k := 5) (w := .int (nI ar)) rfl (by decide) inX2 (by decide) q_174 (Or.inl hd0) hs0 (zl_i (hv.1)) dX2_accept_2 ?_
  refine r_iconst C (pc := 5) (x := (nI 1)) (by decide) dX2_accept_5 ?_
  refine r_iadd C (pc := 6) (z := (nI (ar + 1))) (nI_add _ _) dX2_accept_6 ?_
  refine r_put C (pc := 7) (ci := 2) (k := 5) rfl (by decide) inX2 tyX2_ok nmX2 (by decide) rfl pfI rfl q_174 hd0 hs0 dX2_accept_7 ?_
  refine VV.gn (fun w7 ew7 => ?_)
  have e1 : zrc w7 q V kp r rk wt so kt (ar + 1) sl lg := by rw [ew7]; exact zrc_f hv (Or.inl ⟨rfl, rfl, rfl, rfl⟩)
  have f1 : zfr v w7 q 13 := by rw [ew7]; exact zfr.rf.z2 (by omega) (by omega)
  refine r_aload_n C (pc := 10) rfl rfl dX2_accept_10 ?_
  refine r_iload_n C (pc := 11) rfl rfl dX2_accept_11 ?_
  refine r_iload_n C (pc := 12) rfl rfl dX2_accept_12 ?_
  refine r_callV C (pc := 13) (st := []) (m_X2_peel l G sh w7 N (x := x) (t := t) hp e1 hV hx hwt) kyX2_peel q_409 rfl (Or.inl hd0) hs0 (by decide) rfl rfl rfl (Nat.le_of_ble_eq_true rfl) ⟨Nat.le_of_ble_eq_true rfl, Nat.le_of_ble_eq_true rfl⟩ ⟨Nat.le_of_ble_eq_true rfl, Nat.le_of_ble_eq_true rfl⟩ dX2_accept_13 (fun r13 v13 hp13 => ?_)
  obtain ⟨rfl, e2, f2⟩ := hp13
  refine VV.eq (st2 := []) rfl ?_
  refine r_aload_n C (pc := 16) rfl rfl dX2_accept_16 ?_
  refine r_aload_n C (pc := 17) rfl rfl dX2_accept_17 ?_
  refine r_get C (pc := 18) (ci := 2) (k := 7) (w := .int (nI lg)) rfl (by decide) inX2 (by decide) q_178 (Or.inl hd0) hs0 (zl_i (e2.2.2.1)) dX2_accept_18 ?_
  refine r_aload_n C (pc := 21) rfl rfl dX2_accept_21 ?_
  refine r_get C (pc := 22) (ci := 2) (k := 3) (w := .ref (q + 8)) rfl (by decide) inX2 (by decide) q_169 (Or.inl hd0) hs0 (zl_ref _ _) dX2_accept_22 ?_
  refine r_getN C (pc := 25) (ci := 1) (k := 1) (w := .int (nI ((plM V t x kt wt).2.length))) rfl (by decide) inX1 (by decide) q_121 (Or.inl hd8) hs8 (zl_i (e2.2.2.2.2.2.2.1.1)) dX2_accept_25 ?_
  refine r_max C (pc := 28) (z := (nI (max lg (plM V t x kt wt).2.length))) q_455 (nI_max (by omega) (by have := e2.2.2.2.2.2.2.1.2.1; omega)) (Nat.le_of_ble_eq_true rfl) ⟨Nat.le_of_ble_eq_true rfl, Nat.le_of_ble_eq_true rfl⟩ ⟨Nat.le_of_ble_eq_true rfl, Nat.le_of_ble_eq_true rfl⟩ dX2_accept_28 ?_
  refine r_put C (pc := 31) (ci := 2) (k := 7) rfl (by decide) inX2 tyX2_ok nmX2 (by decide) rfl pfI rfl q_178 hd0 hs0 dX2_accept_31 ?_
  refine VV.gn (fun w31 ew31 => ?_)
  have e3 : zrc w31 q V kp r rk (plM V t x kt wt).2 so (plM V t x kt wt).1 (ar + 1) sl (max lg (plM V t x kt wt).2.length) := by rw [ew31]; exact zrc_f e2 (Or.inr (Or.inr ⟨rfl, rfl, rfl, rfl⟩))
  have f3 : zfr v w31 q 13 := by rw [ew31]; exact (f1.tr f2).z2 (by omega) (by omega)
  refine r_aload_n C (pc := 34) rfl rfl dX2_accept_34 ?_
  refine r_get C (pc := 35) (ci := 2) (k := 1) (w := .ref (q + 3)) rfl (by decide) inX2 (by decide) q_165 (Or.inl hd0) hs0 (zl_ref _ _) dX2_accept_35 ?_
  refine r_iload_n C (pc := 38) rfl rfl dX2_accept_38 ?_
  refine r_callV C (pc := 39) (st := []) (m_X4_take l G sh w31 N (q := x) ps e3.2.2.2.2.1 hx.1 (fun j hj => (hr j hj).1)) kyX4_take q_456 rfl (Or.inl hd3) hs3 (by decide) rfl rfl rfl (Nat.le_of_ble_eq_true rfl) ⟨Nat.le_of_ble_eq_true rfl, Nat.le_of_ble_eq_true rfl⟩ ⟨Nat.le_of_ble_eq_true rfl, Nat.le_of_ble_eq_true rfl⟩ dX2_accept_39 (fun r39 v39 hp39 => ?_)
  obtain ⟨rfl, g1, g2⟩ := hp39
  refine VV.eq (st2 := [.int (zb (tkb r x))]) rfl ?_
  have e4 := zrc_sp e3 g1 g2
  have f4 := f3.tr (g2.wide (a := q + 3) (b := q) (m := 13) (by omega) (by omega))
  clear g1
  refine n_ifb_ne C (pc := 42) (tgt := 57) dX2_accept_42 (by decide) (fun c_42 => ?_) (fun c_42 => ?_)
  · refine r_aload_n C (pc := 57) rfl rfl dX2_accept_57 ?_
    refine r_get C (pc := 58) (ci := 2) (k := 0) (w := .ref (q + 1)) rfl (by decide) inX2 (by decide) q_162 (Or.inl hd0) hs0 (zl_ref _ _) dX2_accept_58 ?_
    refine r_iload_n C (pc := 61) rfl rfl dX2_accept_61 ?_
    refine r_callV C (pc := 62) (st := []) (m_X1_append l G sh v39 N (q := x) pk e4.2.2.2.1 (hk c_42)) kyX1_append q_430 rfl (Or.inl hd1) hs1 (by decide) rfl rfl rfl (Nat.le_of_ble_eq_true rfl) ⟨Nat.le_of_ble_eq_true rfl, Nat.le_of_ble_eq_true rfl⟩ ⟨Nat.le_of_ble_eq_true rfl, Nat.le_of_ble_eq_true rfl⟩ dX2_accept_62 (fun r62 v62 hp62 => ?_)
    obtain ⟨rfl, g3, g4⟩ := hp62
    refine VV.eq (st2 := []) rfl ?_
    have e5 := zrc_kp e4 g3 g4
    clear g3
    refine r_aload_n C (pc := 65) rfl rfl dX2_accept_65 ?_
    refine r_iload_n C (pc := 66) rfl rfl dX2_accept_66 ?_
    refine r_callV C (pc := 67) (st := []) (m_X2_solve l G sh v62 N (t := t) hp e5 hV (con_tkr hr hx)) kyX2_solve q_460 rfl (Or.inl hd0) hs0 (by decide) rfl rfl rfl (Nat.le_of_ble_eq_true rfl) ⟨Nat.le_of_ble_eq_true rfl, Nat.le_of_ble_eq_true rfl⟩ ⟨Nat.le_of_ble_eq_true rfl, Nat.le_of_ble_eq_true rfl⟩ dX2_accept_67 (fun r67 v67 hp67 => ?_)
    obtain ⟨rfl, e6, f6⟩ := hp67
    refine VV.eq (st2 := []) rfl ?_
    refine r_iconst C (pc := 70) (x := (nI 1)) (by decide) dX2_accept_70 ?_
    exact r_iret C (pc := 71) rfl (rfl) dX2_accept_71 ⟨rfl, rfl, by rw [c_42]; rfl, by rw [c_42] at e6 ⊢; exact e6, (f4.tr (g4.wide (by omega) (by omega))).tr f6⟩
  · refine r_aload_n C (pc := 45) rfl rfl dX2_accept_45 ?_
    refine r_dup C (pc := 46) rfl dX2_accept_46 ?_
    refine r_get C (pc := 47) (ci := 2) (k := 6) (w := .int (nI sl)) rfl (by decide) inX2 (by decide) q_176 (Or.inl hd0) hs0 (zl_i (e4.2.1)) dX2_accept_47 ?_
    refine r_iconst C (pc := 50) (x := (nI 1)) (by decide) dX2_accept_50 ?_
    refine r_iadd C (pc := 51) (z := (nI (sl + 1))) (nI_add _ _) dX2_accept_51 ?_
    refine r_put C (pc := 52) (ci := 2) (k := 6) rfl (by decide) inX2 tyX2_ok nmX2 (by decide) rfl pfI rfl q_176 hd0 hs0 dX2_accept_52 ?_
    refine VV.gn (fun w52 ew52 => ?_)
    refine r_iconst C (pc := 55) (x := (nI 0)) (by decide) dX2_accept_55 ?_
    exact r_iret C (pc := 56) rfl (rfl) dX2_accept_56 ⟨rfl, rfl, by rw [c_42]; rfl, by rw [c_42] at e4 ⊢; rw [ew52]; exact zrc_f e4 (Or.inr (Or.inl ⟨rfl, rfl, rfl, rfl⟩)), by rw [ew52]; exact f4.z2 (by omega) (by omega)⟩
set_option maxRecDepth 100000 in
set_option maxHeartbeats 4000000 in
theorem m_X2_clear (l : Launch) (G : zG) (sh : zH) (v : zV) (N : Nat) {q : Nat} {V : Nat → Nat} {kp : List Nat} {r : Nat → Nat} {rk : Nat} {wt : List Nat} {so kt : Nat → Option Nat} {ar sl lg : Nat} (hp : zRC G sh N q) (hv : zrc v q V kp r rk wt so kt ar sl lg) : zm l G yX2_clear cX2_clear 1 none 1 [.ref q] sh v N (fun rr v1 => rr = none ∧ (∀ V2 : Nat → Nat, zrc v1 q V2 [] (fun _ => 0) 0 [] (fun _ => none) (fun _ => none) 0 0 0) ∧ zfr v v1 q 13) := by
  refine zM.of (by decide) rfl (Nat.le_of_ble_eq_true rfl) ?_
  intro p e s m args below meth c C
  obtain ⟨hB, hN, hs0, pk, ps, pf, pw, pg⟩ := id hp
  have hd0 : G.2.2.1 ≤ q ∧ q < N := ⟨hB, by omega⟩
  have hd1 : G.2.2.1 ≤ q + 1 ∧ q + 1 < N := ⟨by omega, by omega⟩
  have hd3 : G.2.2.1 ≤ q + 3 ∧ q + 3 < N := ⟨by omega, by omega⟩
  have hd5 : G.2.2.1 ≤ q + 5 ∧ q + 5 < N := ⟨by omega, by omega⟩
  have hd8 : G.2.2.1 ≤ q + 8 ∧ q + 8 < N := ⟨by omega, by omega⟩
  have hd10 : G.2.2.1 ≤ q + 10 ∧ q + 10 < N := ⟨by omega, by omega⟩
  have hs1 := pk.2.2.2.1
  have hs3 := ps.2.2.1
  have hs5 := pf.2.2.1
  have hs8 := pw.2.2.2.1
  have hs10 := pg.2.2.1
  refine r_aload_n C (pc := 0) rfl rfl dX2_clear_0 ?_
  refine r_get C (pc := 1) (ci := 2) (k := 0) (w := .ref (q + 1)) rfl (by decide) inX2 (by decide) q_162 (Or.inl hd0) hs0 (zl_ref _ _) dX2_clear_1 ?_
  refine r_callV C (pc := 4) (st := []) (m_X1_clear l G sh v N pk hv.2.2.2.1) kyX1_clear q_326 rfl (Or.inl hd1) hs1 (by decide) rfl rfl rfl (Nat.le_of_ble_eq_true rfl) ⟨Nat.le_of_ble_eq_true rfl, Nat.le_of_ble_eq_true rfl⟩ ⟨Nat.le_of_ble_eq_true rfl, Nat.le_of_ble_eq_true rfl⟩ dX2_clear_4 (fun r4 v4 hp4 => ?_)
  obtain ⟨rfl, g1, f1⟩ := hp4
  refine VV.eq (st2 := []) rfl ?_
  have e1 := zrc_kp hv g1 f1
  clear g1
  refine r_aload_n C (pc := 7) rfl rfl dX2_clear_7 ?_
  refine r_get C (pc := 8) (ci := 2) (k := 1) (w := .ref (q + 3)) rfl (by decide) inX2 (by decide) q_165 (Or.inl hd0) hs0 (zl_ref _ _) dX2_clear_8 ?_
  refine r_callV C (pc := 11) (st := []) (m_X4_clear l G sh v4 N ps) kyX4_clear q_327 rfl (Or.inl hd3) hs3 (by decide) rfl rfl rfl (Nat.le_of_ble_eq_true rfl) ⟨Nat.le_of_ble_eq_true rfl, Nat.le_of_ble_eq_true rfl⟩ ⟨Nat.le_of_ble_eq_true rfl, Nat.le_of_ble_eq_true rfl⟩ dX2_clear_11 (fun r11 v11 hp11 => ?_)
  obtain ⟨rfl, g1, f2⟩ := hp11
  refine VV.eq (st2 := []) rfl ?_
  have e2 := zrc_sp e1 g1 f2
  clear g1
  refine r_aload_n C (pc := 14) rfl rfl dX2_clear_14 ?_
  refine r_get C (pc := 15) (ci := 2) (k := 2) (w := .ref (q + 5)) rfl (by decide) inX2 (by decide) q_166 (Or.inl hd0) hs0 (zl_ref _ _) dX2_clear_15 ?_
  refine r_callV C (pc := 18) (st := []) (m_X0_clear l G sh v11 N pf e2.2.2.2.2.2.1) kyX0_clear q_331 rfl (Or.inl hd5) hs5 (by decide) rfl rfl rfl (Nat.le_of_ble_eq_true rfl) ⟨Nat.le_of_ble_eq_true rfl, Nat.le_of_ble_eq_true rfl⟩ ⟨Nat.le_of_ble_eq_true rfl, Nat.le_of_ble_eq_true rfl⟩ dX2_clear_18 (fun r18 v18 hp18 => ?_)
  obtain ⟨rfl, g1, f3⟩ := hp18
  refine VV.eq (st2 := []) rfl ?_
  have e3 := zrc_so e2 g1 f3
  clear g1
  refine r_aload_n C (pc := 21) rfl rfl dX2_clear_21 ?_
  refine r_get C (pc := 22) (ci := 2) (k := 3) (w := .ref (q + 8)) rfl (by decide) inX2 (by decide) q_169 (Or.inl hd0) hs0 (zl_ref _ _) dX2_clear_22 ?_
  refine r_callV C (pc := 25) (st := []) (m_X1_clear l G sh v18 N pw e3.2.2.2.2.2.2.1) kyX1_clear q_326 rfl (Or.inl hd8) hs8 (by decide) rfl rfl rfl (Nat.le_of_ble_eq_true rfl) ⟨Nat.le_of_ble_eq_true rfl, Nat.le_of_ble_eq_true rfl⟩ ⟨Nat.le_of_ble_eq_true rfl, Nat.le_of_ble_eq_true rfl⟩ dX2_clear_25 (fun r25 v25 hp25 => ?_)
  obtain ⟨rfl, g1, f4⟩ := hp25
  refine VV.eq (st2 := []) rfl ?_
  have e4 := zrc_wt e3 g1 f4
  clear g1
  refine r_aload_n C (pc := 28) rfl rfl dX2_clear_28 ?_
  refine r_get C (pc := 29) (ci := 2) (k := 4) (w := .ref (q + 10)) rfl (by decide) inX2 (by decide) q_171 (Or.inl hd0) hs0 (zl_ref _ _) dX2_clear_29 ?_
  refine r_callV C (pc := 32) (st := []) (m_X0_clear l G sh v25 N pg e4.2.2.2.2.2.2.2) kyX0_clear q_331 rfl (Or.inl hd10) hs10 (by decide) rfl rfl rfl (Nat.le_of_ble_eq_true rfl) ⟨Nat.le_of_ble_eq_true rfl, Nat.le_of_ble_eq_true rfl⟩ ⟨Nat.le_of_ble_eq_true rfl, Nat.le_of_ble_eq_true rfl⟩ dX2_clear_32 (fun r32 v32 hp32 => ?_)
  obtain ⟨rfl, g1, f5⟩ := hp32
  refine VV.eq (st2 := []) rfl ?_
  have e5 := zrc_kt e4 g1 f5
  clear g1
  refine r_aload_n C (pc := 35) rfl rfl dX2_clear_35 ?_
  refine r_iconst C (pc := 36) (x := (nI 0)) (by decide) dX2_clear_36 ?_
  refine r_put C (pc := 37) (ci := 2) (k := 5) rfl (by decide) inX2 tyX2_ok nmX2 (by decide) rfl pfI rfl q_174 hd0 hs0 dX2_clear_37 ?_
  refine VV.gn (fun w37 ew37 => ?_)
  refine r_aload_n C (pc := 40) rfl rfl dX2_clear_40 ?_
  refine r_iconst C (pc := 41) (x := (nI 0)) (by decide) dX2_clear_41 ?_
  refine r_put C (pc := 42) (ci := 2) (k := 6) rfl (by decide) inX2 tyX2_ok nmX2 (by decide) rfl pfI rfl q_176 hd0 hs0 dX2_clear_42 ?_
  refine VV.gn (fun w42 ew42 => ?_)
  refine r_aload_n C (pc := 45) rfl rfl dX2_clear_45 ?_
  refine r_iconst C (pc := 46) (x := (nI 0)) (by decide) dX2_clear_46 ?_
  refine r_put C (pc := 47) (ci := 2) (k := 7) rfl (by decide) inX2 tyX2_ok nmX2 (by decide) rfl pfI rfl q_178 hd0 hs0 dX2_clear_47 ?_
  refine VV.gn (fun w47 ew47 => ?_)
  exact r_vret C (pc := 50) rfl dX2_clear_50 ⟨rfl, rfl, rfl, (fun V2 => by
      have e6 := zrc_f (zrc_f (zrc_f e5 (ar1 := 0) (k := 5) (Or.inl ⟨rfl, rfl, rfl, rfl⟩)) (sl1 := 0) (k := 6) (Or.inr (Or.inl ⟨rfl, rfl, rfl, rfl⟩))) (lg1 := 0) (k := 7) (Or.inr (Or.inr ⟨rfl, rfl, rfl, rfl⟩))
      rw [← ew37, ← ew42, ← ew47] at e6
      exact zrc_V e6), by rw [ew47, ew42, ew37]; exact (((((((f1.wide (by omega) (by omega)).tr (f2.wide (by omega) (by omega))).tr (f3.wide (by omega) (by omega))).tr (f4.wide (by omega) (by omega))).tr (f5.wide (by omega) (by omega))).z2 (by omega) (by omega)).z2 (by omega) (by omega)).z2 (by omega) (by omega)⟩
set_option maxRecDepth 100000 in
set_option maxHeartbeats 4000000 in
theorem m_X2_copyFrom (l : Launch) (G : zG) (sh : zH) (v : zV) (N : Nat) {q o : Nat} {V : Nat → Nat} {kp : List Nat} {r : Nat → Nat} {rk : Nat} {wt : List Nat} {so kt : Nat → Option Nat} {ar sl lg : Nat} (hp : zRC G sh N q) (hpo : zRC G sh N o) (hv : zrc v o V kp r rk wt so kt ar sl lg) (hno : o + 13 ≤ q ∨ q + 13 ≤ o) : zm l G yX2_copyFrom cX2_copyFrom 2 none 3 [.ref q, .ref o] sh v N (fun rr v1 => rr = none ∧ zrc v1 q V kp r rk wt so kt ar sl lg ∧ zfr v v1 q 13) := by
  refine zM.of (by decide) rfl (Nat.le_of_ble_eq_true rfl) ?_
  intro p e s m args below meth c C
  obtain ⟨hB, hN, hs0, pk, ps, pf, pw, pg⟩ := id hp
  have hd0 : G.2.2.1 ≤ q ∧ q < N := ⟨hB, by omega⟩
  have hd1 : G.2.2.1 ≤ q + 1 ∧ q + 1 < N := ⟨by omega, by omega⟩
  have hd3 : G.2.2.1 ≤ q + 3 ∧ q + 3 < N := ⟨by omega, by omega⟩
  have hd5 : G.2.2.1 ≤ q + 5 ∧ q + 5 < N := ⟨by omega, by omega⟩
  have hd8 : G.2.2.1 ≤ q + 8 ∧ q + 8 < N := ⟨by omega, by omega⟩
  have hd10 : G.2.2.1 ≤ q + 10 ∧ q + 10 < N := ⟨by omega, by omega⟩
  have hs1 := pk.2.2.2.1
  have hs3 := ps.2.2.1
  have hs5 := pf.2.2.1
  have hs8 := pw.2.2.2.1
  have hs10 := pg.2.2.1
  obtain ⟨ohB, ohN, ho0, opk, ops, opf, opw, opg⟩ := id hpo
  have gd0 : G.2.2.1 ≤ o ∧ o < N := ⟨ohB, by omega⟩
  have gd1 : G.2.2.1 ≤ o + 1 ∧ o + 1 < N := ⟨by omega, by omega⟩
  have gd3 : G.2.2.1 ≤ o + 3 ∧ o + 3 < N := ⟨by omega, by omega⟩
  have gd5 : G.2.2.1 ≤ o + 5 ∧ o + 5 < N := ⟨by omega, by omega⟩
  have gd8 : G.2.2.1 ≤ o + 8 ∧ o + 8 < N := ⟨by omega, by omega⟩
  have gd10 : G.2.2.1 ≤ o + 10 ∧ o + 10 < N := ⟨by omega, by omega⟩
  have ho1 := opk.2.2.2.1
  have ho3 := ops.2.2.1
  have ho5 := opf.2.2.1
  have ho8 := opw.2.2.2.1
  have ho10 := opg.2.2.1
  refine r_aload_n C (pc := 0) rfl rfl dX2_copyFrom_0 ?_
  refine r_get C (pc := 1) (ci := 2) (k := 0) (w := .ref (q + 1)) rfl (by decide) inX2 (by decide) q_162 (Or.inl hd0) hs0 (zl_ref _ _) dX2_copyFrom_1 ?_
  refine r_aload_n C (pc := 4) rfl rfl dX2_copyFrom_4 ?_
  refine r_get C (pc := 5) (ci := 2) (k := 0) (w := .ref (o + 1)) rfl (by decide) inX2 (by decide) q_162 (Or.inl gd0) ho0 (zl_ref _ _) dX2_copyFrom_5 ?_
  refine r_callV C (pc := 8) (st := []) (m_X1_copyFrom l G sh v N pk opk hv.2.2.2.1 (by omega)) kyX1_copyFrom q_299 rfl (Or.inl hd1) hs1 (by decide) rfl rfl rfl (Nat.le_of_ble_eq_true rfl) ⟨Nat.le_of_ble_eq_true rfl, Nat.le_of_ble_eq_true rfl⟩ ⟨Nat.le_of_ble_eq_true rfl, Nat.le_of_ble_eq_true rfl⟩ dX2_copyFrom_8 (fun r8 v8 hp8 => ?_)
  obtain ⟨rfl, g1, f1⟩ := hp8
  refine VV.eq (st2 := []) rfl ?_
  have F1 : zfr v v8 q 13 := (f1.wide (by omega) (by omega))
  have o1 := hv.kept (v1 := v8) (fun b h1 h2 => F1 b (by omega))
  refine r_aload_n C (pc := 11) rfl rfl dX2_copyFrom_11 ?_
  refine r_get C (pc := 12) (ci := 2) (k := 1) (w := .ref (q + 3)) rfl (by decide) inX2 (by decide) q_165 (Or.inl hd0) hs0 (zl_ref _ _) dX2_copyFrom_12 ?_
  refine r_aload_n C (pc := 15) rfl rfl dX2_copyFrom_15 ?_
  refine r_get C (pc := 16) (ci := 2) (k := 1) (w := .ref (o + 3)) rfl (by decide) inX2 (by decide) q_165 (Or.inl gd0) ho0 (zl_ref _ _) dX2_copyFrom_16 ?_
  refine r_callV C (pc := 19) (st := []) (m_X4_copyFrom l G sh v8 N ps ops o1.2.2.2.2.1 (by omega)) kyX4_copyFrom q_300 rfl (Or.inl hd3) hs3 (by decide) rfl rfl rfl (Nat.le_of_ble_eq_true rfl) ⟨Nat.le_of_ble_eq_true rfl, Nat.le_of_ble_eq_true rfl⟩ ⟨Nat.le_of_ble_eq_true rfl, Nat.le_of_ble_eq_true rfl⟩ dX2_copyFrom_19 (fun r19 v19 hp19 => ?_)
  obtain ⟨rfl, g2, f2⟩ := hp19
  refine VV.eq (st2 := []) rfl ?_
  have F2 : zfr v v19 q 13 := F1.tr (f2.wide (by omega) (by omega))
  have o2 := hv.kept (v1 := v19) (fun b h1 h2 => F2 b (by omega))
  have g1 := g1.kept (f2 _ (by omega)) (f2 _ (by omega))
  refine r_aload_n C (pc := 22) rfl rfl dX2_copyFrom_22 ?_
  refine r_get C (pc := 23) (ci := 2) (k := 2) (w := .ref (q + 5)) rfl (by decide) inX2 (by decide) q_166 (Or.inl hd0) hs0 (zl_ref _ _) dX2_copyFrom_23 ?_
  refine r_aload_n C (pc := 26) rfl rfl dX2_copyFrom_26 ?_
  refine r_get C (pc := 27) (ci := 2) (k := 2) (w := .ref (o + 5)) rfl (by decide) inX2 (by decide) q_166 (Or.inl gd0) ho0 (zl_ref _ _) dX2_copyFrom_27 ?_
  refine r_callV C (pc := 30) (st := []) (m_X0_copyFrom l G sh v19 N pf opf o2.2.2.2.2.2.1 (by omega)) kyX0_copyFrom q_305 rfl (Or.inl hd5) hs5 (by decide) rfl rfl rfl (Nat.le_of_ble_eq_true rfl) ⟨Nat.le_of_ble_eq_true rfl, Nat.le_of_ble_eq_true rfl⟩ ⟨Nat.le_of_ble_eq_true rfl, Nat.le_of_ble_eq_true rfl⟩ dX2_copyFrom_30 (fun r30 v30 hp30 => ?_)
  obtain ⟨rfl, g3, f3⟩ := hp30
  refine VV.eq (st2 := []) rfl ?_
  have F3 : zfr v v30 q 13 := F2.tr (f3.wide (by omega) (by omega))
  have o3 := hv.kept (v1 := v30) (fun b h1 h2 => F3 b (by omega))
  have g1 := g1.kept (f3 _ (by omega)) (f3 _ (by omega))
  have g2 := g2.kept (f3 _ (by omega)) (f3 _ (by omega))
  refine r_aload_n C (pc := 33) rfl rfl dX2_copyFrom_33 ?_
  refine r_get C (pc := 34) (ci := 2) (k := 3) (w := .ref (q + 8)) rfl (by decide) inX2 (by decide) q_169 (Or.inl hd0) hs0 (zl_ref _ _) dX2_copyFrom_34 ?_
  refine r_aload_n C (pc := 37) rfl rfl dX2_copyFrom_37 ?_
  refine r_get C (pc := 38) (ci := 2) (k := 3) (w := .ref (o + 8)) rfl (by decide) inX2 (by decide) q_169 (Or.inl gd0) ho0 (zl_ref _ _) dX2_copyFrom_38 ?_
  refine r_callV C (pc := 41) (st := []) (m_X1_copyFrom l G sh v30 N pw opw o3.2.2.2.2.2.2.1 (by omega)) kyX1_copyFrom q_299 rfl (Or.inl hd8) hs8 (by decide) rfl rfl rfl (Nat.le_of_ble_eq_true rfl) ⟨Nat.le_of_ble_eq_true rfl, Nat.le_of_ble_eq_true rfl⟩ ⟨Nat.le_of_ble_eq_true rfl, Nat.le_of_ble_eq_true rfl⟩ dX2_copyFrom_41 (fun r41 v41 hp41 => ?_)
  obtain ⟨rfl, g4, f4⟩ := hp41
  refine VV.eq (st2 := []) rfl ?_
  have F4 : zfr v v41 q 13 := F3.tr (f4.wide (by omega) (by omega))
  have o4 := hv.kept (v1 := v41) (fun b h1 h2 => F4 b (by omega))
  have g1 := g1.kept (f4 _ (by omega)) (f4 _ (by omega))
  have g2 := g2.kept (f4 _ (by omega)) (f4 _ (by omega))
  have g3 := g3.kept (f4 _ (by omega)) (f4 _ (by omega)) (f4 _ (by omega))
  refine r_aload_n C (pc := 44) rfl rfl dX2_copyFrom_44 ?_
  refine r_get C (pc := 45) (ci := 2) (k := 4) (w := .ref (q + 10)) rfl (by decide) inX2 (by decide) q_171 (Or.inl hd0) hs0 (zl_ref _ _) dX2_copyFrom_45 ?_
  refine r_aload_n C (pc := 48) rfl rfl dX2_copyFrom_48 ?_
  refine r_get C (pc := 49) (ci := 2) (k := 4) (w := .ref (o + 10)) rfl (by decide) inX2 (by decide) q_171 (Or.inl gd0) ho0 (zl_ref _ _) dX2_copyFrom_49 ?_
  refine r_callV C (pc := 52) (st := []) (m_X0_copyFrom l G sh v41 N pg opg o4.2.2.2.2.2.2.2 (by omega)) kyX0_copyFrom q_305 rfl (Or.inl hd10) hs10 (by decide) rfl rfl rfl (Nat.le_of_ble_eq_true rfl) ⟨Nat.le_of_ble_eq_true rfl, Nat.le_of_ble_eq_true rfl⟩ ⟨Nat.le_of_ble_eq_true rfl, Nat.le_of_ble_eq_true rfl⟩ dX2_copyFrom_52 (fun r52 v52 hp52 => ?_)
  obtain ⟨rfl, g5, f5⟩ := hp52
  refine VV.eq (st2 := []) rfl ?_
  have F5 : zfr v v52 q 13 := F4.tr (f5.wide (by omega) (by omega))
  have o5 := hv.kept (v1 := v52) (fun b h1 h2 => F5 b (by omega))
  have g1 := g1.kept (f5 _ (by omega)) (f5 _ (by omega))
  have g2 := g2.kept (f5 _ (by omega)) (f5 _ (by omega))
  have g3 := g3.kept (f5 _ (by omega)) (f5 _ (by omega)) (f5 _ (by omega))
  have g4 := g4.kept (f5 _ (by omega)) (f5 _ (by omega))
  refine r_aload_n C (pc := 55) rfl rfl dX2_copyFrom_55 ?_
  refine r_aload_n C (pc := 56) rfl rfl dX2_copyFrom_56 ?_
  refine r_get C (pc := 57) (ci := 2) (k := 5) (w := .int (nI ar)) rfl (by decide) inX2 (by decide) q_174 (Or.inl gd0) ho0 (zl_i (o5.1)) dX2_copyFrom_57 ?_
  refine r_put C (pc := 60) (ci := 2) (k := 5) rfl (by decide) inX2 tyX2_ok nmX2 (by decide) rfl pfI rfl q_174 hd0 hs0 dX2_copyFrom_60 ?_
  refine VV.gn (fun w60 ew60 => ?_)
  refine r_aload_n C (pc := 63) rfl rfl dX2_copyFrom_63 ?_
  refine r_aload_n C (pc := 64) rfl rfl dX2_copyFrom_64 ?_
  refine r_get C (pc := 65) (ci := 2) (k := 6) (w := .int (nI sl)) rfl (by decide) inX2 (by decide) q_176 (Or.inl gd0) ho0 (zl_i (by rw [ew60, z2_addr (by omega)]; exact o5.2.1)) dX2_copyFrom_65 ?_
  refine r_put C (pc := 68) (ci := 2) (k := 6) rfl (by decide) inX2 tyX2_ok nmX2 (by decide) rfl pfI rfl q_176 hd0 hs0 dX2_copyFrom_68 ?_
  refine VV.gn (fun w68 ew68 => ?_)
  refine r_aload_n C (pc := 71) rfl rfl dX2_copyFrom_71 ?_
  refine r_aload_n C (pc := 72) rfl rfl dX2_copyFrom_72 ?_
  refine r_get C (pc := 73) (ci := 2) (k := 7) (w := .int (nI lg)) rfl (by decide) inX2 (by decide) q_178 (Or.inl gd0) ho0 (zl_i (by rw [ew68, z2_addr (by omega), ew60, z2_addr (by omega)]; exact o5.2.2.1)) dX2_copyFrom_73 ?_
  refine r_put C (pc := 76) (ci := 2) (k := 7) rfl (by decide) inX2 tyX2_ok nmX2 (by decide) rfl pfI rfl q_178 hd0 hs0 dX2_copyFrom_76 ?_
  refine VV.gn (fun w76 ew76 => ?_)
  exact r_vret C (pc := 79) rfl dX2_copyFrom_79 ⟨rfl, rfl, rfl, ⟨by rw [ew76, z2_ne (by omega), ew68, z2_ne (by omega), ew60, z2_self], by rw [ew76, z2_ne (by omega), ew68, z2_self], by rw [ew76, z2_self], g1.kept (by rw [ew76, z2_addr (by omega), ew68, z2_addr (by omega), ew60, z2_addr (by omega)]) (by rw [ew76, z2_addr (by omega), ew68, z2_addr (by omega), ew60, z2_addr (by omega)]), g2.kept (by rw [ew76, z2_addr (by omega), ew68, z2_addr (by omega), ew60, z2_addr (by omega)]) (by rw [ew76, z2_addr (by omega), ew68, z2_addr (by omega), ew60, z2_addr (by omega)]), g3.kept (by rw [ew76, z2_addr (by omega), ew68, z2_addr (by omega), ew60, z2_addr (by omega)]) (by rw [ew76, z2_addr (by omega), ew68, z2_addr (by omega), ew60, z2_addr (by omega)]) (by rw [ew76, z2_addr (by omega), ew68, z2_addr (by omega), ew60, z2_addr (by omega)]), g4.kept (by rw [ew76, z2_addr (by omega), ew68, z2_addr (by omega), ew60, z2_addr (by omega)]) (by rw [ew76, z2_addr (by omega), ew68, z2_addr (by omega), ew60, z2_addr (by omega)]), g5.kept (by rw [ew76, z2_addr (by omega), ew68, z2_addr (by omega), ew60, z2_addr (by omega)]) (by rw [ew76, z2_addr (by omega), ew68, z2_addr (by omega), ew60, z2_addr (by omega)]) (by rw [ew76, z2_addr (by omega), ew68, z2_addr (by omega), ew60, z2_addr (by omega)])⟩, by rw [ew76, ew68, ew60]; exact ((F5.z2 (by omega) (by omega)).z2 (by omega) (by omega)).z2 (by omega) (by omega)⟩
