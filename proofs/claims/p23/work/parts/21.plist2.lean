theorem nI_decp {e : Nat} (h : 0 < e) : nI e + Int32.ofInt (-1) = nI (e - 1) := by
  obtain ⟨f, rfl⟩ : ∃ f, e = f + 1 := ⟨e - 1, by omega⟩
  exact nI_dec f
theorem sub_le0 {x y : Nat} (h : x ≤ y) (hy : y < 2 ^ 30) : nI x - nI y ≤ 0 := by
  rw [Int32.le_iff_toInt_le, pk_sub_toInt (by omega) hy]
  show (x : Int) - y ≤ 0
  omega
theorem m1_lt {n : Nat} (h : n < 2 ^ 31) : ¬ nI n ≤ (-1) := by
  rw [Int32.le_iff_toInt_le, nI_toInt h]
  show ¬ ((n : Int) ≤ -1)
  omega
theorem xor20 {x y : Nat} (hx : x < 2 ^ 20) (hy : y < 2 ^ 20) : x ^^^ y < 2 ^ 20 := Nat.xor_lt_two_pow hx hy
theorem drop_tail (ps : List Nat) (d : Nat) : (ps.drop d).eraseIdx 0 = ps.drop (d + 1) := by simp
theorem take_s {ps : List Nat} {i : Nat} (h : i < ps.length) : ps.take (i + 1) = ps.take i ++ [ps.getD i 0] := by
  rw [List.take_add_one]
  simp [List.getD, List.getElem?_eq_getElem h]
def tk1 (s q : Nat) : Nat := if (q / 256) &&& (s / 256) = 0 then q else q ^^^ s
def tko (s : Nat) (ps : List Nat) : List Nat := (ps.map (tk1 s)).filter (fun q => decide (q / 256 ≠ 0))
theorem tko_s {s : Nat} {ps : List Nat} {i : Nat} (h : i < ps.length) : tko s (ps.take (i + 1)) = tko s (ps.take i) ++ (if tk1 s (ps.getD i 0) / 256 = 0 then [] else [tk1 s (ps.getD i 0)]) := by
  rw [take_s h]
  simp only [tko, List.map_append, List.filter_append, List.map_cons, List.map_nil]
  by_cases h0 : tk1 s (ps.getD i 0) / 256 = 0
  · rw [if_pos h0, List.filter_cons_of_neg (by rw [h0]; decide), List.filter_nil]
  · rw [if_neg h0, List.filter_cons_of_pos (by exact decide_eq_true h0), List.filter_nil]
theorem tko_skip {s : Nat} {ps out : List Nat} {i q1 : Nat} (h : i < ps.length) (ho : tko s (ps.take i) = out) (hq : tk1 s (ps.getD i 0) = q1) (h0 : q1 / 256 = 0) : tko s (ps.take (i + 1)) = out := by
  rw [tko_s h, hq, if_pos h0, List.append_nil]; exact ho
theorem tko_put {s : Nat} {ps out : List Nat} {i q1 : Nat} (h : i < ps.length) (ho : tko s (ps.take i) = out) (hq : tk1 s (ps.getD i 0) = q1) (h0 : 0 < q1 / 256) : tko s (ps.take (i + 1)) = out ++ [q1] := by
  rw [tko_s h, hq, if_neg (by omega), ho]
theorem tk1_0 {s q : Nat} (h : (q / 256) &&& (s / 256) = 0) : tk1 s q = q := if_pos h
theorem tk1_1 {s q : Nat} (h : 0 < (q / 256) &&& (s / 256)) : tk1 s q = q ^^^ s := if_neg (by omega)
def rfs : List Nat → Nat
  | [] => 0
  | q :: t => if pop (q / 256) = 1 then 0 else rfs t + 1
theorem rfs_at : ∀ (ps : List Nat) (i : Nat), (∀ j, j < i → pop (ps.getD j 0 / 256) ≠ 1) → i < ps.length → pop (ps.getD i 0 / 256) = 1 → rfs ps = i
  | [], i, _, h, _ => by simp at h
  | q :: t, 0, _, _, h => if_pos h
  | q :: t, i + 1, h1, h2, h3 => by
    have h0 : ¬ pop (q / 256) = 1 := h1 0 (by omega)
    show (if _ then 0 else _) = _
    rw [if_neg h0, rfs_at t i (fun j hj => h1 (j + 1) (by omega)) (by simpa using h2) h3]
theorem rfs_end : ∀ (ps : List Nat), (∀ j, j < ps.length → pop (ps.getD j 0 / 256) ≠ 1) → rfs ps = ps.length
  | [], _ => rfl
  | q :: t, h1 => by
    have h0 : ¬ pop (q / 256) = 1 := h1 0 (by simp)
    show (if _ then 0 else _) = _
    rw [if_neg h0, rfs_end t (fun j hj => h1 (j + 1) (by simpa using hj))]
    rfl
def mcb (c : Nat → Nat) : Nat → Nat
  | 0 => 0
  | n + 1 => if c (mcb c n) < c n then n else mcb c n
def mcc (q : Nat) (ps : List Nat) (i : Nat) : Nat := pop ((q / 256) &&& (ps.getD i 0 / 256))
theorem mcc_le (q : Nat) (ps : List Nat) (i : Nat) : mcc q ps i ≤ 12 := pop_le _
theorem mcb_lt (c : Nat → Nat) : ∀ n, 0 < n → mcb c n < n
  | 1, _ => by
    show (if _ then 0 else 0) < 1
    split <;> decide
  | n + 2, _ => by
    have := mcb_lt c (n + 1) (by omega)
    show (if _ then n + 1 else _) < n + 2
    split
    · exact Nat.lt_succ_self _
    · omega
theorem gd_mem {ps : List Nat} {P : Nat → Prop} {i : Nat} (h : ∀ q ∈ ps, P q) (hi : i < ps.length) : P (ps.getD i 0) := by
  rw [show ps.getD i 0 = ps[i] by simp [List.getD, hi]]
  exact h _ (List.getElem_mem hi)
theorem gd_lt20 {ps : List Nat} {i : Nat} (h : ∀ q ∈ ps, q < 2 ^ 20) : ps.getD i 0 < 2 ^ 20 := by
  rcases Nat.lt_or_ge i ps.length with hi | hi
  · exact gd_mem h hi
  · rw [gd_ge hi]; decide
set_option maxRecDepth 100000 in
set_option maxHeartbeats 4000000 in
theorem m_X1_removeFrontsBeyond (l : Launch) (G : zG) (sh : zH) (v : zV) (N : Nat) {a cap : Nat} {ps : List Nat} {b : Nat} (hp : zPL G sh N a cap) (hv : zpl v a cap ps) (hb : b < 2 ^ 30) : zm l G yX1_removeFrontsBeyond cX1_removeFrontsBeyond 3 none 1 [.ref a, .int (nI b)] sh v N (fun r v1 => r = none ∧ zpl v1 a cap (ps.drop (ps.length - b)) ∧ zfr v v1 a 2) := by
  refine zM.of (by decide) rfl (Nat.le_of_ble_eq_true rfl) ?_
  intro p e s m args below meth c C
  obtain ⟨hB, hN, hcap, hs0, hs1⟩ := id hp
  obtain ⟨h1, h2, h3⟩ := id hv
  have hd0 : G.2.2.1 ≤ a ∧ a < N := ⟨hB, by omega⟩
  have hd1 : G.2.2.1 ≤ a + 1 ∧ a + 1 < N := ⟨by omega, hN⟩
  have loop : ∀ (n e_ : Nat) (v' : zV), e_ < n → e_ ≤ ps.length - b → zpl v' a cap (ps.drop (ps.length - b - e_)) → zfr v v' a 2 → VV p l e ({ frames := 1, cells := 0, slots := 0, locals := 32 * 1 }) s m args below meth c 0 0 (zQ below (fun r sh1 v1 N1 => sh1 = sh ∧ N1 = N ∧ (r = none ∧ zpl v1 a cap (ps.drop (ps.length - b)) ∧ zfr v v1 a 2)) G args s 0 0) G 3 sh v' N 7 [some (.ref a), some (.int (nI b)), some (.int (nI e_))] [] := by
    intro n
    induction n with
    | zero => intro e_ v' hm; omega
    | succ n ih =>
      intro e v' hm he e1 e3
      refine r_iload_n C (pc := 7) rfl rfl dX1_removeFrontsBeyond_7 ?_
      refine n_if_le C (pc := 8) (tgt := 23) (by omega) dX1_removeFrontsBeyond_8 (by decide) (fun c_8 => ?_) (fun c_8 => ?_)
      · exact r_vret C (pc := 23) rfl dX1_removeFrontsBeyond_23 ⟨rfl, rfl, rfl, by rw [c_8, Nat.sub_zero] at e1; exact e1, e3⟩
      · refine r_aload_n C (pc := 11) rfl rfl dX1_removeFrontsBeyond_11 ?_
        refine r_iconst C (pc := 12) (x := (nI 0)) (by decide) dX1_removeFrontsBeyond_12 ?_
        refine r_callV C (pc := 13) (st := []) (m_X1_removeAt l G sh v' N (ps := (ps.drop (ps.length - b - e))) (k := 0) hp e1 (by simp; omega)) kyX1_removeAt q_374 rfl (Or.inl hd0) hs0 (by decide) rfl rfl rfl (Nat.le_of_ble_eq_true rfl) ⟨Nat.le_of_ble_eq_true rfl, Nat.le_of_ble_eq_true rfl⟩ ⟨Nat.le_of_ble_eq_true rfl, Nat.le_of_ble_eq_true rfl⟩ dX1_removeFrontsBeyond_13 (fun r13 v13 hp13 => ?_)
        obtain ⟨rfl, g1, g2⟩ := hp13
        refine VV.eq (st2 := [.int (nI ((ps.drop (ps.length - b - e)).getD 0 0))]) rfl ?_
        refine r_pop C (pc := 16) rfl dX1_removeFrontsBeyond_16 ?_
        refine r_iinc C (pc := 17) (lv2 := [some (.ref a), some (.int (nI b)), some (.int (nI (e - 1)))]) (y := (nI (e - 1))) rfl (nI_decp c_8) (Nat.le_of_ble_eq_true rfl) rfl rfl dX1_removeFrontsBeyond_17 ?_
        refine r_goto C (pc := 20) (tgt := 7) dX1_removeFrontsBeyond_20 (by decide) ?_
        exact ih (e - 1) v13 (by omega) (by omega) (by rw [show ps.length - b - (e - 1) = ps.length - b - e + 1 by omega, ← drop_tail]; exact g1) (e3.tr g2)
  rcases Nat.lt_or_ge b ps.length with hb2 | hb2
  · refine r_aload_n C (pc := 0) rfl rfl dX1_removeFrontsBeyond_0 ?_
    refine r_get C (pc := 1) (ci := 1) (k := 1) (w := .int (nI ps.length)) rfl (by decide) inX1 (by decide) q_120 (Or.inl hd0) hs0 (zl_i (h1)) dX1_removeFrontsBeyond_1 ?_
    refine r_iload_n C (pc := 4) rfl rfl dX1_removeFrontsBeyond_4 ?_
    refine r_isub C (pc := 5) (z := (nI (ps.length - b))) (pk_sub (by omega)) dX1_removeFrontsBeyond_5 ?_
    refine r_istore_n C (pc := 6) (lv2 := [some (.ref a), some (.int (nI b)), some (.int (nI (ps.length - b)))]) rfl (Nat.le_of_ble_eq_true rfl) rfl rfl dX1_removeFrontsBeyond_6 ?_
    exact loop (ps.length - b + 1) (ps.length - b) v (by omega) (by omega) (by rw [show ps.length - b - (ps.length - b) = 0 by omega, List.drop_zero]; exact hv) zfr.rf
  · refine r_aload_n C (pc := 0) rfl rfl dX1_removeFrontsBeyond_0 ?_
    refine r_get C (pc := 1) (ci := 1) (k := 1) (w := .int (nI ps.length)) rfl (by decide) inX1 (by decide) q_120 (Or.inl hd0) hs0 (zl_i (h1)) dX1_removeFrontsBeyond_1 ?_
    refine r_iload_n C (pc := 4) rfl rfl dX1_removeFrontsBeyond_4 ?_
    refine r_isub C (pc := 5) (z := (nI ps.length - nI b)) (rfl) dX1_removeFrontsBeyond_5 ?_
    refine r_istore_n C (pc := 6) (lv2 := [some (.ref a), some (.int (nI b)), some (.int (nI ps.length - nI b))]) rfl (Nat.le_of_ble_eq_true rfl) rfl rfl dX1_removeFrontsBeyond_6 ?_
    refine r_iload_n C (pc := 7) rfl rfl dX1_removeFrontsBeyond_7 ?_
    refine r_if_le C (pc := 8) (tgt := 23) dX1_removeFrontsBeyond_8 (by decide) (fun c_8 => ?_) (fun c_8 => by exfalso; exact c_8 (sub_le0 hb2 hb))
    exact r_vret C (pc := 23) rfl dX1_removeFrontsBeyond_23 ⟨rfl, rfl, rfl, by rw [show ps.length - b = 0 by omega, List.drop_zero]; exact hv, zfr.rf⟩
set_option maxRecDepth 100000 in
set_option maxHeartbeats 4000000 in
theorem m_X1_takeOut (l : Launch) (G : zG) (sh : zH) (v : zV) (N : Nat) {a cap : Nat} {ps : List Nat} {q0 : Nat} (hp : zPL G sh N a cap) (hv : zpl v a cap ps) (hq0 : q0 < 2 ^ 20) (hps : ∀ q ∈ ps, q < 2 ^ 20) : zm l G yX1_takeOut cX1_takeOut 5 none 1 [.ref a, .int (nI q0)] sh v N (fun r v1 => r = none ∧ zpl v1 a cap (tko q0 ps) ∧ zfr v v1 a 2) := by
  refine zM.of (by decide) rfl (Nat.le_of_ble_eq_true rfl) ?_
  intro p e s m args below meth c C
  obtain ⟨hB, hN, hcap, hs0, hs1⟩ := id hp
  obtain ⟨h1, h2, h3⟩ := id hv
  have hd0 : G.2.2.1 ≤ a ∧ a < N := ⟨hB, by omega⟩
  have hd1 : G.2.2.1 ≤ a + 1 ∧ a + 1 < N := ⟨by omega, hN⟩
  have loop : ∀ (n i : Nat) (out : List Nat) (v' : zV), ps.length - i < n → tko q0 (ps.take i) = out → out.length ≤ i → i ≤ ps.length → v' a 1 = nI ps.length → (∀ j, j < out.length → v' (a + 1) j = nI (out.getD j 0)) → (∀ j, i ≤ j → j < ps.length → v' (a + 1) j = nI (ps.getD j 0)) → zfr v v' a 2 → VV p l e ({ frames := 1, cells := 0, slots := 0, locals := 32 * 1 }) s m args below meth c 0 0 (zQ below (fun r sh1 v1 N1 => sh1 = sh ∧ N1 = N ∧ (r = none ∧ zpl v1 a cap (tko q0 ps) ∧ zfr v v1 a 2)) G args s 0 0) G 5 sh v' N 4 [some (.ref a), some (.int (nI q0)), some (.int (nI out.length)), some (.int (nI i)), none] [] := by
    intro n
    induction n with
    | zero => intro i out v' hm; omega
    | succ n ih =>
      intro i out v' hm ho hoi hil e1 e2 e3 e4
      refine r_iload_n C (pc := 4) rfl rfl dX1_takeOut_4 ?_
      refine r_aload_n C (pc := 5) rfl rfl dX1_takeOut_5 ?_
      refine r_get C (pc := 6) (ci := 1) (k := 1) (w := .int (nI ps.length)) rfl (by decide) inX1 (by decide) q_120 (Or.inl hd0) hs0 (zl_i (e1)) dX1_takeOut_6 ?_
      refine n_icmp_ge C (pc := 9) (tgt := 73) (by omega) (by omega) dX1_takeOut_9 (by decide) (fun c_9 => ?_) (fun c_9 => ?_)
      · refine r_aload_n C (pc := 73) rfl rfl dX1_takeOut_73 ?_
        refine r_iload_n C (pc := 74) rfl rfl dX1_takeOut_74 ?_
        refine r_put C (pc := 75) (ci := 1) (k := 1) rfl (by decide) inX1 tyX1_ok nmX1 (by decide) rfl pfI rfl q_120 hd0 hs0 dX1_takeOut_75 ?_
        refine VV.gn (fun w75 ew75 => ?_)
        exact r_vret C (pc := 78) rfl dX1_takeOut_78 ⟨rfl, rfl, rfl, ⟨by rw [ew75, z2_self, show tko q0 ps = out by rw [← ho, List.take_of_length_le c_9]], by rw [show tko q0 ps = out by rw [← ho, List.take_of_length_le c_9]]; omega, fun j hj => by
          rw [show tko q0 ps = out by rw [← ho, List.take_of_length_le c_9]] at hj ⊢
          rw [ew75, z2_addr (by omega)]; exact e2 j hj⟩, by rw [ew75]; exact e4.z2 (by omega) (by omega)⟩
      · refine r_iload_n C (pc := 12) rfl rfl dX1_takeOut_12 ?_
        refine r_aload_n C (pc := 13) rfl rfl dX1_takeOut_13 ?_
        refine r_get C (pc := 14) (ci := 1) (k := 0) (w := .ref (a + 1)) rfl (by decide) inX1 (by decide) q_119 (Or.inl hd0) hs0 (zl_ref _ _) dX1_takeOut_14 ?_
        refine r_alen C (pc := 17) (x := nI cap) (Or.inl hd1) hs1 (by decide) rfl rfl dX1_takeOut_17 ?_
        refine n_icmp_ge C (pc := 18) (tgt := 73) (by omega) (by omega) dX1_takeOut_18 (by decide) (fun c_18 => by exfalso; omega) (fun c_18 => ?_)
        have hqi : ps.getD i 0 < 2 ^ 20 := gd_lt20 hps
        refine r_aload_n C (pc := 21) rfl rfl dX1_takeOut_21 ?_
        refine r_get C (pc := 22) (ci := 1) (k := 0) (w := .ref (a + 1)) rfl (by decide) inX1 (by decide) q_119 (Or.inl hd0) hs0 (zl_ref _ _) dX1_takeOut_22 ?_
        refine r_iload_n C (pc := 25) rfl rfl dX1_takeOut_25 ?_
        refine r_iald C (pc := 26) (x := (nI (ps.getD i 0))) (Or.inl hd1) hs1 (by omega) (by omega) (e3 i (Nat.le_refl i) c_9) dX1_takeOut_26 ?_
        refine r_istore C (pc := 27) (lv2 := [some (.ref a), some (.int (nI q0)), some (.int (nI out.length)), some (.int (nI i)), some (.int (nI (ps.getD i 0)))]) (Nat.le_of_ble_eq_true rfl) rfl rfl dX1_takeOut_27 ?_
        refine r_iload C (pc := 29) rfl dX1_takeOut_29 ?_
        refine r_callSN C (pc := 31) (st := []) (m_X6_setIn l G sh v' N (q := (ps.getD i 0)) (by omega)) kyX6_setIn q_445 rfl rfl (Nat.le_of_ble_eq_true rfl) ⟨Nat.le_of_ble_eq_true rfl, Nat.le_of_ble_eq_true rfl⟩ ⟨Nat.le_of_ble_eq_true rfl, Nat.le_of_ble_eq_true rfl⟩ dX1_takeOut_31 (fun r31 v31 hp31 => ?_)
        obtain ⟨rfl, ehp31⟩ := hp31
        refine VV.vq ehp31 ?_
        refine VV.eq (st2 := [.int (nI ((ps.getD i 0) / 256))]) rfl ?_
        refine r_iload_n C (pc := 34) rfl rfl dX1_takeOut_34 ?_
        refine r_callSN C (pc := 35) (st := [.int (nI ((ps.getD i 0) / 256))]) (m_X6_setIn l G sh v' N (q := q0) (by omega)) kyX6_setIn q_445 rfl rfl (Nat.le_of_ble_eq_true rfl) ⟨Nat.le_of_ble_eq_true rfl, Nat.le_of_ble_eq_true rfl⟩ ⟨Nat.le_of_ble_eq_true rfl, Nat.le_of_ble_eq_true rfl⟩ dX1_takeOut_35 (fun r35 v35 hp35 => ?_)
        obtain ⟨rfl, ehp35⟩ := hp35
        refine VV.vq ehp35 ?_
        refine VV.eq (st2 := [.int (nI (q0 / 256)), .int (nI ((ps.getD i 0) / 256))]) rfl ?_
        refine r_iand C (pc := 38) (z := (nI (((ps.getD i 0) / 256) &&& (q0 / 256)))) (nx_and _ _) dX1_takeOut_38 ?_
        refine n_if_eq C (pc := 39) (tgt := 48) (and_lt (by omega)) dX1_takeOut_39 (by decide) (fun c_39 => ?_) (fun c_39 => ?_)
        · refine r_iload C (pc := 48) rfl dX1_takeOut_48 ?_
          refine r_callSN C (pc := 50) (st := []) (m_X6_setIn l G sh v' N (q := (ps.getD i 0)) (by omega)) kyX6_setIn q_445 rfl rfl (Nat.le_of_ble_eq_true rfl) ⟨Nat.le_of_ble_eq_true rfl, Nat.le_of_ble_eq_true rfl⟩ ⟨Nat.le_of_ble_eq_true rfl, Nat.le_of_ble_eq_true rfl⟩ dX1_takeOut_50 (fun r50 v50 hp50 => ?_)
          obtain ⟨rfl, ehp50⟩ := hp50
          refine VV.vq ehp50 ?_
          refine VV.eq (st2 := [.int (nI (((ps.getD i 0)) / 256))]) rfl ?_
          refine n_if_eq C (pc := 53) (tgt := 67) (by have := xor20 hqi hq0; omega) dX1_takeOut_53 (by decide) (fun c_53 => ?_) (fun c_53 => ?_)
          · refine r_iinc C (pc := 67) (lv2 := [some (.ref a), some (.int (nI q0)), some (.int (nI out.length)), some (.int (nI (i + 1))), some (.int (nI (ps.getD i 0)))]) (y := (nI (i + 1))) rfl (nI_inc _ _) (Nat.le_of_ble_eq_true rfl) rfl rfl dX1_takeOut_67 ?_
            refine r_goto C (pc := 70) (tgt := 4) dX1_takeOut_70 (by decide) ?_
            refine VV.fg 4 (lv2 := [some (.ref a), some (.int (nI q0)), some (.int (nI out.length)), some (.int (nI (i + 1))), none]) rfl ?_
            exact ih (i + 1) out v' (by omega) (tko_skip c_9 ho (tk1_0 c_39) c_53) (by omega) (by omega) e1 e2 (fun j g1 g2 => e3 j (by omega) g2) e4
          · refine r_aload_n C (pc := 56) rfl rfl dX1_takeOut_56 ?_
            refine r_get C (pc := 57) (ci := 1) (k := 0) (w := .ref (a + 1)) rfl (by decide) inX1 (by decide) q_119 (Or.inl hd0) hs0 (zl_ref _ _) dX1_takeOut_57 ?_
            refine r_iload_n C (pc := 60) rfl rfl dX1_takeOut_60 ?_
            refine r_iload C (pc := 61) rfl dX1_takeOut_61 ?_
            refine r_iast C (pc := 63) hd1 hs1 (by omega) (by omega) dX1_takeOut_63 ?_
            refine VV.gn (fun w63 ew63 => ?_)
            refine r_iinc C (pc := 64) (lv2 := [some (.ref a), some (.int (nI q0)), some (.int (nI (out.length + 1))), some (.int (nI i)), some (.int (nI (ps.getD i 0)))]) (y := (nI (out.length + 1))) rfl (nI_inc _ _) (Nat.le_of_ble_eq_true rfl) rfl rfl dX1_takeOut_64 ?_
            refine r_iinc C (pc := 67) (lv2 := [some (.ref a), some (.int (nI q0)), some (.int (nI (out.length + 1))), some (.int (nI (i + 1))), some (.int (nI (ps.getD i 0)))]) (y := (nI (i + 1))) rfl (nI_inc _ _) (Nat.le_of_ble_eq_true rfl) rfl rfl dX1_takeOut_67 ?_
            refine r_goto C (pc := 70) (tgt := 4) dX1_takeOut_70 (by decide) ?_
            refine VV.fg 4 (lv2 := [some (.ref a), some (.int (nI q0)), some (.int (nI (out.length + 1))), some (.int (nI (i + 1))), none]) rfl ?_
            have hlen : (out ++ [(ps.getD i 0)]).length = out.length + 1 := by simp
            rw [← hlen]
            exact ih (i + 1) (out ++ [(ps.getD i 0)]) w63 (by omega) (tko_put c_9 ho (tk1_0 c_39) c_53) (by rw [hlen]; omega) (by omega) (by rw [ew63, z2_addr (by omega)]; exact e1) (fun j hj => by
              rw [hlen] at hj
              rw [ew63, gd_app]
              by_cases hjl : j < out.length
              · rw [z2_ne (by omega), if_pos hjl]; exact e2 j hjl
              · rw [show j = out.length by omega, z2_self, if_neg (by omega), if_pos rfl]) (fun j g1 g2 => by rw [ew63, z2_ne (by omega)]; exact e3 j (by omega) g2) (by rw [ew63]; exact e4.z2 (by omega) (by omega))
        · refine r_iload C (pc := 42) rfl dX1_takeOut_42 ?_
          refine r_iload_n C (pc := 44) rfl rfl dX1_takeOut_44 ?_
          refine r_ixor C (pc := 45) (z := (nI ((ps.getD i 0) ^^^ q0))) (nx_xor _ _) dX1_takeOut_45 ?_
          refine r_istore C (pc := 46) (lv2 := [some (.ref a), some (.int (nI q0)), some (.int (nI out.length)), some (.int (nI i)), some (.int (nI ((ps.getD i 0) ^^^ q0)))]) (Nat.le_of_ble_eq_true rfl) rfl rfl dX1_takeOut_46 ?_
          refine r_iload C (pc := 48) rfl dX1_takeOut_48 ?_
          refine r_callSN C (pc := 50) (st := []) (m_X6_setIn l G sh v' N (q := (ps.getD i 0) ^^^ q0) (by have := xor20 hqi hq0; omega)) kyX6_setIn q_445 rfl rfl (Nat.le_of_ble_eq_true rfl) ⟨Nat.le_of_ble_eq_true rfl, Nat.le_of_ble_eq_true rfl⟩ ⟨Nat.le_of_ble_eq_true rfl, Nat.le_of_ble_eq_true rfl⟩ dX1_takeOut_50 (fun r50' v50' hp50' => ?_)
          obtain ⟨rfl, ehp50'⟩ := hp50'
          refine VV.vq ehp50' ?_
          refine VV.eq (st2 := [.int (nI (((ps.getD i 0) ^^^ q0) / 256))]) rfl ?_
          refine n_if_eq C (pc := 53) (tgt := 67) (by have := xor20 hqi hq0; omega) dX1_takeOut_53 (by decide) (fun c_53 => ?_) (fun c_53 => ?_)
          · refine r_iinc C (pc := 67) (lv2 := [some (.ref a), some (.int (nI q0)), some (.int (nI out.length)), some (.int (nI (i + 1))), some (.int (nI ((ps.getD i 0) ^^^ q0)))]) (y := (nI (i + 1))) rfl (nI_inc _ _) (Nat.le_of_ble_eq_true rfl) rfl rfl dX1_takeOut_67 ?_
            refine r_goto C (pc := 70) (tgt := 4) dX1_takeOut_70 (by decide) ?_
            refine VV.fg 4 (lv2 := [some (.ref a), some (.int (nI q0)), some (.int (nI out.length)), some (.int (nI (i + 1))), none]) rfl ?_
            exact ih (i + 1) out v' (by omega) (tko_skip c_9 ho (tk1_1 c_39) c_53) (by omega) (by omega) e1 e2 (fun j g1 g2 => e3 j (by omega) g2) e4
          · refine r_aload_n C (pc := 56) rfl rfl dX1_takeOut_56 ?_
            refine r_get C (pc := 57) (ci := 1) (k := 0) (w := .ref (a + 1)) rfl (by decide) inX1 (by decide) q_119 (Or.inl hd0) hs0 (zl_ref _ _) dX1_takeOut_57 ?_
            refine r_iload_n C (pc := 60) rfl rfl dX1_takeOut_60 ?_
            refine r_iload C (pc := 61) rfl dX1_takeOut_61 ?_
            refine r_iast C (pc := 63) hd1 hs1 (by omega) (by omega) dX1_takeOut_63 ?_
            refine VV.gn (fun w63 ew63 => ?_)
            refine r_iinc C (pc := 64) (lv2 := [some (.ref a), some (.int (nI q0)), some (.int (nI (out.length + 1))), some (.int (nI i)), some (.int (nI ((ps.getD i 0) ^^^ q0)))]) (y := (nI (out.length + 1))) rfl (nI_inc _ _) (Nat.le_of_ble_eq_true rfl) rfl rfl dX1_takeOut_64 ?_
            refine r_iinc C (pc := 67) (lv2 := [some (.ref a), some (.int (nI q0)), some (.int (nI (out.length + 1))), some (.int (nI (i + 1))), some (.int (nI ((ps.getD i 0) ^^^ q0)))]) (y := (nI (i + 1))) rfl (nI_inc _ _) (Nat.le_of_ble_eq_true rfl) rfl rfl dX1_takeOut_67 ?_
            refine r_goto C (pc := 70) (tgt := 4) dX1_takeOut_70 (by decide) ?_
            refine VV.fg 4 (lv2 := [some (.ref a), some (.int (nI q0)), some (.int (nI (out.length + 1))), some (.int (nI (i + 1))), none]) rfl ?_
            have hlen : (out ++ [((ps.getD i 0) ^^^ q0)]).length = out.length + 1 := by simp
            rw [← hlen]
            exact ih (i + 1) (out ++ [((ps.getD i 0) ^^^ q0)]) w63 (by omega) (tko_put c_9 ho (tk1_1 c_39) c_53) (by rw [hlen]; omega) (by omega) (by rw [ew63, z2_addr (by omega)]; exact e1) (fun j hj => by
              rw [hlen] at hj
              rw [ew63, gd_app]
              by_cases hjl : j < out.length
              · rw [z2_ne (by omega), if_pos hjl]; exact e2 j hjl
              · rw [show j = out.length by omega, z2_self, if_neg (by omega), if_pos rfl]) (fun j g1 g2 => by rw [ew63, z2_ne (by omega)]; exact e3 j (by omega) g2) (by rw [ew63]; exact e4.z2 (by omega) (by omega))
  refine r_iconst C (pc := 0) (x := (nI 0)) (by decide) dX1_takeOut_0 ?_
  refine r_istore_n C (pc := 1) (lv2 := [some (.ref a), some (.int (nI q0)), some (.int (nI 0)), none, none]) rfl (Nat.le_of_ble_eq_true rfl) rfl rfl dX1_takeOut_1 ?_
  refine r_iconst C (pc := 2) (x := (nI 0)) (by decide) dX1_takeOut_2 ?_
  refine r_istore_n C (pc := 3) (lv2 := [some (.ref a), some (.int (nI q0)), some (.int (nI 0)), some (.int (nI 0)), none]) rfl (Nat.le_of_ble_eq_true rfl) rfl rfl dX1_takeOut_3 ?_
  exact loop (ps.length + 1) 0 [] v (by omega) rfl (by simp) (by omega) h1 (fun j hj => by simp at hj) (fun j g1 g2 => h3 j g2) zfr.rf
set_option maxRecDepth 100000 in
set_option maxHeartbeats 4000000 in
theorem m_X1_removeFirstSingle (l : Launch) (G : zG) (sh : zH) (v : zV) (N : Nat) {a cap : Nat} {ps : List Nat} (hp : zPL G sh N a cap) (hv : zpl v a cap ps) (hps : ∀ q ∈ ps, q < 2 ^ 20) : zm l G yX1_removeFirstSingle cX1_removeFirstSingle 2 (some .int) 2 [.ref a] sh v N (fun r v1 => r = some (.int (nI (ps.getD (rfs ps) 0))) ∧ zpl v1 a cap (ps.eraseIdx (rfs ps)) ∧ zfr v v1 a 2) := by
  refine zM.of (by decide) rfl (Nat.le_of_ble_eq_true rfl) ?_
  intro p e s m args below meth c C
  obtain ⟨hB, hN, hcap, hs0, hs1⟩ := id hp
  obtain ⟨h1, h2, h3⟩ := id hv
  have hd0 : G.2.2.1 ≤ a ∧ a < N := ⟨hB, by omega⟩
  have hd1 : G.2.2.1 ≤ a + 1 ∧ a + 1 < N := ⟨by omega, hN⟩
  have loop : ∀ (n i : Nat), ps.length - i < n → i ≤ ps.length → (∀ j, j < i → pop (ps.getD j 0 / 256) ≠ 1) → VV p l e ({ frames := 2, cells := 0, slots := 0, locals := 32 * 2 }) s m args below meth c 0 0 (zQ below (fun r sh1 v1 N1 => sh1 = sh ∧ N1 = N ∧ (r = some (.int (nI (ps.getD (rfs ps) 0))) ∧ zpl v1 a cap (ps.eraseIdx (rfs ps)) ∧ zfr v v1 a 2)) G args s 0 0) G 2 sh v N 2 [some (.ref a), some (.int (nI i))] [] := by
    intro n
    induction n with
    | zero => intro i hm; omega
    | succ n ih =>
      intro i hm hil e1
      refine r_iload_n C (pc := 2) rfl rfl dX1_removeFirstSingle_2 ?_
      refine r_aload_n C (pc := 3) rfl rfl dX1_removeFirstSingle_3 ?_
      refine r_get C (pc := 4) (ci := 1) (k := 1) (w := .int (nI ps.length)) rfl (by decide) inX1 (by decide) q_120 (Or.inl hd0) hs0 (zl_i (h1)) dX1_removeFirstSingle_4 ?_
      refine n_icmp_ge C (pc := 7) (tgt := 34) (by omega) (by omega) dX1_removeFirstSingle_7 (by decide) (fun c_7 => ?_) (fun c_7 => ?_)
      · refine r_iconst C (pc := 34) (x := (nI 0)) (by decide) dX1_removeFirstSingle_34 ?_
        exact r_iret C (pc := 35) rfl (rfl) dX1_removeFirstSingle_35 ⟨rfl, rfl, by rw [rfs_end ps (fun j hj => e1 j (by omega)), gd_ge (Nat.le_refl _)], by rw [rfs_end ps (fun j hj => e1 j (by omega)), List.eraseIdx_of_length_le (Nat.le_refl _)]; exact hv, zfr.rf⟩
      · refine r_aload_n C (pc := 10) rfl rfl dX1_removeFirstSingle_10 ?_
        refine r_iload_n C (pc := 11) rfl rfl dX1_removeFirstSingle_11 ?_
        refine r_callV C (pc := 12) (st := []) (m_X1_at l G sh v N (ps := ps) (j := i) hp hv (by omega)) kyX1_at q_450 rfl (Or.inl hd0) hs0 (by decide) rfl rfl rfl (Nat.le_of_ble_eq_true rfl) ⟨Nat.le_of_ble_eq_true rfl, Nat.le_of_ble_eq_true rfl⟩ ⟨Nat.le_of_ble_eq_true rfl, Nat.le_of_ble_eq_true rfl⟩ dX1_removeFirstSingle_12 (fun r12 v12 hp12 => ?_)
        obtain ⟨rfl, ehp12⟩ := hp12
        refine VV.vq ehp12 ?_
        refine VV.eq (st2 := [.int (nI (ps.getD i 0))]) rfl ?_
        refine r_callSN C (pc := 15) (st := []) (m_X6_degreeOf l G sh v N (q := (ps.getD i 0)) (gd_lt20 hps)) kyX6_degreeOf q_454 rfl rfl (Nat.le_of_ble_eq_true rfl) ⟨Nat.le_of_ble_eq_true rfl, Nat.le_of_ble_eq_true rfl⟩ ⟨Nat.le_of_ble_eq_true rfl, Nat.le_of_ble_eq_true rfl⟩ dX1_removeFirstSingle_15 (fun r15 v15 hp15 => ?_)
        obtain ⟨rfl, ehp15⟩ := hp15
        refine VV.vq ehp15 ?_
        refine VV.eq (st2 := [.int (nI (pop ((ps.getD i 0) / 256)))]) rfl ?_
        refine r_iconst C (pc := 18) (x := (nI 1)) (by decide) dX1_removeFirstSingle_18 ?_
        refine n_icmp_ne C (pc := 19) (tgt := 28) (by have := pop_le ((ps.getD i 0) / 256); omega) (by decide) dX1_removeFirstSingle_19 (by decide) (fun c_19 => ?_) (fun c_19 => ?_)
        · refine r_iinc C (pc := 28) (lv2 := [some (.ref a), some (.int (nI (i + 1)))]) (y := (nI (i + 1))) rfl (nI_inc _ _) (Nat.le_of_ble_eq_true rfl) rfl rfl dX1_removeFirstSingle_28 ?_
          refine r_goto C (pc := 31) (tgt := 2) dX1_removeFirstSingle_31 (by decide) ?_
          exact ih (i + 1) (by omega) (by omega) (fun j hj => by
            by_cases hji : j = i
            · subst hji; exact c_19
            · exact e1 j (by omega))
        · refine r_aload_n C (pc := 22) rfl rfl dX1_removeFirstSingle_22 ?_
          refine r_iload_n C (pc := 23) rfl rfl dX1_removeFirstSingle_23 ?_
          refine r_callV C (pc := 24) (st := []) (m_X1_removeAt l G sh v N (ps := ps) (k := i) hp hv c_7) kyX1_removeAt q_374 rfl (Or.inl hd0) hs0 (by decide) rfl rfl rfl (Nat.le_of_ble_eq_true rfl) ⟨Nat.le_of_ble_eq_true rfl, Nat.le_of_ble_eq_true rfl⟩ ⟨Nat.le_of_ble_eq_true rfl, Nat.le_of_ble_eq_true rfl⟩ dX1_removeFirstSingle_24 (fun r24 v24 hp24 => ?_)
          obtain ⟨rfl, g1, g2⟩ := hp24
          refine VV.eq (st2 := [.int (nI (ps.getD i 0))]) rfl ?_
          exact r_iret C (pc := 27) rfl (rfl) dX1_removeFirstSingle_27 ⟨rfl, rfl, by rw [rfs_at ps i e1 c_7 c_19], by rw [rfs_at ps i e1 c_7 c_19]; exact g1, g2⟩
  refine r_iconst C (pc := 0) (x := (nI 0)) (by decide) dX1_removeFirstSingle_0 ?_
  refine r_istore_n C (pc := 1) (lv2 := [some (.ref a), some (.int (nI 0))]) rfl (Nat.le_of_ble_eq_true rfl) rfl rfl dX1_removeFirstSingle_1 ?_
  exact loop (ps.length + 1) 0 (by omega) (by omega) (fun j hj => by omega)
set_option maxRecDepth 100000 in
set_option maxHeartbeats 4000000 in
theorem m_X1_placeOfMostCommon (l : Launch) (G : zG) (sh : zH) (v : zV) (N : Nat) {a cap : Nat} {ps : List Nat} {q : Nat} (hp : zPL G sh N a cap) (hv : zpl v a cap ps) (hq : q < 2 ^ 20) (hps : ∀ q ∈ ps, q < 2 ^ 20) : zm l G yX1_placeOfMostCommon cX1_placeOfMostCommon 6 (some .int) 2 [.ref a, .int (nI q)] sh v N (fun r v1 => r = some (.int (nI (mcb (mcc q ps) ps.length))) ∧ v1 = v) := by
  refine zM.of (by decide) rfl (Nat.le_of_ble_eq_true rfl) ?_
  intro p e s m args below meth c C
  obtain ⟨hB, hN, hcap, hs0, hs1⟩ := id hp
  obtain ⟨h1, h2, h3⟩ := id hv
  have hd0 : G.2.2.1 ≤ a ∧ a < N := ⟨hB, by omega⟩
  have hd1 : G.2.2.1 ≤ a + 1 ∧ a + 1 < N := ⟨by omega, hN⟩
  have loop : ∀ (n i : Nat), ps.length - i < n → 0 < i → i ≤ ps.length → VV p l e ({ frames := 2, cells := 0, slots := 0, locals := 32 * 2 }) s m args below meth c 0 0 (zQ below (fun r sh1 v1 N1 => sh1 = sh ∧ N1 = N ∧ (r = some (.int (nI (mcb (mcc q ps) ps.length))) ∧ v1 = v)) G args s 0 0) G 6 sh v N 7 [some (.ref a), some (.int (nI q)), some (.int (nI (mcb (mcc q ps) i))), some (.int (nI (mcc q ps (mcb (mcc q ps) i)))), some (.int (nI i)), none] [] := by
    intro n
    induction n with
    | zero => intro i hm; omega
    | succ n ih =>
      intro i hm hi0 hil
      refine r_iload C (pc := 7) rfl dX1_placeOfMostCommon_7 ?_
      refine r_aload_n C (pc := 9) rfl rfl dX1_placeOfMostCommon_9 ?_
      refine r_get C (pc := 10) (ci := 1) (k := 1) (w := .int (nI ps.length)) rfl (by decide) inX1 (by decide) q_120 (Or.inl hd0) hs0 (zl_i (h1)) dX1_placeOfMostCommon_10 ?_
      refine n_icmp_ge C (pc := 13) (tgt := 53) (by omega) (by omega) dX1_placeOfMostCommon_13 (by decide) (fun c_13 => ?_) (fun c_13 => ?_)
      · refine r_iload_n C (pc := 53) rfl rfl dX1_placeOfMostCommon_53 ?_
        exact r_iret C (pc := 54) rfl (rfl) dX1_placeOfMostCommon_54 ⟨rfl, rfl, by rw [show i = ps.length by omega], rfl⟩
      · refine r_iload_n C (pc := 16) rfl rfl dX1_placeOfMostCommon_16 ?_
        refine r_callSN C (pc := 17) (st := []) (m_X6_setIn l G sh v N (q := q) (by omega)) kyX6_setIn q_445 rfl rfl (Nat.le_of_ble_eq_true rfl) ⟨Nat.le_of_ble_eq_true rfl, Nat.le_of_ble_eq_true rfl⟩ ⟨Nat.le_of_ble_eq_true rfl, Nat.le_of_ble_eq_true rfl⟩ dX1_placeOfMostCommon_17 (fun r17 v17 hp17 => ?_)
        obtain ⟨rfl, ehp17⟩ := hp17
        refine VV.vq ehp17 ?_
        refine VV.eq (st2 := [.int (nI (q / 256))]) rfl ?_
        refine r_aload_n C (pc := 20) rfl rfl dX1_placeOfMostCommon_20 ?_
        refine r_iload C (pc := 21) rfl dX1_placeOfMostCommon_21 ?_
        refine r_callV C (pc := 23) (st := [.int (nI (q / 256))]) (m_X1_at l G sh v N (ps := ps) (j := i) hp hv (by omega)) kyX1_at q_450 rfl (Or.inl hd0) hs0 (by decide) rfl rfl rfl (Nat.le_of_ble_eq_true rfl) ⟨Nat.le_of_ble_eq_true rfl, Nat.le_of_ble_eq_true rfl⟩ ⟨Nat.le_of_ble_eq_true rfl, Nat.le_of_ble_eq_true rfl⟩ dX1_placeOfMostCommon_23 (fun r23 v23 hp23 => ?_)
        obtain ⟨rfl, ehp23⟩ := hp23
        refine VV.vq ehp23 ?_
        refine VV.eq (st2 := [.int (nI (ps.getD i 0)), .int (nI (q / 256))]) rfl ?_
        have hqi : ps.getD i 0 < 2 ^ 20 := gd_lt20 hps
        refine r_callSN C (pc := 26) (st := [.int (nI (q / 256))]) (m_X6_setIn l G sh v N (q := (ps.getD i 0)) (by omega)) kyX6_setIn q_445 rfl rfl (Nat.le_of_ble_eq_true rfl) ⟨Nat.le_of_ble_eq_true rfl, Nat.le_of_ble_eq_true rfl⟩ ⟨Nat.le_of_ble_eq_true rfl, Nat.le_of_ble_eq_true rfl⟩ dX1_placeOfMostCommon_26 (fun r26 v26 hp26 => ?_)
        obtain ⟨rfl, ehp26⟩ := hp26
        refine VV.vq ehp26 ?_
        refine VV.eq (st2 := [.int (nI ((ps.getD i 0) / 256)), .int (nI (q / 256))]) rfl ?_
        refine r_iand C (pc := 29) (z := (nI ((q / 256) &&& ((ps.getD i 0) / 256)))) (nx_and _ _) dX1_placeOfMostCommon_29 ?_
        refine r_callS C (pc := 30) (st := []) (m_J6_bitCount_0f7a4 l G sh v N (k := (q / 256) &&& ((ps.getD i 0) / 256)) (Nat.lt_of_le_of_lt Nat.and_le_left (by omega))) kyJ6_bitCount_0f7a4 q_556 rfl rfl (Nat.le_of_ble_eq_true rfl) ⟨Nat.le_of_ble_eq_true rfl, Nat.le_of_ble_eq_true rfl⟩ ⟨Nat.le_of_ble_eq_true rfl, Nat.le_of_ble_eq_true rfl⟩ dX1_placeOfMostCommon_30 (fun r30 v30 hp30 => ?_)
        obtain ⟨rfl, ehp30⟩ := hp30
        refine VV.vq ehp30 ?_
        refine VV.eq (st2 := [.int (nI (mcc q ps i))]) rfl ?_
        refine r_istore C (pc := 33) (lv2 := [some (.ref a), some (.int (nI q)), some (.int (nI (mcb (mcc q ps) i))), some (.int (nI (mcc q ps (mcb (mcc q ps) i)))), some (.int (nI i)), some (.int (nI (mcc q ps i)))]) (Nat.le_of_ble_eq_true rfl) rfl rfl dX1_placeOfMostCommon_33 ?_
        refine r_iload C (pc := 35) rfl dX1_placeOfMostCommon_35 ?_
        refine r_iload_n C (pc := 37) rfl rfl dX1_placeOfMostCommon_37 ?_
        refine n_icmp_le C (pc := 38) (tgt := 47) (by have := mcc_le q ps i; omega) (by have := mcc_le q ps (mcb (mcc q ps) i); omega) dX1_placeOfMostCommon_38 (by decide) (fun c_38 => ?_) (fun c_38 => ?_)
        · refine r_iinc C (pc := 47) (lv2 := [some (.ref a), some (.int (nI q)), some (.int (nI (mcb (mcc q ps) i))), some (.int (nI (mcc q ps (mcb (mcc q ps) i)))), some (.int (nI (i + 1))), some (.int (nI (mcc q ps i)))]) (y := (nI (i + 1))) rfl (nI_inc _ _) (Nat.le_of_ble_eq_true rfl) rfl rfl dX1_placeOfMostCommon_47 ?_
          refine r_goto C (pc := 50) (tgt := 7) dX1_placeOfMostCommon_50 (by decide) ?_
          refine VV.fg 5 (lv2 := [some (.ref a), some (.int (nI q)), some (.int (nI (mcb (mcc q ps) i))), some (.int (nI (mcc q ps (mcb (mcc q ps) i)))), some (.int (nI (i + 1))), none]) rfl ?_
          have hs : mcb (mcc q ps) (i + 1) = mcb (mcc q ps) i := if_neg (by omega)
          have := ih (i + 1) (by omega) (by omega) (by omega)
          rw [hs] at this
          exact this
        · refine r_iload C (pc := 41) rfl dX1_placeOfMostCommon_41 ?_
          refine r_istore_n C (pc := 43) (lv2 := [some (.ref a), some (.int (nI q)), some (.int (nI i)), some (.int (nI (mcc q ps (mcb (mcc q ps) i)))), some (.int (nI i)), some (.int (nI (mcc q ps i)))]) rfl (Nat.le_of_ble_eq_true rfl) rfl rfl dX1_placeOfMostCommon_43 ?_
          refine r_iload C (pc := 44) rfl dX1_placeOfMostCommon_44 ?_
          refine r_istore_n C (pc := 46) (lv2 := [some (.ref a), some (.int (nI q)), some (.int (nI i)), some (.int (nI (mcc q ps i))), some (.int (nI i)), some (.int (nI (mcc q ps i)))]) rfl (Nat.le_of_ble_eq_true rfl) rfl rfl dX1_placeOfMostCommon_46 ?_
          refine r_iinc C (pc := 47) (lv2 := [some (.ref a), some (.int (nI q)), some (.int (nI i)), some (.int (nI (mcc q ps i))), some (.int (nI (i + 1))), some (.int (nI (mcc q ps i)))]) (y := (nI (i + 1))) rfl (nI_inc _ _) (Nat.le_of_ble_eq_true rfl) rfl rfl dX1_placeOfMostCommon_47 ?_
          refine r_goto C (pc := 50) (tgt := 7) dX1_placeOfMostCommon_50 (by decide) ?_
          refine VV.fg 5 (lv2 := [some (.ref a), some (.int (nI q)), some (.int (nI i)), some (.int (nI (mcc q ps i))), some (.int (nI (i + 1))), none]) rfl ?_
          have hs : mcb (mcc q ps) (i + 1) = i := if_pos c_38
          have := ih (i + 1) (by omega) (by omega) (by omega)
          rw [hs] at this
          exact this
  refine r_iconst C (pc := 0) (x := (nI 0)) (by decide) dX1_placeOfMostCommon_0 ?_
  refine r_istore_n C (pc := 1) (lv2 := [some (.ref a), some (.int (nI q)), some (.int (nI 0)), none, none, none]) rfl (Nat.le_of_ble_eq_true rfl) rfl rfl dX1_placeOfMostCommon_1 ?_
  refine r_iconst C (pc := 2) (x := (-1)) (by decide) dX1_placeOfMostCommon_2 ?_
  refine r_istore_n C (pc := 3) (lv2 := [some (.ref a), some (.int (nI q)), some (.int (nI 0)), some (.int (-1)), none, none]) rfl (Nat.le_of_ble_eq_true rfl) rfl rfl dX1_placeOfMostCommon_3 ?_
  refine r_iconst C (pc := 4) (x := (nI 0)) (by decide) dX1_placeOfMostCommon_4 ?_
  refine r_istore C (pc := 5) (lv2 := [some (.ref a), some (.int (nI q)), some (.int (nI 0)), some (.int (-1)), some (.int (nI 0)), none]) (Nat.le_of_ble_eq_true rfl) rfl rfl dX1_placeOfMostCommon_5 ?_
  refine r_iload C (pc := 7) rfl dX1_placeOfMostCommon_7 ?_
  refine r_aload_n C (pc := 9) rfl rfl dX1_placeOfMostCommon_9 ?_
  refine r_get C (pc := 10) (ci := 1) (k := 1) (w := .int (nI ps.length)) rfl (by decide) inX1 (by decide) q_120 (Or.inl hd0) hs0 (zl_i (h1)) dX1_placeOfMostCommon_10 ?_
  refine n_icmp_ge C (pc := 13) (tgt := 53) (by omega) (by omega) dX1_placeOfMostCommon_13 (by decide) (fun c_13 => ?_) (fun c_13 => ?_)
  · refine r_iload_n C (pc := 53) rfl rfl dX1_placeOfMostCommon_53 ?_
    exact r_iret C (pc := 54) rfl (rfl) dX1_placeOfMostCommon_54 ⟨rfl, rfl, by rw [show ps.length = 0 by omega]; rfl, rfl⟩
  · refine r_iload_n C (pc := 16) rfl rfl dX1_placeOfMostCommon_16 ?_
    refine r_callSN C (pc := 17) (st := []) (m_X6_setIn l G sh v N (q := q) (by omega)) kyX6_setIn q_445 rfl rfl (Nat.le_of_ble_eq_true rfl) ⟨Nat.le_of_ble_eq_true rfl, Nat.le_of_ble_eq_true rfl⟩ ⟨Nat.le_of_ble_eq_true rfl, Nat.le_of_ble_eq_true rfl⟩ dX1_placeOfMostCommon_17 (fun r17 v17 hp17 => ?_)
    obtain ⟨rfl, ehp17⟩ := hp17
    refine VV.vq ehp17 ?_
    refine VV.eq (st2 := [.int (nI (q / 256))]) rfl ?_
    refine r_aload_n C (pc := 20) rfl rfl dX1_placeOfMostCommon_20 ?_
    refine r_iload C (pc := 21) rfl dX1_placeOfMostCommon_21 ?_
    refine r_callV C (pc := 23) (st := [.int (nI (q / 256))]) (m_X1_at l G sh v N (ps := ps) (j := 0) hp hv (by omega)) kyX1_at q_450 rfl (Or.inl hd0) hs0 (by decide) rfl rfl rfl (Nat.le_of_ble_eq_true rfl) ⟨Nat.le_of_ble_eq_true rfl, Nat.le_of_ble_eq_true rfl⟩ ⟨Nat.le_of_ble_eq_true rfl, Nat.le_of_ble_eq_true rfl⟩ dX1_placeOfMostCommon_23 (fun r23 v23 hp23 => ?_)
    obtain ⟨rfl, ehp23⟩ := hp23
    refine VV.vq ehp23 ?_
    refine VV.eq (st2 := [.int (nI (ps.getD 0 0)), .int (nI (q / 256))]) rfl ?_
    have hqi : ps.getD 0 0 < 2 ^ 20 := gd_lt20 hps
    refine r_callSN C (pc := 26) (st := [.int (nI (q / 256))]) (m_X6_setIn l G sh v N (q := (ps.getD 0 0)) (by omega)) kyX6_setIn q_445 rfl rfl (Nat.le_of_ble_eq_true rfl) ⟨Nat.le_of_ble_eq_true rfl, Nat.le_of_ble_eq_true rfl⟩ ⟨Nat.le_of_ble_eq_true rfl, Nat.le_of_ble_eq_true rfl⟩ dX1_placeOfMostCommon_26 (fun r26 v26 hp26 => ?_)
    obtain ⟨rfl, ehp26⟩ := hp26
    refine VV.vq ehp26 ?_
    refine VV.eq (st2 := [.int (nI ((ps.getD 0 0) / 256)), .int (nI (q / 256))]) rfl ?_
    refine r_iand C (pc := 29) (z := (nI ((q / 256) &&& ((ps.getD 0 0) / 256)))) (nx_and _ _) dX1_placeOfMostCommon_29 ?_
    refine r_callS C (pc := 30) (st := []) (m_J6_bitCount_0f7a4 l G sh v N (k := (q / 256) &&& ((ps.getD 0 0) / 256)) (Nat.lt_of_le_of_lt Nat.and_le_left (by omega))) kyJ6_bitCount_0f7a4 q_556 rfl rfl (Nat.le_of_ble_eq_true rfl) ⟨Nat.le_of_ble_eq_true rfl, Nat.le_of_ble_eq_true rfl⟩ ⟨Nat.le_of_ble_eq_true rfl, Nat.le_of_ble_eq_true rfl⟩ dX1_placeOfMostCommon_30 (fun r30 v30 hp30 => ?_)
    obtain ⟨rfl, ehp30⟩ := hp30
    refine VV.vq ehp30 ?_
    refine VV.eq (st2 := [.int (nI (mcc q ps 0))]) rfl ?_
    refine r_istore C (pc := 33) (lv2 := [some (.ref a), some (.int (nI q)), some (.int (nI 0)), some (.int (-1)), some (.int (nI 0)), some (.int (nI (mcc q ps 0)))]) (Nat.le_of_ble_eq_true rfl) rfl rfl dX1_placeOfMostCommon_33 ?_
    refine r_iload C (pc := 35) rfl dX1_placeOfMostCommon_35 ?_
    refine r_iload_n C (pc := 37) rfl rfl dX1_placeOfMostCommon_37 ?_
    refine r_icmp_le C (pc := 38) (tgt := 47) dX1_placeOfMostCommon_38 (by decide) (fun c_38 => by exfalso; exact m1_lt (by have := mcc_le q ps 0; omega) c_38) (fun c_38 => ?_)
    refine r_iload C (pc := 41) rfl dX1_placeOfMostCommon_41 ?_
    refine r_istore_n C (pc := 43) (lv2 := [some (.ref a), some (.int (nI q)), some (.int (nI 0)), some (.int (-1)), some (.int (nI 0)), some (.int (nI (mcc q ps 0)))]) rfl (Nat.le_of_ble_eq_true rfl) rfl rfl dX1_placeOfMostCommon_43 ?_
    refine r_iload C (pc := 44) rfl dX1_placeOfMostCommon_44 ?_
    refine r_istore_n C (pc := 46) (lv2 := [some (.ref a), some (.int (nI q)), some (.int (nI 0)), some (.int (nI (mcc q ps 0))), some (.int (nI 0)), some (.int (nI (mcc q ps 0)))]) rfl (Nat.le_of_ble_eq_true rfl) rfl rfl dX1_placeOfMostCommon_46 ?_
    refine r_iinc C (pc := 47) (lv2 := [some (.ref a), some (.int (nI q)), some (.int (nI 0)), some (.int (nI (mcc q ps 0))), some (.int (nI (0 + 1))), some (.int (nI (mcc q ps 0)))]) (y := (nI (0 + 1))) rfl (nI_inc _ _) (Nat.le_of_ble_eq_true rfl) rfl rfl dX1_placeOfMostCommon_47 ?_
    refine r_goto C (pc := 50) (tgt := 7) dX1_placeOfMostCommon_50 (by decide) ?_
    refine VV.fg 5 (lv2 := [some (.ref a), some (.int (nI q)), some (.int (nI 0)), some (.int (nI (mcc q ps 0))), some (.int (nI (0 + 1))), none]) rfl ?_
    have hs : mcb (mcc q ps) 1 = 0 := by
      show (if _ then 0 else 0) = 0
      split <;> rfl
    have := loop (ps.length + 1) 1 (by omega) (by omega) (by omega)
    rw [hs] at this
    exact this
set_option maxRecDepth 100000 in
set_option maxHeartbeats 4000000 in
theorem m_X1_clear (l : Launch) (G : zG) (sh : zH) (v : zV) (N : Nat) {a cap : Nat} {ps : List Nat} (hp : zPL G sh N a cap) (hv : zpl v a cap ps) : zm l G yX1_clear cX1_clear 1 none 0 [.ref a] sh v N (fun r v1 => r = none ∧ zpl v1 a cap [] ∧ zfr v v1 a 2) := by
  refine zM.of (by decide) rfl (Nat.le_of_ble_eq_true rfl) ?_
  intro p e s m args below meth c C
  obtain ⟨hB, hN, hcap, hs0, hs1⟩ := hp
  obtain ⟨h1, h2, h3⟩ := id hv
  have hd0 : G.2.2.1 ≤ a ∧ a < N := ⟨hB, by omega⟩
  have hd1 : G.2.2.1 ≤ a + 1 ∧ a + 1 < N := ⟨by omega, hN⟩
  refine r_aload_n C (pc := 0) rfl rfl dX1_clear_0 ?_
  refine r_iconst C (pc := 1) (x := (nI 0)) (by decide) dX1_clear_1 ?_
  refine r_put C (pc := 2) (ci := 1) (k := 1) rfl (by decide) inX1 tyX1_ok nmX1 (by decide) rfl pfI rfl q_120 hd0 hs0 dX1_clear_2 ?_
  refine VV.gn (fun w2 ew2 => ?_)
  exact r_vret C (pc := 5) rfl dX1_clear_5 ⟨rfl, rfl, rfl, ⟨by rw [ew2, z2_self]; rfl, by simp, fun k hk => by simp at hk⟩, by rw [ew2]; exact zfr.rf.z2 (by omega) (by omega)⟩
set_option maxRecDepth 100000 in
set_option maxHeartbeats 4000000 in
theorem m_X6_copyRow (l : Launch) (G : zG) (sh : zH) (v : zV) (N : Nat) {a0 a n : Nat} (hne : a0 ≠ a) (hn : n < 2 ^ 20) (hd0 : zdm G N a0) (hs0 : sh a0 = (8, n, fun _ => 0)) (hd1 : G.2.2.1 ≤ a ∧ a < N) (hs1 : sh a = (8, n, fun _ => 0)) : zm l G yX6_copyRow cX6_copyRow 2 none 1 [.ref a0, .ref a] sh v N (fun r v1 => r = none ∧ v1 = zcp v a0 a n) := by
  refine zM.of (by decide) rfl (Nat.le_of_ble_eq_true rfl) ?_
  intro p e s m args below meth c C
  refine r_aload_n C (pc := 0) rfl rfl dX6_copyRow_0 ?_
  refine r_iconst C (pc := 1) (x := (nI 0)) (by decide) dX6_copyRow_1 ?_
  refine r_aload_n C (pc := 2) rfl rfl dX6_copyRow_2 ?_
  refine r_iconst C (pc := 3) (x := (nI 0)) (by decide) dX6_copyRow_3 ?_
  refine r_aload_n C (pc := 4) rfl rfl dX6_copyRow_4 ?_
  refine r_alen C (pc := 5) (x := nI n) hd0 hs0 (by decide) rfl rfl dX6_copyRow_5 ?_
  refine r_aload_n C (pc := 6) rfl rfl dX6_copyRow_6 ?_
  refine r_alen C (pc := 7) (x := nI n) (Or.inl hd1) hs1 (by decide) rfl rfl dX6_copyRow_7 ?_
  refine r_min C (pc := 8) (z := (nI n)) q_49 (by rw [nI_min (by omega) (by omega), Nat.min_self]) (Nat.le_of_ble_eq_true rfl) ⟨Nat.le_of_ble_eq_true rfl, Nat.le_of_ble_eq_true rfl⟩ ⟨Nat.le_of_ble_eq_true rfl, Nat.le_of_ble_eq_true rfl⟩ dX6_copyRow_8 ?_
  refine r_copy C (pc := 11) hne q_52 hn hd0 hs0 hd1 hs1 ⟨Nat.le_of_ble_eq_true rfl, Nat.le_of_ble_eq_true rfl⟩ dX6_copyRow_11 ?_
  exact r_vret C (pc := 14) rfl dX6_copyRow_14 ⟨rfl, rfl, rfl, rfl⟩
set_option maxRecDepth 100000 in
set_option maxHeartbeats 4000000 in
theorem m_X1_copyFrom (l : Launch) (G : zG) (sh : zH) (v : zV) (N : Nat) {a o cap : Nat} {qs : List Nat} (hp : zPL G sh N a cap) (hpo : zPL G sh N o cap) (hvo : zpl v o cap qs) (hno : o + 2 ≤ a ∨ a + 2 ≤ o) : zm l G yX1_copyFrom cX1_copyFrom 2 none 2 [.ref a, .ref o] sh v N (fun r v1 => r = none ∧ zpl v1 a cap qs ∧ zfr v v1 a 2) := by
  refine zM.of (by decide) rfl (Nat.le_of_ble_eq_true rfl) ?_
  intro p e s m args below meth c C
  obtain ⟨hB, hN, hcap, hs0, hs1⟩ := hp
  have hd0 : G.2.2.1 ≤ a ∧ a < N := ⟨hB, by omega⟩
  have hd1 : G.2.2.1 ≤ a + 1 ∧ a + 1 < N := ⟨by omega, hN⟩
  obtain ⟨gB, gN, gcap, ho0, ho1⟩ := hpo
  obtain ⟨g1, g2, g3⟩ := id hvo
  have gd0 : G.2.2.1 ≤ o ∧ o < N := ⟨gB, by omega⟩
  have gd1 : G.2.2.1 ≤ o + 1 ∧ o + 1 < N := ⟨by omega, gN⟩
  refine r_aload_n C (pc := 0) rfl rfl dX1_copyFrom_0 ?_
  refine r_get C (pc := 1) (ci := 1) (k := 0) (w := .ref (o + 1)) rfl (by decide) inX1 (by decide) q_119 (Or.inl gd0) ho0 (zl_ref _ _) dX1_copyFrom_1 ?_
  refine r_aload_n C (pc := 4) rfl rfl dX1_copyFrom_4 ?_
  refine r_get C (pc := 5) (ci := 1) (k := 0) (w := .ref (a + 1)) rfl (by decide) inX1 (by decide) q_119 (Or.inl hd0) hs0 (zl_ref _ _) dX1_copyFrom_5 ?_
  refine r_callSN C (pc := 8) (st := []) (m_X6_copyRow l G sh v N (a0 := o + 1) (a := a + 1) (n := cap) (by omega) (by omega) (Or.inl gd1) ho1 hd1 hs1) kyX6_copyRow q_293 rfl rfl (Nat.le_of_ble_eq_true rfl) ⟨Nat.le_of_ble_eq_true rfl, Nat.le_of_ble_eq_true rfl⟩ ⟨Nat.le_of_ble_eq_true rfl, Nat.le_of_ble_eq_true rfl⟩ dX1_copyFrom_8 (fun r8 v8 hp8 => ?_)
  obtain ⟨rfl, hz8⟩ := hp8
  refine VV.eq (st2 := []) rfl ?_
  refine r_aload_n C (pc := 11) rfl rfl dX1_copyFrom_11 ?_
  refine r_aload_n C (pc := 12) rfl rfl dX1_copyFrom_12 ?_
  refine r_get C (pc := 13) (ci := 1) (k := 1) (w := .int (nI qs.length)) rfl (by decide) inX1 (by decide) q_120 (Or.inl gd0) ho0 (zl_i (by rw [hz8, zcp_ne (by omega)]; exact g1)) dX1_copyFrom_13 ?_
  refine r_aload_n C (pc := 16) rfl rfl dX1_copyFrom_16 ?_
  refine r_get C (pc := 17) (ci := 1) (k := 0) (w := .ref (a + 1)) rfl (by decide) inX1 (by decide) q_119 (Or.inl hd0) hs0 (zl_ref _ _) dX1_copyFrom_17 ?_
  refine r_alen C (pc := 20) (x := nI cap) (Or.inl hd1) hs1 (by decide) rfl rfl dX1_copyFrom_20 ?_
  refine r_min C (pc := 21) (z := (nI qs.length)) q_294 (by rw [nI_min (by omega) (by omega), Nat.min_eq_left g2]) (Nat.le_of_ble_eq_true rfl) ⟨Nat.le_of_ble_eq_true rfl, Nat.le_of_ble_eq_true rfl⟩ ⟨Nat.le_of_ble_eq_true rfl, Nat.le_of_ble_eq_true rfl⟩ dX1_copyFrom_21 ?_
  refine r_put C (pc := 24) (ci := 1) (k := 1) rfl (by decide) inX1 tyX1_ok nmX1 (by decide) rfl pfI rfl q_120 hd0 hs0 dX1_copyFrom_24 ?_
  refine VV.gn (fun w24 ew24 => ?_)
  exact r_vret C (pc := 27) rfl dX1_copyFrom_27 ⟨rfl, rfl, rfl, ⟨by rw [ew24, z2_self], g2, fun k hk => by rw [ew24, z2_addr (by omega), hz8, zcp_at (by omega)]; exact g3 k hk⟩, fun b hb => by rw [ew24, z2_addr (by omega), hz8, zcp_ne (by omega)]⟩
