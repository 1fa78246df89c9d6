theorem nx_and (a b : Nat) : nI a &&& nI b = nI (a &&& b) := by
  apply Int32.toBitVec_inj.1
  show BitVec.ofNat 32 a &&& BitVec.ofNat 32 b = BitVec.ofNat 32 (a &&& b)
  apply BitVec.eq_of_getLsbD_eq
  intro i hi
  simp [hi]
theorem nx_xor (a b : Nat) : nI a ^^^ nI b = nI (a ^^^ b) := by
  apply Int32.toBitVec_inj.1
  show BitVec.ofNat 32 a ^^^ BitVec.ofNat 32 b = BitVec.ofNat 32 (a ^^^ b)
  apply BitVec.eq_of_getLsbD_eq
  intro i hi
  simp [hi]
theorem nx_or (a b : Nat) : nI a ||| nI b = nI (a ||| b) := by
  apply Int32.toBitVec_inj.1
  show BitVec.ofNat 32 a ||| BitVec.ofNat 32 b = BitVec.ofNat 32 (a ||| b)
  apply BitVec.eq_of_getLsbD_eq
  intro i hi
  simp [hi]
theorem nI_s31 : ∀ n, n < 32 → ((nI n &&& 31).toBitVec.smod 32).toNat = n := by decide +kernel
theorem nI_shl1 {k : Nat} (h : k < 31) : nI 1 <<< (nI k &&& 31) = nI (2 ^ k) := by
  have h2 : 2 ^ k < 2 ^ 31 := Nat.pow_lt_pow_right (by decide) h
  have := pk_shlN (n := 1) (nI k &&& 31) k (nI_s31 k (by omega)) (by omega)
  rw [this, Nat.one_mul]
theorem nI_shr {n k : Nat} (hn : n < 2 ^ 31) (hk : k < 32) : nI n >>> (nI k &&& 31) = nI (n / 2 ^ k) := pk_shrN hn _ k (nI_s31 k hk)
theorem and_lt {x y : Nat} (h : x < 2 ^ 31) : x &&& y < 2 ^ 31 := Nat.lt_of_le_of_lt Nat.and_le_left h
theorem tb_bit {x i : Nat} : (x / 2 ^ i) &&& 1 = if x.testBit i then 1 else 0 := by
  rw [Nat.and_one_is_mod, Nat.testBit_eq_decide_div_mod_eq]
  rcases Nat.mod_two_eq_zero_or_one (x / 2 ^ i) with h | h <;> simp [h]
theorem tb_and {x i : Nat} : x &&& 2 ^ i = if x.testBit i then 2 ^ i else 0 := by
  apply Nat.eq_of_testBit_eq
  intro j
  rw [Nat.testBit_and, Nat.testBit_two_pow]
  by_cases h : i = j
  · subst h
    by_cases hx : x.testBit i <;> simp [hx, Nat.testBit_two_pow_self]
  · by_cases hx : x.testBit i <;> simp [hx, h, Nat.testBit_two_pow]
theorem tb_pos {x i : Nat} : 0 < x &&& 2 ^ i ↔ x.testBit i = true := by
  rw [tb_and]
  by_cases h : x.testBit i <;> simp [h, Nat.two_pow_pos]
theorem tb_zero {x i : Nat} : x &&& 2 ^ i = 0 ↔ x.testBit i = false := by
  rw [tb_and]
  by_cases h : x.testBit i <;> simp [h]
def bc1 (x : Int32) : Int32 := x - ((x.toUInt32 >>> ((nI 1).toUInt32 &&& Int32.toUInt32 31)).toInt32 &&& nI 1431655765)
def bc2 (x : Int32) : Int32 := (x &&& nI 858993459) + ((x.toUInt32 >>> ((nI 2).toUInt32 &&& Int32.toUInt32 31)).toInt32 &&& nI 858993459)
def bc3 (x : Int32) : Int32 := (x + (x.toUInt32 >>> ((nI 4).toUInt32 &&& Int32.toUInt32 31)).toInt32) &&& nI 252645135
def bc4 (x : Int32) : Int32 := x + (x.toUInt32 >>> ((nI 8).toUInt32 &&& Int32.toUInt32 31)).toInt32
def bc5 (x : Int32) : Int32 := x + (x.toUInt32 >>> ((nI 16).toUInt32 &&& Int32.toUInt32 31)).toInt32
theorem bc_all0 : ∀ i, i < 64 → ∀ j, j < 64 → bc5 (bc4 (bc3 (bc2 (bc1 (nI (64 * i + j)))))) &&& nI 63 = nI (pop (64 * i + j)) := by decide +kernel
theorem bc_all {k : Nat} (h : k < 4096) : bc5 (bc4 (bc3 (bc2 (bc1 (nI k))))) &&& nI 63 = nI (pop k) := by
  have := bc_all0 (k / 64) (by omega) (k % 64) (by omega)
  rwa [Nat.div_add_mod] at this
theorem pops_le (k : Nat) : ∀ n, pops k n ≤ n
  | 0 => Nat.le_refl 0
  | n + 1 => by
    have := pops_le k n
    have h2 : k / 2 ^ n % 2 < 2 := Nat.mod_lt _ (by decide)
    show pops k n + k / 2 ^ n % 2 ≤ n + 1
    omega
theorem pop_le (k : Nat) : pop k ≤ 12 := pops_le k 12
set_option maxRecDepth 100000 in
set_option maxHeartbeats 4000000 in
theorem m_J6_bitCount_0f7a4 (l : Launch) (G : zG) (sh : zH) (v : zV) (N : Nat) {k : Nat} (hk : k < 4096) : zm l G yJ6_bitCount_0f7a4 cJ6_bitCount_0f7a4 1 (some .int) 0 [.int (nI k)] sh v N (fun r v1 => r = some (.int (nI (pop k))) ∧ v1 = v) := by
  refine zM.of (by decide) rfl (Nat.le_of_ble_eq_true rfl) ?_
  intro p e s m args below meth c C
  refine r_iload_n C (pc := 0) rfl rfl dJ6_bitCount_0f7a4_0 ?_
  refine r_iload_n C (pc := 1) rfl rfl dJ6_bitCount_0f7a4_1 ?_
  refine r_iconst C (pc := 2) (x := (nI 1)) (by decide) dJ6_bitCount_0f7a4_2 ?_
  refine r_iushr C (pc := 3) (z := (((nI k).toUInt32 >>> ((nI 1).toUInt32 &&& Int32.toUInt32 31)).toInt32)) (rfl) dJ6_bitCount_0f7a4_3 ?_
  refine r_ldcw C (pc := 4) (x := nI 1431655765) q_426 dJ6_bitCount_0f7a4_4 ?_
  refine r_iand C (pc := 7) (z := ((((nI k).toUInt32 >>> ((nI 1).toUInt32 &&& Int32.toUInt32 31)).toInt32) &&& (nI 1431655765))) (rfl) dJ6_bitCount_0f7a4_7 ?_
  refine r_isub C (pc := 8) (z := (bc1 (nI k))) (rfl) dJ6_bitCount_0f7a4_8 ?_
  refine r_istore_n C (pc := 9) (lv2 := [some (.int (bc1 (nI k)))]) rfl (Nat.le_of_ble_eq_true rfl) rfl rfl dJ6_bitCount_0f7a4_9 ?_
  refine r_iload_n C (pc := 10) rfl rfl dJ6_bitCount_0f7a4_10 ?_
  refine r_ldcw C (pc := 11) (x := nI 858993459) q_427 dJ6_bitCount_0f7a4_11 ?_
  refine r_iand C (pc := 14) (z := ((bc1 (nI k)) &&& (nI 858993459))) (rfl) dJ6_bitCount_0f7a4_14 ?_
  refine r_iload_n C (pc := 15) rfl rfl dJ6_bitCount_0f7a4_15 ?_
  refine r_iconst C (pc := 16) (x := (nI 2)) (by decide) dJ6_bitCount_0f7a4_16 ?_
  refine r_iushr C (pc := 17) (z := (((bc1 (nI k)).toUInt32 >>> ((nI 2).toUInt32 &&& Int32.toUInt32 31)).toInt32)) (rfl) dJ6_bitCount_0f7a4_17 ?_
  refine r_ldcw C (pc := 18) (x := nI 858993459) q_427 dJ6_bitCount_0f7a4_18 ?_
  refine r_iand C (pc := 21) (z := ((((bc1 (nI k)).toUInt32 >>> ((nI 2).toUInt32 &&& Int32.toUInt32 31)).toInt32) &&& (nI 858993459))) (rfl) dJ6_bitCount_0f7a4_21 ?_
  refine r_iadd C (pc := 22) (z := (bc2 (bc1 (nI k)))) (rfl) dJ6_bitCount_0f7a4_22 ?_
  refine r_istore_n C (pc := 23) (lv2 := [some (.int (bc2 (bc1 (nI k))))]) rfl (Nat.le_of_ble_eq_true rfl) rfl rfl dJ6_bitCount_0f7a4_23 ?_
  refine r_iload_n C (pc := 24) rfl rfl dJ6_bitCount_0f7a4_24 ?_
  refine r_iload_n C (pc := 25) rfl rfl dJ6_bitCount_0f7a4_25 ?_
  refine r_iconst C (pc := 26) (x := (nI 4)) (by decide) dJ6_bitCount_0f7a4_26 ?_
  refine r_iushr C (pc := 27) (z := (((bc2 (bc1 (nI k))).toUInt32 >>> ((nI 4).toUInt32 &&& Int32.toUInt32 31)).toInt32)) (rfl) dJ6_bitCount_0f7a4_27 ?_
  refine r_iadd C (pc := 28) (z := ((bc2 (bc1 (nI k))) + (((bc2 (bc1 (nI k))).toUInt32 >>> ((nI 4).toUInt32 &&& Int32.toUInt32 31)).toInt32))) (rfl) dJ6_bitCount_0f7a4_28 ?_
  refine r_ldcw C (pc := 29) (x := nI 252645135) q_428 dJ6_bitCount_0f7a4_29 ?_
  refine r_iand C (pc := 32) (z := (bc3 (bc2 (bc1 (nI k))))) (rfl) dJ6_bitCount_0f7a4_32 ?_
  refine r_istore_n C (pc := 33) (lv2 := [some (.int (bc3 (bc2 (bc1 (nI k)))))]) rfl (Nat.le_of_ble_eq_true rfl) rfl rfl dJ6_bitCount_0f7a4_33 ?_
  refine r_iload_n C (pc := 34) rfl rfl dJ6_bitCount_0f7a4_34 ?_
  refine r_iload_n C (pc := 35) rfl rfl dJ6_bitCount_0f7a4_35 ?_
  refine r_bipush C (pc := 36) (x := (nI 8)) (by decide) dJ6_bitCount_0f7a4_36 ?_
  refine r_iushr C (pc := 38) (z := (((bc3 (bc2 (bc1 (nI k)))).toUInt32 >>> ((nI 8).toUInt32 &&& Int32.toUInt32 31)).toInt32)) (rfl) dJ6_bitCount_0f7a4_38 ?_
  refine r_iadd C (pc := 39) (z := (bc4 (bc3 (bc2 (bc1 (nI k)))))) (rfl) dJ6_bitCount_0f7a4_39 ?_
  refine r_istore_n C (pc := 40) (lv2 := [some (.int (bc4 (bc3 (bc2 (bc1 (nI k))))))]) rfl (Nat.le_of_ble_eq_true rfl) rfl rfl dJ6_bitCount_0f7a4_40 ?_
  refine r_iload_n C (pc := 41) rfl rfl dJ6_bitCount_0f7a4_41 ?_
  refine r_iload_n C (pc := 42) rfl rfl dJ6_bitCount_0f7a4_42 ?_
  refine r_bipush C (pc := 43) (x := (nI 16)) (by decide) dJ6_bitCount_0f7a4_43 ?_
  refine r_iushr C (pc := 45) (z := (((bc4 (bc3 (bc2 (bc1 (nI k))))).toUInt32 >>> ((nI 16).toUInt32 &&& Int32.toUInt32 31)).toInt32)) (rfl) dJ6_bitCount_0f7a4_45 ?_
  refine r_iadd C (pc := 46) (z := (bc5 (bc4 (bc3 (bc2 (bc1 (nI k))))))) (rfl) dJ6_bitCount_0f7a4_46 ?_
  refine r_istore_n C (pc := 47) (lv2 := [some (.int (bc5 (bc4 (bc3 (bc2 (bc1 (nI k)))))))]) rfl (Nat.le_of_ble_eq_true rfl) rfl rfl dJ6_bitCount_0f7a4_47 ?_
  refine r_iload_n C (pc := 48) rfl rfl dJ6_bitCount_0f7a4_48 ?_
  refine r_bipush C (pc := 49) (x := (nI 63)) (by decide) dJ6_bitCount_0f7a4_49 ?_
  refine r_iand C (pc := 51) (z := (nI (pop k))) (bc_all hk) dJ6_bitCount_0f7a4_51 ?_
  exact r_iret C (pc := 52) rfl (rfl) dJ6_bitCount_0f7a4_52 ⟨rfl, rfl, rfl, rfl⟩
set_option maxRecDepth 100000 in
set_option maxHeartbeats 4000000 in
theorem m_X6_setIn (l : Launch) (G : zG) (sh : zH) (v : zV) (N : Nat) {q : Nat} (hq : q < 2 ^ 31) : zm l G yX6_setIn cX6_setIn 1 (some .int) 0 [.int (nI q)] sh v N (fun r v1 => r = some (.int (nI (q / 256))) ∧ v1 = v) := by
  refine zM.of (by decide) rfl (Nat.le_of_ble_eq_true rfl) ?_
  intro p e s m args below meth c C
  refine r_iload_n C (pc := 0) rfl rfl dX6_setIn_0 ?_
  refine r_bipush C (pc := 1) (x := (nI 8)) (by decide) dX6_setIn_1 ?_
  refine r_ishr C (pc := 3) (z := (nI (q / 256))) (nI_shr hq (by decide)) dX6_setIn_3 ?_
  exact r_iret C (pc := 4) rfl (rfl) dX6_setIn_4 ⟨rfl, rfl, rfl, rfl⟩
set_option maxRecDepth 100000 in
set_option maxHeartbeats 4000000 in
theorem m_X6_valueIn (l : Launch) (G : zG) (sh : zH) (v : zV) (N : Nat) {q : Nat}  : zm l G yX6_valueIn cX6_valueIn 1 (some .int) 0 [.int (nI q)] sh v N (fun r v1 => r = some (.int (nI (q % 256))) ∧ v1 = v) := by
  refine zM.of (by decide) rfl (Nat.le_of_ble_eq_true rfl) ?_
  intro p e s m args below meth c C
  refine r_iload_n C (pc := 0) rfl rfl dX6_valueIn_0 ?_
  refine r_sipush C (pc := 1) (x := (nI 255)) (by decide) dX6_valueIn_1 ?_
  refine r_iand C (pc := 4) (z := (nI (q % 256))) (by rw [nx_and]; exact congrArg nI (Nat.and_two_pow_sub_one_eq_mod q 8)) dX6_valueIn_4 ?_
  exact r_iret C (pc := 5) rfl (rfl) dX6_valueIn_5 ⟨rfl, rfl, rfl, rfl⟩
set_option maxRecDepth 100000 in
set_option maxHeartbeats 4000000 in
theorem m_X6_degreeOf (l : Launch) (G : zG) (sh : zH) (v : zV) (N : Nat) {q : Nat} (hq : q < 2 ^ 20) : zm l G yX6_degreeOf cX6_degreeOf 1 (some .int) 1 [.int (nI q)] sh v N (fun r v1 => r = some (.int (nI (pop (q / 256)))) ∧ v1 = v) := by
  refine zM.of (by decide) rfl (Nat.le_of_ble_eq_true rfl) ?_
  intro p e s m args below meth c C
  refine r_iload_n C (pc := 0) rfl rfl dX6_degreeOf_0 ?_
  refine r_bipush C (pc := 1) (x := (nI 8)) (by decide) dX6_degreeOf_1 ?_
  refine r_ishr C (pc := 3) (z := (nI (q / 256))) (nI_shr (by omega) (by decide)) dX6_degreeOf_3 ?_
  refine r_callS C (pc := 4) (st := []) (m_J6_bitCount_0f7a4 l G sh v N (k := q / 256) (by omega)) kyJ6_bitCount_0f7a4 q_423 rfl rfl (Nat.le_of_ble_eq_true rfl) ⟨Nat.le_of_ble_eq_true rfl, Nat.le_of_ble_eq_true rfl⟩ ⟨Nat.le_of_ble_eq_true rfl, Nat.le_of_ble_eq_true rfl⟩ dX6_degreeOf_4 (fun r4 v4 hp4 => ?_)
  obtain ⟨rfl, ehp4⟩ := hp4
  refine VV.vq ehp4 ?_
  refine VV.eq (st2 := [.int (nI (pop (q / 256)))]) rfl ?_
  exact r_iret C (pc := 7) rfl (rfl) dX6_degreeOf_7 ⟨rfl, rfl, rfl, rfl⟩
set_option maxRecDepth 100000 in
set_option maxHeartbeats 4000000 in
theorem m_X6_hasBlock (l : Launch) (G : zG) (sh : zH) (v : zV) (N : Nat) {q b : Nat} (hq : q < 2 ^ 31) (hb : b < 12) : zm l G yX6_hasBlock cX6_hasBlock 2 (some .boolean) 0 [.int (nI q), .int (nI b)] sh v N (fun r v1 => r = some (.int (zb (q.testBit (8 + b)))) ∧ v1 = v) := by
  refine zM.of (by decide) rfl (Nat.le_of_ble_eq_true rfl) ?_
  intro p e s m args below meth c C
  refine r_iload_n C (pc := 0) rfl rfl dX6_hasBlock_0 ?_
  refine r_bipush C (pc := 1) (x := (nI 8)) (by decide) dX6_hasBlock_1 ?_
  refine r_iload_n C (pc := 3) rfl rfl dX6_hasBlock_3 ?_
  refine r_iadd C (pc := 4) (z := (nI (8 + b))) (nI_add _ _) dX6_hasBlock_4 ?_
  refine r_ishr C (pc := 5) (z := (nI (q / 2 ^ (8 + b)))) (nI_shr hq (by omega)) dX6_hasBlock_5 ?_
  refine r_iconst C (pc := 6) (x := (nI 1)) (by decide) dX6_hasBlock_6 ?_
  refine r_iand C (pc := 7) (z := (nI (if q.testBit (8 + b) then 1 else 0))) (by rw [nx_and, tb_bit]) dX6_hasBlock_7 ?_
  refine n_if_eq C (pc := 8) (tgt := 15) (by split <;> decide) dX6_hasBlock_8 (by decide) (fun c_8 => ?_) (fun c_8 => ?_)
  · refine r_iconst C (pc := 15) (x := (nI 0)) (by decide) dX6_hasBlock_15 ?_
    exact r_iret C (pc := 16) rfl (rfl) dX6_hasBlock_16 ⟨rfl, rfl, by
    by_cases h : q.testBit (8 + b) = true
    · rw [if_pos h] at c_8; omega
    · have h2 : q.testBit (8 + b) = false := by simpa using h
      rw [h2]; rfl, rfl⟩
  · refine r_iconst C (pc := 11) (x := (nI 1)) (by decide) dX6_hasBlock_11 ?_
    refine r_goto C (pc := 12) (tgt := 16) dX6_hasBlock_12 (by decide) ?_
    exact r_iret C (pc := 16) rfl (rfl) dX6_hasBlock_16 ⟨rfl, rfl, by
    by_cases h : q.testBit (8 + b) = true
    · rw [h]; rfl
    · rw [if_neg h] at c_8; omega, rfl⟩
set_option maxRecDepth 100000 in
set_option maxHeartbeats 4000000 in
theorem m_X6_packetWith (l : Launch) (G : zG) (sh : zH) (v : zV) (N : Nat) {b x : Nat} (hb : b < 12) (hx : x < 256) : zm l G yX6_packetWith cX6_packetWith 2 (some .int) 0 [.int (nI b), .int (nI x)] sh v N (fun r v1 => r = some (.int (nI (2 ^ (8 + b) + x))) ∧ v1 = v) := by
  refine zM.of (by decide) rfl (Nat.le_of_ble_eq_true rfl) ?_
  intro p e s m args below meth c C
  refine r_iconst C (pc := 0) (x := (nI 1)) (by decide) dX6_packetWith_0 ?_
  refine r_bipush C (pc := 1) (x := (nI 8)) (by decide) dX6_packetWith_1 ?_
  refine r_iload_n C (pc := 3) rfl rfl dX6_packetWith_3 ?_
  refine r_iadd C (pc := 4) (z := (nI (8 + b))) (nI_add _ _) dX6_packetWith_4 ?_
  refine r_ishl C (pc := 5) (z := (nI (2 ^ (8 + b)))) (nI_shl1 (by omega)) dX6_packetWith_5 ?_
  refine r_iload_n C (pc := 6) rfl rfl dX6_packetWith_6 ?_
  refine r_ior C (pc := 7) (z := (nI (2 ^ (8 + b) + x))) (by rw [nx_or, Nat.pow_add, Nat.two_pow_add_eq_or_of_lt (show x < 2 ^ 8 from hx) (2 ^ b)]) dX6_packetWith_7 ?_
  exact r_iret C (pc := 8) rfl (rfl) dX6_packetWith_8 ⟨rfl, rfl, rfl, rfl⟩
set_option maxRecDepth 100000 in
set_option maxHeartbeats 4000000 in
theorem m_X6_isWithin (l : Launch) (G : zG) (sh : zH) (v : zV) (N : Nat) {x lo hi : Int32}  : zm l G yX6_isWithin cX6_isWithin 3 (some .boolean) 0 [.int x, .int lo, .int hi] sh v N (fun r v1 => r = some (.int (zb (decide (lo ≤ x ∧ x ≤ hi)))) ∧ v1 = v) := by
  refine zM.of (by decide) rfl (Nat.le_of_ble_eq_true rfl) ?_
  intro p e s m args below meth c C
  refine r_iload_n C (pc := 0) rfl rfl dX6_isWithin_0 ?_
  refine r_iload_n C (pc := 1) rfl rfl dX6_isWithin_1 ?_
  refine r_icmp_lt C (pc := 2) (tgt := 14) dX6_isWithin_2 (by decide) (fun c_2 => ?_) (fun c_2 => ?_)
  · refine r_iconst C (pc := 14) (x := (nI 0)) (by decide) dX6_isWithin_14 ?_
    exact r_iret C (pc := 15) rfl (rfl) dX6_isWithin_15 ⟨rfl, rfl, by
    have h : ¬ (lo ≤ x ∧ x ≤ hi) := fun z => absurd z.1 (by have := c_2; exact Int32.not_le.mpr this)
    rw [decide_eq_false h]; rfl, rfl⟩
  · refine r_iload_n C (pc := 5) rfl rfl dX6_isWithin_5 ?_
    refine r_iload_n C (pc := 6) rfl rfl dX6_isWithin_6 ?_
    refine r_icmp_gt C (pc := 7) (tgt := 14) dX6_isWithin_7 (by decide) (fun c_7 => ?_) (fun c_7 => ?_)
    · refine r_iconst C (pc := 14) (x := (nI 0)) (by decide) dX6_isWithin_14 ?_
      exact r_iret C (pc := 15) rfl (rfl) dX6_isWithin_15 ⟨rfl, rfl, by
    have h : ¬ (lo ≤ x ∧ x ≤ hi) := fun z => absurd z.2 (by have := c_7; exact Int32.not_le.mpr this)
    rw [decide_eq_false h]; rfl, rfl⟩
    · refine r_iconst C (pc := 10) (x := (nI 1)) (by decide) dX6_isWithin_10 ?_
      refine r_goto C (pc := 11) (tgt := 15) dX6_isWithin_11 (by decide) ?_
      exact r_iret C (pc := 15) rfl (rfl) dX6_isWithin_15 ⟨rfl, rfl, by
    have h : lo ≤ x ∧ x ≤ hi := ⟨Int32.not_lt.mp c_2, Int32.not_lt.mp c_7⟩
    rw [decide_eq_true h]; rfl, rfl⟩
