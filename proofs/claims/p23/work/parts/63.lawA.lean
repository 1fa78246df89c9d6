/-! the law's own methods: what they stand on -/
theorem zM_imp {l : Launch} {G : zG} {y : MethodName} {b : ByteArray} {mL : Nat} {ret : Option FieldType} {dp mc ms : Nat} {as : List Value} {sh : zH} {v : zV} {N : Nat} {Post Post2 : Option Value → zH → zV → Nat → Prop} (h : zM l G y b mL ret dp mc ms as sh v N Post) (k : ∀ r sh1 v1 N1, Post r sh1 v1 N1 → Post2 r sh1 v1 N1) : zM l G y b mL ret dp mc ms as sh v N Post2 := by
  unfold zM Met at h ⊢
  exact MetFree.mono h (fun _ _ q => q) (fun _ _ _ _ _ q => q) (fun a s o t _ q => by
    obtain ⟨⟨⟨r, sh1, v1, N1, e, p1, p2⟩, p3⟩, p4⟩ := q
    exact ⟨⟨⟨r, sh1, v1, N1, e, k _ _ _ _ p1, p2⟩, p3⟩, p4⟩)
theorem zm_imp {l : Launch} {G : zG} {y : MethodName} {b : ByteArray} {mL : Nat} {ret : Option FieldType} {dp : Nat} {as : List Value} {sh : zH} {v : zV} {N : Nat} {Post Post2 : Option Value → zV → Prop} (h : zm l G y b mL ret dp as sh v N Post) (k : ∀ r v1, Post r v1 → Post2 r v1) : zm l G y b mL ret dp as sh v N Post2 := zM_imp h (fun r sh1 v1 N1 q => ⟨q.1, q.2.1, k r v1 q.2.2⟩)
/-- one object's contents, and nothing else changed since v0 -/
def zB (v0 v : zV) (x : Nat) (q : Nat → Nat) (M : zMS) (h : zHs) : Prop := zt v (x + 1) M ∧ zxh v x q h ∧ zfr v0 v x 340
theorem zB.go {v0 v v1 : zV} {x : Nat} {q q1 : Nat → Nat} {M M1 : zMS} {h h1 : zHs} (g : zB v0 v x q M h) (k : zt v1 (x + 1) M1 ∧ zxh v1 x q1 h1 ∧ zfr v v1 x 340) : zB v0 v1 x q1 M1 h1 := ⟨k.1, k.2.1, g.2.2.tr k.2.2⟩
theorem rgI {lo hi k : Nat} (h1 : lo ≤ k) (h2 : k ≤ hi) (hh : hi < 2 ^ 31) : nI lo ≤ nI k ∧ nI k ≤ nI hi := ⟨(nI_leI (by omega) (by omega)).mpr h1, (nI_leI (by omega) hh).mpr h2⟩
section ZFL
variable {p : Program} {l : Launch} {e : Env} {R : Room} {s : State} {m : MethodId} {args : Array Value} {below : List Frame} {meth : Method} {c : Code} {cells slots : Nat} {Q : State → Prop} {G : zG} {nL : Nat} {sh : zH} {v : zV} {N pc : Nat} {lv : List (Option Value)} {st : List Value} {own nm : String} {cc : ByteArray} {ret : Option FieldType}
theorem r_fconst1 (C : zC p s m args meth c own nm cc nL ret G) (hdg : decode cc pc = .ok (.fconst 1, 1)) (kk : VV p l e R s m args below meth c cells slots Q G nL sh v N (pc + 1) lv (.float FP.fconst1 :: st)) : VV p l e R s m args below meth c cells slots Q G nL sh v N pc lv st := fun H locs ls h1 h2 h3 => lv_fconst1 C.1 C.2.1 hdg (kk H locs ls h1 h2 h3)
theorem r_fcmp (C : zC p s m args meth c own nm cc nL ret G) {x y : UInt32} {z : Int32} {op : CmpOp} (hv : Op.cmpValue (FP.fcmp x y) op = z) (hdg : decode cc pc = .ok (.fcmp op, 1)) (kk : VV p l e R s m args below meth c cells slots Q G nL sh v N (pc + 1) lv (.int z :: st)) : VV p l e R s m args below meth c cells slots Q G nL sh v N pc lv (.float y :: .float x :: st) := fun H locs ls h1 h2 h3 => lv_fcmp C.1 C.2.1 hdg (by rw [hv]; exact kk H locs ls h1 h2 h3)
end ZFL
theorem pK {T : Nat} {M : zMS} {h : zHs} (hI : zI T (M, h)) : 2 ^ M.1 0 ≤ 4096 := by
  have hK : M.1 0 ≤ 12 := hI.1.1.1.1.2.1
  exact Nat.pow_le_pow_right (show 0 < 2 by decide) hK
theorem t_told (l : Launch) (G : zG) (sh : zH) (v : zV) (N : Nat) {v0 : zV} {x : Nat} {q : Nat → Nat} {M : zMS} {h : zHs} {T : Nat} {k : Nat} (hX : zXR G sh N x q) (hb : zB v0 v x q M h) (hI : zI T (M, h)) (hT : T + 1000 < 2 ^ 30) (hk : k ≤ 16) {z : Int32} (e : nI (tlf (M, h) k) = z) : zm l G yX6_told cX6_told 4 (some .int) 0 [.ref x, .int (nI k)] sh v N (fun r v1 => r = some (.int z) ∧ zB v0 v1 x q M h) :=
  zm_imp (m_X6_told l G sh v N  hX hb.1 hb.2.1 hI hT) (fun r v1 hp => ⟨by rw [hp.1, ← e, qTold, if_pos (rgI (Nat.zero_le k) hk (by decide)), nn_I (by omega)], hb.go hp.2⟩)
theorem t_b0 (l : Launch) (G : zG) (sh : zH) (v : zV) (N : Nat) {v0 : zV} {x : Nat} {q : Nat → Nat} {M : zMS} {h : zHs} {T : Nat} {k : Nat} (hX : zXR G sh N x q) (hb : zB v0 v x q M h) (hI : zI T (M, h)) (hT : T + 1000 < 2 ^ 30) (hk : k < M.1 0) {z : Int32} (e : nI (M.1 (17 + k)) = z) : zm l G yX6_block cX6_block 3 (some .int) 3 [.ref x, .int (nI k), .int (nI 0)] sh v N (fun r v1 => r = some (.int z) ∧ zB v0 v1 x q M h) :=
  zm_imp (m_X6_block l G sh v N  hX hb.1 hb.2.1 hI hT) (fun r v1 hp => ⟨by rw [hp.1, ← e, qBlock, if_pos (rgI (Nat.zero_le k) (by show k ≤ M.1 0 - 1; omega) (by have := hI.1.1.1.1.2.1; dsimp only at this ⊢; omega)), nn_I (by have := hI.1.1.1.1.2.1; dsimp only at this; omega), if_pos rfl], hb.go hp.2⟩)
theorem t_b1 (l : Launch) (G : zG) (sh : zH) (v : zV) (N : Nat) {v0 : zV} {x : Nat} {q : Nat → Nat} {M : zMS} {h : zHs} {T : Nat} {k : Nat} (hX : zXR G sh N x q) (hb : zB v0 v x q M h) (hI : zI T (M, h)) (hT : T + 1000 < 2 ^ 30) (hk : k < M.1 0) {z : Int32} (e : knI (M.2.2.2 k) (M.1 (17 + k)) = z) : zm l G yX6_block cX6_block 3 (some .int) 3 [.ref x, .int (nI k), .int (nI 1)] sh v N (fun r v1 => r = some (.int z) ∧ zB v0 v1 x q M h) :=
  zm_imp (m_X6_block l G sh v N  hX hb.1 hb.2.1 hI hT) (fun r v1 hp => ⟨by rw [hp.1, ← e, qBlock, if_pos (rgI (Nat.zero_le k) (by show k ≤ M.1 0 - 1; omega) (by have := hI.1.1.1.1.2.1; dsimp only at this ⊢; omega)), nn_I (by have := hI.1.1.1.1.2.1; dsimp only at this; omega), if_neg (show ¬ nI 1 = nI 0 by decide), if_pos rfl], hb.go hp.2⟩)
theorem t_b2 (l : Launch) (G : zG) (sh : zH) (v : zV) (N : Nat) {v0 : zV} {x : Nat} {q : Nat → Nat} {M : zMS} {h : zHs} {T : Nat} {k : Nat} (hX : zXR G sh N x q) (hb : zB v0 v x q M h) (hI : zI T (M, h)) (hT : T + 1000 < 2 ^ 30) (hk : k < M.1 0) {z : Int32} (e : knI (M.2.2.1 k) (M.1 (17 + k)) = z) : zm l G yX6_block cX6_block 3 (some .int) 3 [.ref x, .int (nI k), .int (nI 2)] sh v N (fun r v1 => r = some (.int z) ∧ zB v0 v1 x q M h) :=
  zm_imp (m_X6_block l G sh v N  hX hb.1 hb.2.1 hI hT) (fun r v1 hp => ⟨by rw [hp.1, ← e, qBlock, if_pos (rgI (Nat.zero_le k) (by show k ≤ M.1 0 - 1; omega) (by have := hI.1.1.1.1.2.1; dsimp only at this ⊢; omega)), nn_I (by have := hI.1.1.1.1.2.1; dsimp only at this; omega), if_neg (show ¬ nI 2 = nI 0 by decide), if_neg (show ¬ nI 2 = nI 1 by decide), if_pos rfl], hb.go hp.2⟩)
theorem t_b3 (l : Launch) (G : zG) (sh : zH) (v : zV) (N : Nat) {v0 : zV} {x : Nat} {q : Nat → Nat} {M : zMS} {h : zHs} {T : Nat} {k : Nat} (hX : zXR G sh N x q) (hb : zB v0 v x q M h) (hI : zI T (M, h)) (hT : T + 1000 < 2 ^ 30) (hk : k < M.1 0) {z : Int32} (e : tmI (M.2.2.2 k) = z) : zm l G yX6_block cX6_block 3 (some .int) 3 [.ref x, .int (nI k), .int (nI 3)] sh v N (fun r v1 => r = some (.int z) ∧ zB v0 v1 x q M h) :=
  zm_imp (m_X6_block l G sh v N  hX hb.1 hb.2.1 hI hT) (fun r v1 hp => ⟨by rw [hp.1, ← e, qBlock, if_pos (rgI (Nat.zero_le k) (by show k ≤ M.1 0 - 1; omega) (by have := hI.1.1.1.1.2.1; dsimp only at this ⊢; omega)), nn_I (by have := hI.1.1.1.1.2.1; dsimp only at this; omega), if_neg (show ¬ nI 3 = nI 0 by decide), if_neg (show ¬ nI 3 = nI 1 by decide), if_neg (show ¬ nI 3 = nI 2 by decide), if_pos rfl], hb.go hp.2⟩)
theorem t_b4 (l : Launch) (G : zG) (sh : zH) (v : zV) (N : Nat) {v0 : zV} {x : Nat} {q : Nat → Nat} {M : zMS} {h : zHs} {T : Nat} {k : Nat} (hX : zXR G sh N x q) (hb : zB v0 v x q M h) (hI : zI T (M, h)) (hT : T + 1000 < 2 ^ 30) (hk : k < M.1 0) {z : Int32} (e : tmI (M.2.2.1 k) = z) : zm l G yX6_block cX6_block 3 (some .int) 3 [.ref x, .int (nI k), .int (nI 4)] sh v N (fun r v1 => r = some (.int z) ∧ zB v0 v1 x q M h) :=
  zm_imp (m_X6_block l G sh v N  hX hb.1 hb.2.1 hI hT) (fun r v1 hp => ⟨by rw [hp.1, ← e, qBlock, if_pos (rgI (Nat.zero_le k) (by show k ≤ M.1 0 - 1; omega) (by have := hI.1.1.1.1.2.1; dsimp only at this ⊢; omega)), nn_I (by have := hI.1.1.1.1.2.1; dsimp only at this; omega), if_neg (show ¬ nI 4 = nI 0 by decide), if_neg (show ¬ nI 4 = nI 1 by decide), if_neg (show ¬ nI 4 = nI 2 by decide), if_neg (show ¬ nI 4 = nI 3 by decide), if_pos rfl], hb.go hp.2⟩)
theorem t_packet (l : Launch) (G : zG) (sh : zH) (v : zV) (N : Nat) {v0 : zV} {x : Nat} {q : Nat → Nat} {M : zMS} {h : zHs} {T : Nat} {n k w : Nat} (hX : zXR G sh N x q) (hb : zB v0 v x q M h) (hI : zI T (M, h)) (hT : T + 1000 < 2 ^ 30) (h1 : 1 ≤ n) (hn : n ≤ M.1 1 + 1) (hk : k < 2 ^ 30) (hw : w ≤ 2) {z : Int32} (e : ptI (lsO M n) k w = z) : zm l G yX6_packet cX6_packet 5 (some .int) 4 [.ref x, .int (nI n), .int (nI k), .int (nI w)] sh v N (fun r v1 => r = some (.int z) ∧ zB v0 v1 x q M h) :=
  zm_imp (m_X6_packet l G sh v N  hX hb.1 hb.2.1 hI hT) (fun r v1 hp => ⟨by rw [hp.1, ← e, qPacket, if_pos ⟨rgI h1 hn (by have := hI.1.1.1.1.2.2.1; dsimp only at this ⊢; omega), (rgI (Nat.zero_le k) (Nat.le_refl k) (by omega)).1, rgI (Nat.zero_le w) hw (by decide)⟩, nn_I (by have := hI.1.1.1.1.2.2.1; dsimp only at this; omega), nn_I (by omega), nn_I (by omega)], hb.go hp.2⟩)
theorem t_waiting (l : Launch) (G : zG) (sh : zH) (v : zV) (N : Nat) {v0 : zV} {x : Nat} {q : Nat → Nat} {M : zMS} {h : zHs} {T : Nat} {k w : Nat} (hX : zXR G sh N x q) (hb : zB v0 v x q M h) (hI : zI T (M, h)) (hT : T + 1000 < 2 ^ 30) (hk : k < 2 ^ 30) (hw : w ≤ 2) {z : Int32} (e : ptI (M.2.1 4) k w = z) : zm l G yX6_waiting cX6_waiting 3 (some .int) 4 [.ref x, .int (nI k), .int (nI w)] sh v N (fun r v1 => r = some (.int z) ∧ zB v0 v1 x q M h) :=
  zm_imp (m_X6_waiting l G sh v N  hX hb.1 hb.2.1 hI hT) (fun r v1 hp => ⟨by rw [hp.1, ← e, qWaiting, if_pos ⟨(rgI (Nat.zero_le k) (Nat.le_refl k) (by omega)).1, rgI (Nat.zero_le w) hw (by decide)⟩, nn_I (by omega), nn_I (by omega)], hb.go hp.2⟩)
theorem t_node0 (l : Launch) (G : zG) (sh : zH) (v : zV) (N : Nat) {v0 : zV} {x : Nat} {q : Nat → Nat} {M : zMS} {h : zHs} {T : Nat} {n : Nat} (hX : zXR G sh N x q) (hb : zB v0 v x q M h) (hI : zI T (M, h)) (hT : T + 1000 < 2 ^ 30) (h1 : 1 ≤ n) (hn : n ≤ M.1 1 + 1) {z : Int32} (e : nI (lsO M n).length = z) : zm l G yX6_node cX6_node 4 (some .int) 3 [.ref x, .int (nI n), .int (nI 0)] sh v N (fun r v1 => r = some (.int z) ∧ zB v0 v1 x q M h) :=
  zm_imp (m_X6_node l G sh v N  hX hb.1 hb.2.1 hI hT) (fun r v1 hp => ⟨by rw [hp.1, ← e, qNode, if_pos ⟨rgI (Nat.zero_le n) hn (by have := hI.1.1.1.1.2.2.1; dsimp only at this ⊢; omega), rgI (Nat.zero_le 0) (by decide) (by decide)⟩, nn_I (n := n) (by have := hI.1.1.1.1.2.2.1; dsimp only at this; omega), nn_I (n := 0) (by decide), if_neg (show ¬ (0 : Nat) = 2 by decide), if_neg (show ¬ n = 0 by omega), if_pos rfl], hb.go hp.2⟩)
theorem t_node1 (l : Launch) (G : zG) (sh : zH) (v : zV) (N : Nat) {v0 : zV} {x : Nat} {q : Nat → Nat} {M : zMS} {h : zHs} {T : Nat} {n : Nat} (hX : zXR G sh N x q) (hb : zB v0 v x q M h) (hI : zI T (M, h)) (hT : T + 1000 < 2 ^ 30) (h1 : 1 ≤ n) (hn : n ≤ M.1 1 + 1) {z : Int32} (e : nI (rnk (lsO M n)) = z) : zm l G yX6_node cX6_node 4 (some .int) 3 [.ref x, .int (nI n), .int (nI 1)] sh v N (fun r v1 => r = some (.int z) ∧ zB v0 v1 x q M h) :=
  zm_imp (m_X6_node l G sh v N  hX hb.1 hb.2.1 hI hT) (fun r v1 hp => ⟨by rw [hp.1, ← e, qNode, if_pos ⟨rgI (Nat.zero_le n) hn (by have := hI.1.1.1.1.2.2.1; dsimp only at this ⊢; omega), rgI (Nat.zero_le 1) (by decide) (by decide)⟩, nn_I (n := n) (by have := hI.1.1.1.1.2.2.1; dsimp only at this; omega), nn_I (n := 1) (by decide), if_neg (show ¬ (1 : Nat) = 2 by decide), if_neg (show ¬ n = 0 by omega), if_neg (show ¬ (1 : Nat) = 0 by decide)], hb.go hp.2⟩)
theorem t_novel (l : Launch) (G : zG) (sh : zH) (v : zV) (N : Nat) {v0 : zV} {x : Nat} {q : Nat → Nat} {M : zMS} {h : zHs} {T : Nat} {n k : Nat} (hX : zXR G sh N x q) (hb : zB v0 v x q M h) (hI : zI T (M, h)) (hT : T + 1000 < 2 ^ 30) (h1 : 1 ≤ n) (hn : n ≤ M.1 1 + 1) (hk1 : 1 ≤ k) (hk : k < 2 ^ M.1 0) {z : Int32} (e : nI (if nov (lsO M n) (pkS M k) then 1 else 0) = z) : zm l G yX6_novel cX6_novel 4 (some .int) 4 [.ref x, .int (nI n), .int (nI k)] sh v N (fun r v1 => r = some (.int z) ∧ zB v0 v1 x q M h) :=
  zm_imp (m_X6_novel l G sh v N  hX hb.1 hb.2.1 hI hT) (fun r v1 hp => ⟨by rw [hp.1, ← e, qNovel, if_pos ⟨rgI h1 hn (by have := hI.1.1.1.1.2.2.1; dsimp only at this ⊢; omega), rgI hk1 (by show k ≤ 2 ^ M.1 0 - 1; omega) (by show 2 ^ M.1 0 - 1 < 2 ^ 31; have := pK hI; omega)⟩, nn_I (by have := hI.1.1.1.1.2.2.1; dsimp only at this; omega), nn_I (by have := pK hI; omega)], hb.go hp.2⟩)
theorem t_forecast (l : Launch) (G : zG) (sh : zH) (v : zV) (N : Nat) {v0 : zV} {x : Nat} {q : Nat → Nat} {M : zMS} {h : zHs} {T : Nat} {k : Nat} (hX : zXR G sh N x q) (hb : zB v0 v x q M h) (hI : zI T (M, h)) (hT : T + 1000 < 2 ^ 30) (hk : k ≤ 1) {z : Int32} (e : tkI k 300 M = z) : zm l G yX6_forecast cX6_forecast 2 (some .int) 7 [.ref x, .int (nI k)] sh v N (fun r v1 => r = some (.int z) ∧ zB v0 v1 x q M h) :=
  zm_imp (m_X6_forecast l G sh v N  hX hb.1 hb.2.1 hI hT) (fun r v1 hp => ⟨by rw [hp.1, ← e, qForecast, if_pos (rgI (Nat.zero_le k) hk (by decide)), nn_I (by omega)], hb.go hp.2⟩)
theorem t_overhead (l : Launch) (G : zG) (sh : zH) (v : zV) (N : Nat) {v0 : zV} {x : Nat} {q : Nat → Nat} {M : zMS} {h : zHs} {T : Nat}  (hX : zXR G sh N x q) (hb : zB v0 v x q M h) (hI : zI T (M, h)) (hT : T + 1000 < 2 ^ 30)  {z : UInt32} (e : ovF M = z) : zm l G yX6_overhead cX6_overhead 2 (some .float) 1 [.ref x] sh v N (fun r v1 => r = some (.float z) ∧ zB v0 v1 x q M h) :=
  zm_imp (m_X6_overhead l G sh v N  hX hb.1 hb.2.1 hI hT) (fun r v1 hp => ⟨by rw [hp.1, ← e], hb.go hp.2⟩)
set_option maxRecDepth 100000 in
set_option maxHeartbeats 4000000 in
theorem m_L_low (l : Launch) (G : zG) (sh : zH) (v : zV) (N : Nat) {w : Int32} {n : Nat} (hn : 0 < n) (hn2 : n < 2 ^ 31) : zm l G yL_low cL_low 2 (some .int) 0 [.int w, .int (nI n)] sh v N (fun r v1 => r = some (.int (nI (lo_ w n))) ∧ v1 = v) := by
  refine zM.of (by decide) rfl (Nat.le_of_ble_eq_true rfl) ?_
  intro p e s m args below meth c C
  refine r_iload_n C (pc := 0) rfl rfl dL_low_0 ?_
  refine r_ldc C (pc := 1) (x := nI 2147483647) q_262 dL_low_1 ?_
  refine r_iand C (pc := 3) (z := (nI (lwN w))) ((lwN_I w).1) dL_low_3 ?_
  refine r_iload_n C (pc := 4) rfl rfl dL_low_4 ?_
  refine r_irem C (pc := 5) (z := (nI (lo_ w n))) (nI_ne0 hn hn2) (pk_rem (lwN_I w).2 hn hn2) dL_low_5 ?_
  exact r_iret C (pc := 6) rfl (rfl) dL_low_6 ⟨rfl, rfl, rfl, rfl⟩
set_option maxRecDepth 100000 in
set_option maxHeartbeats 4000000 in
theorem m_L_size (l : Launch) (G : zG) (sh : zH) (v : zV) (N : Nat) {k : Nat} (hk : k < 4096) : zm l G yL_size cL_size 3 (some .int) 0 [.int (nI k)] sh v N (fun r v1 => r = some (.int (nI (pop k))) ∧ v1 = v) := by
  refine zM.of (by decide) rfl (Nat.le_of_ble_eq_true rfl) ?_
  intro p e s m args below meth c C
  have loop : ∀ (n b : Nat), 12 - b < n → b ≤ 12 → VV p l e ({ frames := 0, cells := 0, slots := 0, locals := 32 * 0 }) s m args below meth c 0 0 (zQ below (fun r sh1 v1 N1 => sh1 = sh ∧ N1 = N ∧ (r = some (.int (nI (pop k))) ∧ v1 = v)) G args s 0 0) G 3 sh v N 4 [some (.int (nI k)), some (.int (nI (pops k b))), some (.int (nI b))] [] := by
    intro n
    induction n with
    | zero => intro b hm; omega
    | succ n ih =>
      intro b hm hb
      refine r_iload_n C (pc := 4) rfl rfl dL_size_4 ?_
      refine r_bipush C (pc := 5) (x := (nI 12)) (by decide) dL_size_5 ?_
      refine n_icmp_ge C (pc := 7) (tgt := 24) (by omega) (by decide) dL_size_7 (by decide) (fun c_7 => ?_) (fun c_7 => ?_)
      · refine r_iload_n C (pc := 24) rfl rfl dL_size_24 ?_
        exact r_iret C (pc := 25) rfl (rfl) dL_size_25 ⟨rfl, rfl, (by rw [show b = 12 by omega]), rfl⟩
      · refine r_iload_n C (pc := 10) rfl rfl dL_size_10 ?_
        refine r_iload_n C (pc := 11) rfl rfl dL_size_11 ?_
        refine r_iload_n C (pc := 12) rfl rfl dL_size_12 ?_
        refine r_ishr C (pc := 13) (z := (nI (k / 2 ^ b))) (nI_shr (by omega) (by omega)) dL_size_13 ?_
        refine r_iconst C (pc := 14) (x := (nI 1)) (by decide) dL_size_14 ?_
        refine r_iand C (pc := 15) (z := (nI (k / 2 ^ b % 2))) ((nx_and _ _).trans (by rw [Nat.and_one_is_mod])) dL_size_15 ?_
        refine r_iadd C (pc := 16) (z := (nI ((pops k b) + (k / 2 ^ b % 2)))) (nI_add _ _) dL_size_16 ?_
        refine r_istore_n C (pc := 17) (lv2 := [some (.int (nI k)), some (.int (nI ((pops k b) + (k / 2 ^ b % 2)))), some (.int (nI b))]) rfl (Nat.le_of_ble_eq_true rfl) rfl rfl dL_size_17 ?_
        refine r_iinc C (pc := 18) (lv2 := [some (.int (nI k)), some (.int (nI ((pops k b) + (k / 2 ^ b % 2)))), some (.int (nI (b + 1)))]) (y := (nI (b + 1))) rfl (nI_inc _ _) (Nat.le_of_ble_eq_true rfl) rfl rfl dL_size_18 ?_
        refine r_goto C (pc := 21) (tgt := 4) dL_size_21 (by decide) ?_
        exact ih (b + 1) (by omega) (by omega)
  refine r_iconst C (pc := 0) (x := (nI 0)) (by decide) dL_size_0 ?_
  refine r_istore_n C (pc := 1) (lv2 := [some (.int (nI k)), some (.int (nI 0)), none]) rfl (Nat.le_of_ble_eq_true rfl) rfl rfl dL_size_1 ?_
  refine r_iconst C (pc := 2) (x := (nI 0)) (by decide) dL_size_2 ?_
  refine r_istore_n C (pc := 3) (lv2 := [some (.int (nI k)), some (.int (nI 0)), some (.int (nI 0))]) rfl (Nat.le_of_ble_eq_true rfl) rfl rfl dL_size_3 ?_
  exact loop 13 0 (by omega) (by omega)
set_option maxRecDepth 100000 in
set_option maxHeartbeats 4000000 in
theorem m_L_value (l : Launch) (G : zG) (sh : zH) (v : zV) (N : Nat) {v0 : zV} {x : Nat} {q : Nat → Nat} {M : zMS} {h : zHs} {T : Nat} {k : Nat} (hX : zXR G sh N x q) (hb : zB v0 v x q M h) (hI : zI T (M, h)) (hT : T + 1000 < 2 ^ 30) (hk : k < 4096) : zm l G yL_value cL_value 4 (some .int) 4 [.ref x, .int (nI k)] sh v N (fun r v1 => r = some (.int (nI (vln (zVl M) k (M.1 0)))) ∧ zB v0 v1 x q M h) := by
  refine zM.of (by decide) rfl (Nat.le_of_ble_eq_true rfl) ?_
  intro p e s m args below meth c C
  have hd6 : G.2.2.1 ≤ x ∧ x < N := ⟨hX.1, by have := hX.2.1; omega⟩
  have hK12 : M.1 0 ≤ 12 := hI.1.1.1.1.2.1
  have hK2 : 2 ≤ M.1 0 := hI.1.1.1.1.1
  have hV : ∀ b, b < 12 → M.1 (17 + b) < 256 := mOK_V hI.1.1.1
  have loop : ∀ (n b : Nat) (v' : zV), M.1 0 - b < n → b ≤ M.1 0 → zB v0 v' x q M h → VV p l e ({ frames := 4, cells := 0, slots := 0, locals := 32 * 4 }) s m args below meth c 0 0 (zQ below (fun r sh1 v1 N1 => sh1 = sh ∧ N1 = N ∧ (r = some (.int (nI (vln (zVl M) k (M.1 0)))) ∧ zB v0 v1 x q M h)) G args s 0 0) G 4 sh v' N 4 [some (.ref x), some (.int (nI k)), some (.int (nI (vln (zVl M) k b))), some (.int (nI b))] [] := by
    intro n
    induction n with
    | zero => intro b v' hm; omega
    | succ n ih =>
      intro b v' hm hbK hb'
      refine r_iload_n C (pc := 4) rfl rfl dL_value_4 ?_
      refine r_aload_n C (pc := 5) rfl rfl dL_value_5 ?_
      refine r_iconst C (pc := 6) (x := (nI 0)) (by decide) dL_value_6 ?_
      refine r_callV C (pc := 7) (st := [.int (nI b)]) (t_told l G sh v' N (k := 0) hX hb' hI hT (by decide) (z := nI (M.1 0)) (rfl)) kyX6_told q_251 rfl (Or.inl hd6) hX.2.2.1 (by decide) rfl rfl rfl (Nat.le_of_ble_eq_true rfl) ⟨Nat.le_of_ble_eq_true rfl, Nat.le_of_ble_eq_true rfl⟩ ⟨Nat.le_of_ble_eq_true rfl, Nat.le_of_ble_eq_true rfl⟩ dL_value_7 (fun r7 v7 hp7 => ?_)
      obtain ⟨rfl, hb7⟩ := hp7
      refine VV.eq (st2 := [.int (nI (M.1 0)), .int (nI b)]) rfl ?_
      refine n_icmp_ge C (pc := 10) (tgt := 41) (by omega) (by omega) dL_value_10 (by decide) (fun c_10 => ?_) (fun c_10 => ?_)
      · refine r_iload_n C (pc := 41) rfl rfl dL_value_41 ?_
        exact r_iret C (pc := 42) rfl (rfl) dL_value_42 ⟨rfl, rfl, (by rw [show b = M.1 0 by omega]), hb7⟩
      · by_cases ht : k.testBit b = true
        · refine r_iload_n C (pc := 13) rfl rfl dL_value_13 ?_
          refine r_iload_n C (pc := 14) rfl rfl dL_value_14 ?_
          refine r_ishr C (pc := 15) (z := (nI (k / 2 ^ b))) (nI_shr (by omega) (by omega)) dL_value_15 ?_
          refine r_iconst C (pc := 16) (x := (nI 1)) (by decide) dL_value_16 ?_
          refine r_iand C (pc := 17) (z := (nI 1)) ((nx_and _ _).trans (by rw [tb_bit, if_pos ht])) dL_value_17 ?_
          refine r_iconst C (pc := 18) (x := (nI 1)) (by decide) dL_value_18 ?_
          refine n_icmp_ne C (pc := 19) (tgt := 33) (by omega) (by omega) dL_value_19 (by decide) (fun c_19 => by exfalso; omega) (fun c_19 => ?_)
          refine r_iload_n C (pc := 22) rfl rfl dL_value_22 ?_
          refine r_aload_n C (pc := 23) rfl rfl dL_value_23 ?_
          refine r_iload_n C (pc := 24) rfl rfl dL_value_24 ?_
          refine r_iconst C (pc := 25) (x := (nI 0)) (by decide) dL_value_25 ?_
          refine r_callV C (pc := 26) (st := [.int (nI (vln (zVl M) k b))]) (t_b0 l G sh v7 N (k := b) hX hb7 hI hT (by omega) (z := nI (zVl M b)) rfl) kyX6_block q_580 rfl (Or.inl hd6) hX.2.2.1 (by decide) rfl rfl rfl (Nat.le_of_ble_eq_true rfl) ⟨Nat.le_of_ble_eq_true rfl, Nat.le_of_ble_eq_true rfl⟩ ⟨Nat.le_of_ble_eq_true rfl, Nat.le_of_ble_eq_true rfl⟩ dL_value_26 (fun r26 v26 hp26 => ?_)
          obtain ⟨rfl, hb26⟩ := hp26
          refine VV.eq (st2 := [.int (nI (zVl M b)), .int (nI (vln (zVl M) k b))]) rfl ?_
          refine r_ixor C (pc := 29) (z := (nI ((vln (zVl M) k b) ^^^ (zVl M b)))) (nx_xor _ _) dL_value_29 ?_
          refine r_goto C (pc := 30) (tgt := 34) dL_value_30 (by decide) ?_
          refine r_istore_n C (pc := 34) (lv2 := [some (.ref x), some (.int (nI k)), some (.int (nI ((vln (zVl M) k b) ^^^ (zVl M b)))), some (.int (nI b))]) rfl (Nat.le_of_ble_eq_true rfl) rfl rfl dL_value_34 ?_
          refine r_iinc C (pc := 35) (lv2 := [some (.ref x), some (.int (nI k)), some (.int (nI ((vln (zVl M) k b) ^^^ (zVl M b)))), some (.int (nI (b + 1)))]) (y := (nI (b + 1))) rfl (nI_inc _ _) (Nat.le_of_ble_eq_true rfl) rfl rfl dL_value_35 ?_
          refine r_goto C (pc := 38) (tgt := 4) dL_value_38 (by decide) ?_
          have e : vln (zVl M) k (b + 1) = vln (zVl M) k b ^^^ zVl M b := if_pos ht
          have h9 := ih (b + 1) v26 (by omega) (by omega) hb26
          rw [e] at h9
          exact h9
        · refine r_iload_n C (pc := 13) rfl rfl dL_value_13 ?_
          refine r_iload_n C (pc := 14) rfl rfl dL_value_14 ?_
          refine r_ishr C (pc := 15) (z := (nI (k / 2 ^ b))) (nI_shr (by omega) (by omega)) dL_value_15 ?_
          refine r_iconst C (pc := 16) (x := (nI 1)) (by decide) dL_value_16 ?_
          refine r_iand C (pc := 17) (z := (nI 0)) ((nx_and _ _).trans (by rw [tb_bit, if_neg ht])) dL_value_17 ?_
          refine r_iconst C (pc := 18) (x := (nI 1)) (by decide) dL_value_18 ?_
          refine n_icmp_ne C (pc := 19) (tgt := 33) (by omega) (by omega) dL_value_19 (by decide) (fun c_19 => ?_) (fun c_19 => by exfalso; omega)
          refine r_iload_n C (pc := 33) rfl rfl dL_value_33 ?_
          refine r_istore_n C (pc := 34) (lv2 := [some (.ref x), some (.int (nI k)), some (.int (nI (vln (zVl M) k b))), some (.int (nI b))]) rfl (Nat.le_of_ble_eq_true rfl) rfl rfl dL_value_34 ?_
          refine r_iinc C (pc := 35) (lv2 := [some (.ref x), some (.int (nI k)), some (.int (nI (vln (zVl M) k b))), some (.int (nI (b + 1)))]) (y := (nI (b + 1))) rfl (nI_inc _ _) (Nat.le_of_ble_eq_true rfl) rfl rfl dL_value_35 ?_
          refine r_goto C (pc := 38) (tgt := 4) dL_value_38 (by decide) ?_
          have e : vln (zVl M) k (b + 1) = vln (zVl M) k b := if_neg ht
          have h9 := ih (b + 1) v7 (by omega) (by omega) hb7
          rw [e] at h9
          exact h9
  refine r_iconst C (pc := 0) (x := (nI 0)) (by decide) dL_value_0 ?_
  refine r_istore_n C (pc := 1) (lv2 := [some (.ref x), some (.int (nI k)), some (.int (nI 0)), none]) rfl (Nat.le_of_ble_eq_true rfl) rfl rfl dL_value_1 ?_
  refine r_iconst C (pc := 2) (x := (nI 0)) (by decide) dL_value_2 ?_
  refine r_istore_n C (pc := 3) (lv2 := [some (.ref x), some (.int (nI k)), some (.int (nI 0)), some (.int (nI 0))]) rfl (Nat.le_of_ble_eq_true rfl) rfl rfl dL_value_3 ?_
  exact loop (M.1 0 + 1) 0 v (by omega) (by omega) hb
/-- a contract that wants the script's row, too -/
def zX (G : zG) (b L : Nat) (xs : Nat → Int32) (U : State) : Prop := va_X b L xs U U.heap ∧ b < G.2.2.1 ∧ b < U.heap.size
theorem zX.same {G : zG} {b L : Nat} {xs : Nat → Int32} {u U : State} (hv : u.vm = U.vm) (hh : u.heap = U.heap) (h : zX G b L xs u) : zX G b L xs U := by
  have ha : u.vm.Alike U.vm := by rw [hv]; exact Vm.Alike.refl U.vm
  unfold zX at h ⊢
  rw [← hh]
  exact ⟨va_X.moved ha h.1, h.2⟩
theorem zX.at {G : zG} {b L : Nat} {xs : Nat → Int32} {s U : State} {H : Heap} {locs : List Loc} (h : zX G b L xs s) (h2 : va_S (zA G) s.heap H locs) (hU : U.heap = H) (hW : s.WarmedH U.vm) : zX G b L xs U := by
  unfold zX at h ⊢
  rw [hU]
  obtain ⟨h5, h6, h7⟩ := h
  have hq := h2.2.1 b h7 (Nat.not_le.mpr h6)
  have h8 := va_X.kept (va_X.moved hW.alike h5) hq
  obtain ⟨scr, g1, -⟩ := id h8
  exact ⟨h8, h6, (Array.getElem?_eq_some_iff.mp g1).1⟩
def zmX (l : Launch) (G : zG) (y : MethodName) (b : ByteArray) (mL : Nat) (ret : Option FieldType) (dp : Nat) (as : List Value) (sh : zH) (v : zV) (N : Nat) (bX LX : Nat) (xs : Nat → Int32) (Post : Option Value → zH → zV → Nat → Prop) : Prop :=
  Met l y (Cond.code y b mL ret :: TB) ({ frames := dp, cells := 0, slots := 0, locals := 32 * dp }) (va_Pc as (fun U => (zR G sh v N U.heap ∧ zK G U) ∧ zX G bX LX xs U)) (fun _ st o t => (∃ (r : Option Value) (sh1 : zH) (v1 : zV) (N1 : Nat), o = .returned r ∧ Post r sh1 v1 N1 ∧ zR G sh1 v1 N1 t.heap) ∧ va_F (zA G) st t) 0 0 (zA G)
theorem zmX.of {l : Launch} {G : zG} {y : MethodName} {b : ByteArray} {mL : Nat} {ret : Option FieldType} {dp : Nat} {as : List Value} {sh : zH} {v : zV} {N bX LX : Nat} {xs : Nat → Int32} {Post : Option Value → zH → zV → Nat → Prop} (hy : plainName y.cls = true) (hc : as.all (fun w => w.category == 1) = true) (hl : as.length ≤ mL)
    (h : ∀ (p : Program) (e : Env) (s : State) (m : MethodId) (args : Array Value) (below : List Frame) (meth : Method) (c : Code), zC p s m args meth c y.cls y.name b mL ret G → zX G bX LX xs s →
      VV p l e ({ frames := dp, cells := 0, slots := 0, locals := 32 * dp }) s m args below meth c 0 0 (zQ below Post G args s 0 0) G mL sh v N 0 (as.map some ++ List.replicate (mL - as.length) none) []) : zmX l G y b mL ret dp as sh v N bX LX xs Post := by
  refine Met.ofW (cc := b) (maxL := mL) (ret := ret) hy rfl ?_
  intro p e s m args below meth c s₁ B hml hv
  obtain ⟨rfl, ⟨hR, hK⟩, hZ⟩ := hv
  have hts := atoms_spec (ws := Cond.code y b mL ret :: TB) B.pre
  have C : zC p s m as.toArray meth c y.cls y.name b mL ret G := ⟨B.exec, B.bytes, hml, findClass_of_methodNamed B.named, fun w hw => hts w (List.mem_cons_of_mem _ hw), B.returns, B.notSynchronized, (name_of_methodNamed B.named B.method).1, hK⟩
  have hc1 : ∀ x ∈ as, x.category = 1 := fun x hx => by simpa using List.all_eq_true.mp hc x hx
  have := h p e s m as.toArray below meth c C hZ s.heap [] _ hR va_S.rf (lo_entry hc1 hl)
  rw [lg_entry_eq]
  exact this
theorem zBlindX {G : zG} {as : List Value} {sh : zH} {v : zV} {N bX LX : Nat} {xs : Nat → Int32} : FrameBlind (va_Pc as (fun U => (zR G sh v N U.heap ∧ zK G U) ∧ zX G bX LX xs U)) := fun a U g mk q => ⟨q.1, ⟨q.2.1.1, zK.same (u := U) (U := U.calling g mk a) rfl q.2.1.2⟩, zX.same (u := U) (U := U.calling g mk a) rfl rfl q.2.2⟩
section ZSCR
variable {p : Program} {l : Launch} {e : Env} {R : Room} {s : State} {m : MethodId} {args : Array Value} {below : List Frame} {meth : Method} {c : Code} {cells slots : Nat} {Q : State → Prop} {G : zG} {nL : Nat} {sh : zH} {v : zV} {N pc : Nat} {lv : List (Option Value)} {st : List Value} {own nm : String} {cc : ByteArray} {ret : Option FieldType}
theorem r_callSX (C : zC p s m args meth c own nm cc nL ret G) {bX LX : Nat} {xs : Nat → Int32} (hZ : zX G bX LX xs s) {y : MethodName} {b2 : ByteArray} {mL idx n dp : Nat} {rt : Option FieldType} {As : List Value} {stk : List Value} {Post : Option Value → zH → zV → Nat → Prop} (hM : zmX l G y b2 mL rt dp As sh v N bX LX xs Post) (hy : zYS y b2 mL rt n) (hlink : Cond.methodLink own idx y ∈ TB) (hn : As.length = n) (hstk : stk = As.reverse ++ st) (hcat : (st.map fun w => w.category).sum ≤ 8) (hR : dp + 1 ≤ R.frames ∧ 8 + (mL + 11) + 32 * dp ≤ R.locals) (hroom : cells + 0 ≤ R.cells ∧ slots + 0 ≤ R.slots) (hdg : decode cc pc = .ok (.invokestatic idx, 3))
    (kk : ∀ (r : Option Value) (sh1 : zH) (v1 : zV) (N1 : Nat), Post r sh1 v1 N1 → VV p l e R s m args below meth c cells slots Q G nL sh1 v1 N1 (pc + 3) lv (r.toList ++ st)) : VV p l e R s m args below meth c cells slots Q G nL sh v N pc lv stk := by
  subst hstk
  intro H locs ls h1 h2 h3
  have hts := C.2.2.2.2.1
  have run := va_runS (meth := meth) (below := below) (e := e) (cells := cells) (slots := slots) (locs := locs) (g := F0 m pc ls (As.reverse ++ st)) (rest := st) ⟨C.1, C.2.1, C.2.2.1, C.2.2.2.1, hts⟩ hM (⟨callB_of (ws' := TB) n hts (zGood hy.1) rfl rfl rfl (hts _ hy.2.1) (hts _ hlink) hy.2.2.2 hR, hts _ hy.2.2.1⟩) ⟨zBlindX, fun U hU hW => ⟨rfl, ⟨by rw [hU]; exact h1, zK.moved hW C.2.2.2.2.2.2.2.2⟩, hZ.at h2 hU hW⟩⟩ rfl hn h3.1 rfl (by simpa [JFrame.monitorRoom] using hcat) hdg hroom
  intro T hT X
  obtain ⟨v0, st0, t, T1, L, e0, X1, hL, e1, e2, ⟨⟨r, sh1, v1, N1, ho, hp, hz⟩, hF⟩, go⟩ := run T hT X
  cases ho
  obtain ⟨t2, a1, b1⟩ := kk v0 sh1 v1 N1 hp T1.heap (locs ++ L) ls (by rw [e1]; exact hz) (zS_after h2 e0 hF e1 hL) h3 T1 rfl X1
  exact ⟨t2, go t2 a1, b1⟩
theorem r_sldX (C : zC p s m args meth c own nm cc nL ret G) {b L j : Nat} {xs : Nat → Int32} (hZ : zX G b L xs s) (hj : j < L) (hL : L < 2 ^ 31) (hdg : decode cc pc = .ok (.iaload, 1)) (kk : VV p l e R s m args below meth c cells slots Q G nL sh v N (pc + 1) lv (.int (xs j) :: st)) : VV p l e R s m args below meth c cells slots Q G nL sh v N pc lv (.int (nI j) :: .ref b :: st) := fun H locs ls h1 h2 h3 => va_sld C.1 C.2.1 hZ.1 hZ.2.2 (Nat.not_le.mpr hZ.2.1) h2 (vp_in_nI hj hL) hdg (by rw [nI_clamp (show j < 2 ^ 31 by omega)]; exact kk H locs ls h1 h2 h3)
theorem r_slenX (C : zC p s m args meth c own nm cc nL ret G) {b L : Nat} {xs : Nat → Int32} (hZ : zX G b L xs s) (hdg : decode cc pc = .ok (.arraylength, 1)) (kk : VV p l e R s m args below meth c cells slots Q G nL sh v N (pc + 1) lv (.int (nI L) :: st)) : VV p l e R s m args below meth c cells slots Q G nL sh v N pc lv (.ref b :: st) := fun H locs ls h1 h2 h3 => va_slen C.1 C.2.1 hZ.1 hZ.2.2 (Nat.not_le.mpr hZ.2.1) h2 hdg (kk H locs ls h1 h2 h3)
end ZSCR
set_option maxRecDepth 100000 in
set_option maxHeartbeats 4000000 in
theorem m_L_cell (l : Launch) (G : zG) (sh : zH) (v : zV) (N : Nat) {b L k : Nat} {xs : Nat → Int32} (hL : L ≤ 260) (hk : k < 2 ^ 31) : zmX l G yL_cell cL_cell 2 (some .int) 0 [.ref b, .int (nI k)] sh v N b L xs (fun r sh1 v1 N1 => sh1 = sh ∧ N1 = N ∧ (∃ w : Int32, r = some (.int w)) ∧ v1 = v) := by
  refine zmX.of (by decide) rfl (Nat.le_of_ble_eq_true rfl) ?_
  intro p e s m args below meth c C hZ
  refine r_iload_n C (pc := 0) rfl rfl dL_cell_0 ?_
  refine r_aload_n C (pc := 1) rfl rfl dL_cell_1 ?_
  refine r_slenX C (pc := 2) hZ dL_cell_2 ?_
  refine n_icmp_ge C (pc := 3) (tgt := 12) (by omega) (by omega) dL_cell_3 (by decide) (fun c_3 => ?_) (fun c_3 => ?_)
  · refine r_ldc C (pc := 12) (x := nI 747796405) q_258 dL_cell_12 ?_
    refine r_iload_n C (pc := 14) rfl rfl dL_cell_14 ?_
    refine r_iconst C (pc := 15) (x := nI 1) (by decide) dL_cell_15 ?_
    refine r_iadd C (pc := 16) (z := nI (k + 1)) (nI_add _ _) dL_cell_16 ?_
    refine r_imul C (pc := 17) (z := nI 747796405 * nI (k + 1)) rfl dL_cell_17 ?_
    exact r_iret C (pc := 18) rfl rfl dL_cell_18 ⟨rfl, rfl, ⟨_, rfl⟩, rfl⟩
  · refine r_aload_n C (pc := 6) rfl rfl dL_cell_6 ?_
    refine r_iload_n C (pc := 7) rfl rfl dL_cell_7 ?_
    refine r_sldX C (pc := 8) hZ (by omega) (by omega) dL_cell_8 ?_
    refine r_goto C (pc := 9) (tgt := 18) dL_cell_9 (by decide) ?_
    exact r_iret C (pc := 18) rfl rfl dL_cell_18 ⟨rfl, rfl, ⟨_, rfl⟩, rfl⟩

