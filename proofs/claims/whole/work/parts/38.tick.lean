def fT (v v1 : zV) (m : Nat) : Prop := (∀ b, b ≠ m → b ≠ m + 1 → b ≠ m + 4 → b ≠ m + 5 → b ≠ m + 6 → b ≠ m + 7 → v1 b = v b) ∧ v1 m 2 = v m 2 ∧ v1 m 4 = v m 4
theorem fT.rf {v : zV} {m : Nat} : fT v v m := ⟨fun _ _ _ _ _ _ _ => rfl, rfl, rfl⟩
theorem fT.tr {v v1 v2 : zV} {m : Nat} (h : fT v v1 m) (g : fT v1 v2 m) : fT v v2 m := ⟨fun b h1 h2 h3 h4 h5 h6 => (g.1 b h1 h2 h3 h4 h5 h6).trans (h.1 b h1 h2 h3 h4 h5 h6), g.2.1.trans h.2.1, g.2.2.trans h.2.2⟩
theorem fB.T {v v1 : zV} {m : Nat} (h : fB v v1 m) : fT v v1 m := ⟨fun b h1 h2 h3 h4 _ _ => h.1 b h1 h2 h3 h4, h.2.1, h.2.2⟩
theorem fT.zw {v v1 : zV} {m a k : Nat} {x : Int32} (h : fT v v1 m) (ha : a = m + 1 ∨ a = m + 6 ∨ a = m + 7) : fT v (z2 v1 a k x) m := ⟨fun b g1 g2 g3 g4 g5 g6 => by rw [z2_addr (by omega)]; exact h.1 b g1 g2 g3 g4 g5 g6, by rw [z2_addr (by omega)]; exact h.2.1, by rw [z2_addr (by omega)]; exact h.2.2⟩
set_option maxRecDepth 100000 in
set_option maxHeartbeats 4000000 in
theorem m_X7_tick (l : Launch) (G : zG) (sh : zH) (v : zV) (N : Nat) {m : Nat} {M : zMS} {T : Nat} (hp : zMD G sh N m) (hv : zwf (v (m + 1)) M) (hE : zE M) (hT : zT T M) (hT2 : T + 1 < 2 ^ 30) : zm l G yX7_tick cX7_tick 3 none 5 [.ref m] sh v N (fun r v1 => r = none ∧ zwf (v1 (m + 1)) (mTick M) ∧ fT v v1 m) := by
  refine zM.of (by decide) rfl (Nat.le_of_ble_eq_true rfl) ?_
  intro p e s mi args below meth c C
  obtain ⟨hB, hN, hs0, hs1, hs2, hs3, hs4, hs5, hs6, hs7, hs8⟩ := id hp
  have hd0 : G.2.2.1 ≤ m ∧ m < N := ⟨hB, by omega⟩
  have hd1 : G.2.2.1 ≤ m + 1 ∧ m + 1 < N := ⟨by omega, by omega⟩
  have hd2 : G.2.2.1 ≤ m + 2 ∧ m + 2 < N := ⟨by omega, by omega⟩
  have hd3 : G.2.2.1 ≤ m + 3 ∧ m + 3 < N := ⟨by omega, by omega⟩
  have hd4 : G.2.2.1 ≤ m + 4 ∧ m + 4 < N := ⟨by omega, by omega⟩
  have hd5 : G.2.2.1 ≤ m + 5 ∧ m + 5 < N := ⟨by omega, by omega⟩
  have hd6 : G.2.2.1 ≤ m + 6 ∧ m + 6 < N := ⟨by omega, by omega⟩
  have hd7 : G.2.2.1 ≤ m + 7 ∧ m + 7 < N := ⟨by omega, by omega⟩
  have hd8 : G.2.2.1 ≤ m + 8 ∧ m + 8 < N := ⟨by omega, by omega⟩
  have hk := hE.1
  have hR := hk.1.2.2.1
  obtain ⟨hSE, hSc, hS1, hS2, hS31, hS22⟩ := mS2_all hE
  obtain ⟨hqok, hqcon, hqcc⟩ := mP1_ok hk (M.1 1 + 1) (by omega)
  have hq1 : (mP1 M (M.1 1 + 1)).1.1 1 = M.1 1 := hqcc 1 (by decide) (by decide) (by decide) (by decide)
  have hq0 : (mP1 M (M.1 1 + 1)).1.1 0 = M.1 0 := hqcc 0 (by decide) (by decide) (by decide) (by decide)
  obtain ⟨hqb, hqk⟩ := mP1_k hk hE.2.1 (M.1 1 + 1) (Nat.le_refl _)
  have hqc : ∀ j, con (zVl (mP1 M (M.1 1 + 1)).1) ((mOL M) j) := fun j => con_of (fun b hb => (hqcc (17 + b) (by omega) (by omega) (by omega) (by omega)).symm) (hqcon j)
  have hZk : ∀ n, n ≤ M.1 1 → (mP2 (mP1 M (M.1 1 + 1)).1 (mOL M) n).1 = (mP1 M (M.1 1 + 1)).1.1 ∧ zKp (mP1 M (M.1 1 + 1)).1 (mP2 (mP1 M (M.1 1 + 1)).1 (mOL M) n) := fun n hn => mP2_k (by rw [hq0]; exact hqk.2.2) (by rw [hq1]; exact hR) (by rw [hq0]; exact hqb) n (by rw [hq1]; exact hn)
  have hST : zT (T + 1) (mS2 M) := ⟨by have := hT.1; omega, by have := hT.2.1; omega, by rw [hS22]; exact fun b t h => Nat.le_succ_of_le (hT.2.2.1 b t h), by rw [hS22]; exact fun b t h => Nat.le_succ_of_le (hT.2.2.2 b t h)⟩
  have fin : ∀ (v2 : zV) (X : zMS), zwf (v2 (m + 1)) X → X.1 1 = M.1 1 → X.1 33 < 2 ^ 31 → mNote X = mTick M → fT v v2 m → VV p l e ({ frames := 5, cells := 0, slots := 0, locals := 32 * 5 }) s mi args below meth c 0 0 (zQ below (fun r sh1 v1 N1 => sh1 = sh ∧ N1 = N ∧ (r = none ∧ zwf (v1 (m + 1)) (mTick M) ∧ fT v v1 m)) G args s 0 0) G 3 sh v2 N 214 [some (.ref m), some (.int (nI (M.1 1))), none] [] := by
    intro v2 X x1 x2 x3 x4 x5
    refine r_iinc C (pc := 214) (lv2 := [some (.ref m), some (.int (nI (M.1 1 + 1))), none]) (y := (nI (M.1 1 + 1))) rfl (nI_inc _ _) (Nat.le_of_ble_eq_true rfl) rfl rfl dX7_tick_214 ?_
    refine r_goto C (pc := 217) (tgt := 127) dX7_tick_217 (by decide) ?_
    refine r_iload_n C (pc := 127) rfl rfl dX7_tick_127 ?_
    refine r_aload_n C (pc := 128) rfl rfl dX7_tick_128 ?_
    refine r_get C (pc := 129) (ci := 7) (k := 0) (w := .ref (m + 1)) rfl (by decide) inX7 (by decide) q_654 (Or.inl hd0) hs0 (zl_ref _ _) dX7_tick_129 ?_
    refine r_iconst C (pc := 132) (x := (nI 1)) (by decide) dX7_tick_132 ?_
    refine r_iald C (pc := 133) (x := (nI (M.1 1))) (Or.inl hd1) hs1 (by omega) (by omega) (by rw [x1.1 1 (by decide), x2]) dX7_tick_133 ?_
    refine n_icmp_gt C (pc := 134) (tgt := 220) (by omega) (by omega) dX7_tick_134 (by decide) (fun c_134 => ?_) (fun c_134 => by exfalso; omega)
    refine r_aload_n C (pc := 220) rfl rfl dX7_tick_220 ?_
    refine r_callV C (pc := 221) (st := []) (m_X7_note l G sh v2 N hp x1 x3) kyX7_note q_828 rfl (Or.inl hd0) hs0 (by decide) rfl rfl rfl (Nat.le_of_ble_eq_true rfl) ⟨Nat.le_of_ble_eq_true rfl, Nat.le_of_ble_eq_true rfl⟩ ⟨Nat.le_of_ble_eq_true rfl, Nat.le_of_ble_eq_true rfl⟩ dX7_tick_221 (fun r221 v221 hp221 => ?_)
    obtain ⟨rfl, g1, g2⟩ := hp221
    refine VV.eq (st2 := []) rfl ?_
    exact r_vret C (pc := 224) rfl dX7_tick_224 ⟨rfl, rfl, rfl, (by rw [← x4]; exact g1), x5.tr g2.B.T⟩
  have phase2 : ∀ v' : zV, zwf (v' (m + 1)) (mP1 M (M.1 1 + 1)).1 → (∀ j, j < M.1 1 + 1 → v' (m + 6) j = nI ((mOL M) j / 256)) → (∀ j, j < M.1 1 + 1 → (mOL M) j ≠ 0 → v' (m + 7) j = nI ((mOL M) j % 256)) → fT v v' m → VV p l e ({ frames := 5, cells := 0, slots := 0, locals := 32 * 5 }) s mi args below meth c 0 0 (zQ below (fun r sh1 v1 N1 => sh1 = sh ∧ N1 = N ∧ (r = none ∧ zwf (v1 (m + 1)) (mTick M) ∧ fT v v1 m)) G args s 0 0) G 3 sh v' N 125 [some (.ref m), some (.int (nI (M.1 1 + 1))), none] [] := by
    intro v' e1 e2 e3 e4
    have loop2 : ∀ (d n : Nat) (v' : zV), M.1 1 - n < d → n ≤ M.1 1 → zwf (v' (m + 1)) (mP2 (mP1 M (M.1 1 + 1)).1 (mOL M) n) → (∀ j, j < M.1 1 + 1 → v' (m + 6) j = nI ((mOL M) j / 256)) → (∀ j, j < M.1 1 + 1 → (mOL M) j ≠ 0 → v' (m + 7) j = nI ((mOL M) j % 256)) → fT v v' m → VV p l e ({ frames := 5, cells := 0, slots := 0, locals := 32 * 5 }) s mi args below meth c 0 0 (zQ below (fun r sh1 v1 N1 => sh1 = sh ∧ N1 = N ∧ (r = none ∧ zwf (v1 (m + 1)) (mTick M) ∧ fT v v1 m)) G args s 0 0) G 3 sh v' N 127 [some (.ref m), some (.int (nI n)), none] [] := by
      intro d
      induction d with
      | zero => intro n v' hm; omega
      | succ d ih =>
        intro n v' hm hn e1 e2 e3 e4
        have hZ1 : (mP2 (mP1 M (M.1 1 + 1)).1 (mOL M) n).1 1 = M.1 1 := by rw [(hZk n (by omega)).1]; exact hq1
        have hZok : mOK (mP2 (mP1 M (M.1 1 + 1)).1 (mOL M) n) := (mP2_ok hqok hqc n (by rw [hq1]; omega)).1
        have hcn : con (zVl (mP2 (mP1 M (M.1 1 + 1)).1 (mOL M) n)) ((mOL M) n) := con_of (fun b hb => ((mP2_ok hqok hqc n (by rw [hq1]; omega)).2 (17 + b) (by omega)).symm) (hqc n)
        have hcl := hcn.1
        refine r_iload_n C (pc := 127) rfl rfl dX7_tick_127 ?_
        refine r_aload_n C (pc := 128) rfl rfl dX7_tick_128 ?_
        refine r_get C (pc := 129) (ci := 7) (k := 0) (w := .ref (m + 1)) rfl (by decide) inX7 (by decide) q_654 (Or.inl hd0) hs0 (zl_ref _ _) dX7_tick_129 ?_
        refine r_iconst C (pc := 132) (x := (nI 1)) (by decide) dX7_tick_132 ?_
        refine r_iald C (pc := 133) (x := (nI (M.1 1))) (Or.inl hd1) hs1 (by omega) (by omega) (by rw [e1.1 1 (by decide), hZ1]) dX7_tick_133 ?_
        refine n_icmp_gt C (pc := 134) (tgt := 220) (by omega) (by omega) dX7_tick_134 (by decide) (fun c_134 => by exfalso; omega) (fun c_134 => ?_)
        refine r_aload_n C (pc := 137) rfl rfl dX7_tick_137 ?_
        refine r_get C (pc := 138) (ci := 7) (k := 11) (w := .ref (m + 6)) rfl (by decide) inX7 (by decide) q_665 (Or.inl hd0) hs0 (zl_ref _ _) dX7_tick_138 ?_
        refine r_iload_n C (pc := 141) rfl rfl dX7_tick_141 ?_
        refine r_iald C (pc := 142) (x := (nI (((mOL M) n) / 256))) (Or.inl hd6) hs6 (by omega) (by omega) (e2 n (by omega)) dX7_tick_142 ?_
        refine n_if_eq C (pc := 143) (tgt := 178) (by omega) dX7_tick_143 (by decide) (fun c_143 => ?_) (fun c_143 => ?_)
        · have hz0 : ((mOL M) n) = 0 := (con_nz hcn).mpr c_143
          refine r_aload_n C (pc := 178) rfl rfl dX7_tick_178 ?_
          refine r_get C (pc := 179) (ci := 7) (k := 11) (w := .ref (m + 6)) rfl (by decide) inX7 (by decide) q_665 (Or.inl hd0) hs0 (zl_ref _ _) dX7_tick_179 ?_
          refine r_iload_n C (pc := 182) rfl rfl dX7_tick_182 ?_
          refine r_iald C (pc := 183) (x := (nI (((mOL M) n) / 256))) (Or.inl hd6) hs6 (by omega) (by omega) (e2 n (by omega)) dX7_tick_183 ?_
          refine n_if_eq C (pc := 184) (tgt := 214) (by omega) dX7_tick_184 (by decide) (fun c_184 => ?_) (fun c_184 => by exfalso; omega)
          rcases Nat.lt_or_ge n (M.1 1) with hlt | hge
          · refine r_iinc C (pc := 214) (lv2 := [some (.ref m), some (.int (nI (n + 1))), none]) (y := (nI (n + 1))) rfl (nI_inc _ _) (Nat.le_of_ble_eq_true rfl) rfl rfl dX7_tick_214 ?_
            refine r_goto C (pc := 217) (tgt := 127) dX7_tick_217 (by decide) ?_
            exact ih (n + 1) v' (by omega) (by omega) (by show zwf _ (mArr (mP2 (mP1 M (M.1 1 + 1)).1 (mOL M) n) n ((mOL M) n)); rw [show mArr (mP2 (mP1 M (M.1 1 + 1)).1 (mOL M) n) n ((mOL M) n) = (mP2 (mP1 M (M.1 1 + 1)).1 (mOL M) n) from if_pos hz0]; exact e1) (e2) (e3) (e4)
          · obtain rfl : n = M.1 1 := by omega
            exact fin v' (mS2 M) e1 hS1 (by have := hSE.1.2.2.2.2.2; omega) (by rw [mNote_id hSE.2.2.2.2.2.1, mTick_2 hk, if_pos hz0]) e4
        · have hn0 : ((mOL M) n) ≠ 0 := fun z => by rw [z] at c_143; exact absurd c_143 (by decide)
          refine r_iload_n C (pc := 146) rfl rfl dX7_tick_146 ?_
          refine r_aload_n C (pc := 147) rfl rfl dX7_tick_147 ?_
          refine r_get C (pc := 148) (ci := 7) (k := 0) (w := .ref (m + 1)) rfl (by decide) inX7 (by decide) q_654 (Or.inl hd0) hs0 (zl_ref _ _) dX7_tick_148 ?_
          refine r_iconst C (pc := 151) (x := (nI 1)) (by decide) dX7_tick_151 ?_
          refine r_iald C (pc := 152) (x := (nI (M.1 1))) (Or.inl hd1) hs1 (by omega) (by omega) (by rw [e1.1 1 (by decide), hZ1]) dX7_tick_152 ?_
          refine n_icmp_ge C (pc := 153) (tgt := 178) (by omega) (by omega) dX7_tick_153 (by decide) (fun c_153 => ?_) (fun c_153 => ?_)
          · refine r_aload_n C (pc := 178) rfl rfl dX7_tick_178 ?_
            refine r_get C (pc := 179) (ci := 7) (k := 11) (w := .ref (m + 6)) rfl (by decide) inX7 (by decide) q_665 (Or.inl hd0) hs0 (zl_ref _ _) dX7_tick_179 ?_
            refine r_iload_n C (pc := 182) rfl rfl dX7_tick_182 ?_
            refine r_iald C (pc := 183) (x := (nI (((mOL M) n) / 256))) (Or.inl hd6) hs6 (by omega) (by omega) (e2 n (by omega)) dX7_tick_183 ?_
            refine n_if_eq C (pc := 184) (tgt := 214) (by omega) dX7_tick_184 (by decide) (fun c_184 => by exfalso; omega) (fun c_184 => ?_)
            refine r_iload_n C (pc := 187) rfl rfl dX7_tick_187 ?_
            refine r_aload_n C (pc := 188) rfl rfl dX7_tick_188 ?_
            refine r_get C (pc := 189) (ci := 7) (k := 0) (w := .ref (m + 1)) rfl (by decide) inX7 (by decide) q_654 (Or.inl hd0) hs0 (zl_ref _ _) dX7_tick_189 ?_
            refine r_iconst C (pc := 192) (x := (nI 1)) (by decide) dX7_tick_192 ?_
            refine r_iald C (pc := 193) (x := (nI (M.1 1))) (Or.inl hd1) hs1 (by omega) (by omega) (by rw [e1.1 1 (by decide), hZ1]) dX7_tick_193 ?_
            refine n_icmp_ne C (pc := 194) (tgt := 214) (by omega) (by omega) dX7_tick_194 (by decide) (fun c_194 => by exfalso; omega) (fun c_194 => ?_)
            obtain rfl : n = M.1 1 := by omega
            refine r_aload_n C (pc := 197) rfl rfl dX7_tick_197 ?_
            refine r_aload_n C (pc := 198) rfl rfl dX7_tick_198 ?_
            refine r_get C (pc := 199) (ci := 7) (k := 11) (w := .ref (m + 6)) rfl (by decide) inX7 (by decide) q_665 (Or.inl hd0) hs0 (zl_ref _ _) dX7_tick_199 ?_
            refine r_iload_n C (pc := 202) rfl rfl dX7_tick_202 ?_
            refine r_iald C (pc := 203) (x := (nI (((mOL M) (M.1 1)) / 256))) (Or.inl hd6) hs6 (by omega) (by omega) (e2 (M.1 1) (by omega)) dX7_tick_203 ?_
            refine r_aload_n C (pc := 204) rfl rfl dX7_tick_204 ?_
            refine r_get C (pc := 205) (ci := 7) (k := 12) (w := .ref (m + 7)) rfl (by decide) inX7 (by decide) q_666 (Or.inl hd0) hs0 (zl_ref _ _) dX7_tick_205 ?_
            refine r_iload_n C (pc := 208) rfl rfl dX7_tick_208 ?_
            refine r_iald C (pc := 209) (x := (nI (((mOL M) (M.1 1)) % 256))) (Or.inl hd7) hs7 (by omega) (by omega) (e3 (M.1 1) (by omega) hn0) dX7_tick_209 ?_
            refine r_callV C (pc := 210) (st := []) (m_X7_arriveAtReceiver l G sh v' N (x := mOL M (M.1 1)) (T := T + 1) hp e1 hSE.1 (hSc _).1 (hSc _).2 (hSE.2.1 3 (by decide)) hSE.2.2.2.2.1 hST hT2) kyX7_arriveAtReceiver q_805 rfl (Or.inl hd0) hs0 (by decide) rfl rfl rfl (Nat.le_of_ble_eq_true rfl) ⟨Nat.le_of_ble_eq_true rfl, Nat.le_of_ble_eq_true rfl⟩ ⟨Nat.le_of_ble_eq_true rfl, Nat.le_of_ble_eq_true rfl⟩ dX7_tick_210 (fun r210 v210 hp210 => ?_)
            obtain ⟨rfl, g1, g2⟩ := hp210
            refine VV.eq (st2 := [.int (nI (if tkb (spo ((mS2 M).2.1 3)) (mOL M (M.1 1)) then 1 else 0))]) rfl ?_
            refine r_istore_n C (pc := 213) (lv2 := [some (.ref m), some (.int (nI (M.1 1))), some (.int (nI (if tkb (spo ((mS2 M).2.1 3)) (mOL M (M.1 1)) then 1 else 0)))]) rfl (Nat.le_of_ble_eq_true rfl) rfl rfl dX7_tick_213 ?_
            refine VV.fg 2 (lv2 := [some (.ref m), some (.int (nI (M.1 1))), none]) rfl ?_
            exact fin v210 (mAcc0 (mS2 M) (mOL M (M.1 1))) g1 (by dsimp only [mAcc0]; rw [upc_n (by decide), upc_n (by decide)]; exact hS1) (by dsimp only [mAcc0]; rw [upc_n (by decide), upc_n (by decide)]; have := hSE.1.2.2.2.2.2; omega) (by rw [mAcc_note, mTick_2 hk, if_neg (by omega)]) (e4.tr g2.T)
          · refine r_aload_n C (pc := 156) rfl rfl dX7_tick_156 ?_
            refine r_iload_n C (pc := 157) rfl rfl dX7_tick_157 ?_
            refine r_iconst C (pc := 158) (x := (nI 1)) (by decide) dX7_tick_158 ?_
            refine r_iadd C (pc := 159) (z := (nI (n + 1))) (nI_add _ _) dX7_tick_159 ?_
            refine r_callS C (pc := 160) (st := [.ref m]) (m_X7_storeOf l G sh v' N (r0 := n + 1) (by omega) (by omega)) kyX7_storeOf q_736 rfl rfl (Nat.le_of_ble_eq_true rfl) ⟨Nat.le_of_ble_eq_true rfl, Nat.le_of_ble_eq_true rfl⟩ ⟨Nat.le_of_ble_eq_true rfl, Nat.le_of_ble_eq_true rfl⟩ dX7_tick_160 (fun r160 v160 hp160 => ?_)
            obtain ⟨rfl, ehp160⟩ := hp160
            refine VV.vq ehp160 ?_
            refine VV.eq (st2 := [.int (nI (lb n)), .ref m]) rfl ?_
            refine r_aload_n C (pc := 163) rfl rfl dX7_tick_163 ?_
            refine r_get C (pc := 164) (ci := 7) (k := 11) (w := .ref (m + 6)) rfl (by decide) inX7 (by decide) q_665 (Or.inl hd0) hs0 (zl_ref _ _) dX7_tick_164 ?_
            refine r_iload_n C (pc := 167) rfl rfl dX7_tick_167 ?_
            refine r_iald C (pc := 168) (x := (nI (((mOL M) n) / 256))) (Or.inl hd6) hs6 (by omega) (by omega) (e2 n (by omega)) dX7_tick_168 ?_
            refine r_aload_n C (pc := 169) rfl rfl dX7_tick_169 ?_
            refine r_get C (pc := 170) (ci := 7) (k := 12) (w := .ref (m + 7)) rfl (by decide) inX7 (by decide) q_666 (Or.inl hd0) hs0 (zl_ref _ _) dX7_tick_170 ?_
            refine r_iload_n C (pc := 173) rfl rfl dX7_tick_173 ?_
            refine r_iald C (pc := 174) (x := (nI (((mOL M) n) % 256))) (Or.inl hd7) hs7 (by omega) (by omega) (e3 n (by omega) hn0) dX7_tick_174 ?_
            refine r_callV C (pc := 175) (st := []) (m_X7_arriveAtRelay l G sh v' N (r0 := n) (x := ((mOL M) n)) hp e1 hZok (by omega) hcn) kyX7_arriveAtRelay q_778 rfl (Or.inl hd0) hs0 (by decide) rfl rfl rfl (Nat.le_of_ble_eq_true rfl) ⟨Nat.le_of_ble_eq_true rfl, Nat.le_of_ble_eq_true rfl⟩ ⟨Nat.le_of_ble_eq_true rfl, Nat.le_of_ble_eq_true rfl⟩ dX7_tick_175 (fun r175 v175 hp175 => ?_)
            obtain ⟨rfl, g1, g2⟩ := hp175
            refine VV.eq (st2 := []) rfl ?_
            refine r_aload_n C (pc := 178) rfl rfl dX7_tick_178 ?_
            refine r_get C (pc := 179) (ci := 7) (k := 11) (w := .ref (m + 6)) rfl (by decide) inX7 (by decide) q_665 (Or.inl hd0) hs0 (zl_ref _ _) dX7_tick_179 ?_
            refine r_iload_n C (pc := 182) rfl rfl dX7_tick_182 ?_
            refine r_iald C (pc := 183) (x := (nI (((mOL M) n) / 256))) (Or.inl hd6) hs6 (by omega) (by omega) (by rw [g2.f (by omega) (by omega) (by omega) (by omega)]; exact e2 n (by omega)) dX7_tick_183 ?_
            refine n_if_eq C (pc := 184) (tgt := 214) (by omega) dX7_tick_184 (by decide) (fun c_184 => by exfalso; omega) (fun c_184 => ?_)
            refine r_iload_n C (pc := 187) rfl rfl dX7_tick_187 ?_
            refine r_aload_n C (pc := 188) rfl rfl dX7_tick_188 ?_
            refine r_get C (pc := 189) (ci := 7) (k := 0) (w := .ref (m + 1)) rfl (by decide) inX7 (by decide) q_654 (Or.inl hd0) hs0 (zl_ref _ _) dX7_tick_189 ?_
            refine r_iconst C (pc := 192) (x := (nI 1)) (by decide) dX7_tick_192 ?_
            refine r_iald C (pc := 193) (x := (nI (M.1 1))) (Or.inl hd1) hs1 (by omega) (by omega) (by rw [g1.1 1 (by decide), mSto_c, hZ1]) dX7_tick_193 ?_
            refine n_icmp_ne C (pc := 194) (tgt := 214) (by omega) (by omega) dX7_tick_194 (by decide) (fun c_194 => ?_) (fun c_194 => by exfalso; omega)
            refine r_iinc C (pc := 214) (lv2 := [some (.ref m), some (.int (nI (n + 1))), none]) (y := (nI (n + 1))) rfl (nI_inc _ _) (Nat.le_of_ble_eq_true rfl) rfl rfl dX7_tick_214 ?_
            refine r_goto C (pc := 217) (tgt := 127) dX7_tick_217 (by decide) ?_
            exact ih (n + 1) v175 (by omega) (by omega) (by show zwf _ (mArr (mP2 (mP1 M (M.1 1 + 1)).1 (mOL M) n) n ((mOL M) n)); rw [show mArr (mP2 (mP1 M (M.1 1 + 1)).1 (mOL M) n) n ((mOL M) n) = mSto (mP2 (mP1 M (M.1 1 + 1)).1 (mOL M) n) n ((mOL M) n) from (if_neg (by omega)).trans (if_neg (by rw [hZ1]; omega))]; exact g1) (fun j hj => by rw [g2.f (by omega) (by omega) (by omega) (by omega)]; exact e2 j hj) (fun j hj h0 => by rw [g2.f (by omega) (by omega) (by omega) (by omega)]; exact e3 j hj h0) (e4.tr g2.T)
    refine r_iconst C (pc := 125) (x := (nI 0)) (by decide) dX7_tick_125 ?_
    refine r_istore_n C (pc := 126) (lv2 := [some (.ref m), some (.int (nI 0)), none]) rfl (Nat.le_of_ble_eq_true rfl) rfl rfl dX7_tick_126 ?_
    exact loop2 (M.1 1 + 1) 0 v' (by omega) (Nat.zero_le _) e1 e2 e3 e4
  have after41 : ∀ (n : Nat) (v' v2 : zV), mOK (mP1 M n).1 → n ≤ M.1 1 → (∀ j, j < n → v' (m + 6) j = nI ((mP1 M n).2 j / 256)) → (∀ j, j < n → (mP1 M n).2 j ≠ 0 → v' (m + 7) j = nI ((mP1 M n).2 j % 256)) → fT v v' m → (∀ v' : zV, zwf (v' (m + 1)) (mP1 M (n + 1)).1 → (∀ j, j < n + 1 → v' (m + 6) j = nI ((mP1 M (n + 1)).2 j / 256)) → (∀ j, j < n + 1 → (mP1 M (n + 1)).2 j ≠ 0 → v' (m + 7) j = nI ((mP1 M (n + 1)).2 j % 256)) → fT v v' m → VV p l e ({ frames := 5, cells := 0, slots := 0, locals := 32 * 5 }) s mi args below meth c 0 0 (zQ below (fun r sh1 v1 N1 => sh1 = sh ∧ N1 = N ∧ (r = none ∧ zwf (v1 (m + 1)) (mTick M) ∧ fT v v1 m)) G args s 0 0) G 3 sh v' N 12 [some (.ref m), some (.int (nI (n + 1))), none] []) → zwf (v2 (m + 1)) (mMk (mP1 M n).1 n).2 → v2 m 9 = nI ((mMk (mP1 M n).1 n).1 / 256) → ((mMk (mP1 M n).1 n).1 ≠ 0 → v2 m 10 = nI ((mMk (mP1 M n).1 n).1 % 256)) → fB v' v2 m → VV p l e ({ frames := 5, cells := 0, slots := 0, locals := 32 * 5 }) s mi args below meth c 0 0 (zQ below (fun r sh1 v1 N1 => sh1 = sh ∧ N1 = N ∧ (r = none ∧ zwf (v1 (m + 1)) (mTick M) ∧ fT v v1 m)) G args s 0 0) G 3 sh v2 N 41 [some (.ref m), some (.int (nI n)), none] [] := by
    intro n v' v2 hok hn e2 e3 hf ihn g1 g2 g3 g4
    obtain ⟨hok2, hcp⟩ := mMk_ok hok (n := n) (by omega)
    refine r_aload_n C (pc := 41) rfl rfl dX7_tick_41 ?_
    refine r_get C (pc := 42) (ci := 7) (k := 9) (w := .int (nI ((mMk (mP1 M n).1 n).1 / 256))) rfl (by decide) inX7 (by decide) q_663 (Or.inl hd0) hs0 (zl_i (g2)) dX7_tick_42 ?_
    refine n_if_eq C (pc := 45) (tgt := 70) (by have := hcp.1; omega) dX7_tick_45 (by decide) (fun c_45 => ?_) (fun c_45 => ?_)
    · have hz : (mMk (mP1 M n).1 n).1 = 0 := (con_nz hcp).mpr c_45
      refine r_iconst C (pc := 70) (x := (nI 0)) (by decide) dX7_tick_70 ?_
      refine r_istore_n C (pc := 71) (lv2 := [some (.ref m), some (.int (nI n)), some (.int (nI 0))]) rfl (Nat.le_of_ble_eq_true rfl) rfl rfl dX7_tick_71 ?_
      refine r_aload_n C (pc := 72) rfl rfl dX7_tick_72 ?_
      refine r_get C (pc := 73) (ci := 7) (k := 0) (w := .ref (m + 1)) rfl (by decide) inX7 (by decide) q_654 (Or.inl hd0) hs0 (zl_ref _ _) dX7_tick_73 ?_
      refine r_bipush C (pc := 76) (x := (nI 30)) (by decide) dX7_tick_76 ?_
      refine r_dup2 C (pc := 78) rfl rfl dX7_tick_78 ?_
      refine r_iald C (pc := 79) (x := (nI ((mMk (mP1 M n).1 n).2.1 30))) (Or.inl hd1) hs1 (by omega) (by omega) (g1.1 30 (by decide)) dX7_tick_79 ?_
      refine r_iload_n C (pc := 80) rfl rfl dX7_tick_80 ?_
      refine n_if_eq C (pc := 81) (tgt := 88) (by omega) dX7_tick_81 (by decide) (fun c_81 => ?_) (fun c_81 => by exfalso; omega)
      refine r_iconst C (pc := 88) (x := (nI 0)) (by decide) dX7_tick_88 ?_
      refine r_iadd C (pc := 89) (z := (nI (((mMk (mP1 M n).1 n).2.1 30) + 0))) (nI_add _ _) dX7_tick_89 ?_
      refine r_iast C (pc := 90) hd1 hs1 (by omega) (by omega) dX7_tick_90 ?_
      refine VV.gn (fun w90 ew90 => ?_)
      refine r_aload_n C (pc := 91) rfl rfl dX7_tick_91 ?_
      refine r_get C (pc := 92) (ci := 7) (k := 11) (w := .ref (m + 6)) rfl (by decide) inX7 (by decide) q_665 (Or.inl hd0) hs0 (zl_ref _ _) dX7_tick_92 ?_
      refine r_iload_n C (pc := 95) rfl rfl dX7_tick_95 ?_
      refine r_iload_n C (pc := 96) rfl rfl dX7_tick_96 ?_
      refine n_if_eq C (pc := 97) (tgt := 104) (by omega) dX7_tick_97 (by decide) (fun c_97 => ?_) (fun c_97 => by exfalso; omega)
      refine r_aload_n C (pc := 104) rfl rfl dX7_tick_104 ?_
      refine r_get C (pc := 105) (ci := 7) (k := 9) (w := .int (nI ((mMk (mP1 M n).1 n).1 / 256))) rfl (by decide) inX7 (by decide) q_663 (Or.inl hd0) hs0 (zl_i (by rw [ew90, z2_addr (by omega)]; exact g2)) dX7_tick_105 ?_
      refine r_iast C (pc := 108) hd6 hs6 (by omega) (by omega) dX7_tick_108 ?_
      refine VV.gn (fun w108 ew108 => ?_)
      refine r_aload_n C (pc := 109) rfl rfl dX7_tick_109 ?_
      refine r_get C (pc := 110) (ci := 7) (k := 12) (w := .ref (m + 7)) rfl (by decide) inX7 (by decide) q_666 (Or.inl hd0) hs0 (zl_ref _ _) dX7_tick_110 ?_
      refine r_iload_n C (pc := 113) rfl rfl dX7_tick_113 ?_
      refine r_aload_n C (pc := 114) rfl rfl dX7_tick_114 ?_
      refine r_get C (pc := 115) (ci := 7) (k := 10) (w := .int (v2 m 10)) rfl (by decide) inX7 (by decide) q_664 (Or.inl hd0) hs0 (zl_i (by rw [ew108, z2_addr (by omega), ew90, z2_addr (by omega)])) dX7_tick_115 ?_
      refine r_iast C (pc := 118) hd7 hs7 (by omega) (by omega) dX7_tick_118 ?_
      refine VV.gn (fun w118 ew118 => ?_)
      refine r_iinc C (pc := 119) (lv2 := [some (.ref m), some (.int (nI (n + 1))), some (.int (nI 0))]) (y := (nI (n + 1))) rfl (nI_inc _ _) (Nat.le_of_ble_eq_true rfl) rfl rfl dX7_tick_119 ?_
      refine r_goto C (pc := 122) (tgt := 12) dX7_tick_122 (by decide) ?_
      have hs : mSend (mP1 M n).1 n = (0, (mMk (mP1 M n).1 n).2) := if_pos hz
      have hrow : zwf (w118 (m + 1)) (mSend (mP1 M n).1 n).2 := by
        have h := zwf_c (g := w118 (m + 1)) (i := 30) (x := (mMk (mP1 M n).1 n).2.1 30 + 0) g1 (by decide) (by decide) (by rw [ew118, z2_addr (by omega), ew108, z2_addr (by omega), ew90, z2_self]) (fun j hj => by rw [ew118, z2_addr (by omega), ew108, z2_addr (by omega), ew90, z2_ne (by omega)])
        have h2 : zwf (w118 (m + 1)) (upc (mMk (mP1 M n).1 n).2.1 30 ((mMk (mP1 M n).1 n).2.1 30), (mMk (mP1 M n).1 n).2.2) := h
        rw [upc_id] at h2
        rw [hs]
        exact h2
      have hfv : fB v' v2 m := g4
      have hfr : fT v w118 m := by rw [ew118, ew108, ew90]; exact (((hf.tr hfv.T).zw (Or.inl rfl)).zw (Or.inr (Or.inl rfl))).zw (Or.inr (Or.inr rfl))
      refine VV.fg 2 (lv2 := [some (.ref m), some (.int (nI (n + 1))), none]) rfl ?_
      refine ihn w118 hrow ?_ ?_ hfr
      · intro j hj
        show _ = nI (ups (mP1 M n).2 n (mSend (mP1 M n).1 n).1 j / 256)
        rw [hs]
        dsimp only
        rw [ew118, z2_addr (by omega), ew108]
        by_cases hjn : j = n
        · subst hjn; rw [z2_self, ups_s, hz]
        · rw [z2_ne (by omega), ups_n hjn, ew90, z2_addr (by omega), hfv.f (by omega) (by omega) (by omega) (by omega)]; exact e2 j (by omega)
      · intro j hj hj0
        change ups (mP1 M n).2 n (mSend (mP1 M n).1 n).1 j ≠ 0 at hj0
        show _ = nI (ups (mP1 M n).2 n (mSend (mP1 M n).1 n).1 j % 256)
        rw [hs] at hj0 ⊢
        dsimp only at hj0 ⊢
        by_cases hjn : j = n
        · subst hjn; rw [ups_s] at hj0; exact absurd rfl hj0
        · rw [ups_n hjn] at hj0 ⊢
          rw [ew118, z2_ne (by omega), ew108, z2_addr (by omega), ew90, z2_addr (by omega), hfv.f (by omega) (by omega) (by omega) (by omega)]; exact e3 j (by omega) hj0
    · have hnz : (mMk (mP1 M n).1 n).1 ≠ 0 := fun z => by rw [z] at c_45; exact absurd c_45 (by decide)
      refine r_aload_n C (pc := 48) rfl rfl dX7_tick_48 ?_
      refine r_bipush C (pc := 49) (x := (nI 100)) (by decide) dX7_tick_49 ?_
      refine r_callV C (pc := 51) (st := []) (m_X7_draw l G sh v2 N (n := 100) hp g1 hok2.1.2.2.2.2.2.2.2.1 (by decide) (by decide)) kyX7_draw q_758 rfl (Or.inl hd0) hs0 (by decide) rfl rfl rfl (Nat.le_of_ble_eq_true rfl) ⟨Nat.le_of_ble_eq_true rfl, Nat.le_of_ble_eq_true rfl⟩ ⟨Nat.le_of_ble_eq_true rfl, Nat.le_of_ble_eq_true rfl⟩ dX7_tick_51 (fun r51 v51 hp51 => ?_)
      obtain ⟨rfl, g5, g6⟩ := hp51
      refine VV.eq (st2 := [.int (nI (drw ((mMk (mP1 M n).1 n).2.1 6) 100))]) rfl ?_
      have hdr := drw_lt ((mMk (mP1 M n).1 n).2.1 6) (n := 100) (by decide)
      have hls := hok2.1.2.2.2.2.2.2.2.2.1 n (by omega)
      refine r_aload_n C (pc := 54) rfl rfl dX7_tick_54 ?_
      refine r_get C (pc := 55) (ci := 7) (k := 0) (w := .ref (m + 1)) rfl (by decide) inX7 (by decide) q_654 (Or.inl hd0) hs0 (zl_ref _ _) dX7_tick_55 ?_
      refine r_bipush C (pc := 58) (x := (nI 7)) (by decide) dX7_tick_58 ?_
      refine r_iload_n C (pc := 60) rfl rfl dX7_tick_60 ?_
      refine r_iadd C (pc := 61) (z := (nI (7 + n))) (nI_add _ _) dX7_tick_61 ?_
      refine r_iald C (pc := 62) (x := (nI ((mMk (mP1 M n).1 n).2.1 (7 + n)))) (Or.inl hd1) hs1 (by omega) (by omega) (by rw [g5.1 (7 + n) (by omega)]; dsimp only; rw [upc_n (by omega)]) dX7_tick_62 ?_
      refine n_icmp_ge C (pc := 63) (tgt := 70) (by omega) (by omega) dX7_tick_63 (by decide) (fun c_63 => ?_) (fun c_63 => ?_)
      · refine r_iconst C (pc := 70) (x := (nI 0)) (by decide) dX7_tick_70 ?_
        refine r_istore_n C (pc := 71) (lv2 := [some (.ref m), some (.int (nI n)), some (.int (nI 0))]) rfl (Nat.le_of_ble_eq_true rfl) rfl rfl dX7_tick_71 ?_
        refine r_aload_n C (pc := 72) rfl rfl dX7_tick_72 ?_
        refine r_get C (pc := 73) (ci := 7) (k := 0) (w := .ref (m + 1)) rfl (by decide) inX7 (by decide) q_654 (Or.inl hd0) hs0 (zl_ref _ _) dX7_tick_73 ?_
        refine r_bipush C (pc := 76) (x := (nI 30)) (by decide) dX7_tick_76 ?_
        refine r_dup2 C (pc := 78) rfl rfl dX7_tick_78 ?_
        refine r_iald C (pc := 79) (x := (nI ((mMk (mP1 M n).1 n).2.1 30))) (Or.inl hd1) hs1 (by omega) (by omega) (by rw [g5.1 30 (by decide)]; dsimp only; rw [upc_n (by decide)]) dX7_tick_79 ?_
        refine r_iload_n C (pc := 80) rfl rfl dX7_tick_80 ?_
        refine n_if_eq C (pc := 81) (tgt := 88) (by omega) dX7_tick_81 (by decide) (fun c_81 => ?_) (fun c_81 => by exfalso; omega)
        refine r_iconst C (pc := 88) (x := (nI 0)) (by decide) dX7_tick_88 ?_
        refine r_iadd C (pc := 89) (z := (nI (((mMk (mP1 M n).1 n).2.1 30) + 0))) (nI_add _ _) dX7_tick_89 ?_
        refine r_iast C (pc := 90) hd1 hs1 (by omega) (by omega) dX7_tick_90 ?_
        refine VV.gn (fun w90 ew90 => ?_)
        refine r_aload_n C (pc := 91) rfl rfl dX7_tick_91 ?_
        refine r_get C (pc := 92) (ci := 7) (k := 11) (w := .ref (m + 6)) rfl (by decide) inX7 (by decide) q_665 (Or.inl hd0) hs0 (zl_ref _ _) dX7_tick_92 ?_
        refine r_iload_n C (pc := 95) rfl rfl dX7_tick_95 ?_
        refine r_iload_n C (pc := 96) rfl rfl dX7_tick_96 ?_
        refine n_if_eq C (pc := 97) (tgt := 104) (by omega) dX7_tick_97 (by decide) (fun c_97 => ?_) (fun c_97 => by exfalso; omega)
        refine r_aload_n C (pc := 104) rfl rfl dX7_tick_104 ?_
        refine r_get C (pc := 105) (ci := 7) (k := 9) (w := .int (nI ((mMk (mP1 M n).1 n).1 / 256))) rfl (by decide) inX7 (by decide) q_663 (Or.inl hd0) hs0 (zl_i (by rw [ew90, z2_addr (by omega), g6 m (by omega)]; exact g2)) dX7_tick_105 ?_
        refine r_iast C (pc := 108) hd6 hs6 (by omega) (by omega) dX7_tick_108 ?_
        refine VV.gn (fun w108 ew108 => ?_)
        refine r_aload_n C (pc := 109) rfl rfl dX7_tick_109 ?_
        refine r_get C (pc := 110) (ci := 7) (k := 12) (w := .ref (m + 7)) rfl (by decide) inX7 (by decide) q_666 (Or.inl hd0) hs0 (zl_ref _ _) dX7_tick_110 ?_
        refine r_iload_n C (pc := 113) rfl rfl dX7_tick_113 ?_
        refine r_aload_n C (pc := 114) rfl rfl dX7_tick_114 ?_
        refine r_get C (pc := 115) (ci := 7) (k := 10) (w := .int (nI ((mMk (mP1 M n).1 n).1 % 256))) rfl (by decide) inX7 (by decide) q_664 (Or.inl hd0) hs0 (zl_i (by rw [ew108, z2_addr (by omega), ew90, z2_addr (by omega), g6 m (by omega)]; exact g3 hnz)) dX7_tick_115 ?_
        refine r_iast C (pc := 118) hd7 hs7 (by omega) (by omega) dX7_tick_118 ?_
        refine VV.gn (fun w118 ew118 => ?_)
        refine r_iinc C (pc := 119) (lv2 := [some (.ref m), some (.int (nI (n + 1))), some (.int (nI 0))]) (y := (nI (n + 1))) rfl (nI_inc _ _) (Nat.le_of_ble_eq_true rfl) rfl rfl dX7_tick_119 ?_
        refine r_goto C (pc := 122) (tgt := 12) dX7_tick_122 (by decide) ?_
        have hs : mSend (mP1 M n).1 n = ((mMk (mP1 M n).1 n).1, upc (mMk (mP1 M n).1 n).2.1 6 (dseed ((mMk (mP1 M n).1 n).2.1 6)), (mMk (mP1 M n).1 n).2.2) := (if_neg hnz).trans (if_neg (by omega))
        have hrow : zwf (w118 (m + 1)) (mSend (mP1 M n).1 n).2 := by
          have h := zwf_c (g := w118 (m + 1)) (i := 30) (x := (mMk (mP1 M n).1 n).2.1 30 + 0) g5 (by decide) (by decide) (by rw [ew118, z2_addr (by omega), ew108, z2_addr (by omega), ew90, z2_self]) (fun j hj => by rw [ew118, z2_addr (by omega), ew108, z2_addr (by omega), ew90, z2_ne (by omega)])
          rw [hs]
          have e30 : upc (mMk (mP1 M n).1 n).2.1 6 (dseed ((mMk (mP1 M n).1 n).2.1 6)) 30 = (mMk (mP1 M n).1 n).2.1 30 := upc_n (by decide)
          have h2 : zwf (w118 (m + 1)) (upc (upc (mMk (mP1 M n).1 n).2.1 6 (dseed ((mMk (mP1 M n).1 n).2.1 6))) 30 ((mMk (mP1 M n).1 n).2.1 30), (mMk (mP1 M n).1 n).2.2) := h
          rw [← e30, upc_id] at h2
          exact h2
        have hfv : fB v' v51 m := g4.tr g6.B
        have hfr : fT v w118 m := by rw [ew118, ew108, ew90]; exact (((hf.tr hfv.T).zw (Or.inl rfl)).zw (Or.inr (Or.inl rfl))).zw (Or.inr (Or.inr rfl))
        refine VV.fg 2 (lv2 := [some (.ref m), some (.int (nI (n + 1))), none]) rfl ?_
        refine ihn w118 hrow ?_ ?_ hfr
        · intro j hj
          show _ = nI (ups (mP1 M n).2 n (mSend (mP1 M n).1 n).1 j / 256)
          rw [hs]
          dsimp only
          rw [ew118, z2_addr (by omega), ew108]
          by_cases hjn : j = n
          · subst hjn; rw [z2_self, ups_s]
          · rw [z2_ne (by omega), ups_n hjn, ew90, z2_addr (by omega), hfv.f (by omega) (by omega) (by omega) (by omega)]; exact e2 j (by omega)
        · intro j hj hj0
          change ups (mP1 M n).2 n (mSend (mP1 M n).1 n).1 j ≠ 0 at hj0
          show _ = nI (ups (mP1 M n).2 n (mSend (mP1 M n).1 n).1 j % 256)
          rw [hs] at hj0 ⊢
          dsimp only at hj0 ⊢
          by_cases hjn : j = n
          · subst hjn; rw [ups_s, ew118, z2_self]
          · rw [ups_n hjn] at hj0 ⊢
            rw [ew118, z2_ne (by omega), ew108, z2_addr (by omega), ew90, z2_addr (by omega), hfv.f (by omega) (by omega) (by omega) (by omega)]; exact e3 j (by omega) hj0
      · refine r_iconst C (pc := 66) (x := (nI 1)) (by decide) dX7_tick_66 ?_
        refine r_goto C (pc := 67) (tgt := 71) dX7_tick_67 (by decide) ?_
        refine r_istore_n C (pc := 71) (lv2 := [some (.ref m), some (.int (nI n)), some (.int (nI 1))]) rfl (Nat.le_of_ble_eq_true rfl) rfl rfl dX7_tick_71 ?_
        refine r_aload_n C (pc := 72) rfl rfl dX7_tick_72 ?_
        refine r_get C (pc := 73) (ci := 7) (k := 0) (w := .ref (m + 1)) rfl (by decide) inX7 (by decide) q_654 (Or.inl hd0) hs0 (zl_ref _ _) dX7_tick_73 ?_
        refine r_bipush C (pc := 76) (x := (nI 30)) (by decide) dX7_tick_76 ?_
        refine r_dup2 C (pc := 78) rfl rfl dX7_tick_78 ?_
        refine r_iald C (pc := 79) (x := (nI ((mMk (mP1 M n).1 n).2.1 30))) (Or.inl hd1) hs1 (by omega) (by omega) (by rw [g5.1 30 (by decide)]; dsimp only; rw [upc_n (by decide)]) dX7_tick_79 ?_
        refine r_iload_n C (pc := 80) rfl rfl dX7_tick_80 ?_
        refine n_if_eq C (pc := 81) (tgt := 88) (by omega) dX7_tick_81 (by decide) (fun c_81 => by exfalso; omega) (fun c_81 => ?_)
        refine r_iconst C (pc := 84) (x := (nI 1)) (by decide) dX7_tick_84 ?_
        refine r_goto C (pc := 85) (tgt := 89) dX7_tick_85 (by decide) ?_
        refine r_iadd C (pc := 89) (z := (nI (((mMk (mP1 M n).1 n).2.1 30) + 1))) (nI_add _ _) dX7_tick_89 ?_
        refine r_iast C (pc := 90) hd1 hs1 (by omega) (by omega) dX7_tick_90 ?_
        refine VV.gn (fun w90 ew90 => ?_)
        refine r_aload_n C (pc := 91) rfl rfl dX7_tick_91 ?_
        refine r_get C (pc := 92) (ci := 7) (k := 11) (w := .ref (m + 6)) rfl (by decide) inX7 (by decide) q_665 (Or.inl hd0) hs0 (zl_ref _ _) dX7_tick_92 ?_
        refine r_iload_n C (pc := 95) rfl rfl dX7_tick_95 ?_
        refine r_iload_n C (pc := 96) rfl rfl dX7_tick_96 ?_
        refine n_if_eq C (pc := 97) (tgt := 104) (by omega) dX7_tick_97 (by decide) (fun c_97 => by exfalso; omega) (fun c_97 => ?_)
        refine r_iconst C (pc := 100) (x := (nI 0)) (by decide) dX7_tick_100 ?_
        refine r_goto C (pc := 101) (tgt := 108) dX7_tick_101 (by decide) ?_
        refine r_iast C (pc := 108) hd6 hs6 (by omega) (by omega) dX7_tick_108 ?_
        refine VV.gn (fun w108 ew108 => ?_)
        refine r_aload_n C (pc := 109) rfl rfl dX7_tick_109 ?_
        refine r_get C (pc := 110) (ci := 7) (k := 12) (w := .ref (m + 7)) rfl (by decide) inX7 (by decide) q_666 (Or.inl hd0) hs0 (zl_ref _ _) dX7_tick_110 ?_
        refine r_iload_n C (pc := 113) rfl rfl dX7_tick_113 ?_
        refine r_aload_n C (pc := 114) rfl rfl dX7_tick_114 ?_
        refine r_get C (pc := 115) (ci := 7) (k := 10) (w := .int (nI ((mMk (mP1 M n).1 n).1 % 256))) rfl (by decide) inX7 (by decide) q_664 (Or.inl hd0) hs0 (zl_i (by rw [ew108, z2_addr (by omega), ew90, z2_addr (by omega), g6 m (by omega)]; exact g3 hnz)) dX7_tick_115 ?_
        refine r_iast C (pc := 118) hd7 hs7 (by omega) (by omega) dX7_tick_118 ?_
        refine VV.gn (fun w118 ew118 => ?_)
        refine r_iinc C (pc := 119) (lv2 := [some (.ref m), some (.int (nI (n + 1))), some (.int (nI 1))]) (y := (nI (n + 1))) rfl (nI_inc _ _) (Nat.le_of_ble_eq_true rfl) rfl rfl dX7_tick_119 ?_
        refine r_goto C (pc := 122) (tgt := 12) dX7_tick_122 (by decide) ?_
        have hs : mSend (mP1 M n).1 n = (0, upc (upc (mMk (mP1 M n).1 n).2.1 6 (dseed ((mMk (mP1 M n).1 n).2.1 6))) 30 ((mMk (mP1 M n).1 n).2.1 30 + 1), (mMk (mP1 M n).1 n).2.2) := (if_neg hnz).trans (if_pos c_63)
        have hrow : zwf (w118 (m + 1)) (mSend (mP1 M n).1 n).2 := by
          have h := zwf_c (g := w118 (m + 1)) (i := 30) (x := (mMk (mP1 M n).1 n).2.1 30 + 1) g5 (by decide) (by decide) (by rw [ew118, z2_addr (by omega), ew108, z2_addr (by omega), ew90, z2_self]) (fun j hj => by rw [ew118, z2_addr (by omega), ew108, z2_addr (by omega), ew90, z2_ne (by omega)])
          rw [hs]
          exact h
        have hfv : fB v' v51 m := g4.tr g6.B
        have hfr : fT v w118 m := by rw [ew118, ew108, ew90]; exact (((hf.tr hfv.T).zw (Or.inl rfl)).zw (Or.inr (Or.inl rfl))).zw (Or.inr (Or.inr rfl))
        refine VV.fg 2 (lv2 := [some (.ref m), some (.int (nI (n + 1))), none]) rfl ?_
        refine ihn w118 hrow ?_ ?_ hfr
        · intro j hj
          show _ = nI (ups (mP1 M n).2 n (mSend (mP1 M n).1 n).1 j / 256)
          rw [hs]
          dsimp only
          rw [ew118, z2_addr (by omega), ew108]
          by_cases hjn : j = n
          · subst hjn; rw [z2_self, ups_s]
          · rw [z2_ne (by omega), ups_n hjn, ew90, z2_addr (by omega), hfv.f (by omega) (by omega) (by omega) (by omega)]; exact e2 j (by omega)
        · intro j hj hj0
          change ups (mP1 M n).2 n (mSend (mP1 M n).1 n).1 j ≠ 0 at hj0
          show _ = nI (ups (mP1 M n).2 n (mSend (mP1 M n).1 n).1 j % 256)
          rw [hs] at hj0 ⊢
          dsimp only at hj0 ⊢
          by_cases hjn : j = n
          · subst hjn; rw [ups_s] at hj0; exact absurd rfl hj0
          · rw [ups_n hjn] at hj0 ⊢
            rw [ew118, z2_ne (by omega), ew108, z2_addr (by omega), ew90, z2_addr (by omega), hfv.f (by omega) (by omega) (by omega) (by omega)]; exact e3 j (by omega) hj0
  have loop : ∀ (d n : Nat) (v' : zV), M.1 1 + 1 - n < d → n ≤ M.1 1 + 1 → zwf (v' (m + 1)) (mP1 M n).1 → (∀ j, j < n → v' (m + 6) j = nI ((mP1 M n).2 j / 256)) → (∀ j, j < n → (mP1 M n).2 j ≠ 0 → v' (m + 7) j = nI ((mP1 M n).2 j % 256)) → fT v v' m → VV p l e ({ frames := 5, cells := 0, slots := 0, locals := 32 * 5 }) s mi args below meth c 0 0 (zQ below (fun r sh1 v1 N1 => sh1 = sh ∧ N1 = N ∧ (r = none ∧ zwf (v1 (m + 1)) (mTick M) ∧ fT v v1 m)) G args s 0 0) G 3 sh v' N 12 [some (.ref m), some (.int (nI n)), none] [] := by
    intro d
    induction d with
    | zero => intro n v' hm; omega
    | succ d ih0 =>
      intro n v' hm hn e1 e2 e3 e4
      have ih : n ≤ M.1 1 → (∀ v' : zV, zwf (v' (m + 1)) (mP1 M (n + 1)).1 → (∀ j, j < n + 1 → v' (m + 6) j = nI ((mP1 M (n + 1)).2 j / 256)) → (∀ j, j < n + 1 → (mP1 M (n + 1)).2 j ≠ 0 → v' (m + 7) j = nI ((mP1 M (n + 1)).2 j % 256)) → fT v v' m → VV p l e ({ frames := 5, cells := 0, slots := 0, locals := 32 * 5 }) s mi args below meth c 0 0 (zQ below (fun r sh1 v1 N1 => sh1 = sh ∧ N1 = N ∧ (r = none ∧ zwf (v1 (m + 1)) (mTick M) ∧ fT v v1 m)) G args s 0 0) G 3 sh v' N 12 [some (.ref m), some (.int (nI (n + 1))), none] []) := fun h v' => ih0 (n + 1) v' (by omega) (by omega)
      obtain ⟨hok, hcon, hcc⟩ := mP1_ok hk n (by omega)
      have hc1 : (mP1 M n).1.1 1 = M.1 1 := hcc 1 (by decide) (by decide) (by decide) (by decide)
      refine r_iload_n C (pc := 12) rfl rfl dX7_tick_12 ?_
      refine r_aload_n C (pc := 13) rfl rfl dX7_tick_13 ?_
      refine r_get C (pc := 14) (ci := 7) (k := 0) (w := .ref (m + 1)) rfl (by decide) inX7 (by decide) q_654 (Or.inl hd0) hs0 (zl_ref _ _) dX7_tick_14 ?_
      refine r_iconst C (pc := 17) (x := (nI 1)) (by decide) dX7_tick_17 ?_
      refine r_iald C (pc := 18) (x := (nI (M.1 1))) (Or.inl hd1) hs1 (by omega) (by omega) (by rw [e1.1 1 (by decide), hc1]) dX7_tick_18 ?_
      refine n_icmp_gt C (pc := 19) (tgt := 125) (by omega) (by omega) dX7_tick_19 (by decide) (fun c_19 => ?_) (fun c_19 => ?_)
      · obtain rfl : n = M.1 1 + 1 := by omega
        exact phase2 v' e1 (fun j hj => e2 j (by omega)) (fun j hj => e3 j (by omega)) e4
      · obtain ⟨hok2, hcp⟩ := mMk_ok hok (n := n) (by omega)
        refine r_iload_n C (pc := 22) rfl rfl dX7_tick_22 ?_
        refine n_if_ne C (pc := 23) (tgt := 33) (by omega) dX7_tick_23 (by decide) (fun c_23 => ?_) (fun c_23 => ?_)
        · refine r_aload_n C (pc := 33) rfl rfl dX7_tick_33 ?_
          refine r_iload_n C (pc := 34) rfl rfl dX7_tick_34 ?_
          refine r_callS C (pc := 35) (st := [.ref m]) (m_X7_storeOf l G sh v' N (r0 := n) (by omega) (by omega)) kyX7_storeOf q_736 rfl rfl (Nat.le_of_ble_eq_true rfl) ⟨Nat.le_of_ble_eq_true rfl, Nat.le_of_ble_eq_true rfl⟩ ⟨Nat.le_of_ble_eq_true rfl, Nat.le_of_ble_eq_true rfl⟩ dX7_tick_35 (fun r35 v35 hp35 => ?_)
          obtain ⟨rfl, ehp35⟩ := hp35
          refine VV.vq ehp35 ?_
          refine VV.eq (st2 := [.int (nI (lb (n - 1))), .ref m]) rfl ?_
          refine r_callV C (pc := 38) (st := []) (m_X7_makeAtRelay l G sh v' N (r0 := n - 1) hp e1 hok (by omega)) kyX7_makeAtRelay q_770 rfl (Or.inl hd0) hs0 (by decide) rfl rfl rfl (Nat.le_of_ble_eq_true rfl) ⟨Nat.le_of_ble_eq_true rfl, Nat.le_of_ble_eq_true rfl⟩ ⟨Nat.le_of_ble_eq_true rfl, Nat.le_of_ble_eq_true rfl⟩ dX7_tick_38 (fun r38 v38 hp38 => ?_)
          obtain ⟨rfl, g1, g2, g3, g4⟩ := hp38
          refine VV.eq (st2 := []) rfl ?_
          have hmk : (mMk (mP1 M n).1 n) = mRel (mP1 M n).1 (n - 1) := if_neg (by omega)
          exact after41 n v' v38 hok (by omega) e2 e3 e4 (ih (by omega)) (by rw [hmk]; exact g1) (by rw [hmk]; exact g2) (by rw [hmk]; exact g3) g4
        · refine r_aload_n C (pc := 26) rfl rfl dX7_tick_26 ?_
          refine r_callV C (pc := 27) (st := []) (m_X7_makeAtSource l G sh v' N hp e1 hok) kyX7_makeAtSource q_754 rfl (Or.inl hd0) hs0 (by decide) rfl rfl rfl (Nat.le_of_ble_eq_true rfl) ⟨Nat.le_of_ble_eq_true rfl, Nat.le_of_ble_eq_true rfl⟩ ⟨Nat.le_of_ble_eq_true rfl, Nat.le_of_ble_eq_true rfl⟩ dX7_tick_27 (fun r27 v27 hp27 => ?_)
          obtain ⟨rfl, g1, g2, g3, g4⟩ := hp27
          refine VV.eq (st2 := []) rfl ?_
          refine r_goto C (pc := 30) (tgt := 41) dX7_tick_30 (by decide) ?_
          have hmk : (mMk (mP1 M n).1 n) = mSrc (mP1 M n).1 := if_pos c_23
          exact after41 n v' v27 hok (by omega) e2 e3 e4 (ih (by omega)) (by rw [hmk]; exact g1) (by rw [hmk]; exact g2) (by rw [hmk]; exact fun _ => g3) g4
  refine r_aload_n C (pc := 0) rfl rfl dX7_tick_0 ?_
  refine r_get C (pc := 1) (ci := 7) (k := 0) (w := .ref (m + 1)) rfl (by decide) inX7 (by decide) q_654 (Or.inl hd0) hs0 (zl_ref _ _) dX7_tick_1 ?_
  refine r_iconst C (pc := 4) (x := (nI 2)) (by decide) dX7_tick_4 ?_
  refine r_dup2 C (pc := 5) rfl rfl dX7_tick_5 ?_
  refine r_iald C (pc := 6) (x := (nI (M.1 2))) (Or.inl hd1) hs1 (by omega) (by omega) (hv.1 2 (by decide)) dX7_tick_6 ?_
  refine r_iconst C (pc := 7) (x := (nI 1)) (by decide) dX7_tick_7 ?_
  refine r_iadd C (pc := 8) (z := (nI ((M.1 2) + 1))) (nI_add _ _) dX7_tick_8 ?_
  refine r_iast C (pc := 9) hd1 hs1 (by omega) (by omega) dX7_tick_9 ?_
  refine VV.gn (fun w9 ew9 => ?_)
  refine r_iconst C (pc := 10) (x := (nI 0)) (by decide) dX7_tick_10 ?_
  refine r_istore_n C (pc := 11) (lv2 := [some (.ref m), some (.int (nI 0)), none]) rfl (Nat.le_of_ble_eq_true rfl) rfl rfl dX7_tick_11 ?_
  exact loop (M.1 1 + 2) 0 w9 (by omega) (by omega) (zwf_c hv (by decide) (by decide) (by rw [ew9, z2_self]) (fun j hj => by rw [ew9, z2_ne (by omega)])) (fun j hj => absurd hj (Nat.not_lt_zero j)) (fun j hj => absurd hj (Nat.not_lt_zero j)) (by rw [ew9]; exact fT.rf.zw (Or.inl rfl))
