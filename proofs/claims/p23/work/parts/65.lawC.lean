/-! what the receiver knows is right -/
def kbs (kt : Nat → Option Nat) : Nat → Nat
  | 0 => 0
  | n + 1 => if (kt n).isSome then kbs kt n ||| 2 ^ n else kbs kt n
theorem kbs_tb (kt : Nat → Option Nat) (j : Nat) : ∀ n, (kbs kt n).testBit j = (decide (j < n) && (kt j).isSome)
  | 0 => by
    show (0 : Nat).testBit j = _
    rw [Nat.zero_testBit]; simp
  | n + 1 => by
    have ih := kbs_tb kt j n
    show (if (kt n).isSome then kbs kt n ||| 2 ^ n else kbs kt n).testBit j = _
    by_cases hjn : j = n
    · subst hjn
      cases hs : (kt j).isSome with
      | true => rw [if_pos rfl, Nat.testBit_or, Nat.testBit_two_pow_self]; simp
      | false =>
        rw [if_neg (by decide), ih, hs]; simp
    · have e1 : decide (j < n + 1) = decide (j < n) := by simp; omega
      rw [e1, ← ih]
      split
      · rw [Nat.testBit_or, Nat.testBit_two_pow, decide_eq_false (fun z => hjn z.symm), Bool.or_false]
      · rfl
theorem cntn_mono {kt so : Nat → Option Nat} : ∀ n, (∀ b, b < n → (kt b).isSome = true → (so b).isSome = true) → cntn kt n ≤ cntn so n
  | 0, _ => Nat.le_refl _
  | n + 1, h => by
    have h1 := cntn_mono n (fun b hb => h b (by omega))
    show cntn kt n + (if (kt n).isSome then 1 else 0) ≤ cntn so n + (if (so n).isSome then 1 else 0)
    cases hs : (kt n).isSome with
    | true => rw [h n (Nat.lt_succ_self n) hs]; exact Nat.add_le_add_right h1 _
    | false =>
      rw [if_neg (by decide)]
      split <;> omega
theorem wt_k {M : zMS} {k : Nat} (h : zE M) (g : zF M) (hk : k < (M.2.1 4).length) : (M.2.1 4).getD k 0 / 256 < 2 ^ M.1 0 ∧ (M.2.1 4).getD k 0 % 256 = vln (zVl M) ((M.2.1 4).getD k 0 / 256) (M.1 0) ∧ 2 ≤ pop ((M.2.1 4).getD k 0 / 256) ∧ (M.2.1 4).getD k 0 / 256 &&& kbs M.2.2.2 (M.1 0) = 0 := by
  have hK := h.1.1.2.1
  have hm : (M.2.1 4).getD k 0 ∈ M.2.1 4 := by
    rw [show (M.2.1 4).getD k 0 = (M.2.1 4)[k] by simp [List.getD, hk]]
    exact List.getElem_mem hk
  have f2 := q_lt (h.2.1 4 (by decide) _ hm)
  have f3 := (h.1.2.2.1 4 (by decide) _ hm).2
  rw [vln_hi f2 12 hK] at f3
  refine ⟨f2, f3, g.2.1 _ hm, ?_⟩
  apply Nat.eq_of_testBit_eq
  intro j
  rw [Nat.testBit_and, kbs_tb, Nat.zero_testBit, dv_tb]
  by_cases hj : j < M.1 0
  · cases hs : (M.2.2.2 j).isSome with
    | true => rw [h.2.2.2.2.1.2 _ hm j (by omega) hs]; rfl
    | false => simp
  · rw [decide_eq_false hj]; simp
theorem m9_le {n : Nat} (h : n < 2 ^ 31) : (-9 : Int32) ≤ nI n := by
  rw [Int32.le_iff_toInt_le, nI_toInt h]
  show (-9 : Int) ≤ n
  omega
set_option maxRecDepth 100000 in
set_option maxHeartbeats 4000000 in
theorem m_L_isReceiver (l : Launch) (G : zG) (sh : zH) (v : zV) (N : Nat) {v0 : zV} {x : Nat} {q : Nat → Nat} {M : zMS} {h : zHs} {T : Nat} (hX : zXR G sh N x q) (hb : zB v0 v x q M h) (hI : zI T (M, h)) (hT : T + 1000 < 2 ^ 30) (hT2 : T < 2 ^ 28) (hF : zF M) (hA : M.1 31 ≤ 720) : zm l G yL_isReceiver cL_isReceiver 8 (some .boolean) 5 [.ref x] sh v N (fun r v1 => r = some (.int (nI 1)) ∧ zB v0 v1 x q M h) := by
  refine zM.of (by decide) rfl (Nat.le_of_ble_eq_true rfl) ?_
  intro p e s m args below meth c C
  have hd6 : G.2.2.1 ≤ x ∧ x < N := ⟨hX.1, by have := hX.2.1; omega⟩
  have hK12 : M.1 0 ≤ 12 := hI.1.1.1.1.2.1
  have hK2 : 2 ≤ M.1 0 := hI.1.1.1.1.1
  have hV : ∀ b, b < 12 → M.1 (17 + b) < 256 := mOK_V hI.1.1.1
  have hE : zE M := hI.1.1
  have h2K := pK hI
  have ht2 : M.1 2 ≤ T := hI.1.2.1.1
  have h20 : (M.2.1 4).length ≤ 20 := hE.1.2.2.2.2.1
  have h33 : (M.2.1 4).length ≤ M.1 33 := hE.2.2.2.2.2.1
  have h33b : M.1 33 ≤ 20 := hE.1.2.2.2.2.2
  have hk3 := kept_le hE
  have hsum : M.1 31 = M.1 32 + (M.2.1 3).length := hF.2.2.2.2.2.1
  have h30 : M.1 30 ≤ 4 * M.1 2 := hF.2.2.2.2.2.2
  have hck := cntn_le M.2.2.2 (M.1 0)
  have hcs := cntn_le M.2.2.1 (M.1 0)
  have hks : cntn M.2.2.2 (M.1 0) ≤ cntn M.2.2.1 (M.1 0) := cntn_mono (M.1 0) (fun b _ hs => by
    obtain ⟨u, hu⟩ := Option.isSome_iff_exists.mp hs
    obtain ⟨-, w, -, hw⟩ := hF.2.2.2.1 b u hu
    rw [hw]; rfl)
  have hwi : (M.2.1 3).length = M.1 0 ↔ cntn M.2.2.1 (M.1 0) = M.1 0 := by
    have := whole_iff hE
    rw [cnt_so hE] at this
    exact this
  have tail2 : ∀ v' : zV, zB v0 v' x q M h → VV p l e ({ frames := 5, cells := 0, slots := 0, locals := 32 * 5 }) s m args below meth c 0 0 (zQ below (fun r sh1 v1 N1 => sh1 = sh ∧ N1 = N ∧ (r = some (.int (nI 1)) ∧ zB v0 v1 x q M h)) G args s 0 0) G 8 sh v' N 335 [some (.ref x), some (.int (nI (cntn M.2.2.2 (M.1 0)))), some (.int (nI (cntn M.2.2.1 (M.1 0)))), some (.int (nI (kbs M.2.2.2 (M.1 0)))), some (.int (nI ((M.2.1 4).length))), none, none, none] [] := by
    intro v' hb'
    by_cases hw : (M.2.1 3).length = M.1 0
    · have hw2 := hwi.mp hw
      by_cases hz : (M.2.1 3).length = 0
      · exfalso; omega
      · have hz2 := hz
        refine r_aload_n C (pc := 335) rfl rfl dL_isReceiver_335 ?_
        refine r_bipush C (pc := 336) (x := (nI 12)) (by decide) dL_isReceiver_336 ?_
        refine r_callV C (pc := 338) (st := []) (t_told l G sh v' N (k := 12) hX hb' hI hT (by decide) (z := nI (cntn M.2.2.2 (M.1 0))) (congrArg nI (cnt_kt hE))) kyX6_told q_251 rfl (Or.inl hd6) hX.2.2.1 (by decide) rfl rfl rfl (Nat.le_of_ble_eq_true rfl) ⟨Nat.le_of_ble_eq_true rfl, Nat.le_of_ble_eq_true rfl⟩ ⟨Nat.le_of_ble_eq_true rfl, Nat.le_of_ble_eq_true rfl⟩ dL_isReceiver_338 (fun r338 v338 hp338 => ?_)
        obtain ⟨rfl, hb338⟩ := hp338
        refine VV.eq (st2 := [.int (nI (cntn M.2.2.2 (M.1 0)))]) rfl ?_
        refine r_iload_n C (pc := 341) rfl rfl dL_isReceiver_341 ?_
        refine n_icmp_ne C (pc := 342) (tgt := 411) (by omega) (by omega) dL_isReceiver_342 (by decide) (fun c_342 => by exfalso; exact c_342 rfl) (fun c_342 => ?_)
        refine r_aload_n C (pc := 345) rfl rfl dL_isReceiver_345 ?_
        refine r_bipush C (pc := 346) (x := (nI 14)) (by decide) dL_isReceiver_346 ?_
        refine r_callV C (pc := 348) (st := []) (t_told l G sh v338 N (k := 14) hX hb338 hI hT (by decide) (z := nI (cntn M.2.2.1 (M.1 0))) (congrArg nI (cnt_so hE))) kyX6_told q_251 rfl (Or.inl hd6) hX.2.2.1 (by decide) rfl rfl rfl (Nat.le_of_ble_eq_true rfl) ⟨Nat.le_of_ble_eq_true rfl, Nat.le_of_ble_eq_true rfl⟩ ⟨Nat.le_of_ble_eq_true rfl, Nat.le_of_ble_eq_true rfl⟩ dL_isReceiver_348 (fun r348 v348 hp348 => ?_)
        obtain ⟨rfl, hb348⟩ := hp348
        refine VV.eq (st2 := [.int (nI (cntn M.2.2.1 (M.1 0)))]) rfl ?_
        refine r_iload_n C (pc := 351) rfl rfl dL_isReceiver_351 ?_
        refine n_icmp_ne C (pc := 352) (tgt := 411) (by omega) (by omega) dL_isReceiver_352 (by decide) (fun c_352 => by exfalso; exact c_352 rfl) (fun c_352 => ?_)
        refine r_aload_n C (pc := 355) rfl rfl dL_isReceiver_355 ?_
        refine r_bipush C (pc := 356) (x := (nI 9)) (by decide) dL_isReceiver_356 ?_
        refine r_callV C (pc := 358) (st := []) (t_told l G sh v348 N (k := 9) hX hb348 hI hT (by decide) (z := nI (M.1 31)) (rfl)) kyX6_told q_251 rfl (Or.inl hd6) hX.2.2.1 (by decide) rfl rfl rfl (Nat.le_of_ble_eq_true rfl) ⟨Nat.le_of_ble_eq_true rfl, Nat.le_of_ble_eq_true rfl⟩ ⟨Nat.le_of_ble_eq_true rfl, Nat.le_of_ble_eq_true rfl⟩ dL_isReceiver_358 (fun r358 v358 hp358 => ?_)
        obtain ⟨rfl, hb358⟩ := hp358
        refine VV.eq (st2 := [.int (nI (M.1 31))]) rfl ?_
        refine r_aload_n C (pc := 361) rfl rfl dL_isReceiver_361 ?_
        refine r_bipush C (pc := 362) (x := (nI 10)) (by decide) dL_isReceiver_362 ?_
        refine r_callV C (pc := 364) (st := [.int (nI (M.1 31))]) (t_told l G sh v358 N (k := 10) hX hb358 hI hT (by decide) (z := nI (M.1 32)) (rfl)) kyX6_told q_251 rfl (Or.inl hd6) hX.2.2.1 (by decide) rfl rfl rfl (Nat.le_of_ble_eq_true rfl) ⟨Nat.le_of_ble_eq_true rfl, Nat.le_of_ble_eq_true rfl⟩ ⟨Nat.le_of_ble_eq_true rfl, Nat.le_of_ble_eq_true rfl⟩ dL_isReceiver_364 (fun r364 v364 hp364 => ?_)
        obtain ⟨rfl, hb364⟩ := hp364
        refine VV.eq (st2 := [.int (nI (M.1 32)), .int (nI (M.1 31))]) rfl ?_
        refine r_aload_n C (pc := 367) rfl rfl dL_isReceiver_367 ?_
        refine r_bipush C (pc := 368) (x := (nI 11)) (by decide) dL_isReceiver_368 ?_
        refine r_callV C (pc := 370) (st := [.int (nI (M.1 32)), .int (nI (M.1 31))]) (t_told l G sh v364 N (k := 11) hX hb364 hI hT (by decide) (z := nI ((M.2.1 3).length)) (rfl)) kyX6_told q_251 rfl (Or.inl hd6) hX.2.2.1 (by decide) rfl rfl rfl (Nat.le_of_ble_eq_true rfl) ⟨Nat.le_of_ble_eq_true rfl, Nat.le_of_ble_eq_true rfl⟩ ⟨Nat.le_of_ble_eq_true rfl, Nat.le_of_ble_eq_true rfl⟩ dL_isReceiver_370 (fun r370 v370 hp370 => ?_)
        obtain ⟨rfl, hb370⟩ := hp370
        refine VV.eq (st2 := [.int (nI ((M.2.1 3).length)), .int (nI (M.1 32)), .int (nI (M.1 31))]) rfl ?_
        refine r_iadd C (pc := 373) (z := (nI ((M.1 32) + ((M.2.1 3).length)))) (nI_add _ _) dL_isReceiver_373 ?_
        refine n_icmp_ne C (pc := 374) (tgt := 411) (by omega) (by omega) dL_isReceiver_374 (by decide) (fun c_374 => by exfalso; omega) (fun c_374 => ?_)
        refine r_iload C (pc := 377) rfl dL_isReceiver_377 ?_
        refine r_bipush C (pc := 379) (x := (nI 20)) (by decide) dL_isReceiver_379 ?_
        refine n_icmp_gt C (pc := 381) (tgt := 411) (by omega) (by omega) dL_isReceiver_381 (by decide) (fun c_381 => by exfalso; omega) (fun c_381 => ?_)
        refine r_iload C (pc := 384) rfl dL_isReceiver_384 ?_
        refine r_aload_n C (pc := 386) rfl rfl dL_isReceiver_386 ?_
        refine r_bipush C (pc := 387) (x := (nI 15)) (by decide) dL_isReceiver_387 ?_
        refine r_callV C (pc := 389) (st := [.int (nI ((M.2.1 4).length))]) (t_told l G sh v370 N (k := 15) hX hb370 hI hT (by decide) (z := nI (M.1 33)) (rfl)) kyX6_told q_251 rfl (Or.inl hd6) hX.2.2.1 (by decide) rfl rfl rfl (Nat.le_of_ble_eq_true rfl) ⟨Nat.le_of_ble_eq_true rfl, Nat.le_of_ble_eq_true rfl⟩ ⟨Nat.le_of_ble_eq_true rfl, Nat.le_of_ble_eq_true rfl⟩ dL_isReceiver_389 (fun r389 v389 hp389 => ?_)
        obtain ⟨rfl, hb389⟩ := hp389
        refine VV.eq (st2 := [.int (nI (M.1 33)), .int (nI ((M.2.1 4).length))]) rfl ?_
        refine n_icmp_gt C (pc := 392) (tgt := 411) (by omega) (by omega) dL_isReceiver_392 (by decide) (fun c_392 => by exfalso; omega) (fun c_392 => ?_)
        refine r_aload_n C (pc := 395) rfl rfl dL_isReceiver_395 ?_
        refine r_iload C (pc := 396) rfl dL_isReceiver_396 ?_
        refine r_iconst C (pc := 398) (x := (nI 0)) (by decide) dL_isReceiver_398 ?_
        refine r_callV C (pc := 399) (st := []) (t_waiting l G sh v389 N (k := (M.2.1 4).length) (w := 0) hX hb389 hI hT (by omega) (by decide) (z := -9) (ptIe)) kyX6_waiting q_604 rfl (Or.inl hd6) hX.2.2.1 (by decide) rfl rfl rfl (Nat.le_of_ble_eq_true rfl) ⟨Nat.le_of_ble_eq_true rfl, Nat.le_of_ble_eq_true rfl⟩ ⟨Nat.le_of_ble_eq_true rfl, Nat.le_of_ble_eq_true rfl⟩ dL_isReceiver_399 (fun r399 v399 hp399 => ?_)
        obtain ⟨rfl, hb399⟩ := hp399
        refine VV.eq (st2 := [.int (-9)]) rfl ?_
        refine r_bipush C (pc := 402) (x := (-9)) (by decide) dL_isReceiver_402 ?_
        refine r_icmp_ne C (pc := 404) (tgt := 411) dL_isReceiver_404 (by decide) (fun c_404 => by exfalso; exact c_404 rfl) (fun c_404 => ?_)
        refine r_iconst C (pc := 407) (x := (nI 1)) (by decide) dL_isReceiver_407 ?_
        refine r_goto C (pc := 408) (tgt := 412) dL_isReceiver_408 (by decide) ?_
        refine r_istore C (pc := 412) (lv2 := [some (.ref x), some (.int (nI (cntn M.2.2.2 (M.1 0)))), some (.int (nI (cntn M.2.2.1 (M.1 0)))), some (.int (nI (kbs M.2.2.2 (M.1 0)))), some (.int (nI ((M.2.1 4).length))), some (.int (nI 1)), none, none]) (Nat.le_of_ble_eq_true rfl) rfl rfl dL_isReceiver_412 ?_
        refine r_iload C (pc := 414) rfl dL_isReceiver_414 ?_
        refine n_if_eq C (pc := 416) (tgt := 503) (by omega) dL_isReceiver_416 (by decide) (fun c_416 => by exfalso; omega) (fun c_416 => ?_)
        refine r_aload_n C (pc := 419) rfl rfl dL_isReceiver_419 ?_
        refine r_bipush C (pc := 420) (x := (nI 11)) (by decide) dL_isReceiver_420 ?_
        refine r_callV C (pc := 422) (st := []) (t_told l G sh v399 N (k := 11) hX hb399 hI hT (by decide) (z := nI ((M.2.1 3).length)) (rfl)) kyX6_told q_251 rfl (Or.inl hd6) hX.2.2.1 (by decide) rfl rfl rfl (Nat.le_of_ble_eq_true rfl) ⟨Nat.le_of_ble_eq_true rfl, Nat.le_of_ble_eq_true rfl⟩ ⟨Nat.le_of_ble_eq_true rfl, Nat.le_of_ble_eq_true rfl⟩ dL_isReceiver_422 (fun r422 v422 hp422 => ?_)
        obtain ⟨rfl, hb422⟩ := hp422
        refine VV.eq (st2 := [.int (nI ((M.2.1 3).length))]) rfl ?_
        refine r_aload_n C (pc := 425) rfl rfl dL_isReceiver_425 ?_
        refine r_iconst C (pc := 426) (x := (nI 0)) (by decide) dL_isReceiver_426 ?_
        refine r_callV C (pc := 427) (st := [.int (nI ((M.2.1 3).length))]) (t_told l G sh v422 N (k := 0) hX hb422 hI hT (by decide) (z := nI (M.1 0)) (rfl)) kyX6_told q_251 rfl (Or.inl hd6) hX.2.2.1 (by decide) rfl rfl rfl (Nat.le_of_ble_eq_true rfl) ⟨Nat.le_of_ble_eq_true rfl, Nat.le_of_ble_eq_true rfl⟩ ⟨Nat.le_of_ble_eq_true rfl, Nat.le_of_ble_eq_true rfl⟩ dL_isReceiver_427 (fun r427 v427 hp427 => ?_)
        obtain ⟨rfl, hb427⟩ := hp427
        refine VV.eq (st2 := [.int (nI (M.1 0)), .int (nI ((M.2.1 3).length))]) rfl ?_
        refine n_icmp_ne C (pc := 430) (tgt := 437) (by omega) (by omega) dL_isReceiver_430 (by decide) (fun c_430 => by exfalso; omega) (fun c_430 => ?_)
        refine r_iconst C (pc := 433) (x := (nI 1)) (by decide) dL_isReceiver_433 ?_
        refine r_goto C (pc := 434) (tgt := 438) dL_isReceiver_434 (by decide) ?_
        refine r_iload_n C (pc := 438) rfl rfl dL_isReceiver_438 ?_
        refine r_aload_n C (pc := 439) rfl rfl dL_isReceiver_439 ?_
        refine r_iconst C (pc := 440) (x := (nI 0)) (by decide) dL_isReceiver_440 ?_
        refine r_callV C (pc := 441) (st := [.int (nI (cntn M.2.2.1 (M.1 0))), .int (nI 1)]) (t_told l G sh v427 N (k := 0) hX hb427 hI hT (by decide) (z := nI (M.1 0)) (rfl)) kyX6_told q_251 rfl (Or.inl hd6) hX.2.2.1 (by decide) rfl rfl rfl (Nat.le_of_ble_eq_true rfl) ⟨Nat.le_of_ble_eq_true rfl, Nat.le_of_ble_eq_true rfl⟩ ⟨Nat.le_of_ble_eq_true rfl, Nat.le_of_ble_eq_true rfl⟩ dL_isReceiver_441 (fun r441 v441 hp441 => ?_)
        obtain ⟨rfl, hb441⟩ := hp441
        refine VV.eq (st2 := [.int (nI (M.1 0)), .int (nI (cntn M.2.2.1 (M.1 0))), .int (nI 1)]) rfl ?_
        refine n_icmp_ne C (pc := 444) (tgt := 451) (by omega) (by omega) dL_isReceiver_444 (by decide) (fun c_444 => by exfalso; omega) (fun c_444 => ?_)
        refine r_iconst C (pc := 447) (x := (nI 1)) (by decide) dL_isReceiver_447 ?_
        refine r_goto C (pc := 448) (tgt := 452) dL_isReceiver_448 (by decide) ?_
        refine n_icmp_ne C (pc := 452) (tgt := 503) (by omega) (by omega) dL_isReceiver_452 (by decide) (fun c_452 => by exfalso; omega) (fun c_452 => ?_)
        refine r_iload_n C (pc := 455) rfl rfl dL_isReceiver_455 ?_
        refine r_iload_n C (pc := 456) rfl rfl dL_isReceiver_456 ?_
        refine n_icmp_gt C (pc := 457) (tgt := 503) (by omega) (by omega) dL_isReceiver_457 (by decide) (fun c_457 => by exfalso; omega) (fun c_457 => ?_)
        refine r_aload_n C (pc := 460) rfl rfl dL_isReceiver_460 ?_
        refine r_bipush C (pc := 461) (x := (nI 8)) (by decide) dL_isReceiver_461 ?_
        refine r_callV C (pc := 463) (st := []) (t_told l G sh v441 N (k := 8) hX hb441 hI hT (by decide) (z := nI (M.1 30)) (rfl)) kyX6_told q_251 rfl (Or.inl hd6) hX.2.2.1 (by decide) rfl rfl rfl (Nat.le_of_ble_eq_true rfl) ⟨Nat.le_of_ble_eq_true rfl, Nat.le_of_ble_eq_true rfl⟩ ⟨Nat.le_of_ble_eq_true rfl, Nat.le_of_ble_eq_true rfl⟩ dL_isReceiver_463 (fun r463 v463 hp463 => ?_)
        obtain ⟨rfl, hb463⟩ := hp463
        refine VV.eq (st2 := [.int (nI (M.1 30))]) rfl ?_
        refine n_if_lt C (pc := 466) (by omega) dL_isReceiver_466 ?_
        refine r_aload_n C (pc := 469) rfl rfl dL_isReceiver_469 ?_
        refine r_bipush C (pc := 470) (x := (nI 11)) (by decide) dL_isReceiver_470 ?_
        refine r_callV C (pc := 472) (st := []) (t_told l G sh v463 N (k := 11) hX hb463 hI hT (by decide) (z := nI ((M.2.1 3).length)) (rfl)) kyX6_told q_251 rfl (Or.inl hd6) hX.2.2.1 (by decide) rfl rfl rfl (Nat.le_of_ble_eq_true rfl) ⟨Nat.le_of_ble_eq_true rfl, Nat.le_of_ble_eq_true rfl⟩ ⟨Nat.le_of_ble_eq_true rfl, Nat.le_of_ble_eq_true rfl⟩ dL_isReceiver_472 (fun r472 v472 hp472 => ?_)
        obtain ⟨rfl, hb472⟩ := hp472
        refine VV.eq (st2 := [.int (nI ((M.2.1 3).length))]) rfl ?_
        refine n_if_ne C (pc := 475) (tgt := 490) (by omega) dL_isReceiver_475 (by decide) (fun c_475 => ?_) (fun c_475 => by exfalso; omega)
        refine r_aload_n C (pc := 490) rfl rfl dL_isReceiver_490 ?_
        refine r_callV C (pc := 491) (st := []) (t_overhead l G sh v472 N  hX hb472 hI hT  (z := FP.fdiv (FP.i2f (nI (M.1 31))) (FP.i2f (nI (M.2.1 3).length))) (if_neg hz)) kyX6_overhead q_608 rfl (Or.inl hd6) hX.2.2.1 (by decide) rfl rfl rfl (Nat.le_of_ble_eq_true rfl) ⟨Nat.le_of_ble_eq_true rfl, Nat.le_of_ble_eq_true rfl⟩ ⟨Nat.le_of_ble_eq_true rfl, Nat.le_of_ble_eq_true rfl⟩ dL_isReceiver_491 (fun r491 v491 hp491 => ?_)
        obtain ⟨rfl, hb491⟩ := hp491
        refine VV.eq (st2 := [.float (FP.fdiv (FP.i2f (nI (M.1 31))) (FP.i2f (nI (M.2.1 3).length)))]) rfl ?_
        refine r_fconst1 C (pc := 494) dL_isReceiver_494 ?_
        refine r_fcmp C (pc := 495) (z := (ovc (M.1 31) (M.2.1 3).length)) (rfl) dL_isReceiver_495 ?_
        refine r_if_lt C (pc := 496) (tgt := 503) dL_isReceiver_496 (by decide) (fun c_496 => by exfalso; exact ov_ge hA (by omega) (by omega) (by omega) c_496) (fun c_496 => ?_)
        refine r_iconst C (pc := 499) (x := (nI 1)) (by decide) dL_isReceiver_499 ?_
        refine r_goto C (pc := 500) (tgt := 504) dL_isReceiver_500 (by decide) ?_
        exact r_iret C (pc := 504) rfl (rfl) dL_isReceiver_504 ⟨rfl, rfl, rfl, hb491⟩
    · have hw2 : ¬ cntn M.2.2.1 (M.1 0) = M.1 0 := fun z => hw (hwi.mpr z)
      by_cases hz : (M.2.1 3).length = 0
      · have hz2 := hz
        refine r_aload_n C (pc := 335) rfl rfl dL_isReceiver_335 ?_
        refine r_bipush C (pc := 336) (x := (nI 12)) (by decide) dL_isReceiver_336 ?_
        refine r_callV C (pc := 338) (st := []) (t_told l G sh v' N (k := 12) hX hb' hI hT (by decide) (z := nI (cntn M.2.2.2 (M.1 0))) (congrArg nI (cnt_kt hE))) kyX6_told q_251 rfl (Or.inl hd6) hX.2.2.1 (by decide) rfl rfl rfl (Nat.le_of_ble_eq_true rfl) ⟨Nat.le_of_ble_eq_true rfl, Nat.le_of_ble_eq_true rfl⟩ ⟨Nat.le_of_ble_eq_true rfl, Nat.le_of_ble_eq_true rfl⟩ dL_isReceiver_338 (fun r338 v338 hp338 => ?_)
        obtain ⟨rfl, hb338⟩ := hp338
        refine VV.eq (st2 := [.int (nI (cntn M.2.2.2 (M.1 0)))]) rfl ?_
        refine r_iload_n C (pc := 341) rfl rfl dL_isReceiver_341 ?_
        refine n_icmp_ne C (pc := 342) (tgt := 411) (by omega) (by omega) dL_isReceiver_342 (by decide) (fun c_342 => by exfalso; exact c_342 rfl) (fun c_342 => ?_)
        refine r_aload_n C (pc := 345) rfl rfl dL_isReceiver_345 ?_
        refine r_bipush C (pc := 346) (x := (nI 14)) (by decide) dL_isReceiver_346 ?_
        refine r_callV C (pc := 348) (st := []) (t_told l G sh v338 N (k := 14) hX hb338 hI hT (by decide) (z := nI (cntn M.2.2.1 (M.1 0))) (congrArg nI (cnt_so hE))) kyX6_told q_251 rfl (Or.inl hd6) hX.2.2.1 (by decide) rfl rfl rfl (Nat.le_of_ble_eq_true rfl) ⟨Nat.le_of_ble_eq_true rfl, Nat.le_of_ble_eq_true rfl⟩ ⟨Nat.le_of_ble_eq_true rfl, Nat.le_of_ble_eq_true rfl⟩ dL_isReceiver_348 (fun r348 v348 hp348 => ?_)
        obtain ⟨rfl, hb348⟩ := hp348
        refine VV.eq (st2 := [.int (nI (cntn M.2.2.1 (M.1 0)))]) rfl ?_
        refine r_iload_n C (pc := 351) rfl rfl dL_isReceiver_351 ?_
        refine n_icmp_ne C (pc := 352) (tgt := 411) (by omega) (by omega) dL_isReceiver_352 (by decide) (fun c_352 => by exfalso; exact c_352 rfl) (fun c_352 => ?_)
        refine r_aload_n C (pc := 355) rfl rfl dL_isReceiver_355 ?_
        refine r_bipush C (pc := 356) (x := (nI 9)) (by decide) dL_isReceiver_356 ?_
        refine r_callV C (pc := 358) (st := []) (t_told l G sh v348 N (k := 9) hX hb348 hI hT (by decide) (z := nI (M.1 31)) (rfl)) kyX6_told q_251 rfl (Or.inl hd6) hX.2.2.1 (by decide) rfl rfl rfl (Nat.le_of_ble_eq_true rfl) ⟨Nat.le_of_ble_eq_true rfl, Nat.le_of_ble_eq_true rfl⟩ ⟨Nat.le_of_ble_eq_true rfl, Nat.le_of_ble_eq_true rfl⟩ dL_isReceiver_358 (fun r358 v358 hp358 => ?_)
        obtain ⟨rfl, hb358⟩ := hp358
        refine VV.eq (st2 := [.int (nI (M.1 31))]) rfl ?_
        refine r_aload_n C (pc := 361) rfl rfl dL_isReceiver_361 ?_
        refine r_bipush C (pc := 362) (x := (nI 10)) (by decide) dL_isReceiver_362 ?_
        refine r_callV C (pc := 364) (st := [.int (nI (M.1 31))]) (t_told l G sh v358 N (k := 10) hX hb358 hI hT (by decide) (z := nI (M.1 32)) (rfl)) kyX6_told q_251 rfl (Or.inl hd6) hX.2.2.1 (by decide) rfl rfl rfl (Nat.le_of_ble_eq_true rfl) ⟨Nat.le_of_ble_eq_true rfl, Nat.le_of_ble_eq_true rfl⟩ ⟨Nat.le_of_ble_eq_true rfl, Nat.le_of_ble_eq_true rfl⟩ dL_isReceiver_364 (fun r364 v364 hp364 => ?_)
        obtain ⟨rfl, hb364⟩ := hp364
        refine VV.eq (st2 := [.int (nI (M.1 32)), .int (nI (M.1 31))]) rfl ?_
        refine r_aload_n C (pc := 367) rfl rfl dL_isReceiver_367 ?_
        refine r_bipush C (pc := 368) (x := (nI 11)) (by decide) dL_isReceiver_368 ?_
        refine r_callV C (pc := 370) (st := [.int (nI (M.1 32)), .int (nI (M.1 31))]) (t_told l G sh v364 N (k := 11) hX hb364 hI hT (by decide) (z := nI ((M.2.1 3).length)) (rfl)) kyX6_told q_251 rfl (Or.inl hd6) hX.2.2.1 (by decide) rfl rfl rfl (Nat.le_of_ble_eq_true rfl) ⟨Nat.le_of_ble_eq_true rfl, Nat.le_of_ble_eq_true rfl⟩ ⟨Nat.le_of_ble_eq_true rfl, Nat.le_of_ble_eq_true rfl⟩ dL_isReceiver_370 (fun r370 v370 hp370 => ?_)
        obtain ⟨rfl, hb370⟩ := hp370
        refine VV.eq (st2 := [.int (nI ((M.2.1 3).length)), .int (nI (M.1 32)), .int (nI (M.1 31))]) rfl ?_
        refine r_iadd C (pc := 373) (z := (nI ((M.1 32) + ((M.2.1 3).length)))) (nI_add _ _) dL_isReceiver_373 ?_
        refine n_icmp_ne C (pc := 374) (tgt := 411) (by omega) (by omega) dL_isReceiver_374 (by decide) (fun c_374 => by exfalso; omega) (fun c_374 => ?_)
        refine r_iload C (pc := 377) rfl dL_isReceiver_377 ?_
        refine r_bipush C (pc := 379) (x := (nI 20)) (by decide) dL_isReceiver_379 ?_
        refine n_icmp_gt C (pc := 381) (tgt := 411) (by omega) (by omega) dL_isReceiver_381 (by decide) (fun c_381 => by exfalso; omega) (fun c_381 => ?_)
        refine r_iload C (pc := 384) rfl dL_isReceiver_384 ?_
        refine r_aload_n C (pc := 386) rfl rfl dL_isReceiver_386 ?_
        refine r_bipush C (pc := 387) (x := (nI 15)) (by decide) dL_isReceiver_387 ?_
        refine r_callV C (pc := 389) (st := [.int (nI ((M.2.1 4).length))]) (t_told l G sh v370 N (k := 15) hX hb370 hI hT (by decide) (z := nI (M.1 33)) (rfl)) kyX6_told q_251 rfl (Or.inl hd6) hX.2.2.1 (by decide) rfl rfl rfl (Nat.le_of_ble_eq_true rfl) ⟨Nat.le_of_ble_eq_true rfl, Nat.le_of_ble_eq_true rfl⟩ ⟨Nat.le_of_ble_eq_true rfl, Nat.le_of_ble_eq_true rfl⟩ dL_isReceiver_389 (fun r389 v389 hp389 => ?_)
        obtain ⟨rfl, hb389⟩ := hp389
        refine VV.eq (st2 := [.int (nI (M.1 33)), .int (nI ((M.2.1 4).length))]) rfl ?_
        refine n_icmp_gt C (pc := 392) (tgt := 411) (by omega) (by omega) dL_isReceiver_392 (by decide) (fun c_392 => by exfalso; omega) (fun c_392 => ?_)
        refine r_aload_n C (pc := 395) rfl rfl dL_isReceiver_395 ?_
        refine r_iload C (pc := 396) rfl dL_isReceiver_396 ?_
        refine r_iconst C (pc := 398) (x := (nI 0)) (by decide) dL_isReceiver_398 ?_
        refine r_callV C (pc := 399) (st := []) (t_waiting l G sh v389 N (k := (M.2.1 4).length) (w := 0) hX hb389 hI hT (by omega) (by decide) (z := -9) (ptIe)) kyX6_waiting q_604 rfl (Or.inl hd6) hX.2.2.1 (by decide) rfl rfl rfl (Nat.le_of_ble_eq_true rfl) ⟨Nat.le_of_ble_eq_true rfl, Nat.le_of_ble_eq_true rfl⟩ ⟨Nat.le_of_ble_eq_true rfl, Nat.le_of_ble_eq_true rfl⟩ dL_isReceiver_399 (fun r399 v399 hp399 => ?_)
        obtain ⟨rfl, hb399⟩ := hp399
        refine VV.eq (st2 := [.int (-9)]) rfl ?_
        refine r_bipush C (pc := 402) (x := (-9)) (by decide) dL_isReceiver_402 ?_
        refine r_icmp_ne C (pc := 404) (tgt := 411) dL_isReceiver_404 (by decide) (fun c_404 => by exfalso; exact c_404 rfl) (fun c_404 => ?_)
        refine r_iconst C (pc := 407) (x := (nI 1)) (by decide) dL_isReceiver_407 ?_
        refine r_goto C (pc := 408) (tgt := 412) dL_isReceiver_408 (by decide) ?_
        refine r_istore C (pc := 412) (lv2 := [some (.ref x), some (.int (nI (cntn M.2.2.2 (M.1 0)))), some (.int (nI (cntn M.2.2.1 (M.1 0)))), some (.int (nI (kbs M.2.2.2 (M.1 0)))), some (.int (nI ((M.2.1 4).length))), some (.int (nI 1)), none, none]) (Nat.le_of_ble_eq_true rfl) rfl rfl dL_isReceiver_412 ?_
        refine r_iload C (pc := 414) rfl dL_isReceiver_414 ?_
        refine n_if_eq C (pc := 416) (tgt := 503) (by omega) dL_isReceiver_416 (by decide) (fun c_416 => by exfalso; omega) (fun c_416 => ?_)
        refine r_aload_n C (pc := 419) rfl rfl dL_isReceiver_419 ?_
        refine r_bipush C (pc := 420) (x := (nI 11)) (by decide) dL_isReceiver_420 ?_
        refine r_callV C (pc := 422) (st := []) (t_told l G sh v399 N (k := 11) hX hb399 hI hT (by decide) (z := nI ((M.2.1 3).length)) (rfl)) kyX6_told q_251 rfl (Or.inl hd6) hX.2.2.1 (by decide) rfl rfl rfl (Nat.le_of_ble_eq_true rfl) ⟨Nat.le_of_ble_eq_true rfl, Nat.le_of_ble_eq_true rfl⟩ ⟨Nat.le_of_ble_eq_true rfl, Nat.le_of_ble_eq_true rfl⟩ dL_isReceiver_422 (fun r422 v422 hp422 => ?_)
        obtain ⟨rfl, hb422⟩ := hp422
        refine VV.eq (st2 := [.int (nI ((M.2.1 3).length))]) rfl ?_
        refine r_aload_n C (pc := 425) rfl rfl dL_isReceiver_425 ?_
        refine r_iconst C (pc := 426) (x := (nI 0)) (by decide) dL_isReceiver_426 ?_
        refine r_callV C (pc := 427) (st := [.int (nI ((M.2.1 3).length))]) (t_told l G sh v422 N (k := 0) hX hb422 hI hT (by decide) (z := nI (M.1 0)) (rfl)) kyX6_told q_251 rfl (Or.inl hd6) hX.2.2.1 (by decide) rfl rfl rfl (Nat.le_of_ble_eq_true rfl) ⟨Nat.le_of_ble_eq_true rfl, Nat.le_of_ble_eq_true rfl⟩ ⟨Nat.le_of_ble_eq_true rfl, Nat.le_of_ble_eq_true rfl⟩ dL_isReceiver_427 (fun r427 v427 hp427 => ?_)
        obtain ⟨rfl, hb427⟩ := hp427
        refine VV.eq (st2 := [.int (nI (M.1 0)), .int (nI ((M.2.1 3).length))]) rfl ?_
        refine n_icmp_ne C (pc := 430) (tgt := 437) (by omega) (by omega) dL_isReceiver_430 (by decide) (fun c_430 => ?_) (fun c_430 => by exfalso; omega)
        refine r_iconst C (pc := 437) (x := (nI 0)) (by decide) dL_isReceiver_437 ?_
        refine r_iload_n C (pc := 438) rfl rfl dL_isReceiver_438 ?_
        refine r_aload_n C (pc := 439) rfl rfl dL_isReceiver_439 ?_
        refine r_iconst C (pc := 440) (x := (nI 0)) (by decide) dL_isReceiver_440 ?_
        refine r_callV C (pc := 441) (st := [.int (nI (cntn M.2.2.1 (M.1 0))), .int (nI 0)]) (t_told l G sh v427 N (k := 0) hX hb427 hI hT (by decide) (z := nI (M.1 0)) (rfl)) kyX6_told q_251 rfl (Or.inl hd6) hX.2.2.1 (by decide) rfl rfl rfl (Nat.le_of_ble_eq_true rfl) ⟨Nat.le_of_ble_eq_true rfl, Nat.le_of_ble_eq_true rfl⟩ ⟨Nat.le_of_ble_eq_true rfl, Nat.le_of_ble_eq_true rfl⟩ dL_isReceiver_441 (fun r441 v441 hp441 => ?_)
        obtain ⟨rfl, hb441⟩ := hp441
        refine VV.eq (st2 := [.int (nI (M.1 0)), .int (nI (cntn M.2.2.1 (M.1 0))), .int (nI 0)]) rfl ?_
        refine n_icmp_ne C (pc := 444) (tgt := 451) (by omega) (by omega) dL_isReceiver_444 (by decide) (fun c_444 => ?_) (fun c_444 => by exfalso; omega)
        refine r_iconst C (pc := 451) (x := (nI 0)) (by decide) dL_isReceiver_451 ?_
        refine n_icmp_ne C (pc := 452) (tgt := 503) (by omega) (by omega) dL_isReceiver_452 (by decide) (fun c_452 => by exfalso; omega) (fun c_452 => ?_)
        refine r_iload_n C (pc := 455) rfl rfl dL_isReceiver_455 ?_
        refine r_iload_n C (pc := 456) rfl rfl dL_isReceiver_456 ?_
        refine n_icmp_gt C (pc := 457) (tgt := 503) (by omega) (by omega) dL_isReceiver_457 (by decide) (fun c_457 => by exfalso; omega) (fun c_457 => ?_)
        refine r_aload_n C (pc := 460) rfl rfl dL_isReceiver_460 ?_
        refine r_bipush C (pc := 461) (x := (nI 8)) (by decide) dL_isReceiver_461 ?_
        refine r_callV C (pc := 463) (st := []) (t_told l G sh v441 N (k := 8) hX hb441 hI hT (by decide) (z := nI (M.1 30)) (rfl)) kyX6_told q_251 rfl (Or.inl hd6) hX.2.2.1 (by decide) rfl rfl rfl (Nat.le_of_ble_eq_true rfl) ⟨Nat.le_of_ble_eq_true rfl, Nat.le_of_ble_eq_true rfl⟩ ⟨Nat.le_of_ble_eq_true rfl, Nat.le_of_ble_eq_true rfl⟩ dL_isReceiver_463 (fun r463 v463 hp463 => ?_)
        obtain ⟨rfl, hb463⟩ := hp463
        refine VV.eq (st2 := [.int (nI (M.1 30))]) rfl ?_
        refine n_if_lt C (pc := 466) (by omega) dL_isReceiver_466 ?_
        refine r_aload_n C (pc := 469) rfl rfl dL_isReceiver_469 ?_
        refine r_bipush C (pc := 470) (x := (nI 11)) (by decide) dL_isReceiver_470 ?_
        refine r_callV C (pc := 472) (st := []) (t_told l G sh v463 N (k := 11) hX hb463 hI hT (by decide) (z := nI ((M.2.1 3).length)) (rfl)) kyX6_told q_251 rfl (Or.inl hd6) hX.2.2.1 (by decide) rfl rfl rfl (Nat.le_of_ble_eq_true rfl) ⟨Nat.le_of_ble_eq_true rfl, Nat.le_of_ble_eq_true rfl⟩ ⟨Nat.le_of_ble_eq_true rfl, Nat.le_of_ble_eq_true rfl⟩ dL_isReceiver_472 (fun r472 v472 hp472 => ?_)
        obtain ⟨rfl, hb472⟩ := hp472
        refine VV.eq (st2 := [.int (nI ((M.2.1 3).length))]) rfl ?_
        refine n_if_ne C (pc := 475) (tgt := 490) (by omega) dL_isReceiver_475 (by decide) (fun c_475 => by exfalso; omega) (fun c_475 => ?_)
        refine r_aload_n C (pc := 478) rfl rfl dL_isReceiver_478 ?_
        refine r_callV C (pc := 479) (st := []) (t_overhead l G sh v472 N  hX hb472 hI hT  (z := FP.fconst0) (if_pos hz)) kyX6_overhead q_608 rfl (Or.inl hd6) hX.2.2.1 (by decide) rfl rfl rfl (Nat.le_of_ble_eq_true rfl) ⟨Nat.le_of_ble_eq_true rfl, Nat.le_of_ble_eq_true rfl⟩ ⟨Nat.le_of_ble_eq_true rfl, Nat.le_of_ble_eq_true rfl⟩ dL_isReceiver_479 (fun r479 v479 hp479 => ?_)
        obtain ⟨rfl, hb479⟩ := hp479
        refine VV.eq (st2 := [.float FP.fconst0]) rfl ?_
        refine r_fconst0 C (pc := 482) dL_isReceiver_482 ?_
        refine r_fcmp C (pc := 483) (z := (nI 0)) (ov_z) dL_isReceiver_483 ?_
        refine n_if_ne C (pc := 484) (tgt := 503) (by omega) dL_isReceiver_484 (by decide) (fun c_484 => by exfalso; omega) (fun c_484 => ?_)
        refine r_goto C (pc := 487) (tgt := 499) dL_isReceiver_487 (by decide) ?_
        refine r_iconst C (pc := 499) (x := (nI 1)) (by decide) dL_isReceiver_499 ?_
        refine r_goto C (pc := 500) (tgt := 504) dL_isReceiver_500 (by decide) ?_
        exact r_iret C (pc := 504) rfl (rfl) dL_isReceiver_504 ⟨rfl, rfl, rfl, hb479⟩
      · have hz2 := hz
        refine r_aload_n C (pc := 335) rfl rfl dL_isReceiver_335 ?_
        refine r_bipush C (pc := 336) (x := (nI 12)) (by decide) dL_isReceiver_336 ?_
        refine r_callV C (pc := 338) (st := []) (t_told l G sh v' N (k := 12) hX hb' hI hT (by decide) (z := nI (cntn M.2.2.2 (M.1 0))) (congrArg nI (cnt_kt hE))) kyX6_told q_251 rfl (Or.inl hd6) hX.2.2.1 (by decide) rfl rfl rfl (Nat.le_of_ble_eq_true rfl) ⟨Nat.le_of_ble_eq_true rfl, Nat.le_of_ble_eq_true rfl⟩ ⟨Nat.le_of_ble_eq_true rfl, Nat.le_of_ble_eq_true rfl⟩ dL_isReceiver_338 (fun r338 v338 hp338 => ?_)
        obtain ⟨rfl, hb338⟩ := hp338
        refine VV.eq (st2 := [.int (nI (cntn M.2.2.2 (M.1 0)))]) rfl ?_
        refine r_iload_n C (pc := 341) rfl rfl dL_isReceiver_341 ?_
        refine n_icmp_ne C (pc := 342) (tgt := 411) (by omega) (by omega) dL_isReceiver_342 (by decide) (fun c_342 => by exfalso; exact c_342 rfl) (fun c_342 => ?_)
        refine r_aload_n C (pc := 345) rfl rfl dL_isReceiver_345 ?_
        refine r_bipush C (pc := 346) (x := (nI 14)) (by decide) dL_isReceiver_346 ?_
        refine r_callV C (pc := 348) (st := []) (t_told l G sh v338 N (k := 14) hX hb338 hI hT (by decide) (z := nI (cntn M.2.2.1 (M.1 0))) (congrArg nI (cnt_so hE))) kyX6_told q_251 rfl (Or.inl hd6) hX.2.2.1 (by decide) rfl rfl rfl (Nat.le_of_ble_eq_true rfl) ⟨Nat.le_of_ble_eq_true rfl, Nat.le_of_ble_eq_true rfl⟩ ⟨Nat.le_of_ble_eq_true rfl, Nat.le_of_ble_eq_true rfl⟩ dL_isReceiver_348 (fun r348 v348 hp348 => ?_)
        obtain ⟨rfl, hb348⟩ := hp348
        refine VV.eq (st2 := [.int (nI (cntn M.2.2.1 (M.1 0)))]) rfl ?_
        refine r_iload_n C (pc := 351) rfl rfl dL_isReceiver_351 ?_
        refine n_icmp_ne C (pc := 352) (tgt := 411) (by omega) (by omega) dL_isReceiver_352 (by decide) (fun c_352 => by exfalso; exact c_352 rfl) (fun c_352 => ?_)
        refine r_aload_n C (pc := 355) rfl rfl dL_isReceiver_355 ?_
        refine r_bipush C (pc := 356) (x := (nI 9)) (by decide) dL_isReceiver_356 ?_
        refine r_callV C (pc := 358) (st := []) (t_told l G sh v348 N (k := 9) hX hb348 hI hT (by decide) (z := nI (M.1 31)) (rfl)) kyX6_told q_251 rfl (Or.inl hd6) hX.2.2.1 (by decide) rfl rfl rfl (Nat.le_of_ble_eq_true rfl) ⟨Nat.le_of_ble_eq_true rfl, Nat.le_of_ble_eq_true rfl⟩ ⟨Nat.le_of_ble_eq_true rfl, Nat.le_of_ble_eq_true rfl⟩ dL_isReceiver_358 (fun r358 v358 hp358 => ?_)
        obtain ⟨rfl, hb358⟩ := hp358
        refine VV.eq (st2 := [.int (nI (M.1 31))]) rfl ?_
        refine r_aload_n C (pc := 361) rfl rfl dL_isReceiver_361 ?_
        refine r_bipush C (pc := 362) (x := (nI 10)) (by decide) dL_isReceiver_362 ?_
        refine r_callV C (pc := 364) (st := [.int (nI (M.1 31))]) (t_told l G sh v358 N (k := 10) hX hb358 hI hT (by decide) (z := nI (M.1 32)) (rfl)) kyX6_told q_251 rfl (Or.inl hd6) hX.2.2.1 (by decide) rfl rfl rfl (Nat.le_of_ble_eq_true rfl) ⟨Nat.le_of_ble_eq_true rfl, Nat.le_of_ble_eq_true rfl⟩ ⟨Nat.le_of_ble_eq_true rfl, Nat.le_of_ble_eq_true rfl⟩ dL_isReceiver_364 (fun r364 v364 hp364 => ?_)
        obtain ⟨rfl, hb364⟩ := hp364
        refine VV.eq (st2 := [.int (nI (M.1 32)), .int (nI (M.1 31))]) rfl ?_
        refine r_aload_n C (pc := 367) rfl rfl dL_isReceiver_367 ?_
        refine r_bipush C (pc := 368) (x := (nI 11)) (by decide) dL_isReceiver_368 ?_
        refine r_callV C (pc := 370) (st := [.int (nI (M.1 32)), .int (nI (M.1 31))]) (t_told l G sh v364 N (k := 11) hX hb364 hI hT (by decide) (z := nI ((M.2.1 3).length)) (rfl)) kyX6_told q_251 rfl (Or.inl hd6) hX.2.2.1 (by decide) rfl rfl rfl (Nat.le_of_ble_eq_true rfl) ⟨Nat.le_of_ble_eq_true rfl, Nat.le_of_ble_eq_true rfl⟩ ⟨Nat.le_of_ble_eq_true rfl, Nat.le_of_ble_eq_true rfl⟩ dL_isReceiver_370 (fun r370 v370 hp370 => ?_)
        obtain ⟨rfl, hb370⟩ := hp370
        refine VV.eq (st2 := [.int (nI ((M.2.1 3).length)), .int (nI (M.1 32)), .int (nI (M.1 31))]) rfl ?_
        refine r_iadd C (pc := 373) (z := (nI ((M.1 32) + ((M.2.1 3).length)))) (nI_add _ _) dL_isReceiver_373 ?_
        refine n_icmp_ne C (pc := 374) (tgt := 411) (by omega) (by omega) dL_isReceiver_374 (by decide) (fun c_374 => by exfalso; omega) (fun c_374 => ?_)
        refine r_iload C (pc := 377) rfl dL_isReceiver_377 ?_
        refine r_bipush C (pc := 379) (x := (nI 20)) (by decide) dL_isReceiver_379 ?_
        refine n_icmp_gt C (pc := 381) (tgt := 411) (by omega) (by omega) dL_isReceiver_381 (by decide) (fun c_381 => by exfalso; omega) (fun c_381 => ?_)
        refine r_iload C (pc := 384) rfl dL_isReceiver_384 ?_
        refine r_aload_n C (pc := 386) rfl rfl dL_isReceiver_386 ?_
        refine r_bipush C (pc := 387) (x := (nI 15)) (by decide) dL_isReceiver_387 ?_
        refine r_callV C (pc := 389) (st := [.int (nI ((M.2.1 4).length))]) (t_told l G sh v370 N (k := 15) hX hb370 hI hT (by decide) (z := nI (M.1 33)) (rfl)) kyX6_told q_251 rfl (Or.inl hd6) hX.2.2.1 (by decide) rfl rfl rfl (Nat.le_of_ble_eq_true rfl) ⟨Nat.le_of_ble_eq_true rfl, Nat.le_of_ble_eq_true rfl⟩ ⟨Nat.le_of_ble_eq_true rfl, Nat.le_of_ble_eq_true rfl⟩ dL_isReceiver_389 (fun r389 v389 hp389 => ?_)
        obtain ⟨rfl, hb389⟩ := hp389
        refine VV.eq (st2 := [.int (nI (M.1 33)), .int (nI ((M.2.1 4).length))]) rfl ?_
        refine n_icmp_gt C (pc := 392) (tgt := 411) (by omega) (by omega) dL_isReceiver_392 (by decide) (fun c_392 => by exfalso; omega) (fun c_392 => ?_)
        refine r_aload_n C (pc := 395) rfl rfl dL_isReceiver_395 ?_
        refine r_iload C (pc := 396) rfl dL_isReceiver_396 ?_
        refine r_iconst C (pc := 398) (x := (nI 0)) (by decide) dL_isReceiver_398 ?_
        refine r_callV C (pc := 399) (st := []) (t_waiting l G sh v389 N (k := (M.2.1 4).length) (w := 0) hX hb389 hI hT (by omega) (by decide) (z := -9) (ptIe)) kyX6_waiting q_604 rfl (Or.inl hd6) hX.2.2.1 (by decide) rfl rfl rfl (Nat.le_of_ble_eq_true rfl) ⟨Nat.le_of_ble_eq_true rfl, Nat.le_of_ble_eq_true rfl⟩ ⟨Nat.le_of_ble_eq_true rfl, Nat.le_of_ble_eq_true rfl⟩ dL_isReceiver_399 (fun r399 v399 hp399 => ?_)
        obtain ⟨rfl, hb399⟩ := hp399
        refine VV.eq (st2 := [.int (-9)]) rfl ?_
        refine r_bipush C (pc := 402) (x := (-9)) (by decide) dL_isReceiver_402 ?_
        refine r_icmp_ne C (pc := 404) (tgt := 411) dL_isReceiver_404 (by decide) (fun c_404 => by exfalso; exact c_404 rfl) (fun c_404 => ?_)
        refine r_iconst C (pc := 407) (x := (nI 1)) (by decide) dL_isReceiver_407 ?_
        refine r_goto C (pc := 408) (tgt := 412) dL_isReceiver_408 (by decide) ?_
        refine r_istore C (pc := 412) (lv2 := [some (.ref x), some (.int (nI (cntn M.2.2.2 (M.1 0)))), some (.int (nI (cntn M.2.2.1 (M.1 0)))), some (.int (nI (kbs M.2.2.2 (M.1 0)))), some (.int (nI ((M.2.1 4).length))), some (.int (nI 1)), none, none]) (Nat.le_of_ble_eq_true rfl) rfl rfl dL_isReceiver_412 ?_
        refine r_iload C (pc := 414) rfl dL_isReceiver_414 ?_
        refine n_if_eq C (pc := 416) (tgt := 503) (by omega) dL_isReceiver_416 (by decide) (fun c_416 => by exfalso; omega) (fun c_416 => ?_)
        refine r_aload_n C (pc := 419) rfl rfl dL_isReceiver_419 ?_
        refine r_bipush C (pc := 420) (x := (nI 11)) (by decide) dL_isReceiver_420 ?_
        refine r_callV C (pc := 422) (st := []) (t_told l G sh v399 N (k := 11) hX hb399 hI hT (by decide) (z := nI ((M.2.1 3).length)) (rfl)) kyX6_told q_251 rfl (Or.inl hd6) hX.2.2.1 (by decide) rfl rfl rfl (Nat.le_of_ble_eq_true rfl) ⟨Nat.le_of_ble_eq_true rfl, Nat.le_of_ble_eq_true rfl⟩ ⟨Nat.le_of_ble_eq_true rfl, Nat.le_of_ble_eq_true rfl⟩ dL_isReceiver_422 (fun r422 v422 hp422 => ?_)
        obtain ⟨rfl, hb422⟩ := hp422
        refine VV.eq (st2 := [.int (nI ((M.2.1 3).length))]) rfl ?_
        refine r_aload_n C (pc := 425) rfl rfl dL_isReceiver_425 ?_
        refine r_iconst C (pc := 426) (x := (nI 0)) (by decide) dL_isReceiver_426 ?_
        refine r_callV C (pc := 427) (st := [.int (nI ((M.2.1 3).length))]) (t_told l G sh v422 N (k := 0) hX hb422 hI hT (by decide) (z := nI (M.1 0)) (rfl)) kyX6_told q_251 rfl (Or.inl hd6) hX.2.2.1 (by decide) rfl rfl rfl (Nat.le_of_ble_eq_true rfl) ⟨Nat.le_of_ble_eq_true rfl, Nat.le_of_ble_eq_true rfl⟩ ⟨Nat.le_of_ble_eq_true rfl, Nat.le_of_ble_eq_true rfl⟩ dL_isReceiver_427 (fun r427 v427 hp427 => ?_)
        obtain ⟨rfl, hb427⟩ := hp427
        refine VV.eq (st2 := [.int (nI (M.1 0)), .int (nI ((M.2.1 3).length))]) rfl ?_
        refine n_icmp_ne C (pc := 430) (tgt := 437) (by omega) (by omega) dL_isReceiver_430 (by decide) (fun c_430 => ?_) (fun c_430 => by exfalso; omega)
        refine r_iconst C (pc := 437) (x := (nI 0)) (by decide) dL_isReceiver_437 ?_
        refine r_iload_n C (pc := 438) rfl rfl dL_isReceiver_438 ?_
        refine r_aload_n C (pc := 439) rfl rfl dL_isReceiver_439 ?_
        refine r_iconst C (pc := 440) (x := (nI 0)) (by decide) dL_isReceiver_440 ?_
        refine r_callV C (pc := 441) (st := [.int (nI (cntn M.2.2.1 (M.1 0))), .int (nI 0)]) (t_told l G sh v427 N (k := 0) hX hb427 hI hT (by decide) (z := nI (M.1 0)) (rfl)) kyX6_told q_251 rfl (Or.inl hd6) hX.2.2.1 (by decide) rfl rfl rfl (Nat.le_of_ble_eq_true rfl) ⟨Nat.le_of_ble_eq_true rfl, Nat.le_of_ble_eq_true rfl⟩ ⟨Nat.le_of_ble_eq_true rfl, Nat.le_of_ble_eq_true rfl⟩ dL_isReceiver_441 (fun r441 v441 hp441 => ?_)
        obtain ⟨rfl, hb441⟩ := hp441
        refine VV.eq (st2 := [.int (nI (M.1 0)), .int (nI (cntn M.2.2.1 (M.1 0))), .int (nI 0)]) rfl ?_
        refine n_icmp_ne C (pc := 444) (tgt := 451) (by omega) (by omega) dL_isReceiver_444 (by decide) (fun c_444 => ?_) (fun c_444 => by exfalso; omega)
        refine r_iconst C (pc := 451) (x := (nI 0)) (by decide) dL_isReceiver_451 ?_
        refine n_icmp_ne C (pc := 452) (tgt := 503) (by omega) (by omega) dL_isReceiver_452 (by decide) (fun c_452 => by exfalso; omega) (fun c_452 => ?_)
        refine r_iload_n C (pc := 455) rfl rfl dL_isReceiver_455 ?_
        refine r_iload_n C (pc := 456) rfl rfl dL_isReceiver_456 ?_
        refine n_icmp_gt C (pc := 457) (tgt := 503) (by omega) (by omega) dL_isReceiver_457 (by decide) (fun c_457 => by exfalso; omega) (fun c_457 => ?_)
        refine r_aload_n C (pc := 460) rfl rfl dL_isReceiver_460 ?_
        refine r_bipush C (pc := 461) (x := (nI 8)) (by decide) dL_isReceiver_461 ?_
        refine r_callV C (pc := 463) (st := []) (t_told l G sh v441 N (k := 8) hX hb441 hI hT (by decide) (z := nI (M.1 30)) (rfl)) kyX6_told q_251 rfl (Or.inl hd6) hX.2.2.1 (by decide) rfl rfl rfl (Nat.le_of_ble_eq_true rfl) ⟨Nat.le_of_ble_eq_true rfl, Nat.le_of_ble_eq_true rfl⟩ ⟨Nat.le_of_ble_eq_true rfl, Nat.le_of_ble_eq_true rfl⟩ dL_isReceiver_463 (fun r463 v463 hp463 => ?_)
        obtain ⟨rfl, hb463⟩ := hp463
        refine VV.eq (st2 := [.int (nI (M.1 30))]) rfl ?_
        refine n_if_lt C (pc := 466) (by omega) dL_isReceiver_466 ?_
        refine r_aload_n C (pc := 469) rfl rfl dL_isReceiver_469 ?_
        refine r_bipush C (pc := 470) (x := (nI 11)) (by decide) dL_isReceiver_470 ?_
        refine r_callV C (pc := 472) (st := []) (t_told l G sh v463 N (k := 11) hX hb463 hI hT (by decide) (z := nI ((M.2.1 3).length)) (rfl)) kyX6_told q_251 rfl (Or.inl hd6) hX.2.2.1 (by decide) rfl rfl rfl (Nat.le_of_ble_eq_true rfl) ⟨Nat.le_of_ble_eq_true rfl, Nat.le_of_ble_eq_true rfl⟩ ⟨Nat.le_of_ble_eq_true rfl, Nat.le_of_ble_eq_true rfl⟩ dL_isReceiver_472 (fun r472 v472 hp472 => ?_)
        obtain ⟨rfl, hb472⟩ := hp472
        refine VV.eq (st2 := [.int (nI ((M.2.1 3).length))]) rfl ?_
        refine n_if_ne C (pc := 475) (tgt := 490) (by omega) dL_isReceiver_475 (by decide) (fun c_475 => ?_) (fun c_475 => by exfalso; omega)
        refine r_aload_n C (pc := 490) rfl rfl dL_isReceiver_490 ?_
        refine r_callV C (pc := 491) (st := []) (t_overhead l G sh v472 N  hX hb472 hI hT  (z := FP.fdiv (FP.i2f (nI (M.1 31))) (FP.i2f (nI (M.2.1 3).length))) (if_neg hz)) kyX6_overhead q_608 rfl (Or.inl hd6) hX.2.2.1 (by decide) rfl rfl rfl (Nat.le_of_ble_eq_true rfl) ⟨Nat.le_of_ble_eq_true rfl, Nat.le_of_ble_eq_true rfl⟩ ⟨Nat.le_of_ble_eq_true rfl, Nat.le_of_ble_eq_true rfl⟩ dL_isReceiver_491 (fun r491 v491 hp491 => ?_)
        obtain ⟨rfl, hb491⟩ := hp491
        refine VV.eq (st2 := [.float (FP.fdiv (FP.i2f (nI (M.1 31))) (FP.i2f (nI (M.2.1 3).length)))]) rfl ?_
        refine r_fconst1 C (pc := 494) dL_isReceiver_494 ?_
        refine r_fcmp C (pc := 495) (z := (ovc (M.1 31) (M.2.1 3).length)) (rfl) dL_isReceiver_495 ?_
        refine r_if_lt C (pc := 496) (tgt := 503) dL_isReceiver_496 (by decide) (fun c_496 => by exfalso; exact ov_ge hA (by omega) (by omega) (by omega) c_496) (fun c_496 => ?_)
        refine r_iconst C (pc := 499) (x := (nI 1)) (by decide) dL_isReceiver_499 ?_
        refine r_goto C (pc := 500) (tgt := 504) dL_isReceiver_500 (by decide) ?_
        exact r_iret C (pc := 504) rfl (rfl) dL_isReceiver_504 ⟨rfl, rfl, rfl, hb491⟩
  have loop2 : ∀ (n' k : Nat) (v' : zV), (M.2.1 4).length - k < n' → k ≤ (M.2.1 4).length → zB v0 v' x q M h → VV p l e ({ frames := 5, cells := 0, slots := 0, locals := 32 * 5 }) s m args below meth c 0 0 (zQ below (fun r sh1 v1 N1 => sh1 = sh ∧ N1 = N ∧ (r = some (.int (nI 1)) ∧ zB v0 v1 x q M h)) G args s 0 0) G 8 sh v' N 264 [some (.ref x), some (.int (nI (cntn M.2.2.2 (M.1 0)))), some (.int (nI (cntn M.2.2.1 (M.1 0)))), some (.int (nI (kbs M.2.2.2 (M.1 0)))), some (.int (nI ((M.2.1 4).length))), some (.int (nI k)), none, none] [] := by
    intro n'
    induction n' with
    | zero => intro k v' hm; omega
    | succ n' ih =>
      intro k v' hm hkl hb'
      refine r_iload C (pc := 264) rfl dL_isReceiver_264 ?_
      refine r_iload C (pc := 266) rfl dL_isReceiver_266 ?_
      refine n_icmp_ge C (pc := 268) (tgt := 335) (by omega) (by omega) dL_isReceiver_268 (by decide) (fun c_268 => ?_) (fun c_268 => ?_)
      · refine VV.fg 5 (lv2 := [some (.ref x), some (.int (nI (cntn M.2.2.2 (M.1 0)))), some (.int (nI (cntn M.2.2.1 (M.1 0)))), some (.int (nI (kbs M.2.2.2 (M.1 0)))), some (.int (nI ((M.2.1 4).length))), none, none, none]) rfl ?_
        exact tail2 v' hb'
      · obtain ⟨f2, f3, f4, f6⟩ := wt_k hE hF c_268
        have f5 := pop_le ((M.2.1 4).getD k 0 / 256)
        have f7 := vln_lt (V := zVl M) (s := ((M.2.1 4).getD k 0 / 256)) hV (M.1 0) hK12
        refine r_aload_n C (pc := 271) rfl rfl dL_isReceiver_271 ?_
        refine r_iload C (pc := 272) rfl dL_isReceiver_272 ?_
        refine r_iconst C (pc := 274) (x := (nI 0)) (by decide) dL_isReceiver_274 ?_
        refine r_callV C (pc := 275) (st := []) (t_waiting l G sh v' N (k := k) (w := 0) hX hb' hI hT (by omega) (by decide) (z := nI ((M.2.1 4).getD k 0 / 256)) (ptI0 c_268)) kyX6_waiting q_604 rfl (Or.inl hd6) hX.2.2.1 (by decide) rfl rfl rfl (Nat.le_of_ble_eq_true rfl) ⟨Nat.le_of_ble_eq_true rfl, Nat.le_of_ble_eq_true rfl⟩ ⟨Nat.le_of_ble_eq_true rfl, Nat.le_of_ble_eq_true rfl⟩ dL_isReceiver_275 (fun r275 v275 hp275 => ?_)
        obtain ⟨rfl, hb275⟩ := hp275
        refine VV.eq (st2 := [.int (nI ((M.2.1 4).getD k 0 / 256))]) rfl ?_
        refine r_istore C (pc := 278) (lv2 := [some (.ref x), some (.int (nI (cntn M.2.2.2 (M.1 0)))), some (.int (nI (cntn M.2.2.1 (M.1 0)))), some (.int (nI (kbs M.2.2.2 (M.1 0)))), some (.int (nI ((M.2.1 4).length))), some (.int (nI k)), some (.int (nI ((M.2.1 4).getD k 0 / 256))), none]) (Nat.le_of_ble_eq_true rfl) rfl rfl dL_isReceiver_278 ?_
        refine r_iload C (pc := 280) rfl dL_isReceiver_280 ?_
        refine r_iload_n C (pc := 282) rfl rfl dL_isReceiver_282 ?_
        refine r_iand C (pc := 283) (z := (nI 0)) ((nx_and _ _).trans (by rw [f6])) dL_isReceiver_283 ?_
        refine n_if_ne C (pc := 284) (tgt := 327) (by omega) dL_isReceiver_284 (by decide) (fun c_284 => by exfalso; omega) (fun c_284 => ?_)
        refine r_iload C (pc := 287) rfl dL_isReceiver_287 ?_
        refine r_callS C (pc := 289) (st := []) (m_L_size l G sh v275 N (k := ((M.2.1 4).getD k 0 / 256)) (by omega)) kyL_size q_593 rfl rfl (Nat.le_of_ble_eq_true rfl) ⟨Nat.le_of_ble_eq_true rfl, Nat.le_of_ble_eq_true rfl⟩ ⟨Nat.le_of_ble_eq_true rfl, Nat.le_of_ble_eq_true rfl⟩ dL_isReceiver_289 (fun r289 v289 hp289 => ?_)
        obtain ⟨rfl, ehp289⟩ := hp289
        refine VV.vq ehp289 ?_
        refine VV.eq (st2 := [.int (nI (pop ((M.2.1 4).getD k 0 / 256)))]) rfl ?_
        refine r_iconst C (pc := 292) (x := (nI 2)) (by decide) dL_isReceiver_292 ?_
        refine n_icmp_lt C (pc := 293) (tgt := 327) (by omega) (by omega) dL_isReceiver_293 (by decide) (fun c_293 => by exfalso; omega) (fun c_293 => ?_)
        refine r_aload_n C (pc := 296) rfl rfl dL_isReceiver_296 ?_
        refine r_iload C (pc := 297) rfl dL_isReceiver_297 ?_
        refine r_iconst C (pc := 299) (x := (nI 1)) (by decide) dL_isReceiver_299 ?_
        refine r_callV C (pc := 300) (st := []) (t_waiting l G sh v275 N (k := k) (w := 1) hX hb275 hI hT (by omega) (by decide) (z := nI (vln (zVl M) ((M.2.1 4).getD k 0 / 256) (M.1 0))) ((ptI1 c_268).trans (congrArg nI f3))) kyX6_waiting q_604 rfl (Or.inl hd6) hX.2.2.1 (by decide) rfl rfl rfl (Nat.le_of_ble_eq_true rfl) ⟨Nat.le_of_ble_eq_true rfl, Nat.le_of_ble_eq_true rfl⟩ ⟨Nat.le_of_ble_eq_true rfl, Nat.le_of_ble_eq_true rfl⟩ dL_isReceiver_300 (fun r300 v300 hp300 => ?_)
        obtain ⟨rfl, hb300⟩ := hp300
        refine VV.eq (st2 := [.int (nI (vln (zVl M) ((M.2.1 4).getD k 0 / 256) (M.1 0)))]) rfl ?_
        refine r_aload_n C (pc := 303) rfl rfl dL_isReceiver_303 ?_
        refine r_iload C (pc := 304) rfl dL_isReceiver_304 ?_
        refine r_callS C (pc := 306) (st := [.int (nI (vln (zVl M) ((M.2.1 4).getD k 0 / 256) (M.1 0)))]) (m_L_value l G sh v300 N (k := ((M.2.1 4).getD k 0 / 256)) hX hb300 hI hT (by omega)) kyL_value q_577 rfl rfl (Nat.le_of_ble_eq_true rfl) ⟨Nat.le_of_ble_eq_true rfl, Nat.le_of_ble_eq_true rfl⟩ ⟨Nat.le_of_ble_eq_true rfl, Nat.le_of_ble_eq_true rfl⟩ dL_isReceiver_306 (fun r306 v306 hp306 => ?_)
        obtain ⟨rfl, hb306⟩ := hp306
        refine VV.eq (st2 := [.int (nI (vln (zVl M) ((M.2.1 4).getD k 0 / 256) (M.1 0))), .int (nI (vln (zVl M) ((M.2.1 4).getD k 0 / 256) (M.1 0)))]) rfl ?_
        refine n_icmp_ne C (pc := 309) (tgt := 327) (by omega) (by omega) dL_isReceiver_309 (by decide) (fun c_309 => by exfalso; exact c_309 rfl) (fun c_309 => ?_)
        refine r_aload_n C (pc := 312) rfl rfl dL_isReceiver_312 ?_
        refine r_iload C (pc := 313) rfl dL_isReceiver_313 ?_
        refine r_iconst C (pc := 315) (x := (nI 2)) (by decide) dL_isReceiver_315 ?_
        refine r_callV C (pc := 316) (st := []) (t_waiting l G sh v306 N (k := k) (w := 2) hX hb306 hI hT (by omega) (by decide) (z := nI (pop ((M.2.1 4).getD k 0 / 256))) (ptI2 c_268)) kyX6_waiting q_604 rfl (Or.inl hd6) hX.2.2.1 (by decide) rfl rfl rfl (Nat.le_of_ble_eq_true rfl) ⟨Nat.le_of_ble_eq_true rfl, Nat.le_of_ble_eq_true rfl⟩ ⟨Nat.le_of_ble_eq_true rfl, Nat.le_of_ble_eq_true rfl⟩ dL_isReceiver_316 (fun r316 v316 hp316 => ?_)
        obtain ⟨rfl, hb316⟩ := hp316
        refine VV.eq (st2 := [.int (nI (pop ((M.2.1 4).getD k 0 / 256)))]) rfl ?_
        refine r_iload C (pc := 319) rfl dL_isReceiver_319 ?_
        refine r_callS C (pc := 321) (st := [.int (nI (pop ((M.2.1 4).getD k 0 / 256)))]) (m_L_size l G sh v316 N (k := ((M.2.1 4).getD k 0 / 256)) (by omega)) kyL_size q_593 rfl rfl (Nat.le_of_ble_eq_true rfl) ⟨Nat.le_of_ble_eq_true rfl, Nat.le_of_ble_eq_true rfl⟩ ⟨Nat.le_of_ble_eq_true rfl, Nat.le_of_ble_eq_true rfl⟩ dL_isReceiver_321 (fun r321 v321 hp321 => ?_)
        obtain ⟨rfl, ehp321⟩ := hp321
        refine VV.vq ehp321 ?_
        refine VV.eq (st2 := [.int (nI (pop ((M.2.1 4).getD k 0 / 256))), .int (nI (pop ((M.2.1 4).getD k 0 / 256)))]) rfl ?_
        refine n_icmp_eq C (pc := 324) (tgt := 329) (by omega) (by omega) dL_isReceiver_324 (by decide) (fun c_324 => ?_) (fun c_324 => by exfalso; exact c_324 rfl)
        refine r_iinc C (pc := 329) (lv2 := [some (.ref x), some (.int (nI (cntn M.2.2.2 (M.1 0)))), some (.int (nI (cntn M.2.2.1 (M.1 0)))), some (.int (nI (kbs M.2.2.2 (M.1 0)))), some (.int (nI ((M.2.1 4).length))), some (.int (nI (k + 1))), some (.int (nI ((M.2.1 4).getD k 0 / 256))), none]) (y := (nI (k + 1))) rfl (nI_inc _ _) (Nat.le_of_ble_eq_true rfl) rfl rfl dL_isReceiver_329 ?_
        refine r_goto C (pc := 332) (tgt := 264) dL_isReceiver_332 (by decide) ?_
        refine VV.fg 6 (lv2 := [some (.ref x), some (.int (nI (cntn M.2.2.2 (M.1 0)))), some (.int (nI (cntn M.2.2.1 (M.1 0)))), some (.int (nI (kbs M.2.2.2 (M.1 0)))), some (.int (nI ((M.2.1 4).length))), some (.int (nI (k + 1))), none, none]) rfl ?_
        exact ih (k + 1) v316 (by omega) (by omega) hb316
  have tail1 : ∀ v' : zV, zB v0 v' x q M h → VV p l e ({ frames := 5, cells := 0, slots := 0, locals := 32 * 5 }) s m args below meth c 0 0 (zQ below (fun r sh1 v1 N1 => sh1 = sh ∧ N1 = N ∧ (r = some (.int (nI 1)) ∧ zB v0 v1 x q M h)) G args s 0 0) G 8 sh v' N 253 [some (.ref x), some (.int (nI (cntn M.2.2.2 (M.1 0)))), some (.int (nI (cntn M.2.2.1 (M.1 0)))), some (.int (nI (kbs M.2.2.2 (M.1 0)))), none, none, none, none] [] := by
    intro v' hb'
    refine r_aload_n C (pc := 253) rfl rfl dL_isReceiver_253 ?_
    refine r_bipush C (pc := 254) (x := (nI 13)) (by decide) dL_isReceiver_254 ?_
    refine r_callV C (pc := 256) (st := []) (t_told l G sh v' N (k := 13) hX hb' hI hT (by decide) (z := nI ((M.2.1 4).length)) (rfl)) kyX6_told q_251 rfl (Or.inl hd6) hX.2.2.1 (by decide) rfl rfl rfl (Nat.le_of_ble_eq_true rfl) ⟨Nat.le_of_ble_eq_true rfl, Nat.le_of_ble_eq_true rfl⟩ ⟨Nat.le_of_ble_eq_true rfl, Nat.le_of_ble_eq_true rfl⟩ dL_isReceiver_256 (fun r256 v256 hp256 => ?_)
    obtain ⟨rfl, hb256⟩ := hp256
    refine VV.eq (st2 := [.int (nI ((M.2.1 4).length))]) rfl ?_
    refine r_istore C (pc := 259) (lv2 := [some (.ref x), some (.int (nI (cntn M.2.2.2 (M.1 0)))), some (.int (nI (cntn M.2.2.1 (M.1 0)))), some (.int (nI (kbs M.2.2.2 (M.1 0)))), some (.int (nI ((M.2.1 4).length))), none, none, none]) (Nat.le_of_ble_eq_true rfl) rfl rfl dL_isReceiver_259 ?_
    refine r_iconst C (pc := 261) (x := (nI 0)) (by decide) dL_isReceiver_261 ?_
    refine r_istore C (pc := 262) (lv2 := [some (.ref x), some (.int (nI (cntn M.2.2.2 (M.1 0)))), some (.int (nI (cntn M.2.2.1 (M.1 0)))), some (.int (nI (kbs M.2.2.2 (M.1 0)))), some (.int (nI ((M.2.1 4).length))), some (.int (nI 0)), none, none]) (Nat.le_of_ble_eq_true rfl) rfl rfl dL_isReceiver_262 ?_
    exact loop2 ((M.2.1 4).length + 1) 0 v256 (by omega) (Nat.zero_le _) hb256
  have loop1 : ∀ (n' b : Nat) (v' : zV), M.1 0 - b < n' → b ≤ M.1 0 → zB v0 v' x q M h → VV p l e ({ frames := 5, cells := 0, slots := 0, locals := 32 * 5 }) s m args below meth c 0 0 (zQ below (fun r sh1 v1 N1 => sh1 = sh ∧ N1 = N ∧ (r = some (.int (nI 1)) ∧ zB v0 v1 x q M h)) G args s 0 0) G 8 sh v' N 9 [some (.ref x), some (.int (nI (cntn M.2.2.2 b))), some (.int (nI (cntn M.2.2.1 b))), some (.int (nI (kbs M.2.2.2 b))), some (.int (nI b)), none, none, none] [] := by
    intro n'
    induction n' with
    | zero => intro b v' hm; omega
    | succ n' ih =>
      intro b v' hm hbK hb'
      refine r_iload C (pc := 9) rfl dL_isReceiver_9 ?_
      refine r_aload_n C (pc := 11) rfl rfl dL_isReceiver_11 ?_
      refine r_iconst C (pc := 12) (x := (nI 0)) (by decide) dL_isReceiver_12 ?_
      refine r_callV C (pc := 13) (st := [.int (nI b)]) (t_told l G sh v' N (k := 0) hX hb' hI hT (by decide) (z := nI (M.1 0)) (rfl)) kyX6_told q_251 rfl (Or.inl hd6) hX.2.2.1 (by decide) rfl rfl rfl (Nat.le_of_ble_eq_true rfl) ⟨Nat.le_of_ble_eq_true rfl, Nat.le_of_ble_eq_true rfl⟩ ⟨Nat.le_of_ble_eq_true rfl, Nat.le_of_ble_eq_true rfl⟩ dL_isReceiver_13 (fun r13 v13 hp13 => ?_)
      obtain ⟨rfl, hb13⟩ := hp13
      refine VV.eq (st2 := [.int (nI (M.1 0)), .int (nI b)]) rfl ?_
      refine n_icmp_ge C (pc := 16) (tgt := 253) (by omega) (by omega) dL_isReceiver_16 (by decide) (fun c_16 => ?_) (fun c_16 => ?_)
      · obtain rfl : b = M.1 0 := by omega
        refine VV.fg 4 (lv2 := [some (.ref x), some (.int (nI (cntn M.2.2.2 (M.1 0)))), some (.int (nI (cntn M.2.2.1 (M.1 0)))), some (.int (nI (kbs M.2.2.2 (M.1 0)))), none, none, none, none]) rfl ?_
        exact tail1 v13 hb13
      · have fv := hV b (by omega)
        cases hk : M.2.2.2 b with
        | none =>
          cases hw : M.2.2.1 b with
          | none =>
            refine r_aload_n C (pc := 19) rfl rfl dL_isReceiver_19 ?_
            refine r_iload C (pc := 20) rfl dL_isReceiver_20 ?_
            refine r_iconst C (pc := 22) (x := (nI 1)) (by decide) dL_isReceiver_22 ?_
            refine r_callV C (pc := 23) (st := []) (t_b1 l G sh v13 N (k := b) hX hb13 hI hT c_16 (z := -9) (by rw [hk]; rfl)) kyX6_block q_580 rfl (Or.inl hd6) hX.2.2.1 (by decide) rfl rfl rfl (Nat.le_of_ble_eq_true rfl) ⟨Nat.le_of_ble_eq_true rfl, Nat.le_of_ble_eq_true rfl⟩ ⟨Nat.le_of_ble_eq_true rfl, Nat.le_of_ble_eq_true rfl⟩ dL_isReceiver_23 (fun r23 v23 hp23 => ?_)
            obtain ⟨rfl, hb23⟩ := hp23
            refine VV.eq (st2 := [.int (-9)]) rfl ?_
            refine r_istore C (pc := 26) (lv2 := [some (.ref x), some (.int (nI (cntn M.2.2.2 b))), some (.int (nI (cntn M.2.2.1 b))), some (.int (nI (kbs M.2.2.2 b))), some (.int (nI b)), some (.int (-9)), none, none]) (Nat.le_of_ble_eq_true rfl) rfl rfl dL_isReceiver_26 ?_
            refine r_aload_n C (pc := 28) rfl rfl dL_isReceiver_28 ?_
            refine r_iload C (pc := 29) rfl dL_isReceiver_29 ?_
            refine r_iconst C (pc := 31) (x := (nI 2)) (by decide) dL_isReceiver_31 ?_
            refine r_callV C (pc := 32) (st := []) (t_b2 l G sh v23 N (k := b) hX hb23 hI hT c_16 (z := -9) (by rw [hw]; rfl)) kyX6_block q_580 rfl (Or.inl hd6) hX.2.2.1 (by decide) rfl rfl rfl (Nat.le_of_ble_eq_true rfl) ⟨Nat.le_of_ble_eq_true rfl, Nat.le_of_ble_eq_true rfl⟩ ⟨Nat.le_of_ble_eq_true rfl, Nat.le_of_ble_eq_true rfl⟩ dL_isReceiver_32 (fun r32 v32 hp32 => ?_)
            obtain ⟨rfl, hb32⟩ := hp32
            refine VV.eq (st2 := [.int (-9)]) rfl ?_
            refine r_istore C (pc := 35) (lv2 := [some (.ref x), some (.int (nI (cntn M.2.2.2 b))), some (.int (nI (cntn M.2.2.1 b))), some (.int (nI (kbs M.2.2.2 b))), some (.int (nI b)), some (.int (-9)), some (.int (-9)), none]) (Nat.le_of_ble_eq_true rfl) rfl rfl dL_isReceiver_35 ?_
            refine r_iload C (pc := 37) rfl dL_isReceiver_37 ?_
            refine r_bipush C (pc := 39) (x := (-9)) (by decide) dL_isReceiver_39 ?_
            refine r_icmp_eq C (pc := 41) (tgt := 50) dL_isReceiver_41 (by decide) (fun c_41 => ?_) (fun c_41 => by exfalso; exact c_41 rfl)
            refine r_iload_n C (pc := 50) rfl rfl dL_isReceiver_50 ?_
            refine r_istore_n C (pc := 51) (lv2 := [some (.ref x), some (.int (nI (cntn M.2.2.2 b))), some (.int (nI (cntn M.2.2.1 b))), some (.int (nI (kbs M.2.2.2 b))), some (.int (nI b)), some (.int (-9)), some (.int (-9)), none]) rfl (Nat.le_of_ble_eq_true rfl) rfl rfl dL_isReceiver_51 ?_
            refine r_iload C (pc := 52) rfl dL_isReceiver_52 ?_
            refine r_bipush C (pc := 54) (x := (-9)) (by decide) dL_isReceiver_54 ?_
            refine r_icmp_eq C (pc := 56) (tgt := 65) dL_isReceiver_56 (by decide) (fun c_56 => ?_) (fun c_56 => by exfalso; exact c_56 rfl)
            refine r_iload_n C (pc := 65) rfl rfl dL_isReceiver_65 ?_
            refine r_istore_n C (pc := 66) (lv2 := [some (.ref x), some (.int (nI (cntn M.2.2.2 b))), some (.int (nI (cntn M.2.2.1 b))), some (.int (nI (kbs M.2.2.2 b))), some (.int (nI b)), some (.int (-9)), some (.int (-9)), none]) rfl (Nat.le_of_ble_eq_true rfl) rfl rfl dL_isReceiver_66 ?_
            refine r_iload C (pc := 67) rfl dL_isReceiver_67 ?_
            refine r_bipush C (pc := 69) (x := (-9)) (by decide) dL_isReceiver_69 ?_
            refine r_icmp_eq C (pc := 71) (tgt := 83) dL_isReceiver_71 (by decide) (fun c_71 => ?_) (fun c_71 => by exfalso; exact c_71 rfl)
            refine r_iload_n C (pc := 83) rfl rfl dL_isReceiver_83 ?_
            refine r_istore_n C (pc := 84) (lv2 := [some (.ref x), some (.int (nI (cntn M.2.2.2 b))), some (.int (nI (cntn M.2.2.1 b))), some (.int (nI (kbs M.2.2.2 b))), some (.int (nI b)), some (.int (-9)), some (.int (-9)), none]) rfl (Nat.le_of_ble_eq_true rfl) rfl rfl dL_isReceiver_84 ?_
            refine r_iload C (pc := 85) rfl dL_isReceiver_85 ?_
            refine r_bipush C (pc := 87) (x := (-9)) (by decide) dL_isReceiver_87 ?_
            refine r_icmp_eq C (pc := 89) (tgt := 111) dL_isReceiver_89 (by decide) (fun c_89 => ?_) (fun c_89 => by exfalso; exact c_89 rfl)
            refine r_iload C (pc := 111) rfl dL_isReceiver_111 ?_
            refine r_bipush C (pc := 113) (x := (-9)) (by decide) dL_isReceiver_113 ?_
            refine r_icmp_eq C (pc := 115) (tgt := 130) dL_isReceiver_115 (by decide) (fun c_115 => ?_) (fun c_115 => by exfalso; exact c_115 rfl)
            refine r_iconst C (pc := 130) (x := (nI 1)) (by decide) dL_isReceiver_130 ?_
            refine r_goto C (pc := 131) (tgt := 135) dL_isReceiver_131 (by decide) ?_
            refine r_istore C (pc := 135) (lv2 := [some (.ref x), some (.int (nI (cntn M.2.2.2 b))), some (.int (nI (cntn M.2.2.1 b))), some (.int (nI (kbs M.2.2.2 b))), some (.int (nI b)), some (.int (-9)), some (.int (-9)), some (.int (nI 1))]) (Nat.le_of_ble_eq_true rfl) rfl rfl dL_isReceiver_135 ?_
            refine r_iload C (pc := 137) rfl dL_isReceiver_137 ?_
            refine n_if_eq C (pc := 139) (tgt := 245) (by omega) dL_isReceiver_139 (by decide) (fun c_139 => by exfalso; omega) (fun c_139 => ?_)
            refine r_iload C (pc := 142) rfl dL_isReceiver_142 ?_
            refine r_bipush C (pc := 144) (x := (-9)) (by decide) dL_isReceiver_144 ?_
            refine r_icmp_ne C (pc := 146) (tgt := 153) dL_isReceiver_146 (by decide) (fun c_146 => by exfalso; exact c_146 rfl) (fun c_146 => ?_)
            refine r_iconst C (pc := 149) (x := (nI 1)) (by decide) dL_isReceiver_149 ?_
            refine r_goto C (pc := 150) (tgt := 154) dL_isReceiver_150 (by decide) ?_
            refine r_aload_n C (pc := 154) rfl rfl dL_isReceiver_154 ?_
            refine r_iload C (pc := 155) rfl dL_isReceiver_155 ?_
            refine r_iconst C (pc := 157) (x := (nI 3)) (by decide) dL_isReceiver_157 ?_
            refine r_callV C (pc := 158) (st := [.int (nI 1)]) (t_b3 l G sh v32 N (k := b) hX hb32 hI hT c_16 (z := -9) (by rw [hk]; rfl)) kyX6_block q_580 rfl (Or.inl hd6) hX.2.2.1 (by decide) rfl rfl rfl (Nat.le_of_ble_eq_true rfl) ⟨Nat.le_of_ble_eq_true rfl, Nat.le_of_ble_eq_true rfl⟩ ⟨Nat.le_of_ble_eq_true rfl, Nat.le_of_ble_eq_true rfl⟩ dL_isReceiver_158 (fun r158 v158 hp158 => ?_)
            obtain ⟨rfl, hb158⟩ := hp158
            refine VV.eq (st2 := [.int (-9), .int (nI 1)]) rfl ?_
            refine r_bipush C (pc := 161) (x := (-9)) (by decide) dL_isReceiver_161 ?_
            refine r_icmp_ne C (pc := 163) (tgt := 170) dL_isReceiver_163 (by decide) (fun c_163 => by exfalso; exact c_163 rfl) (fun c_163 => ?_)
            refine r_iconst C (pc := 166) (x := (nI 1)) (by decide) dL_isReceiver_166 ?_
            refine r_goto C (pc := 167) (tgt := 171) dL_isReceiver_167 (by decide) ?_
            refine n_icmp_ne C (pc := 171) (tgt := 245) (by omega) (by omega) dL_isReceiver_171 (by decide) (fun c_171 => by exfalso; omega) (fun c_171 => ?_)
            refine r_iload C (pc := 174) rfl dL_isReceiver_174 ?_
            refine r_bipush C (pc := 176) (x := (-9)) (by decide) dL_isReceiver_176 ?_
            refine r_icmp_ne C (pc := 178) (tgt := 185) dL_isReceiver_178 (by decide) (fun c_178 => by exfalso; exact c_178 rfl) (fun c_178 => ?_)
            refine r_iconst C (pc := 181) (x := (nI 1)) (by decide) dL_isReceiver_181 ?_
            refine r_goto C (pc := 182) (tgt := 186) dL_isReceiver_182 (by decide) ?_
            refine r_aload_n C (pc := 186) rfl rfl dL_isReceiver_186 ?_
            refine r_iload C (pc := 187) rfl dL_isReceiver_187 ?_
            refine r_iconst C (pc := 189) (x := (nI 4)) (by decide) dL_isReceiver_189 ?_
            refine r_callV C (pc := 190) (st := [.int (nI 1)]) (t_b4 l G sh v158 N (k := b) hX hb158 hI hT c_16 (z := -9) (by rw [hw]; rfl)) kyX6_block q_580 rfl (Or.inl hd6) hX.2.2.1 (by decide) rfl rfl rfl (Nat.le_of_ble_eq_true rfl) ⟨Nat.le_of_ble_eq_true rfl, Nat.le_of_ble_eq_true rfl⟩ ⟨Nat.le_of_ble_eq_true rfl, Nat.le_of_ble_eq_true rfl⟩ dL_isReceiver_190 (fun r190 v190 hp190 => ?_)
            obtain ⟨rfl, hb190⟩ := hp190
            refine VV.eq (st2 := [.int (-9), .int (nI 1)]) rfl ?_
            refine r_bipush C (pc := 193) (x := (-9)) (by decide) dL_isReceiver_193 ?_
            refine r_icmp_ne C (pc := 195) (tgt := 202) dL_isReceiver_195 (by decide) (fun c_195 => by exfalso; exact c_195 rfl) (fun c_195 => ?_)
            refine r_iconst C (pc := 198) (x := (nI 1)) (by decide) dL_isReceiver_198 ?_
            refine r_goto C (pc := 199) (tgt := 203) dL_isReceiver_199 (by decide) ?_
            refine n_icmp_ne C (pc := 203) (tgt := 245) (by omega) (by omega) dL_isReceiver_203 (by decide) (fun c_203 => by exfalso; omega) (fun c_203 => ?_)
            refine r_iload C (pc := 206) rfl dL_isReceiver_206 ?_
            refine r_bipush C (pc := 208) (x := (-9)) (by decide) dL_isReceiver_208 ?_
            refine r_icmp_eq C (pc := 210) (tgt := 230) dL_isReceiver_210 (by decide) (fun c_210 => ?_) (fun c_210 => by exfalso; exact c_210 rfl)
            refine r_aload_n C (pc := 230) rfl rfl dL_isReceiver_230 ?_
            refine r_iload C (pc := 231) rfl dL_isReceiver_231 ?_
            refine r_iconst C (pc := 233) (x := (nI 3)) (by decide) dL_isReceiver_233 ?_
            refine r_callV C (pc := 234) (st := []) (t_b3 l G sh v190 N (k := b) hX hb190 hI hT c_16 (z := -9) (by rw [hk]; rfl)) kyX6_block q_580 rfl (Or.inl hd6) hX.2.2.1 (by decide) rfl rfl rfl (Nat.le_of_ble_eq_true rfl) ⟨Nat.le_of_ble_eq_true rfl, Nat.le_of_ble_eq_true rfl⟩ ⟨Nat.le_of_ble_eq_true rfl, Nat.le_of_ble_eq_true rfl⟩ dL_isReceiver_234 (fun r234 v234 hp234 => ?_)
            obtain ⟨rfl, hb234⟩ := hp234
            refine VV.eq (st2 := [.int (-9)]) rfl ?_
            refine r_aload_n C (pc := 237) rfl rfl dL_isReceiver_237 ?_
            refine r_iconst C (pc := 238) (x := (nI 2)) (by decide) dL_isReceiver_238 ?_
            refine r_callV C (pc := 239) (st := [.int (-9)]) (t_told l G sh v234 N (k := 2) hX hb234 hI hT (by decide) (z := nI (M.1 2)) (rfl)) kyX6_told q_251 rfl (Or.inl hd6) hX.2.2.1 (by decide) rfl rfl rfl (Nat.le_of_ble_eq_true rfl) ⟨Nat.le_of_ble_eq_true rfl, Nat.le_of_ble_eq_true rfl⟩ ⟨Nat.le_of_ble_eq_true rfl, Nat.le_of_ble_eq_true rfl⟩ dL_isReceiver_239 (fun r239 v239 hp239 => ?_)
            obtain ⟨rfl, hb239⟩ := hp239
            refine VV.eq (st2 := [.int (nI (M.1 2)), .int (-9)]) rfl ?_
            refine r_icmp_le C (pc := 242) (tgt := 247) dL_isReceiver_242 (by decide) (fun c_242 => ?_) (fun c_242 => by exfalso; exact c_242 (m9_le (by omega)))
            refine r_iinc C (pc := 247) (lv2 := [some (.ref x), some (.int (nI (cntn M.2.2.2 b))), some (.int (nI (cntn M.2.2.1 b))), some (.int (nI (kbs M.2.2.2 b))), some (.int (nI (b + 1))), some (.int (-9)), some (.int (-9)), some (.int (nI 1))]) (y := (nI (b + 1))) rfl (nI_inc _ _) (Nat.le_of_ble_eq_true rfl) rfl rfl dL_isReceiver_247 ?_
            refine r_goto C (pc := 250) (tgt := 9) dL_isReceiver_250 (by decide) ?_
            refine VV.fg 5 (lv2 := [some (.ref x), some (.int (nI (cntn M.2.2.2 b))), some (.int (nI (cntn M.2.2.1 b))), some (.int (nI (kbs M.2.2.2 b))), some (.int (nI (b + 1))), none, some (.int (-9)), some (.int (nI 1))]) rfl ?_
            refine VV.fg 6 (lv2 := [some (.ref x), some (.int (nI (cntn M.2.2.2 b))), some (.int (nI (cntn M.2.2.1 b))), some (.int (nI (kbs M.2.2.2 b))), some (.int (nI (b + 1))), none, none, some (.int (nI 1))]) rfl ?_
            refine VV.fg 7 (lv2 := [some (.ref x), some (.int (nI (cntn M.2.2.2 b))), some (.int (nI (cntn M.2.2.1 b))), some (.int (nI (kbs M.2.2.2 b))), some (.int (nI (b + 1))), none, none, none]) rfl ?_
            have e1 : cntn M.2.2.2 (b + 1) = cntn M.2.2.2 b := by
              show cntn M.2.2.2 b + (if (M.2.2.2 b).isSome then 1 else 0) = _
              rw [hk]; rfl
            have e2 : cntn M.2.2.1 (b + 1) = cntn M.2.2.1 b := by
              show cntn M.2.2.1 b + (if (M.2.2.1 b).isSome then 1 else 0) = _
              rw [hw]; rfl
            have e3 : kbs M.2.2.2 (b + 1) = kbs M.2.2.2 b := by
              show (if (M.2.2.2 b).isSome then kbs M.2.2.2 b ||| 2 ^ b else kbs M.2.2.2 b) = _
              rw [hk]; rfl
            have h9 := ih (b + 1) v239 (by omega) (by omega) hb239
            rw [e1, e2, e3] at h9
            exact h9
          | some w =>
            have fw : w ≤ T := hI.1.2.1.2.2.1 b w hw
            refine r_aload_n C (pc := 19) rfl rfl dL_isReceiver_19 ?_
            refine r_iload C (pc := 20) rfl dL_isReceiver_20 ?_
            refine r_iconst C (pc := 22) (x := (nI 1)) (by decide) dL_isReceiver_22 ?_
            refine r_callV C (pc := 23) (st := []) (t_b1 l G sh v13 N (k := b) hX hb13 hI hT c_16 (z := -9) (by rw [hk]; rfl)) kyX6_block q_580 rfl (Or.inl hd6) hX.2.2.1 (by decide) rfl rfl rfl (Nat.le_of_ble_eq_true rfl) ⟨Nat.le_of_ble_eq_true rfl, Nat.le_of_ble_eq_true rfl⟩ ⟨Nat.le_of_ble_eq_true rfl, Nat.le_of_ble_eq_true rfl⟩ dL_isReceiver_23 (fun r23 v23 hp23 => ?_)
            obtain ⟨rfl, hb23⟩ := hp23
            refine VV.eq (st2 := [.int (-9)]) rfl ?_
            refine r_istore C (pc := 26) (lv2 := [some (.ref x), some (.int (nI (cntn M.2.2.2 b))), some (.int (nI (cntn M.2.2.1 b))), some (.int (nI (kbs M.2.2.2 b))), some (.int (nI b)), some (.int (-9)), none, none]) (Nat.le_of_ble_eq_true rfl) rfl rfl dL_isReceiver_26 ?_
            refine r_aload_n C (pc := 28) rfl rfl dL_isReceiver_28 ?_
            refine r_iload C (pc := 29) rfl dL_isReceiver_29 ?_
            refine r_iconst C (pc := 31) (x := (nI 2)) (by decide) dL_isReceiver_31 ?_
            refine r_callV C (pc := 32) (st := []) (t_b2 l G sh v23 N (k := b) hX hb23 hI hT c_16 (z := nI (M.1 (17 + b))) (by rw [hw]; rfl)) kyX6_block q_580 rfl (Or.inl hd6) hX.2.2.1 (by decide) rfl rfl rfl (Nat.le_of_ble_eq_true rfl) ⟨Nat.le_of_ble_eq_true rfl, Nat.le_of_ble_eq_true rfl⟩ ⟨Nat.le_of_ble_eq_true rfl, Nat.le_of_ble_eq_true rfl⟩ dL_isReceiver_32 (fun r32 v32 hp32 => ?_)
            obtain ⟨rfl, hb32⟩ := hp32
            refine VV.eq (st2 := [.int (nI (M.1 (17 + b)))]) rfl ?_
            refine r_istore C (pc := 35) (lv2 := [some (.ref x), some (.int (nI (cntn M.2.2.2 b))), some (.int (nI (cntn M.2.2.1 b))), some (.int (nI (kbs M.2.2.2 b))), some (.int (nI b)), some (.int (-9)), some (.int (nI (M.1 (17 + b)))), none]) (Nat.le_of_ble_eq_true rfl) rfl rfl dL_isReceiver_35 ?_
            refine r_iload C (pc := 37) rfl dL_isReceiver_37 ?_
            refine r_bipush C (pc := 39) (x := (-9)) (by decide) dL_isReceiver_39 ?_
            refine r_icmp_eq C (pc := 41) (tgt := 50) dL_isReceiver_41 (by decide) (fun c_41 => ?_) (fun c_41 => by exfalso; exact c_41 rfl)
            refine r_iload_n C (pc := 50) rfl rfl dL_isReceiver_50 ?_
            refine r_istore_n C (pc := 51) (lv2 := [some (.ref x), some (.int (nI (cntn M.2.2.2 b))), some (.int (nI (cntn M.2.2.1 b))), some (.int (nI (kbs M.2.2.2 b))), some (.int (nI b)), some (.int (-9)), some (.int (nI (M.1 (17 + b)))), none]) rfl (Nat.le_of_ble_eq_true rfl) rfl rfl dL_isReceiver_51 ?_
            refine r_iload C (pc := 52) rfl dL_isReceiver_52 ?_
            refine r_bipush C (pc := 54) (x := (-9)) (by decide) dL_isReceiver_54 ?_
            refine r_icmp_eq C (pc := 56) (tgt := 65) dL_isReceiver_56 (by decide) (fun c_56 => by exfalso; exact n9 (by omega) c_56) (fun c_56 => ?_)
            refine r_iload_n C (pc := 59) rfl rfl dL_isReceiver_59 ?_
            refine r_iconst C (pc := 60) (x := (nI 1)) (by decide) dL_isReceiver_60 ?_
            refine r_iadd C (pc := 61) (z := (nI ((cntn M.2.2.1 b) + 1))) (nI_add _ _) dL_isReceiver_61 ?_
            refine r_goto C (pc := 62) (tgt := 66) dL_isReceiver_62 (by decide) ?_
            refine r_istore_n C (pc := 66) (lv2 := [some (.ref x), some (.int (nI (cntn M.2.2.2 b))), some (.int (nI ((cntn M.2.2.1 b) + 1))), some (.int (nI (kbs M.2.2.2 b))), some (.int (nI b)), some (.int (-9)), some (.int (nI (M.1 (17 + b)))), none]) rfl (Nat.le_of_ble_eq_true rfl) rfl rfl dL_isReceiver_66 ?_
            refine r_iload C (pc := 67) rfl dL_isReceiver_67 ?_
            refine r_bipush C (pc := 69) (x := (-9)) (by decide) dL_isReceiver_69 ?_
            refine r_icmp_eq C (pc := 71) (tgt := 83) dL_isReceiver_71 (by decide) (fun c_71 => ?_) (fun c_71 => by exfalso; exact c_71 rfl)
            refine r_iload_n C (pc := 83) rfl rfl dL_isReceiver_83 ?_
            refine r_istore_n C (pc := 84) (lv2 := [some (.ref x), some (.int (nI (cntn M.2.2.2 b))), some (.int (nI ((cntn M.2.2.1 b) + 1))), some (.int (nI (kbs M.2.2.2 b))), some (.int (nI b)), some (.int (-9)), some (.int (nI (M.1 (17 + b)))), none]) rfl (Nat.le_of_ble_eq_true rfl) rfl rfl dL_isReceiver_84 ?_
            refine r_iload C (pc := 85) rfl dL_isReceiver_85 ?_
            refine r_bipush C (pc := 87) (x := (-9)) (by decide) dL_isReceiver_87 ?_
            refine r_icmp_eq C (pc := 89) (tgt := 111) dL_isReceiver_89 (by decide) (fun c_89 => ?_) (fun c_89 => by exfalso; exact c_89 rfl)
            refine r_iload C (pc := 111) rfl dL_isReceiver_111 ?_
            refine r_bipush C (pc := 113) (x := (-9)) (by decide) dL_isReceiver_113 ?_
            refine r_icmp_eq C (pc := 115) (tgt := 130) dL_isReceiver_115 (by decide) (fun c_115 => by exfalso; exact n9 (by omega) c_115) (fun c_115 => ?_)
            refine r_iload C (pc := 118) rfl dL_isReceiver_118 ?_
            refine r_aload_n C (pc := 120) rfl rfl dL_isReceiver_120 ?_
            refine r_iload C (pc := 121) rfl dL_isReceiver_121 ?_
            refine r_iconst C (pc := 123) (x := (nI 0)) (by decide) dL_isReceiver_123 ?_
            refine r_callV C (pc := 124) (st := [.int (nI (M.1 (17 + b)))]) (t_b0 l G sh v32 N (k := b) hX hb32 hI hT c_16 (z := nI (M.1 (17 + b))) (rfl)) kyX6_block q_580 rfl (Or.inl hd6) hX.2.2.1 (by decide) rfl rfl rfl (Nat.le_of_ble_eq_true rfl) ⟨Nat.le_of_ble_eq_true rfl, Nat.le_of_ble_eq_true rfl⟩ ⟨Nat.le_of_ble_eq_true rfl, Nat.le_of_ble_eq_true rfl⟩ dL_isReceiver_124 (fun r124 v124 hp124 => ?_)
            obtain ⟨rfl, hb124⟩ := hp124
            refine VV.eq (st2 := [.int (nI (M.1 (17 + b))), .int (nI (M.1 (17 + b)))]) rfl ?_
            refine n_icmp_ne C (pc := 127) (tgt := 134) (by omega) (by omega) dL_isReceiver_127 (by decide) (fun c_127 => by exfalso; exact c_127 rfl) (fun c_127 => ?_)
            refine r_iconst C (pc := 130) (x := (nI 1)) (by decide) dL_isReceiver_130 ?_
            refine r_goto C (pc := 131) (tgt := 135) dL_isReceiver_131 (by decide) ?_
            refine r_istore C (pc := 135) (lv2 := [some (.ref x), some (.int (nI (cntn M.2.2.2 b))), some (.int (nI ((cntn M.2.2.1 b) + 1))), some (.int (nI (kbs M.2.2.2 b))), some (.int (nI b)), some (.int (-9)), some (.int (nI (M.1 (17 + b)))), some (.int (nI 1))]) (Nat.le_of_ble_eq_true rfl) rfl rfl dL_isReceiver_135 ?_
            refine r_iload C (pc := 137) rfl dL_isReceiver_137 ?_
            refine n_if_eq C (pc := 139) (tgt := 245) (by omega) dL_isReceiver_139 (by decide) (fun c_139 => by exfalso; omega) (fun c_139 => ?_)
            refine r_iload C (pc := 142) rfl dL_isReceiver_142 ?_
            refine r_bipush C (pc := 144) (x := (-9)) (by decide) dL_isReceiver_144 ?_
            refine r_icmp_ne C (pc := 146) (tgt := 153) dL_isReceiver_146 (by decide) (fun c_146 => by exfalso; exact c_146 rfl) (fun c_146 => ?_)
            refine r_iconst C (pc := 149) (x := (nI 1)) (by decide) dL_isReceiver_149 ?_
            refine r_goto C (pc := 150) (tgt := 154) dL_isReceiver_150 (by decide) ?_
            refine r_aload_n C (pc := 154) rfl rfl dL_isReceiver_154 ?_
            refine r_iload C (pc := 155) rfl dL_isReceiver_155 ?_
            refine r_iconst C (pc := 157) (x := (nI 3)) (by decide) dL_isReceiver_157 ?_
            refine r_callV C (pc := 158) (st := [.int (nI 1)]) (t_b3 l G sh v124 N (k := b) hX hb124 hI hT c_16 (z := -9) (by rw [hk]; rfl)) kyX6_block q_580 rfl (Or.inl hd6) hX.2.2.1 (by decide) rfl rfl rfl (Nat.le_of_ble_eq_true rfl) ⟨Nat.le_of_ble_eq_true rfl, Nat.le_of_ble_eq_true rfl⟩ ⟨Nat.le_of_ble_eq_true rfl, Nat.le_of_ble_eq_true rfl⟩ dL_isReceiver_158 (fun r158 v158 hp158 => ?_)
            obtain ⟨rfl, hb158⟩ := hp158
            refine VV.eq (st2 := [.int (-9), .int (nI 1)]) rfl ?_
            refine r_bipush C (pc := 161) (x := (-9)) (by decide) dL_isReceiver_161 ?_
            refine r_icmp_ne C (pc := 163) (tgt := 170) dL_isReceiver_163 (by decide) (fun c_163 => by exfalso; exact c_163 rfl) (fun c_163 => ?_)
            refine r_iconst C (pc := 166) (x := (nI 1)) (by decide) dL_isReceiver_166 ?_
            refine r_goto C (pc := 167) (tgt := 171) dL_isReceiver_167 (by decide) ?_
            refine n_icmp_ne C (pc := 171) (tgt := 245) (by omega) (by omega) dL_isReceiver_171 (by decide) (fun c_171 => by exfalso; omega) (fun c_171 => ?_)
            refine r_iload C (pc := 174) rfl dL_isReceiver_174 ?_
            refine r_bipush C (pc := 176) (x := (-9)) (by decide) dL_isReceiver_176 ?_
            refine r_icmp_ne C (pc := 178) (tgt := 185) dL_isReceiver_178 (by decide) (fun c_178 => ?_) (fun c_178 => by exfalso; exact n9 (by omega) c_178)
            refine r_iconst C (pc := 185) (x := (nI 0)) (by decide) dL_isReceiver_185 ?_
            refine r_aload_n C (pc := 186) rfl rfl dL_isReceiver_186 ?_
            refine r_iload C (pc := 187) rfl dL_isReceiver_187 ?_
            refine r_iconst C (pc := 189) (x := (nI 4)) (by decide) dL_isReceiver_189 ?_
            refine r_callV C (pc := 190) (st := [.int (nI 0)]) (t_b4 l G sh v158 N (k := b) hX hb158 hI hT c_16 (z := nI w) (by rw [hw]; rfl)) kyX6_block q_580 rfl (Or.inl hd6) hX.2.2.1 (by decide) rfl rfl rfl (Nat.le_of_ble_eq_true rfl) ⟨Nat.le_of_ble_eq_true rfl, Nat.le_of_ble_eq_true rfl⟩ ⟨Nat.le_of_ble_eq_true rfl, Nat.le_of_ble_eq_true rfl⟩ dL_isReceiver_190 (fun r190 v190 hp190 => ?_)
            obtain ⟨rfl, hb190⟩ := hp190
            refine VV.eq (st2 := [.int (nI w), .int (nI 0)]) rfl ?_
            refine r_bipush C (pc := 193) (x := (-9)) (by decide) dL_isReceiver_193 ?_
            refine r_icmp_ne C (pc := 195) (tgt := 202) dL_isReceiver_195 (by decide) (fun c_195 => ?_) (fun c_195 => by exfalso; exact n9 (by omega) c_195)
            refine r_iconst C (pc := 202) (x := (nI 0)) (by decide) dL_isReceiver_202 ?_
            refine n_icmp_ne C (pc := 203) (tgt := 245) (by omega) (by omega) dL_isReceiver_203 (by decide) (fun c_203 => by exfalso; omega) (fun c_203 => ?_)
            refine r_iload C (pc := 206) rfl dL_isReceiver_206 ?_
            refine r_bipush C (pc := 208) (x := (-9)) (by decide) dL_isReceiver_208 ?_
            refine r_icmp_eq C (pc := 210) (tgt := 230) dL_isReceiver_210 (by decide) (fun c_210 => ?_) (fun c_210 => by exfalso; exact c_210 rfl)
            refine r_aload_n C (pc := 230) rfl rfl dL_isReceiver_230 ?_
            refine r_iload C (pc := 231) rfl dL_isReceiver_231 ?_
            refine r_iconst C (pc := 233) (x := (nI 3)) (by decide) dL_isReceiver_233 ?_
            refine r_callV C (pc := 234) (st := []) (t_b3 l G sh v190 N (k := b) hX hb190 hI hT c_16 (z := -9) (by rw [hk]; rfl)) kyX6_block q_580 rfl (Or.inl hd6) hX.2.2.1 (by decide) rfl rfl rfl (Nat.le_of_ble_eq_true rfl) ⟨Nat.le_of_ble_eq_true rfl, Nat.le_of_ble_eq_true rfl⟩ ⟨Nat.le_of_ble_eq_true rfl, Nat.le_of_ble_eq_true rfl⟩ dL_isReceiver_234 (fun r234 v234 hp234 => ?_)
            obtain ⟨rfl, hb234⟩ := hp234
            refine VV.eq (st2 := [.int (-9)]) rfl ?_
            refine r_aload_n C (pc := 237) rfl rfl dL_isReceiver_237 ?_
            refine r_iconst C (pc := 238) (x := (nI 2)) (by decide) dL_isReceiver_238 ?_
            refine r_callV C (pc := 239) (st := [.int (-9)]) (t_told l G sh v234 N (k := 2) hX hb234 hI hT (by decide) (z := nI (M.1 2)) (rfl)) kyX6_told q_251 rfl (Or.inl hd6) hX.2.2.1 (by decide) rfl rfl rfl (Nat.le_of_ble_eq_true rfl) ⟨Nat.le_of_ble_eq_true rfl, Nat.le_of_ble_eq_true rfl⟩ ⟨Nat.le_of_ble_eq_true rfl, Nat.le_of_ble_eq_true rfl⟩ dL_isReceiver_239 (fun r239 v239 hp239 => ?_)
            obtain ⟨rfl, hb239⟩ := hp239
            refine VV.eq (st2 := [.int (nI (M.1 2)), .int (-9)]) rfl ?_
            refine r_icmp_le C (pc := 242) (tgt := 247) dL_isReceiver_242 (by decide) (fun c_242 => ?_) (fun c_242 => by exfalso; exact c_242 (m9_le (by omega)))
            refine r_iinc C (pc := 247) (lv2 := [some (.ref x), some (.int (nI (cntn M.2.2.2 b))), some (.int (nI ((cntn M.2.2.1 b) + 1))), some (.int (nI (kbs M.2.2.2 b))), some (.int (nI (b + 1))), some (.int (-9)), some (.int (nI (M.1 (17 + b)))), some (.int (nI 1))]) (y := (nI (b + 1))) rfl (nI_inc _ _) (Nat.le_of_ble_eq_true rfl) rfl rfl dL_isReceiver_247 ?_
            refine r_goto C (pc := 250) (tgt := 9) dL_isReceiver_250 (by decide) ?_
            refine VV.fg 5 (lv2 := [some (.ref x), some (.int (nI (cntn M.2.2.2 b))), some (.int (nI ((cntn M.2.2.1 b) + 1))), some (.int (nI (kbs M.2.2.2 b))), some (.int (nI (b + 1))), none, some (.int (nI (M.1 (17 + b)))), some (.int (nI 1))]) rfl ?_
            refine VV.fg 6 (lv2 := [some (.ref x), some (.int (nI (cntn M.2.2.2 b))), some (.int (nI ((cntn M.2.2.1 b) + 1))), some (.int (nI (kbs M.2.2.2 b))), some (.int (nI (b + 1))), none, none, some (.int (nI 1))]) rfl ?_
            refine VV.fg 7 (lv2 := [some (.ref x), some (.int (nI (cntn M.2.2.2 b))), some (.int (nI ((cntn M.2.2.1 b) + 1))), some (.int (nI (kbs M.2.2.2 b))), some (.int (nI (b + 1))), none, none, none]) rfl ?_
            have e1 : cntn M.2.2.2 (b + 1) = cntn M.2.2.2 b := by
              show cntn M.2.2.2 b + (if (M.2.2.2 b).isSome then 1 else 0) = _
              rw [hk]; rfl
            have e2 : cntn M.2.2.1 (b + 1) = cntn M.2.2.1 b + 1 := by
              show cntn M.2.2.1 b + (if (M.2.2.1 b).isSome then 1 else 0) = _
              rw [hw]; rfl
            have e3 : kbs M.2.2.2 (b + 1) = kbs M.2.2.2 b := by
              show (if (M.2.2.2 b).isSome then kbs M.2.2.2 b ||| 2 ^ b else kbs M.2.2.2 b) = _
              rw [hk]; rfl
            have h9 := ih (b + 1) v239 (by omega) (by omega) hb239
            rw [e1, e2, e3] at h9
            exact h9
        | some u =>
          obtain ⟨fu, w, fw, hw⟩ := hF.2.2.2.1 b u hk
          refine r_aload_n C (pc := 19) rfl rfl dL_isReceiver_19 ?_
          refine r_iload C (pc := 20) rfl dL_isReceiver_20 ?_
          refine r_iconst C (pc := 22) (x := (nI 1)) (by decide) dL_isReceiver_22 ?_
          refine r_callV C (pc := 23) (st := []) (t_b1 l G sh v13 N (k := b) hX hb13 hI hT c_16 (z := nI (M.1 (17 + b))) (by rw [hk]; rfl)) kyX6_block q_580 rfl (Or.inl hd6) hX.2.2.1 (by decide) rfl rfl rfl (Nat.le_of_ble_eq_true rfl) ⟨Nat.le_of_ble_eq_true rfl, Nat.le_of_ble_eq_true rfl⟩ ⟨Nat.le_of_ble_eq_true rfl, Nat.le_of_ble_eq_true rfl⟩ dL_isReceiver_23 (fun r23 v23 hp23 => ?_)
          obtain ⟨rfl, hb23⟩ := hp23
          refine VV.eq (st2 := [.int (nI (M.1 (17 + b)))]) rfl ?_
          refine r_istore C (pc := 26) (lv2 := [some (.ref x), some (.int (nI (cntn M.2.2.2 b))), some (.int (nI (cntn M.2.2.1 b))), some (.int (nI (kbs M.2.2.2 b))), some (.int (nI b)), some (.int (nI (M.1 (17 + b)))), none, none]) (Nat.le_of_ble_eq_true rfl) rfl rfl dL_isReceiver_26 ?_
          refine r_aload_n C (pc := 28) rfl rfl dL_isReceiver_28 ?_
          refine r_iload C (pc := 29) rfl dL_isReceiver_29 ?_
          refine r_iconst C (pc := 31) (x := (nI 2)) (by decide) dL_isReceiver_31 ?_
          refine r_callV C (pc := 32) (st := []) (t_b2 l G sh v23 N (k := b) hX hb23 hI hT c_16 (z := nI (M.1 (17 + b))) (by rw [hw]; rfl)) kyX6_block q_580 rfl (Or.inl hd6) hX.2.2.1 (by decide) rfl rfl rfl (Nat.le_of_ble_eq_true rfl) ⟨Nat.le_of_ble_eq_true rfl, Nat.le_of_ble_eq_true rfl⟩ ⟨Nat.le_of_ble_eq_true rfl, Nat.le_of_ble_eq_true rfl⟩ dL_isReceiver_32 (fun r32 v32 hp32 => ?_)
          obtain ⟨rfl, hb32⟩ := hp32
          refine VV.eq (st2 := [.int (nI (M.1 (17 + b)))]) rfl ?_
          refine r_istore C (pc := 35) (lv2 := [some (.ref x), some (.int (nI (cntn M.2.2.2 b))), some (.int (nI (cntn M.2.2.1 b))), some (.int (nI (kbs M.2.2.2 b))), some (.int (nI b)), some (.int (nI (M.1 (17 + b)))), some (.int (nI (M.1 (17 + b)))), none]) (Nat.le_of_ble_eq_true rfl) rfl rfl dL_isReceiver_35 ?_
          refine r_iload C (pc := 37) rfl dL_isReceiver_37 ?_
          refine r_bipush C (pc := 39) (x := (-9)) (by decide) dL_isReceiver_39 ?_
          refine r_icmp_eq C (pc := 41) (tgt := 50) dL_isReceiver_41 (by decide) (fun c_41 => by exfalso; exact n9 (by omega) c_41) (fun c_41 => ?_)
          refine r_iload_n C (pc := 44) rfl rfl dL_isReceiver_44 ?_
          refine r_iconst C (pc := 45) (x := (nI 1)) (by decide) dL_isReceiver_45 ?_
          refine r_iadd C (pc := 46) (z := (nI ((cntn M.2.2.2 b) + 1))) (nI_add _ _) dL_isReceiver_46 ?_
          refine r_goto C (pc := 47) (tgt := 51) dL_isReceiver_47 (by decide) ?_
          refine r_istore_n C (pc := 51) (lv2 := [some (.ref x), some (.int (nI ((cntn M.2.2.2 b) + 1))), some (.int (nI (cntn M.2.2.1 b))), some (.int (nI (kbs M.2.2.2 b))), some (.int (nI b)), some (.int (nI (M.1 (17 + b)))), some (.int (nI (M.1 (17 + b)))), none]) rfl (Nat.le_of_ble_eq_true rfl) rfl rfl dL_isReceiver_51 ?_
          refine r_iload C (pc := 52) rfl dL_isReceiver_52 ?_
          refine r_bipush C (pc := 54) (x := (-9)) (by decide) dL_isReceiver_54 ?_
          refine r_icmp_eq C (pc := 56) (tgt := 65) dL_isReceiver_56 (by decide) (fun c_56 => by exfalso; exact n9 (by omega) c_56) (fun c_56 => ?_)
          refine r_iload_n C (pc := 59) rfl rfl dL_isReceiver_59 ?_
          refine r_iconst C (pc := 60) (x := (nI 1)) (by decide) dL_isReceiver_60 ?_
          refine r_iadd C (pc := 61) (z := (nI ((cntn M.2.2.1 b) + 1))) (nI_add _ _) dL_isReceiver_61 ?_
          refine r_goto C (pc := 62) (tgt := 66) dL_isReceiver_62 (by decide) ?_
          refine r_istore_n C (pc := 66) (lv2 := [some (.ref x), some (.int (nI ((cntn M.2.2.2 b) + 1))), some (.int (nI ((cntn M.2.2.1 b) + 1))), some (.int (nI (kbs M.2.2.2 b))), some (.int (nI b)), some (.int (nI (M.1 (17 + b)))), some (.int (nI (M.1 (17 + b)))), none]) rfl (Nat.le_of_ble_eq_true rfl) rfl rfl dL_isReceiver_66 ?_
          refine r_iload C (pc := 67) rfl dL_isReceiver_67 ?_
          refine r_bipush C (pc := 69) (x := (-9)) (by decide) dL_isReceiver_69 ?_
          refine r_icmp_eq C (pc := 71) (tgt := 83) dL_isReceiver_71 (by decide) (fun c_71 => by exfalso; exact n9 (by omega) c_71) (fun c_71 => ?_)
          refine r_iload_n C (pc := 74) rfl rfl dL_isReceiver_74 ?_
          refine r_iconst C (pc := 75) (x := (nI 1)) (by decide) dL_isReceiver_75 ?_
          refine r_iload C (pc := 76) rfl dL_isReceiver_76 ?_
          refine r_ishl C (pc := 78) (z := (nI (2 ^ b))) (nI_shl1 (by omega)) dL_isReceiver_78 ?_
          refine r_ior C (pc := 79) (z := (nI ((kbs M.2.2.2 b) ||| (2 ^ b)))) (nx_or _ _) dL_isReceiver_79 ?_
          refine r_goto C (pc := 80) (tgt := 84) dL_isReceiver_80 (by decide) ?_
          refine r_istore_n C (pc := 84) (lv2 := [some (.ref x), some (.int (nI ((cntn M.2.2.2 b) + 1))), some (.int (nI ((cntn M.2.2.1 b) + 1))), some (.int (nI ((kbs M.2.2.2 b) ||| (2 ^ b)))), some (.int (nI b)), some (.int (nI (M.1 (17 + b)))), some (.int (nI (M.1 (17 + b)))), none]) rfl (Nat.le_of_ble_eq_true rfl) rfl rfl dL_isReceiver_84 ?_
          refine r_iload C (pc := 85) rfl dL_isReceiver_85 ?_
          refine r_bipush C (pc := 87) (x := (-9)) (by decide) dL_isReceiver_87 ?_
          refine r_icmp_eq C (pc := 89) (tgt := 111) dL_isReceiver_89 (by decide) (fun c_89 => by exfalso; exact n9 (by omega) c_89) (fun c_89 => ?_)
          refine r_iload C (pc := 92) rfl dL_isReceiver_92 ?_
          refine r_aload_n C (pc := 94) rfl rfl dL_isReceiver_94 ?_
          refine r_iload C (pc := 95) rfl dL_isReceiver_95 ?_
          refine r_iconst C (pc := 97) (x := (nI 0)) (by decide) dL_isReceiver_97 ?_
          refine r_callV C (pc := 98) (st := [.int (nI (M.1 (17 + b)))]) (t_b0 l G sh v32 N (k := b) hX hb32 hI hT c_16 (z := nI (M.1 (17 + b))) (rfl)) kyX6_block q_580 rfl (Or.inl hd6) hX.2.2.1 (by decide) rfl rfl rfl (Nat.le_of_ble_eq_true rfl) ⟨Nat.le_of_ble_eq_true rfl, Nat.le_of_ble_eq_true rfl⟩ ⟨Nat.le_of_ble_eq_true rfl, Nat.le_of_ble_eq_true rfl⟩ dL_isReceiver_98 (fun r98 v98 hp98 => ?_)
          obtain ⟨rfl, hb98⟩ := hp98
          refine VV.eq (st2 := [.int (nI (M.1 (17 + b))), .int (nI (M.1 (17 + b)))]) rfl ?_
          refine n_icmp_ne C (pc := 101) (tgt := 134) (by omega) (by omega) dL_isReceiver_101 (by decide) (fun c_101 => by exfalso; exact c_101 rfl) (fun c_101 => ?_)
          refine r_iload C (pc := 104) rfl dL_isReceiver_104 ?_
          refine r_iload C (pc := 106) rfl dL_isReceiver_106 ?_
          refine n_icmp_ne C (pc := 108) (tgt := 134) (by omega) (by omega) dL_isReceiver_108 (by decide) (fun c_108 => by exfalso; exact c_108 rfl) (fun c_108 => ?_)
          refine r_iload C (pc := 111) rfl dL_isReceiver_111 ?_
          refine r_bipush C (pc := 113) (x := (-9)) (by decide) dL_isReceiver_113 ?_
          refine r_icmp_eq C (pc := 115) (tgt := 130) dL_isReceiver_115 (by decide) (fun c_115 => by exfalso; exact n9 (by omega) c_115) (fun c_115 => ?_)
          refine r_iload C (pc := 118) rfl dL_isReceiver_118 ?_
          refine r_aload_n C (pc := 120) rfl rfl dL_isReceiver_120 ?_
          refine r_iload C (pc := 121) rfl dL_isReceiver_121 ?_
          refine r_iconst C (pc := 123) (x := (nI 0)) (by decide) dL_isReceiver_123 ?_
          refine r_callV C (pc := 124) (st := [.int (nI (M.1 (17 + b)))]) (t_b0 l G sh v98 N (k := b) hX hb98 hI hT c_16 (z := nI (M.1 (17 + b))) (rfl)) kyX6_block q_580 rfl (Or.inl hd6) hX.2.2.1 (by decide) rfl rfl rfl (Nat.le_of_ble_eq_true rfl) ⟨Nat.le_of_ble_eq_true rfl, Nat.le_of_ble_eq_true rfl⟩ ⟨Nat.le_of_ble_eq_true rfl, Nat.le_of_ble_eq_true rfl⟩ dL_isReceiver_124 (fun r124 v124 hp124 => ?_)
          obtain ⟨rfl, hb124⟩ := hp124
          refine VV.eq (st2 := [.int (nI (M.1 (17 + b))), .int (nI (M.1 (17 + b)))]) rfl ?_
          refine n_icmp_ne C (pc := 127) (tgt := 134) (by omega) (by omega) dL_isReceiver_127 (by decide) (fun c_127 => by exfalso; exact c_127 rfl) (fun c_127 => ?_)
          refine r_iconst C (pc := 130) (x := (nI 1)) (by decide) dL_isReceiver_130 ?_
          refine r_goto C (pc := 131) (tgt := 135) dL_isReceiver_131 (by decide) ?_
          refine r_istore C (pc := 135) (lv2 := [some (.ref x), some (.int (nI ((cntn M.2.2.2 b) + 1))), some (.int (nI ((cntn M.2.2.1 b) + 1))), some (.int (nI ((kbs M.2.2.2 b) ||| (2 ^ b)))), some (.int (nI b)), some (.int (nI (M.1 (17 + b)))), some (.int (nI (M.1 (17 + b)))), some (.int (nI 1))]) (Nat.le_of_ble_eq_true rfl) rfl rfl dL_isReceiver_135 ?_
          refine r_iload C (pc := 137) rfl dL_isReceiver_137 ?_
          refine n_if_eq C (pc := 139) (tgt := 245) (by omega) dL_isReceiver_139 (by decide) (fun c_139 => by exfalso; omega) (fun c_139 => ?_)
          refine r_iload C (pc := 142) rfl dL_isReceiver_142 ?_
          refine r_bipush C (pc := 144) (x := (-9)) (by decide) dL_isReceiver_144 ?_
          refine r_icmp_ne C (pc := 146) (tgt := 153) dL_isReceiver_146 (by decide) (fun c_146 => ?_) (fun c_146 => by exfalso; exact n9 (by omega) c_146)
          refine r_iconst C (pc := 153) (x := (nI 0)) (by decide) dL_isReceiver_153 ?_
          refine r_aload_n C (pc := 154) rfl rfl dL_isReceiver_154 ?_
          refine r_iload C (pc := 155) rfl dL_isReceiver_155 ?_
          refine r_iconst C (pc := 157) (x := (nI 3)) (by decide) dL_isReceiver_157 ?_
          refine r_callV C (pc := 158) (st := [.int (nI 0)]) (t_b3 l G sh v124 N (k := b) hX hb124 hI hT c_16 (z := nI u) (by rw [hk]; rfl)) kyX6_block q_580 rfl (Or.inl hd6) hX.2.2.1 (by decide) rfl rfl rfl (Nat.le_of_ble_eq_true rfl) ⟨Nat.le_of_ble_eq_true rfl, Nat.le_of_ble_eq_true rfl⟩ ⟨Nat.le_of_ble_eq_true rfl, Nat.le_of_ble_eq_true rfl⟩ dL_isReceiver_158 (fun r158 v158 hp158 => ?_)
          obtain ⟨rfl, hb158⟩ := hp158
          refine VV.eq (st2 := [.int (nI u), .int (nI 0)]) rfl ?_
          refine r_bipush C (pc := 161) (x := (-9)) (by decide) dL_isReceiver_161 ?_
          refine r_icmp_ne C (pc := 163) (tgt := 170) dL_isReceiver_163 (by decide) (fun c_163 => ?_) (fun c_163 => by exfalso; exact n9 (by omega) c_163)
          refine r_iconst C (pc := 170) (x := (nI 0)) (by decide) dL_isReceiver_170 ?_
          refine n_icmp_ne C (pc := 171) (tgt := 245) (by omega) (by omega) dL_isReceiver_171 (by decide) (fun c_171 => by exfalso; omega) (fun c_171 => ?_)
          refine r_iload C (pc := 174) rfl dL_isReceiver_174 ?_
          refine r_bipush C (pc := 176) (x := (-9)) (by decide) dL_isReceiver_176 ?_
          refine r_icmp_ne C (pc := 178) (tgt := 185) dL_isReceiver_178 (by decide) (fun c_178 => ?_) (fun c_178 => by exfalso; exact n9 (by omega) c_178)
          refine r_iconst C (pc := 185) (x := (nI 0)) (by decide) dL_isReceiver_185 ?_
          refine r_aload_n C (pc := 186) rfl rfl dL_isReceiver_186 ?_
          refine r_iload C (pc := 187) rfl dL_isReceiver_187 ?_
          refine r_iconst C (pc := 189) (x := (nI 4)) (by decide) dL_isReceiver_189 ?_
          refine r_callV C (pc := 190) (st := [.int (nI 0)]) (t_b4 l G sh v158 N (k := b) hX hb158 hI hT c_16 (z := nI w) (by rw [hw]; rfl)) kyX6_block q_580 rfl (Or.inl hd6) hX.2.2.1 (by decide) rfl rfl rfl (Nat.le_of_ble_eq_true rfl) ⟨Nat.le_of_ble_eq_true rfl, Nat.le_of_ble_eq_true rfl⟩ ⟨Nat.le_of_ble_eq_true rfl, Nat.le_of_ble_eq_true rfl⟩ dL_isReceiver_190 (fun r190 v190 hp190 => ?_)
          obtain ⟨rfl, hb190⟩ := hp190
          refine VV.eq (st2 := [.int (nI w), .int (nI 0)]) rfl ?_
          refine r_bipush C (pc := 193) (x := (-9)) (by decide) dL_isReceiver_193 ?_
          refine r_icmp_ne C (pc := 195) (tgt := 202) dL_isReceiver_195 (by decide) (fun c_195 => ?_) (fun c_195 => by exfalso; exact n9 (by omega) c_195)
          refine r_iconst C (pc := 202) (x := (nI 0)) (by decide) dL_isReceiver_202 ?_
          refine n_icmp_ne C (pc := 203) (tgt := 245) (by omega) (by omega) dL_isReceiver_203 (by decide) (fun c_203 => by exfalso; omega) (fun c_203 => ?_)
          refine r_iload C (pc := 206) rfl dL_isReceiver_206 ?_
          refine r_bipush C (pc := 208) (x := (-9)) (by decide) dL_isReceiver_208 ?_
          refine r_icmp_eq C (pc := 210) (tgt := 230) dL_isReceiver_210 (by decide) (fun c_210 => by exfalso; exact n9 (by omega) c_210) (fun c_210 => ?_)
          refine r_aload_n C (pc := 213) rfl rfl dL_isReceiver_213 ?_
          refine r_iload C (pc := 214) rfl dL_isReceiver_214 ?_
          refine r_iconst C (pc := 216) (x := (nI 3)) (by decide) dL_isReceiver_216 ?_
          refine r_callV C (pc := 217) (st := []) (t_b3 l G sh v190 N (k := b) hX hb190 hI hT c_16 (z := nI u) (by rw [hk]; rfl)) kyX6_block q_580 rfl (Or.inl hd6) hX.2.2.1 (by decide) rfl rfl rfl (Nat.le_of_ble_eq_true rfl) ⟨Nat.le_of_ble_eq_true rfl, Nat.le_of_ble_eq_true rfl⟩ ⟨Nat.le_of_ble_eq_true rfl, Nat.le_of_ble_eq_true rfl⟩ dL_isReceiver_217 (fun r217 v217 hp217 => ?_)
          obtain ⟨rfl, hb217⟩ := hp217
          refine VV.eq (st2 := [.int (nI u)]) rfl ?_
          refine r_aload_n C (pc := 220) rfl rfl dL_isReceiver_220 ?_
          refine r_iload C (pc := 221) rfl dL_isReceiver_221 ?_
          refine r_iconst C (pc := 223) (x := (nI 4)) (by decide) dL_isReceiver_223 ?_
          refine r_callV C (pc := 224) (st := [.int (nI u)]) (t_b4 l G sh v217 N (k := b) hX hb217 hI hT c_16 (z := nI w) (by rw [hw]; rfl)) kyX6_block q_580 rfl (Or.inl hd6) hX.2.2.1 (by decide) rfl rfl rfl (Nat.le_of_ble_eq_true rfl) ⟨Nat.le_of_ble_eq_true rfl, Nat.le_of_ble_eq_true rfl⟩ ⟨Nat.le_of_ble_eq_true rfl, Nat.le_of_ble_eq_true rfl⟩ dL_isReceiver_224 (fun r224 v224 hp224 => ?_)
          obtain ⟨rfl, hb224⟩ := hp224
          refine VV.eq (st2 := [.int (nI w), .int (nI u)]) rfl ?_
          refine n_icmp_lt C (pc := 227) (tgt := 245) (by omega) (by omega) dL_isReceiver_227 (by decide) (fun c_227 => by exfalso; omega) (fun c_227 => ?_)
          refine r_aload_n C (pc := 230) rfl rfl dL_isReceiver_230 ?_
          refine r_iload C (pc := 231) rfl dL_isReceiver_231 ?_
          refine r_iconst C (pc := 233) (x := (nI 3)) (by decide) dL_isReceiver_233 ?_
          refine r_callV C (pc := 234) (st := []) (t_b3 l G sh v224 N (k := b) hX hb224 hI hT c_16 (z := nI u) (by rw [hk]; rfl)) kyX6_block q_580 rfl (Or.inl hd6) hX.2.2.1 (by decide) rfl rfl rfl (Nat.le_of_ble_eq_true rfl) ⟨Nat.le_of_ble_eq_true rfl, Nat.le_of_ble_eq_true rfl⟩ ⟨Nat.le_of_ble_eq_true rfl, Nat.le_of_ble_eq_true rfl⟩ dL_isReceiver_234 (fun r234 v234 hp234 => ?_)
          obtain ⟨rfl, hb234⟩ := hp234
          refine VV.eq (st2 := [.int (nI u)]) rfl ?_
          refine r_aload_n C (pc := 237) rfl rfl dL_isReceiver_237 ?_
          refine r_iconst C (pc := 238) (x := (nI 2)) (by decide) dL_isReceiver_238 ?_
          refine r_callV C (pc := 239) (st := [.int (nI u)]) (t_told l G sh v234 N (k := 2) hX hb234 hI hT (by decide) (z := nI (M.1 2)) (rfl)) kyX6_told q_251 rfl (Or.inl hd6) hX.2.2.1 (by decide) rfl rfl rfl (Nat.le_of_ble_eq_true rfl) ⟨Nat.le_of_ble_eq_true rfl, Nat.le_of_ble_eq_true rfl⟩ ⟨Nat.le_of_ble_eq_true rfl, Nat.le_of_ble_eq_true rfl⟩ dL_isReceiver_239 (fun r239 v239 hp239 => ?_)
          obtain ⟨rfl, hb239⟩ := hp239
          refine VV.eq (st2 := [.int (nI (M.1 2)), .int (nI u)]) rfl ?_
          refine n_icmp_le C (pc := 242) (tgt := 247) (by omega) (by omega) dL_isReceiver_242 (by decide) (fun c_242 => ?_) (fun c_242 => by exfalso; omega)
          refine r_iinc C (pc := 247) (lv2 := [some (.ref x), some (.int (nI ((cntn M.2.2.2 b) + 1))), some (.int (nI ((cntn M.2.2.1 b) + 1))), some (.int (nI ((kbs M.2.2.2 b) ||| (2 ^ b)))), some (.int (nI (b + 1))), some (.int (nI (M.1 (17 + b)))), some (.int (nI (M.1 (17 + b)))), some (.int (nI 1))]) (y := (nI (b + 1))) rfl (nI_inc _ _) (Nat.le_of_ble_eq_true rfl) rfl rfl dL_isReceiver_247 ?_
          refine r_goto C (pc := 250) (tgt := 9) dL_isReceiver_250 (by decide) ?_
          refine VV.fg 5 (lv2 := [some (.ref x), some (.int (nI ((cntn M.2.2.2 b) + 1))), some (.int (nI ((cntn M.2.2.1 b) + 1))), some (.int (nI ((kbs M.2.2.2 b) ||| (2 ^ b)))), some (.int (nI (b + 1))), none, some (.int (nI (M.1 (17 + b)))), some (.int (nI 1))]) rfl ?_
          refine VV.fg 6 (lv2 := [some (.ref x), some (.int (nI ((cntn M.2.2.2 b) + 1))), some (.int (nI ((cntn M.2.2.1 b) + 1))), some (.int (nI ((kbs M.2.2.2 b) ||| (2 ^ b)))), some (.int (nI (b + 1))), none, none, some (.int (nI 1))]) rfl ?_
          refine VV.fg 7 (lv2 := [some (.ref x), some (.int (nI ((cntn M.2.2.2 b) + 1))), some (.int (nI ((cntn M.2.2.1 b) + 1))), some (.int (nI ((kbs M.2.2.2 b) ||| (2 ^ b)))), some (.int (nI (b + 1))), none, none, none]) rfl ?_
          have e1 : cntn M.2.2.2 (b + 1) = cntn M.2.2.2 b + 1 := by
            show cntn M.2.2.2 b + (if (M.2.2.2 b).isSome then 1 else 0) = _
            rw [hk]; rfl
          have e2 : cntn M.2.2.1 (b + 1) = cntn M.2.2.1 b + 1 := by
            show cntn M.2.2.1 b + (if (M.2.2.1 b).isSome then 1 else 0) = _
            rw [hw]; rfl
          have e3 : kbs M.2.2.2 (b + 1) = kbs M.2.2.2 b ||| 2 ^ b := by
            show (if (M.2.2.2 b).isSome then kbs M.2.2.2 b ||| 2 ^ b else kbs M.2.2.2 b) = _
            rw [hk]; rfl
          have h9 := ih (b + 1) v239 (by omega) (by omega) hb239
          rw [e1, e2, e3] at h9
          exact h9
  refine r_iconst C (pc := 0) (x := (nI 0)) (by decide) dL_isReceiver_0 ?_
  refine r_istore_n C (pc := 1) (lv2 := [some (.ref x), some (.int (nI 0)), none, none, none, none, none, none]) rfl (Nat.le_of_ble_eq_true rfl) rfl rfl dL_isReceiver_1 ?_
  refine r_iconst C (pc := 2) (x := (nI 0)) (by decide) dL_isReceiver_2 ?_
  refine r_istore_n C (pc := 3) (lv2 := [some (.ref x), some (.int (nI 0)), some (.int (nI 0)), none, none, none, none, none]) rfl (Nat.le_of_ble_eq_true rfl) rfl rfl dL_isReceiver_3 ?_
  refine r_iconst C (pc := 4) (x := (nI 0)) (by decide) dL_isReceiver_4 ?_
  refine r_istore_n C (pc := 5) (lv2 := [some (.ref x), some (.int (nI 0)), some (.int (nI 0)), some (.int (nI 0)), none, none, none, none]) rfl (Nat.le_of_ble_eq_true rfl) rfl rfl dL_isReceiver_5 ?_
  refine r_iconst C (pc := 6) (x := (nI 0)) (by decide) dL_isReceiver_6 ?_
  refine r_istore C (pc := 7) (lv2 := [some (.ref x), some (.int (nI 0)), some (.int (nI 0)), some (.int (nI 0)), some (.int (nI 0)), none, none, none]) (Nat.le_of_ble_eq_true rfl) rfl rfl dL_isReceiver_7 ?_
  exact loop1 (M.1 0 + 1) 0 v (by omega) (Nat.zero_le _) hb

