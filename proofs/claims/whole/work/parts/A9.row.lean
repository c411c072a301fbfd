set_option maxHeartbeats 4000000 in
set_option maxRecDepth 100000 in
theorem lw_row {p : Program} {l : Launch} {e : Env} {s : State} {m : MethodId} {below : List Frame} {meth : Method} {c : Code} {b L : Nat} {xs : Nat → Int32} {dC : Nat → ClassId} {dI : Nat → Nat → Nat} {tC : Nat → ClassId} {ad : Nat → Nat → Nat} {am : Nat → Nat} {ao B i cells slots : Nat} {sr : SRt} {la : LAt} {fb : FBt} {rs : RSt} {ss : SSt} {nu : NUt} {fs : FSt} {co : COt} {mo : MOt} {ov : Nat → Int64} {H : Heap} {locs : List Loc} {ls : Array Slot}
    (F : LFx p l s m c b L xs dC dI tC) (k : Nat) (hk : 5000 ≤ k) (hB : B ≤ 600) (hi : i + 6 ≤ L) (hce : cells + 1 ≤ 601024 ∧ slots + 6 ≤ 7293000) (hR : RL B sr la fb rs ss nu fs mo) (hP : va_P (dC, dI) classes (wLW tC ad am ao sr la fb rs ss nu fs co mo ov) H) (hD : va_D (AA s) (wLW tC ad am ao sr la fb rs ss nu fs co mo ov)) (hS : va_S (AA s) s.heap H locs) (hl : lv_has ls 7 (lvL ad am ao b i)) (kk : KK p l e s m below meth c b dC dI tC ad am ao B i cells slots) :
    W p l e room_1 s m #[Value.ref b] below meth c H locs cells slots (lw_Z below #[Value.ref b] s) (F0 m 438 ls []) := by
  have hx := F.hx
  have hb := F.hb
  have hml := F.hml
  have hown := F.hown
  have hts := F.hts
  have hK := F.hK
  have hN := F.hN
  have hA : ∀ q : Nat, s.heap.size ≤ q → AA s q := fun _ h => h
  have hf0 : cells ≤ room_1.cells ∧ slots ≤ room_1.slots := ⟨by show cells ≤ 601024; omega, by show slots ≤ 7293000; omega⟩
  have hl : lv_has ls 7 [(0, .ref b), (1, .ref (ad 0 0)), (2, .ref (am 0)), (3, .ref ao), (4, .int (nI i))] := hl
  obtain ⟨o, sr', la', rs', ss', fs', co', a, mo', e1, e2, hR9, hc⟩ := s_row hR hB k hk (xs (i + 1)) (lw_v (xs (i + 2)) (xs (i + 3))) (lw_v (xs (i + 4)) (xs (i + 5))) co
  refine lv_aload_n hx hb d_LW_law_438 rfl (lv_at hl 1 rfl) ?_
  refine lw_g F hS (lv_at hl 0 rfl) (lv_at hl 4 rfl) 1 (by omega) (by decide) d_LW_law_439 d_LW_law_440 d_LW_law_442 d_LW_law_443 d_LW_law_444 ?_
  refine lw_g F hS (lv_at hl 0 rfl) (lv_at hl 4 rfl) 2 (by omega) (by decide) d_LW_law_445 d_LW_law_446 d_LW_law_448 d_LW_law_449 d_LW_law_450 ?_
  refine lv_i2l hx hb d_LW_law_451 rfl ?_
  refine lv_bipush (v := 32) hx hb d_LW_law_452 (by decide) ?_
  refine lv_lshl hx hb d_LW_law_454 rfl ?_
  refine lw_g F hS (lv_at hl 0 rfl) (lv_at hl 4 rfl) 3 (by omega) (by decide) d_LW_law_455 d_LW_law_456 d_LW_law_458 d_LW_law_459 d_LW_law_460 ?_
  refine lv_i2l hx hb d_LW_law_461 rfl ?_
  refine lv_ldc2 (v := 4294967295) hx hb hown (hts _ (List.mem_cons_of_mem _ mw_1003)) d_LW_law_462 ?_
  refine lv_land hx hb d_LW_law_465 ?_
  refine lv_lor hx hb d_LW_law_466 ?_
  refine W.eq (g2 := F0 m 467 ls [.long (lw_v (xs (i + 2)) (xs (i + 3))), .int (xs (i + 1)), .ref (ad 0 0)]) rfl ?_
  refine lw_g F hS (lv_at hl 0 rfl) (lv_at hl 4 rfl) 4 (by omega) (by decide) d_LW_law_467 d_LW_law_468 d_LW_law_470 d_LW_law_471 d_LW_law_472 ?_
  refine lv_i2l hx hb d_LW_law_473 rfl ?_
  refine lv_bipush (v := 32) hx hb d_LW_law_474 (by decide) ?_
  refine lv_lshl hx hb d_LW_law_476 rfl ?_
  refine lw_g F hS (lv_at hl 0 rfl) (lv_at hl 4 rfl) 5 (by omega) (by decide) d_LW_law_477 d_LW_law_478 d_LW_law_480 d_LW_law_481 d_LW_law_482 ?_
  refine lv_i2l hx hb d_LW_law_483 rfl ?_
  refine lv_ldc2 (v := 4294967295) hx hb hown (hts _ (List.mem_cons_of_mem _ mw_1003)) d_LW_law_484 ?_
  refine lv_land hx hb d_LW_law_487 ?_
  refine lv_lor hx hb d_LW_law_488 ?_
  refine W.eq (g2 := F0 m 489 ls [.long (lw_v (xs (i + 4)) (xs (i + 5))), .long (lw_v (xs (i + 2)) (xs (i + 3))), .int (xs (i + 1)), .ref (ad 0 0)]) rfl ?_
  refine lv_aload_n hx hb d_LW_law_489 rfl (lv_at hl 3 rfl) ?_
  refine W.eq (g2 := F0 m 490 ls [.ref ao, .long (lw_v (xs (i + 4)) (xs (i + 5))), .long (lw_v (xs (i + 2)) (xs (i + 3))), .int (xs (i + 1)), .ref (ad 0 0)]) rfl ?_
  rcases hc with ⟨rfl, ht⟩ | ⟨rfl, ht, q1, q2, q3, q4, q5, q6⟩
  · refine cx2_run (aa := ([.ref (ad 0 0), .int (xs (i + 1)), .long (lw_v (xs (i + 2)) (xs (i + 3))), .long (lw_v (xs (i + 4)) (xs (i + 5))), .ref ao] : List Value).toArray) (rv := some (.int 0)) (wc := wX tC ad sr la fb rs ss nu fs co ++ wOut tC ao ov) (w1 := wX tC ad sr' la' fb rs' ss' nu fs' co' ++ wOut tC ao (vp_updL ov 0 a.toInt64)) (wt := wMO tC am mo ++ (wX tC ad sr' la' fb rs' ss' nu fs' co' ++ wOut tC ao (vp_updL ov 0 a.toInt64))) (rest := []) ?_ hS (cx3_free (wD_r hD) hS hA) (fun H1 hk hP1 => wS_last hP hD (cx_hw (cx_hw (cx_hw (cx_hw (cx_hw (cx_hw (cx_hw (cx_hw (adSR _ _ _ _) (adLA _ _ _ _)) rfl) (adRS _ _ _ _)) (adSS _ _ _ _)) rfl) (adFS _ _ _ _)) (adCO _ _ _ _)) rfl) hk hP1) (fun H locs hP hD hS => ?_)
    · exact va_runSW (g := F0 m 490 ls [.ref ao, .long (lw_v (xs (i + 4)) (xs (i + 5))), .long (lw_v (xs (i + 2)) (xs (i + 3))), .int (xs (i + 1)), .ref (ad 0 0)]) (As := [.ref (ad 0 0), .int (xs (i + 1)), .long (lw_v (xs (i + 2)) (xs (i + 3))), .long (lw_v (xs (i + 4)) (xs (i + 5))), .ref ao]) (rest := []) ⟨hx, hb, hml, hown, hts⟩ (c_LW_row l dC dI tC ad ao ov k (xs (i + 1)) (lw_v (xs (i + 2)) (xs (i + 3))) (lw_v (xs (i + 4)) (xs (i + 5))) sr la fb rs ss nu fs co a sr' la' rs' ss' fs' co' e1 H.size) (k_LW_58 (mc := 0) (ms := 0) hts ⟨Nat.le_of_ble_eq_true rfl, Nat.le_of_ble_eq_true rfl⟩) ⟨cx_blind, fun U hU hW => ⟨rfl, by rw [hU], by rw [hU]; exact wP_r hP, va_K.moved hW.alike hK, (wD_r hD).weaken (fun _ _ _ _ => trivial), cx_W.warm hW hN⟩⟩ rfl rfl hl.1 rfl (lv_room (Nat.le_of_ble_eq_true rfl)) d_LW_law_490 hf0
    refine W.eq (g2 := F0 m 493 ls [.int 0]) rfl ?_
    refine lv_istore (lv' := [(5, .int 0), (0, .ref b), (1, .ref (ad 0 0)), (2, .ref (am 0)), (3, .ref ao), (4, .int (nI i))]) hx hb d_LW_law_493 hl (by decide) rfl (fun ls hl => ?_)
    refine lv_aload_n hx hb d_LW_law_495 rfl (lv_at hl 3 rfl) ?_
    refine lw_g F hS (lv_at hl 1 rfl) (lv_at hl 5 rfl) 1 (by omega) (by decide) d_LW_law_496 d_LW_law_497 d_LW_law_499 d_LW_law_500 d_LW_law_501 ?_
    refine lw_g F hS (lv_at hl 1 rfl) (lv_at hl 5 rfl) 2 (by omega) (by decide) d_LW_law_502 d_LW_law_503 d_LW_law_505 d_LW_law_506 d_LW_law_507 ?_
    refine lv_i2l hx hb d_LW_law_508 rfl ?_
    refine lv_bipush (v := 32) hx hb d_LW_law_509 (by decide) ?_
    refine lv_lshl hx hb d_LW_law_511 rfl ?_
    refine lw_g F hS (lv_at hl 1 rfl) (lv_at hl 5 rfl) 3 (by omega) (by decide) d_LW_law_512 d_LW_law_513 d_LW_law_515 d_LW_law_516 d_LW_law_517 ?_
    refine lv_i2l hx hb d_LW_law_518 rfl ?_
    refine lv_ldc2 (v := 4294967295) hx hb hown (hts _ (List.mem_cons_of_mem _ mw_1003)) d_LW_law_519 ?_
    refine lv_land hx hb d_LW_law_522 ?_
    refine lv_lor hx hb d_LW_law_523 ?_
    refine W.eq (g2 := F0 m 524 ls [.long (lw_v (xs (i + 2)) (xs (i + 3))), .int (xs (i + 1)), .ref (am 0)]) rfl ?_
    refine lw_g F hS (lv_at hl 1 rfl) (lv_at hl 5 rfl) 4 (by omega) (by decide) d_LW_law_524 d_LW_law_525 d_LW_law_527 d_LW_law_528 d_LW_law_529 ?_
    refine lv_i2l hx hb d_LW_law_530 rfl ?_
    refine lv_bipush (v := 32) hx hb d_LW_law_531 (by decide) ?_
    refine lv_lshl hx hb d_LW_law_533 rfl ?_
    refine lw_g F hS (lv_at hl 1 rfl) (lv_at hl 5 rfl) 5 (by omega) (by decide) d_LW_law_534 d_LW_law_535 d_LW_law_537 d_LW_law_538 d_LW_law_539 ?_
    refine lv_i2l hx hb d_LW_law_540 rfl ?_
    refine lv_ldc2 (v := 4294967295) hx hb hown (hts _ (List.mem_cons_of_mem _ mw_1003)) d_LW_law_541 ?_
    refine lv_land hx hb d_LW_law_544 ?_
    refine lv_lor hx hb d_LW_law_545 ?_
    refine W.eq (g2 := F0 m 546 ls [.long (lw_v (xs (i + 4)) (xs (i + 5))), .long (lw_v (xs (i + 2)) (xs (i + 3))), .int (xs (i + 1)), .ref (am 0)]) rfl ?_
    refine wS_callFirst (As := [.int (xs (i + 1)), .long (lw_v (xs (i + 2)) (xs (i + 3))), .long (lw_v (xs (i + 4)) (xs (i + 5)))]) (rest := []) (wMO tC am mo') ⟨hx, hb, hml, hown, hts⟩ (c_MO_row l dC dI tC am k (xs (i + 1)) (lw_v (xs (i + 2)) (xs (i + 3))) (lw_v (xs (i + 4)) (xs (i + 5))) mo a mo' e2) (k_LW_61 hts ⟨Nat.le_of_ble_eq_true rfl, Nat.le_of_ble_eq_true rfl⟩) hl.1 hP hD hS hA hK hN 0 8 rfl rfl rfl (adMO _ _ _ _) rfl rfl (Nat.le_of_ble_eq_true rfl) d_LW_law_546 hf0 (fun H locs hP hD hS => ?_)
    refine W.eq (g2 := F0 m 549 ls [.int a]) rfl ?_
    refine lv_istore (lv' := [(6, .int a), (5, .int 0), (0, .ref b), (1, .ref (ad 0 0)), (2, .ref (am 0)), (3, .ref ao), (4, .int (nI i))]) hx hb d_LW_law_549 hl (by decide) rfl (fun ls hl => ?_)
    refine lv_aload_n hx hb d_LW_law_551 rfl (lv_at hl 4 rfl) ?_
    refine wS_callFirst (As := []) (rest := []) (wMO tC am mo') ⟨hx, hb, hml, hown, hts⟩ (c_MO_thrown l dC dI tC am mo' 0 ht) (k_LW_62 hts ⟨Nat.le_of_ble_eq_true rfl, Nat.le_of_ble_eq_true rfl⟩) hl.1 hP hD hS hA hK hN 0 8 rfl rfl rfl rfl rfl rfl (Nat.le_of_ble_eq_true rfl) d_LW_law_552 hf0 (fun H locs hP hD hS => ?_)
    refine W.eq (g2 := F0 m 555 ls [.int 0]) rfl ?_
    refine lv_iload hx hb d_LW_law_555 (lv_at hl 1 rfl) ?_
    refine lv_icmp_eq (tgt := 562) hx hb d_LW_law_557 (by decide) (fun _ => ?_) (fun cb => absurd rfl cb)
    refine lv_iload hx hb d_LW_law_562 (lv_at hl 1 rfl) ?_
    refine lv_if_ne (tgt := 579) hx hb d_LW_law_564 (by decide) (fun cb => absurd rfl cb) (fun _ => ?_)
    refine lv_aload_n hx hb d_LW_law_567 rfl (lv_at hl 5 rfl) ?_
    refine lv_iconst (v := 0) hx hb d_LW_law_568 (by decide) ?_
    refine va_lald (D := (dC, dI)) hx hb hK (wP_r hP) 32 1 rfl rfl (by unfold vp_in; decide) d_LW_law_569 ?_
    refine lv_iload hx hb d_LW_law_570 (lv_at hl 0 rfl) ?_
    refine lv_i2l hx hb d_LW_law_572 rfl ?_
    refine cq_eq (tgt := 579) hx hb d_LW_law_573 d_LW_law_574 (by decide) (fun _ => ?_) (fun cb => absurd (by show (if (0 : Int32).toNatClampNeg = 0 then a.toInt64 else _) = _; rw [if_pos (by decide)]) cb)
    refine lv_goto (tgt := 802) hx hb d_LW_law_579 (by decide) ?_
    refine W.widen (k := cells + 1) (n := slots + 6) (Nat.le_add_right _ _) (Nat.le_add_right _ _) ?_
    exact kk sr' la' fb rs' ss' nu fs' co' mo' (vp_updL ov 0 a.toInt64) H locs ls hR9 hP hD hS (lv_sub hl [2, 3, 4, 5, 6] rfl)
  · rw [q1, q2, q3, q4, q5] at hR9
    obtain ⟨h1, h2, h3, r, h4, h5⟩ := f_row_none e1
    refine cxr_runG (mc := 1) (ms := 6) (rv := some (.int 1)) (va_runSW (g := F0 m 490 ls [.ref ao, .long (lw_v (xs (i + 4)) (xs (i + 5))), .long (lw_v (xs (i + 2)) (xs (i + 3))), .int (xs (i + 1)), .ref (ad 0 0)]) (As := [.ref (ad 0 0), .int (xs (i + 1)), .long (lw_v (xs (i + 2)) (xs (i + 3))), .long (lw_v (xs (i + 4)) (xs (i + 5))), .ref ao]) (rest := []) ⟨hx, hb, hml, hown, hts⟩ (t_LW_row l F.hfl dC dI tC ad ao k (xs (i + 1)) (lw_v (xs (i + 2)) (xs (i + 3))) (lw_v (xs (i + 4)) (xs (i + 5))) sr la fb r h1 h2 h3 h4 h5 H.size) (k_LW_58 (mc := 1) (ms := 6) hts ⟨Nat.le_of_ble_eq_true rfl, Nat.le_of_ble_eq_true rfl⟩) ⟨fun a U g mk q => ⟨q.1, q.2.same rfl (State.WarmedH.refl U)⟩, fun U hU hW => ⟨rfl, by rw [hU], by rw [hU]; exact cx_P (wP_r hP) (is := [0, 1, 2, 3, 4, 5, 6]) rfl, va_K.moved hW.alike hK, cx_W.warm hW hN, F.hO.move hW (fun q cell hc hst => by have hq := (Array.getElem?_eq_some_iff.mp hc).1; rw [hU, hS.2.1 q hq (Nat.not_le.mpr hq)]; exact hc)⟩⟩ rfl rfl hl.1 rfl (lv_room (Nat.le_of_ble_eq_true rfl)) d_LW_law_490 hce)
      (fun st t v hst hq => by obtain ⟨hv, hz, hk9⟩ := hq; cases hv; rw [hst] at hz hk9; exact ⟨rfl, hz, hk9⟩) (fun q h => h) hP hS hA (fun H locs hP hS => ?_)
    refine W.eq (g2 := F0 m 493 ls [.int 1]) rfl ?_
    refine lv_istore (lv' := [(5, .int 1), (0, .ref b), (1, .ref (ad 0 0)), (2, .ref (am 0)), (3, .ref ao), (4, .int (nI i))]) hx hb d_LW_law_493 hl (by decide) rfl (fun ls hl => ?_)
    refine lv_aload_n hx hb d_LW_law_495 rfl (lv_at hl 3 rfl) ?_
    refine lw_g F hS (lv_at hl 1 rfl) (lv_at hl 5 rfl) 1 (by omega) (by decide) d_LW_law_496 d_LW_law_497 d_LW_law_499 d_LW_law_500 d_LW_law_501 ?_
    refine lw_g F hS (lv_at hl 1 rfl) (lv_at hl 5 rfl) 2 (by omega) (by decide) d_LW_law_502 d_LW_law_503 d_LW_law_505 d_LW_law_506 d_LW_law_507 ?_
    refine lv_i2l hx hb d_LW_law_508 rfl ?_
    refine lv_bipush (v := 32) hx hb d_LW_law_509 (by decide) ?_
    refine lv_lshl hx hb d_LW_law_511 rfl ?_
    refine lw_g F hS (lv_at hl 1 rfl) (lv_at hl 5 rfl) 3 (by omega) (by decide) d_LW_law_512 d_LW_law_513 d_LW_law_515 d_LW_law_516 d_LW_law_517 ?_
    refine lv_i2l hx hb d_LW_law_518 rfl ?_
    refine lv_ldc2 (v := 4294967295) hx hb hown (hts _ (List.mem_cons_of_mem _ mw_1003)) d_LW_law_519 ?_
    refine lv_land hx hb d_LW_law_522 ?_
    refine lv_lor hx hb d_LW_law_523 ?_
    refine W.eq (g2 := F0 m 524 ls [.long (lw_v (xs (i + 2)) (xs (i + 3))), .int (xs (i + 1)), .ref (am 0)]) rfl ?_
    refine lw_g F hS (lv_at hl 1 rfl) (lv_at hl 5 rfl) 4 (by omega) (by decide) d_LW_law_524 d_LW_law_525 d_LW_law_527 d_LW_law_528 d_LW_law_529 ?_
    refine lv_i2l hx hb d_LW_law_530 rfl ?_
    refine lv_bipush (v := 32) hx hb d_LW_law_531 (by decide) ?_
    refine lv_lshl hx hb d_LW_law_533 rfl ?_
    refine lw_g F hS (lv_at hl 1 rfl) (lv_at hl 5 rfl) 5 (by omega) (by decide) d_LW_law_534 d_LW_law_535 d_LW_law_537 d_LW_law_538 d_LW_law_539 ?_
    refine lv_i2l hx hb d_LW_law_540 rfl ?_
    refine lv_ldc2 (v := 4294967295) hx hb hown (hts _ (List.mem_cons_of_mem _ mw_1003)) d_LW_law_541 ?_
    refine lv_land hx hb d_LW_law_544 ?_
    refine lv_lor hx hb d_LW_law_545 ?_
    refine W.eq (g2 := F0 m 546 ls [.long (lw_v (xs (i + 4)) (xs (i + 5))), .long (lw_v (xs (i + 2)) (xs (i + 3))), .int (xs (i + 1)), .ref (am 0)]) rfl ?_
    refine wS_callFirst (As := [.int (xs (i + 1)), .long (lw_v (xs (i + 2)) (xs (i + 3))), .long (lw_v (xs (i + 4)) (xs (i + 5)))]) (rest := []) (wMO tC am mo') ⟨hx, hb, hml, hown, hts⟩ (c_MO_row l dC dI tC am k (xs (i + 1)) (lw_v (xs (i + 2)) (xs (i + 3))) (lw_v (xs (i + 4)) (xs (i + 5))) mo a mo' e2) (k_LW_61 hts ⟨Nat.le_of_ble_eq_true rfl, Nat.le_of_ble_eq_true rfl⟩) hl.1 hP hD hS hA hK hN 0 8 rfl rfl rfl (adMO _ _ _ _) rfl rfl (Nat.le_of_ble_eq_true rfl) d_LW_law_546 hce (fun H locs hP hD hS => ?_)
    refine W.eq (g2 := F0 m 549 ls [.int a]) rfl ?_
    refine lv_istore (lv' := [(6, .int a), (5, .int 1), (0, .ref b), (1, .ref (ad 0 0)), (2, .ref (am 0)), (3, .ref ao), (4, .int (nI i))]) hx hb d_LW_law_549 hl (by decide) rfl (fun ls hl => ?_)
    refine lv_aload_n hx hb d_LW_law_551 rfl (lv_at hl 4 rfl) ?_
    refine wS_callFirst (As := []) (rest := []) (wMO tC am mo') ⟨hx, hb, hml, hown, hts⟩ (c_MO_thrown l dC dI tC am mo' 1 ht) (k_LW_62 hts ⟨Nat.le_of_ble_eq_true rfl, Nat.le_of_ble_eq_true rfl⟩) hl.1 hP hD hS hA hK hN 0 8 rfl rfl rfl rfl rfl rfl (Nat.le_of_ble_eq_true rfl) d_LW_law_552 hce (fun H locs hP hD hS => ?_)
    refine W.eq (g2 := F0 m 555 ls [.int 1]) rfl ?_
    refine lv_iload hx hb d_LW_law_555 (lv_at hl 1 rfl) ?_
    refine lv_icmp_eq (tgt := 562) hx hb d_LW_law_557 (by decide) (fun _ => ?_) (fun cb => absurd rfl cb)
    refine lv_iload hx hb d_LW_law_562 (lv_at hl 1 rfl) ?_
    refine lv_if_ne (tgt := 579) hx hb d_LW_law_564 (by decide) (fun _ => ?_) (fun cb => absurd cb (by decide))
    refine lv_goto (tgt := 802) hx hb d_LW_law_579 (by decide) ?_
    exact kk sr la fb rs ss nu fs co mo' ov H locs ls hR9 hP hD hS (lv_sub hl [2, 3, 4, 5, 6] rfl)
