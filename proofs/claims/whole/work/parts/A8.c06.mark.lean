set_option maxHeartbeats 4000000 in
set_option maxRecDepth 100000 in
theorem lw_mark {p : Program} {l : Launch} {e : Env} {s : State} {m : MethodId} {below : List Frame} {meth : Method} {c : Code} {b L : Nat} {xs : Nat → Int32} {dC : Nat → ClassId} {dI : Nat → Nat → Nat} {tC : Nat → ClassId} {ad : Nat → Nat → Nat} {am : Nat → Nat} {ao B i cells slots : Nat} {sr : SRt} {la : LAt} {fb : FBt} {rs : RSt} {ss : SSt} {nu : NUt} {fs : FSt} {co : COt} {mo : MOt} {ov : Nat → Int64} {H : Heap} {locs : List Loc} {ls : Array Slot}
    (F : LFx p l s m c b L xs dC dI tC) (k : Nat) (hk : 5000 ≤ k) (hB : B ≤ 600) (hi : i + 6 ≤ L) (hce : cells + 1 ≤ 601024 ∧ slots + 6 ≤ 7293000) (hR : RL B sr la fb rs ss nu fs mo) (hP : va_P (dC, dI) classes (wLW tC ad am ao sr la fb rs ss nu fs co mo ov) H) (hD : va_D (AA s) (wLW tC ad am ao sr la fb rs ss nu fs co mo ov)) (hS : va_S (AA s) s.heap H locs) (hl : lv_has ls 7 (lvL ad am ao b i)) (kk : KK p l e s m below meth c b dC dI tC ad am ao B i cells slots) :
    W p l e room_1 s m #[Value.ref b] below meth c H locs cells slots (lw_Z below #[Value.ref b] s) (F0 m 582 ls []) := by
  have hx := F.hx
  have hb := F.hb
  have hml := F.hml
  have hown := F.hown
  have hts := F.hts
  have hK := F.hK
  have hN := F.hN
  have hA : ∀ q : Nat, s.heap.size ≤ q → AA s q := fun _ h => h
  have hf0 : cells ≤ room_1.cells ∧ slots ≤ room_1.slots := ⟨by show cells ≤ 601024; omega, by show slots ≤ 7293000; omega⟩
  have hl : lv_has ls 7 [(0, .ref b), (1, .ref (ad 0 0)), (2, .ref (am 0)), (3, .ref ao), (4, .int (nI i))] := hl
  obtain ⟨a, sr', rs', ss', nu', fs', co', mo', e1, e2, hR9⟩ := s_mark hR hB k hk (lw_v (xs (i + 1)) (xs (i + 2))) co
  refine lv_aload_n hx hb d_LW_law_582 rfl (lv_at hl 1 rfl) ?_
  refine lw_g F hS (lv_at hl 0 rfl) (lv_at hl 4 rfl) 1 (by omega) (by decide) d_LW_law_583 d_LW_law_584 d_LW_law_586 d_LW_law_587 d_LW_law_588 ?_
  refine lv_i2l hx hb d_LW_law_589 rfl ?_
  refine lv_bipush (v := 32) hx hb d_LW_law_590 (by decide) ?_
  refine lv_lshl hx hb d_LW_law_592 rfl ?_
  refine lw_g F hS (lv_at hl 0 rfl) (lv_at hl 4 rfl) 2 (by omega) (by decide) d_LW_law_593 d_LW_law_594 d_LW_law_596 d_LW_law_597 d_LW_law_598 ?_
  refine lv_i2l hx hb d_LW_law_599 rfl ?_
  refine lv_ldc2 (v := 4294967295) hx hb hown (hts _ (List.mem_cons_of_mem _ mw_1003)) d_LW_law_600 ?_
  refine lv_land hx hb d_LW_law_603 ?_
  refine lv_lor hx hb d_LW_law_604 ?_
  refine W.eq (g2 := F0 m 605 ls [.long (lw_v (xs (i + 1)) (xs (i + 2))), .ref (ad 0 0)]) rfl ?_
  refine wS_callIn (As := [.long (lw_v (xs (i + 1)) (xs (i + 2)))]) (rest := []) (wX tC ad sr' la fb rs' ss' nu' fs' co' ++ wOut tC ao ov) (wFB tC (ad 2) fb ++ wOut tC ao ov) ⟨hx, hb, hml, hown, hts⟩ (c_SR_mark l dC dI tC ad k (lw_v (xs (i + 1)) (xs (i + 2))) sr la rs ss nu fs co a sr' rs' ss' nu' fs' co' e1) (k_LW_66 hts ⟨Nat.le_of_ble_eq_true rfl, Nat.le_of_ble_eq_true rfl⟩) hl.1 hP hD hS hA hK hN [0, 1, 2, 3, 7, 8, 9, 10, 11, 12, 13, 14, 15, 16, 17, 18, 19, 20, 21, 22, 23, 24, 25, 26, 27, 28, 29, 30, 31] [4, 5, 6, 32] 33 0 0 rfl rfl rfl rfl rfl (cx_hw (cx_hw (cx_hw (cx_hw (cx_hw (cx_hw (adSR _ _ _ _) rfl) (adRS _ _ _ _)) (adSS _ _ _ _)) (adNU _ _ _ _)) (adFS _ _ _ _)) (adCO _ _ _ _)) rfl rfl rfl rfl (by decide) (cx_hw (cx_hw (cx_hw (cx_hw (cx_hw (cx_hw (cx_hw (cx_hw (adSR _ _ _ _) rfl) rfl) (adRS _ _ _ _)) (adSS _ _ _ _)) (adNU _ _ _ _)) (adFS _ _ _ _)) (adCO _ _ _ _)) rfl) rfl rfl (Nat.le_of_ble_eq_true rfl) d_LW_law_605 hf0 (fun H locs hP hD hS => ?_)
  refine W.eq (g2 := F0 m 608 ls [.int a]) rfl ?_
  refine lv_aload_n hx hb d_LW_law_608 rfl (lv_at hl 2 rfl) ?_
  refine lw_g F hS (lv_at hl 0 rfl) (lv_at hl 4 rfl) 1 (by omega) (by decide) d_LW_law_609 d_LW_law_610 d_LW_law_612 d_LW_law_613 d_LW_law_614 ?_
  refine lv_i2l hx hb d_LW_law_615 rfl ?_
  refine lv_bipush (v := 32) hx hb d_LW_law_616 (by decide) ?_
  refine lv_lshl hx hb d_LW_law_618 rfl ?_
  refine lw_g F hS (lv_at hl 0 rfl) (lv_at hl 4 rfl) 2 (by omega) (by decide) d_LW_law_619 d_LW_law_620 d_LW_law_622 d_LW_law_623 d_LW_law_624 ?_
  refine lv_i2l hx hb d_LW_law_625 rfl ?_
  refine lv_ldc2 (v := 4294967295) hx hb hown (hts _ (List.mem_cons_of_mem _ mw_1003)) d_LW_law_626 ?_
  refine lv_land hx hb d_LW_law_629 ?_
  refine lv_lor hx hb d_LW_law_630 ?_
  refine W.eq (g2 := F0 m 631 ls [.long (lw_v (xs (i + 1)) (xs (i + 2))), .ref (am 0), .int a]) rfl ?_
  refine wS_callFirst (As := [.long (lw_v (xs (i + 1)) (xs (i + 2)))]) (rest := [.int a]) (wMO tC am mo') ⟨hx, hb, hml, hown, hts⟩ (c_MO_mark l dC dI tC am k (lw_v (xs (i + 1)) (xs (i + 2))) mo a mo' e2) (k_LW_69 hts ⟨Nat.le_of_ble_eq_true rfl, Nat.le_of_ble_eq_true rfl⟩) hl.1 hP hD hS hA hK hN 0 8 rfl rfl rfl (adMO _ _ _ _) rfl rfl (Nat.le_of_ble_eq_true rfl) d_LW_law_631 hf0 (fun H locs hP hD hS => ?_)
  refine W.eq (g2 := F0 m 634 ls [.int a, .int a]) rfl ?_
  refine lv_icmp_eq (tgt := 802) hx hb d_LW_law_634 (by decide) (fun _ => ?_) (fun cb => absurd rfl cb)
  refine W.widen (k := cells + 1) (n := slots + 6) (Nat.le_add_right _ _) (Nat.le_add_right _ _) ?_
  exact kk sr' la fb rs' ss' nu' fs' co' mo' ov H locs ls hR9 hP hD hS hl
