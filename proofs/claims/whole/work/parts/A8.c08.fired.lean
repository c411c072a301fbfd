set_option maxHeartbeats 4000000 in
set_option maxRecDepth 100000 in
theorem lw_fired {p : Program} {l : Launch} {e : Env} {s : State} {m : MethodId} {below : List Frame} {meth : Method} {c : Code} {b L : Nat} {xs : Nat → Int32} {dC : Nat → ClassId} {dI : Nat → Nat → Nat} {tC : Nat → ClassId} {ad : Nat → Nat → Nat} {am : Nat → Nat} {ao B i cells slots : Nat} {sr : SRt} {la : LAt} {fb : FBt} {rs : RSt} {ss : SSt} {nu : NUt} {fs : FSt} {co : COt} {mo : MOt} {ov : Nat → Int64} {H : Heap} {locs : List Loc} {ls : Array Slot}
    (F : LFx p l s m c b L xs dC dI tC) (k : Nat) (hk : 5000 ≤ k) (hB : B ≤ 600) (hi : i + 6 ≤ L) (hce : cells + 1 ≤ 601024 ∧ slots + 6 ≤ 7293000) (hR : RL B sr la fb rs ss nu fs mo) (hP : va_P (dC, dI) classes (wLW tC ad am ao sr la fb rs ss nu fs co mo ov) H) (hD : va_D (AA s) (wLW tC ad am ao sr la fb rs ss nu fs co mo ov)) (hS : va_S (AA s) s.heap H locs) (hl : lv_has ls 7 (lvL ad am ao b i)) (kk : KK p l e s m below meth c b dC dI tC ad am ao B i cells slots) :
    W p l e room_1 s m #[Value.ref b] below meth c H locs cells slots (lw_Z below #[Value.ref b] s) (F0 m 664 ls []) := by
  have hx := F.hx
  have hb := F.hb
  have hml := F.hml
  have hown := F.hown
  have hts := F.hts
  have hK := F.hK
  have hN := F.hN
  have hA : ∀ q : Nat, s.heap.size ≤ q → AA s q := fun _ h => h
  have hf0 : cells ≤ room_1.cells ∧ slots ≤ room_1.slots := ⟨by show cells ≤ 601024; omega, by show slots ≤ 7293000; omega⟩
  have hl : lv_has ls 7 [(0, .ref b), (1, .ref (ad 0 0)), (2, .ref (am 0)), (3, .ref ao), (4, .int (nI i))] := hl
  obtain ⟨a, mo', e1, e2, hR9⟩ := s_fired hR (xs (i + 1)) (xs (i + 2))
  refine lv_aload_n hx hb d_LW_law_664 rfl (lv_at hl 1 rfl) ?_
  refine lw_g F hS (lv_at hl 0 rfl) (lv_at hl 4 rfl) 1 (by omega) (by decide) d_LW_law_665 d_LW_law_666 d_LW_law_668 d_LW_law_669 d_LW_law_670 ?_
  refine lw_g F hS (lv_at hl 0 rfl) (lv_at hl 4 rfl) 2 (by omega) (by decide) d_LW_law_671 d_LW_law_672 d_LW_law_674 d_LW_law_675 d_LW_law_676 ?_
  refine wS_callIn (As := [.int (xs (i + 1)), .int (xs (i + 2))]) (rest := []) (wX tC ad sr la fb rs ss nu fs co ++ wOut tC ao ov) (wLA tC (ad 1) la ++ wFB tC (ad 2) fb ++ wRS tC (ad 3) rs ++ wSS tC (ad 4) ss ++ wNU tC (ad 5) nu ++ wCO tC (ad 7) co ++ wOut tC ao ov) ⟨hx, hb, hml, hown, hts⟩ (c_SR_fired l dC dI tC ad (xs (i + 1)) (xs (i + 2)) sr fs a e1) (k_LW_74 hts ⟨Nat.le_of_ble_eq_true rfl, Nat.le_of_ble_eq_true rfl⟩) hl.1 hP hD hS hA hK hN [0, 29, 30] [1, 2, 3, 4, 5, 6, 7, 8, 9, 10, 11, 12, 13, 14, 15, 16, 17, 18, 19, 20, 21, 22, 23, 24, 25, 26, 27, 28, 31, 32] 33 0 0 rfl rfl rfl rfl rfl (cx_hw rfl rfl) rfl rfl rfl rfl (by decide) (cx_hw (cx_hw (cx_hw (cx_hw (cx_hw (cx_hw (cx_hw (cx_hw rfl rfl) rfl) rfl) rfl) rfl) rfl) rfl) rfl) rfl rfl (Nat.le_of_ble_eq_true rfl) d_LW_law_677 hf0 (fun H locs hP hD hS => ?_)
  refine W.eq (g2 := F0 m 680 ls [.long a]) rfl ?_
  refine lv_aload_n hx hb d_LW_law_680 rfl (lv_at hl 2 rfl) ?_
  refine lw_g F hS (lv_at hl 0 rfl) (lv_at hl 4 rfl) 1 (by omega) (by decide) d_LW_law_681 d_LW_law_682 d_LW_law_684 d_LW_law_685 d_LW_law_686 ?_
  refine lw_g F hS (lv_at hl 0 rfl) (lv_at hl 4 rfl) 2 (by omega) (by decide) d_LW_law_687 d_LW_law_688 d_LW_law_690 d_LW_law_691 d_LW_law_692 ?_
  refine wS_callFirst (As := [.int (xs (i + 1)), .int (xs (i + 2))]) (rest := [.long a]) (wMO tC am mo') ⟨hx, hb, hml, hown, hts⟩ (c_MO_fired l dC dI tC am (xs (i + 1)) (xs (i + 2)) mo a mo' e2) (k_LW_78 hts ⟨Nat.le_of_ble_eq_true rfl, Nat.le_of_ble_eq_true rfl⟩) hl.1 hP hD hS hA hK hN 0 8 rfl rfl rfl (adMO _ _ _ _) rfl rfl (Nat.le_of_ble_eq_true rfl) d_LW_law_693 hf0 (fun H locs hP hD hS => ?_)
  refine W.eq (g2 := F0 m 696 ls [.long a, .long a]) rfl ?_
  refine cq_eq (tgt := 802) hx hb d_LW_law_696 d_LW_law_697 (by decide) (fun _ => ?_) (fun cb => absurd rfl cb)
  refine W.widen (k := cells + 1) (n := slots + 6) (Nat.le_add_right _ _) (Nat.le_add_right _ _) ?_
  exact kk sr la fb rs ss nu fs co mo' ov H locs ls hR9 hP hD hS hl
