theorem RL.up {B : Nat} {sr : SRt} {la : LAt} {fb : FBt} {rs : RSt} {ss : SSt} {nu : NUt} {fs : FSt} {mo : MOt} (h : RL B sr la fb rs ss nu fs mo) : RL (B + 1) sr la fb rs ss nu fs mo := by
  obtain ⟨L, P, T, C, M, h1, h2, h3, h4⟩ := h
  exact ⟨L, P, T, C, M, h1, by omega, by omega, by omega⟩
theorem lw_sub6 {L i : Nat} (hL : L ≤ 3075) (hi : i ≤ 4000) : ¬ (Int32.ofNat L - 6 < nI i) → i + 6 ≤ L := by
  intro h
  have e1 : (Int32.ofNat L).toInt = (L : Int) := Int32.toInt_ofNat_of_lt (by omega)
  have e2 : (nI i).toInt = (i : Int) := Int32.toInt_ofNat_of_lt (by omega)
  have e3 : (6 : Int32).toInt = 6 := by decide
  have e4 : (Int32.ofNat L - 6).toInt = (L : Int) - 6 := by
    rw [pi_sub (by rw [e1, e3]; omega) (by rw [e1, e3]; omega), e1, e3]
  rw [pi_lt, e4, e2] at h
  omega
set_option maxHeartbeats 4000000 in
set_option maxRecDepth 100000 in
/-- the law's loop -/
theorem lw_loop {p : Program} {l : Launch} {e : Env} {s : State} {m : MethodId} {below : List Frame} {meth : Method} {c : Code} {b L : Nat} {xs : Nat → Int32} {dC : Nat → ClassId} {dI : Nat → Nat → Nat} {tC : Nat → ClassId} {ad : Nat → Nat → Nat} {am : Nat → Nat} {ao : Nat} (F : LFx p l s m c b L xs dC dI tC) (hr : meth.sig.returnType = ret) (hlocks : meth.locks = false) (k : Nat) (hk : 5000 ≤ k) :
    ∀ (n B : Nat), B + n = 513 → ∀ (sr : SRt) (la : LAt) (fb : FBt) (rs : RSt) (ss : SSt) (nu : NUt) (fs : FSt) (co : COt) (mo : MOt) (ov : Nat → Int64) (H : Heap) (locs : List Loc) (ls : Array Slot), RL B sr la fb rs ss nu fs mo → va_P (dC, dI) classes (wLW tC ad am ao sr la fb rs ss nu fs co mo ov) H → va_D (AA s) (wLW tC ad am ao sr la fb rs ss nu fs co mo ov) → va_S (AA s) s.heap H locs → lv_has ls 7 (lvL ad am ao b (3 + 6 * B)) →
      W p l e room_1 s m #[Value.ref b] below meth c H locs (100 + B) (200000 + 6 * B) (lw_Z below #[Value.ref b] s) (F0 m 53 ls []) := by
  have hx := F.hx
  have hb := F.hb
  have hL := F.hL
  have hbA : ¬ AA s b := Nat.not_le.mpr F.hbl
  intro n
  induction n with
  | zero =>
    intro B hBn sr la fb rs ss nu fs co mo ov H locs ls hR hP hD hS hl
    refine lv_iload hx hb d_LW_law_53 (lv_at hl 4 rfl) ?_
    refine lv_aload_n hx hb d_LW_law_55 rfl (lv_at hl 0 rfl) ?_
    refine va_slen hx hb F.hX F.hbl hbA hS d_LW_law_56 ?_
    refine lv_bipush (v := 6) hx hb d_LW_law_57 (by decide) ?_
    refine lv_isub hx hb d_LW_law_59 ?_
    refine lv_icmp_gt (tgt := 808) hx hb d_LW_law_60 (by decide) (fun cb => ?_) (fun cb => absurd (lw_sub6 hL (by omega) cb) (by omega))
    refine lv_iconst (v := 1) hx hb d_LW_law_808 (by decide) ?_
    refine va_forget (fun q hq => hS.2.2 q hq) ?_
    refine W.widen (k := 601024) (n := 7293000) (by omega) (by omega) ?_
    exact lw_ret hx hb hr hlocks d_LW_law_809
  | succ n ih =>
    intro B hBn sr la fb rs ss nu fs co mo ov H locs ls hR hP hD hS hl
    refine lv_iload hx hb d_LW_law_53 (lv_at hl 4 rfl) ?_
    refine lv_aload_n hx hb d_LW_law_55 rfl (lv_at hl 0 rfl) ?_
    refine va_slen hx hb F.hX F.hbl hbA hS d_LW_law_56 ?_
    refine lv_bipush (v := 6) hx hb d_LW_law_57 (by decide) ?_
    refine lv_isub hx hb d_LW_law_59 ?_
    refine lv_icmp_gt (tgt := 808) hx hb d_LW_law_60 (by decide) (fun cb => ?_) (fun cb => ?_)
    · refine lv_iconst (v := 1) hx hb d_LW_law_808 (by decide) ?_
      refine va_forget (fun q hq => hS.2.2 q hq) ?_
      refine W.widen (k := 601024) (n := 7293000) (by omega) (by omega) ?_
      exact lw_ret hx hb hr hlocks d_LW_law_809
    have hi := lw_sub6 hL (by omega) cb
    have hB : B ≤ 600 := by omega
    have hce : 100 + B + 1 ≤ 601024 ∧ 200000 + 6 * B + 6 ≤ 7293000 := ⟨by omega, by omega⟩
    have kk : KK p l e s m below meth c b dC dI tC ad am ao B (3 + 6 * B) (100 + B) (200000 + 6 * B) := by
      intro sr la fb rs ss nu fs co mo ov H locs ls hR hP hD hS hl
      have hl : lv_has ls 7 [(0, .ref b), (1, .ref (ad 0 0)), (2, .ref (am 0)), (3, .ref ao), (4, .int (nI (3 + 6 * B)))] := hl
      refine lv_iinc (v := nI (3 + 6 * (B + 1))) (lv' := [(4, .int (nI (3 + 6 * (B + 1)))), (0, .ref b), (1, .ref (ad 0 0)), (2, .ref (am 0)), (3, .ref ao)]) hx hb d_LW_law_802 hl (k := 4) rfl (by rw [show Int32.ofInt 6 = nI 6 from by decide, nI_add, show 3 + 6 * B + 6 = 3 + 6 * (B + 1) by omega]) (by decide) rfl (fun ls hl => ?_)
      refine lv_goto (tgt := 53) hx hb d_LW_law_805 (by decide) ?_
      refine W.widen (k := 100 + (B + 1)) (n := 200000 + 6 * (B + 1)) (by omega) (by omega) ?_
      exact ih (B + 1) (by omega) sr la fb rs ss nu fs co mo ov H locs ls hR hP hD hS (lv_sub hl [1, 2, 3, 4, 0] rfl)
    refine lv_aload_n hx hb d_LW_law_63 rfl (lv_at hl 0 rfl) ?_
    refine lv_iload hx hb d_LW_law_64 (lv_at hl 4 rfl) ?_
    refine va_sld hx hb F.hX F.hbl hbA hS (vp_in_nI (show 3 + 6 * B < L by omega) (by omega)) d_LW_law_66 ?_
    refine lv_bipush (v := 15) hx hb d_LW_law_67 (by decide) ?_
    refine lv_iand hx hb d_LW_law_69 ?_
    generalize xs (nI (3 + 6 * B)).toNatClampNeg &&& 15 = w
    by_cases c0 : w = 0
    · refine lv_tableIn (tgt := 136) hx hb d_LW_law_70 (by rw [c0]; decide) (by rw [c0]; decide) (by rw [c0]; rfl) (by decide) ?_
      exact lw_offset F k hk hB hi hce hR hP hD hS hl kk
    by_cases c1 : w = 1
    · refine lv_tableIn (tgt := 193) hx hb d_LW_law_70 (by rw [c1]; decide) (by rw [c1]; decide) (by rw [c1]; rfl) (by decide) ?_
      exact lw_lateness F k hk hB hi hce hR hP hD hS hl kk
    by_cases c2 : w = 2
    · refine lv_tableIn (tgt := 250) hx hb d_LW_law_70 (by rw [c2]; decide) (by rw [c2]; decide) (by rw [c2]; rfl) (by decide) ?_
      exact lw_trigger F k hk hB hi hce hR hP hD hS hl kk
    by_cases c3 : w = 3
    · refine lv_tableIn (tgt := 303) hx hb d_LW_law_70 (by rw [c3]; decide) (by rw [c3]; decide) (by rw [c3]; rfl) (by decide) ?_
      exact lw_clears F k hk hB hi hce hR hP hD hS hl kk
    by_cases c4 : w = 4
    · refine lv_tableIn (tgt := 344) hx hb d_LW_law_70 (by rw [c4]; decide) (by rw [c4]; decide) (by rw [c4]; rfl) (by decide) ?_
      exact lw_rule F k hk hB hi hce hR hP hD hS hl kk
    by_cases c5 : w = 5
    · refine lv_tableIn (tgt := 369) hx hb d_LW_law_70 (by rw [c5]; decide) (by rw [c5]; decide) (by rw [c5]; rfl) (by decide) ?_
      exact lw_forbid F k hk hB hi hce hR hP hD hS hl kk
    by_cases c6 : w = 6
    · refine lv_tableIn (tgt := 438) hx hb d_LW_law_70 (by rw [c6]; decide) (by rw [c6]; decide) (by rw [c6]; rfl) (by decide) ?_
      exact lw_row F k hk hB hi hce hR hP hD hS hl kk
    by_cases c7 : w = 7
    · refine lv_tableIn (tgt := 582) hx hb d_LW_law_70 (by rw [c7]; decide) (by rw [c7]; decide) (by rw [c7]; rfl) (by decide) ?_
      exact lw_mark F k hk hB hi hce hR hP hD hS hl kk
    by_cases c8 : w = 8
    · refine lv_tableIn (tgt := 639) hx hb d_LW_law_70 (by rw [c8]; decide) (by rw [c8]; decide) (by rw [c8]; rfl) (by decide) ?_
      exact lw_count F k hk hB hi hce hR hP hD hS hl kk
    by_cases c9 : w = 9
    · refine lv_tableIn (tgt := 664) hx hb d_LW_law_70 (by rw [c9]; decide) (by rw [c9]; decide) (by rw [c9]; rfl) (by decide) ?_
      exact lw_fired F k hk hB hi hce hR hP hD hS hl kk
    by_cases c10 : w = 10
    · refine lv_tableIn (tgt := 702) hx hb d_LW_law_70 (by rw [c10]; decide) (by rw [c10]; decide) (by rw [c10]; rfl) (by decide) ?_
      exact lw_spans F k hk hB hi hce hR hP hD hS hl kk
    by_cases c11 : w = 11
    · refine lv_tableIn (tgt := 727) hx hb d_LW_law_70 (by rw [c11]; decide) (by rw [c11]; decide) (by rw [c11]; rfl) (by decide) ?_
      exact lw_span F k hk hB hi hce hR hP hD hS hl kk
    by_cases c12 : w = 12
    · refine lv_tableIn (tgt := 777) hx hb d_LW_law_70 (by rw [c12]; decide) (by rw [c12]; decide) (by rw [c12]; rfl) (by decide) ?_
      exact lw_month F k hk hB hi hce hR hP hD hS hl kk
    have n0 := cx_ne (n := 0) (by decide) c0
    have n1 := cx_ne (n := 1) (by decide) c1
    have n2 := cx_ne (n := 2) (by decide) c2
    have n3 := cx_ne (n := 3) (by decide) c3
    have n4 := cx_ne (n := 4) (by decide) c4
    have n5 := cx_ne (n := 5) (by decide) c5
    have n6 := cx_ne (n := 6) (by decide) c6
    have n7 := cx_ne (n := 7) (by decide) c7
    have n8 := cx_ne (n := 8) (by decide) c8
    have n9 := cx_ne (n := 9) (by decide) c9
    have n10 := cx_ne (n := 10) (by decide) c10
    have n11 := cx_ne (n := 11) (by decide) c11
    have n12 := cx_ne (n := 12) (by decide) c12
    refine lv_tableOut (tgt := 802) hx hb d_LW_law_70 (by omega) (by decide) ?_
    refine W.widen (k := 100 + B + 1) (n := 200000 + 6 * B + 6) (by omega) (by omega) ?_
    exact kk sr la fb rs ss nu fs co mo ov H locs ls hR.up hP hD hS hl
