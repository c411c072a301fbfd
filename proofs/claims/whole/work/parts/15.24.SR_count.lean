def f_SR_count (x1 : Int32) (sr : SRt) (rs : RSt) (ss : SSt) (fs : FSt) : Int32 :=
  if x1 = 0 then (
    (RS_kept rs)
  ) else
  if x1 = 1 then (
    (SS_kept ss)
  ) else
  if x1 = 2 then (
    (FS_total fs)
  ) else
  if x1 = 3 then (
    (SR_dropped sr)
  ) else
  if x1 = 4 then (
    (SR_came sr)
  ) else
  if x1 = 5 then (
    (f_FS_kept fs)
  ) else
  if x1 = 6 then (
    (FS_early fs)
  ) else
  if x1 = 7 then (
    (FS_lately fs)
  ) else
  (-2)
set_option maxHeartbeats 4000000 in
set_option maxRecDepth 100000 in
theorem c_SR_count (l : Launch) (dC : Nat → ClassId) (dI : Nat → Nat → Nat) (tC : Nat → ClassId) (ad : Nat → Nat → Nat) (x1 : Int32) (sr : SRt) (rs : RSt) (ss : SSt) (fs : FSt) (res : Int32) (hf : f_SR_count x1 sr rs ss fs = res) : cx_M l y_SR_count w_SR_count { frames := 2, cells := 0, slots := 0, locals := 44 } (dC, dI) classes (tyS tC) [.ref (ad 0 0), .int x1] (wSR tC ad sr ++ wRS tC (ad 3) rs ++ wSS tC (ad 4) ss ++ wFS tC (ad 6) fs) (wSR tC ad sr ++ wRS tC (ad 3) rs ++ wSS tC (ad 4) ss ++ wFS tC (ad 6) fs) (some (.int res)) := by
  refine cx_of (cc := b_SR_count) (maxL := 2) (ret := some .int) (plainFor_of_name (by decide)) rfl (Nat.le_of_ble_eq_true rfl) ?_
  intro p e s m below meth c hx hb hr hml hown hts hlocks A hA H locs ls hK hN hP hD hS hl
  have hown : s.vm.findClass R_SR = some m.cls := hown
  have hl : lv_has ls 2 [(0, .ref (ad 0 0)), (1, .int x1)] := hl
  unfold f_SR_count at hf
  refine lv_iload_n hx hb d_SR_count_0 rfl (lv_at hl 1 rfl) ?_
  by_cases cb : x1 = 0
  · have hf := g_t hf cb
    refine lv_tableIn (tgt := 48) hx hb d_SR_count_1 (by rw [cb]; decide) (by rw [cb]; decide) (by rw [cb]; rfl) (by decide) ?_
    refine lv_aload_n hx hb d_SR_count_48 rfl (lv_at hl 0 rfl) ?_
    refine va_get (D := (dC, dI)) (ci := 0) (v := .ref (ad 3 0)) (C := R_SR) (T := F_SR) (N := 14) hx hb hts (in_SR _) hown hK hP 0 rfl rfl 2 (by decide) (hts _ (List.mem_cons_of_mem _ mw_234)) (fun _ h9 => h9) rfl d_SR_count_49 ?_
    refine va_get (D := (dC, dI)) (ci := 3) (v := .int (RS_kept rs)) (C := R_RS) (T := F_RS) (N := 7) hx hb hts (in_RS _) hown hK hP 1 rfl rfl 6 (by decide) (hts _ (List.mem_cons_of_mem _ mw_58)) (fun _ h9 => h9) rfl d_SR_count_52 ?_
    have hq0 := hf
    subst hq0
    exact cx_iret hx hb hr hlocks hP hS d_SR_count_55
  have hf := g_f hf cb
  by_cases cb_1 : x1 = 1
  · have hf := g_t hf cb_1
    refine lv_tableIn (tgt := 56) hx hb d_SR_count_1 (by rw [cb_1]; decide) (by rw [cb_1]; decide) (by rw [cb_1]; rfl) (by decide) ?_
    refine lv_aload_n hx hb d_SR_count_56 rfl (lv_at hl 0 rfl) ?_
    refine va_get (D := (dC, dI)) (ci := 0) (v := .ref (ad 4 0)) (C := R_SR) (T := F_SR) (N := 14) hx hb hts (in_SR _) hown hK hP 0 rfl rfl 3 (by decide) (hts _ (List.mem_cons_of_mem _ mw_235)) (fun _ h9 => h9) rfl d_SR_count_57 ?_
    refine va_get (D := (dC, dI)) (ci := 4) (v := .int (SS_kept ss)) (C := R_SS) (T := F_SS) (N := 12) hx hb hts (in_SS _) hown hK hP 8 rfl rfl 11 (by decide) (hts _ (List.mem_cons_of_mem _ mw_103)) (fun _ h9 => h9) rfl d_SR_count_60 ?_
    have hq0 := hf
    subst hq0
    exact cx_iret hx hb hr hlocks hP hS d_SR_count_63
  have hf := g_f hf cb_1
  by_cases cb_2 : x1 = 2
  · have hf := g_t hf cb_2
    refine lv_tableIn (tgt := 64) hx hb d_SR_count_1 (by rw [cb_2]; decide) (by rw [cb_2]; decide) (by rw [cb_2]; rfl) (by decide) ?_
    refine lv_aload_n hx hb d_SR_count_64 rfl (lv_at hl 0 rfl) ?_
    refine va_get (D := (dC, dI)) (ci := 0) (v := .ref (ad 6 0)) (C := R_SR) (T := F_SR) (N := 14) hx hb hts (in_SR _) hown hK hP 0 rfl rfl 5 (by decide) (hts _ (List.mem_cons_of_mem _ mw_237)) (fun _ h9 => h9) rfl d_SR_count_65 ?_
    refine va_get (D := (dC, dI)) (ci := 6) (v := .int (FS_total fs)) (C := R_FS) (T := F_FS) (N := 4) hx hb hts (in_FS _) hown hK hP 20 rfl rfl 1 (by decide) (hts _ (List.mem_cons_of_mem _ mw_152)) (fun _ h9 => h9) rfl d_SR_count_68 ?_
    have hq0 := hf
    subst hq0
    exact cx_iret hx hb hr hlocks hP hS d_SR_count_71
  have hf := g_f hf cb_2
  by_cases cb_3 : x1 = 3
  · have hf := g_t hf cb_3
    refine lv_tableIn (tgt := 72) hx hb d_SR_count_1 (by rw [cb_3]; decide) (by rw [cb_3]; decide) (by rw [cb_3]; rfl) (by decide) ?_
    refine lv_aload_n hx hb d_SR_count_72 rfl (lv_at hl 0 rfl) ?_
    refine va_get (D := (dC, dI)) (ci := 0) (v := .int (SR_dropped sr)) (C := R_SR) (T := F_SR) (N := 14) hx hb hts (in_SR _) hown hK hP 0 rfl rfl 13 (by decide) (hts _ (List.mem_cons_of_mem _ mw_245)) (fun _ h9 => h9) rfl d_SR_count_73 ?_
    have hq0 := hf
    subst hq0
    exact cx_iret hx hb hr hlocks hP hS d_SR_count_76
  have hf := g_f hf cb_3
  by_cases cb_4 : x1 = 4
  · have hf := g_t hf cb_4
    refine lv_tableIn (tgt := 77) hx hb d_SR_count_1 (by rw [cb_4]; decide) (by rw [cb_4]; decide) (by rw [cb_4]; rfl) (by decide) ?_
    refine lv_aload_n hx hb d_SR_count_77 rfl (lv_at hl 0 rfl) ?_
    refine va_get (D := (dC, dI)) (ci := 0) (v := .int (SR_came sr)) (C := R_SR) (T := F_SR) (N := 14) hx hb hts (in_SR _) hown hK hP 0 rfl rfl 12 (by decide) (hts _ (List.mem_cons_of_mem _ mw_244)) (fun _ h9 => h9) rfl d_SR_count_78 ?_
    have hq0 := hf
    subst hq0
    exact cx_iret hx hb hr hlocks hP hS d_SR_count_81
  have hf := g_f hf cb_4
  by_cases cb_5 : x1 = 5
  · have hf := g_t hf cb_5
    refine lv_tableIn (tgt := 82) hx hb d_SR_count_1 (by rw [cb_5]; decide) (by rw [cb_5]; decide) (by rw [cb_5]; rfl) (by decide) ?_
    refine lv_aload_n hx hb d_SR_count_82 rfl (lv_at hl 0 rfl) ?_
    refine va_get (D := (dC, dI)) (ci := 0) (v := .ref (ad 6 0)) (C := R_SR) (T := F_SR) (N := 14) hx hb hts (in_SR _) hown hK hP 0 rfl rfl 5 (by decide) (hts _ (List.mem_cons_of_mem _ mw_237)) (fun _ h9 => h9) rfl d_SR_count_83 ?_
    refine cx2_callV (As := []) (rest := []) (wSR tC ad sr ++ wRS tC (ad 3) rs ++ wSS tC (ad 4) ss ++ wFS tC (ad 6) fs) (wSR tC ad sr ++ wRS tC (ad 3) rs ++ wSS tC (ad 4) ss) ⟨hx, hb, hml, hown, hts⟩ (c_FS_kept l dC dI tC (ad 6) fs (f_FS_kept fs) rfl) (k_SR_161 hts ⟨Nat.le_of_ble_eq_true rfl, Nat.le_of_ble_eq_true rfl⟩) hl.1 hP hD hS hA hK hN [20, 21] [0, 1, 2, 3, 4, 5, 6, 7, 8, 9, 10, 11, 12, 13, 14, 15, 16, 17, 18, 19] 22 20 6 rfl rfl rfl rfl rfl rfl rfl rfl rfl rfl (by decide) rfl rfl (Nat.le_of_ble_eq_true rfl) d_SR_count_86 ⟨Nat.zero_le _, Nat.zero_le _⟩ (fun H locs hP hD hS => ?_)
    refine W.eq (g2 := F0 m 89 ls [.int (f_FS_kept fs)]) rfl ?_
    have hq0 := hf
    subst hq0
    exact cx_iret hx hb hr hlocks hP hS d_SR_count_89
  have hf := g_f hf cb_5
  by_cases cb_6 : x1 = 6
  · have hf := g_t hf cb_6
    refine lv_tableIn (tgt := 90) hx hb d_SR_count_1 (by rw [cb_6]; decide) (by rw [cb_6]; decide) (by rw [cb_6]; rfl) (by decide) ?_
    refine lv_aload_n hx hb d_SR_count_90 rfl (lv_at hl 0 rfl) ?_
    refine va_get (D := (dC, dI)) (ci := 0) (v := .ref (ad 6 0)) (C := R_SR) (T := F_SR) (N := 14) hx hb hts (in_SR _) hown hK hP 0 rfl rfl 5 (by decide) (hts _ (List.mem_cons_of_mem _ mw_237)) (fun _ h9 => h9) rfl d_SR_count_91 ?_
    refine va_get (D := (dC, dI)) (ci := 6) (v := .int (FS_early fs)) (C := R_FS) (T := F_FS) (N := 4) hx hb hts (in_FS _) hown hK hP 20 rfl rfl 2 (by decide) (hts _ (List.mem_cons_of_mem _ mw_154)) (fun _ h9 => h9) rfl d_SR_count_94 ?_
    have hq0 := hf
    subst hq0
    exact cx_iret hx hb hr hlocks hP hS d_SR_count_97
  have hf := g_f hf cb_6
  by_cases cb_7 : x1 = 7
  · have hf := g_t hf cb_7
    refine lv_tableIn (tgt := 98) hx hb d_SR_count_1 (by rw [cb_7]; decide) (by rw [cb_7]; decide) (by rw [cb_7]; rfl) (by decide) ?_
    refine lv_aload_n hx hb d_SR_count_98 rfl (lv_at hl 0 rfl) ?_
    refine va_get (D := (dC, dI)) (ci := 0) (v := .ref (ad 6 0)) (C := R_SR) (T := F_SR) (N := 14) hx hb hts (in_SR _) hown hK hP 0 rfl rfl 5 (by decide) (hts _ (List.mem_cons_of_mem _ mw_237)) (fun _ h9 => h9) rfl d_SR_count_99 ?_
    refine va_get (D := (dC, dI)) (ci := 6) (v := .int (FS_lately fs)) (C := R_FS) (T := F_FS) (N := 4) hx hb hts (in_FS _) hown hK hP 20 rfl rfl 3 (by decide) (hts _ (List.mem_cons_of_mem _ mw_156)) (fun _ h9 => h9) rfl d_SR_count_102 ?_
    have hq0 := hf
    subst hq0
    exact cx_iret hx hb hr hlocks hP hS d_SR_count_105
  have hf := g_f hf cb_7
  have n_cb := cx_ne (n := 0) (by decide) cb
  have n_cb_1 := cx_ne (n := 1) (by decide) cb_1
  have n_cb_2 := cx_ne (n := 2) (by decide) cb_2
  have n_cb_3 := cx_ne (n := 3) (by decide) cb_3
  have n_cb_4 := cx_ne (n := 4) (by decide) cb_4
  have n_cb_5 := cx_ne (n := 5) (by decide) cb_5
  have n_cb_6 := cx_ne (n := 6) (by decide) cb_6
  have n_cb_7 := cx_ne (n := 7) (by decide) cb_7
  refine lv_tableOut (tgt := 106) hx hb d_SR_count_1 (by omega) (by decide) ?_
  refine lv_bipush (v := (-2)) hx hb d_SR_count_106 (by decide) ?_
  have hq0 := hf
  subst hq0
  exact cx_iret hx hb hr hlocks hP hS d_SR_count_108
