def f_MO_count (x1 : Int32) (mo : MOt) : Int32 × MOt :=
  if x1 = 0 then (
    ((MO_rows mo), (sMO_thrown mo 0))
  ) else
  if x1 = 1 then (
    ((MO_spans mo), (sMO_thrown mo 0))
  ) else
  if x1 = 2 then (
    ((MO_firings mo), (sMO_thrown mo 0))
  ) else
  if x1 = 3 then (
    ((MO_late mo), (sMO_thrown mo 0))
  ) else
  if x1 = 4 then (
    ((MO_came mo), (sMO_thrown mo 0))
  ) else
  if x1 = 5 then (
    ((MO_kept mo), (sMO_thrown mo 0))
  ) else
  if x1 = 6 then (
    ((MO_early mo), (sMO_thrown mo 0))
  ) else
  if x1 = 7 then (
    ((MO_lately mo), (sMO_thrown mo 0))
  ) else
  ((-2), (sMO_thrown mo 0))
set_option maxHeartbeats 4000000 in
set_option maxRecDepth 100000 in
theorem c_MO_count (l : Launch) (dC : Nat → ClassId) (dI : Nat → Nat → Nat) (tC : Nat → ClassId) (a : Nat → Nat) (x1 : Int32) (mo : MOt) (res : Int32) (moR : MOt) (hf : f_MO_count x1 mo = (res, moR)) : cx_M l y_MO_count w_MO_count { frames := 0, cells := 0, slots := 0, locals := 0 } (dC, dI) classes (tyS tC) [.ref (a 0), .int x1] (wMO tC a mo) (wMO tC a moR) (some (.int res)) := by
  refine cx_of (cc := b_MO_count) (maxL := 2) (ret := some .int) (plainFor_of_name (by decide)) rfl (Nat.le_of_ble_eq_true rfl) ?_
  intro p e s m below meth c hx hb hr hml hown hts hlocks A hA H locs ls hK hN hP hD hS hl
  have hown : s.vm.findClass R_MO = some m.cls := hown
  have hl : lv_has ls 2 [(0, .ref (a 0)), (1, .int x1)] := hl
  unfold f_MO_count at hf
  refine lv_aload_n hx hb d_MO_count_0 rfl (lv_at hl 0 rfl) ?_
  refine lv_iconst (v := 0) hx hb d_MO_count_1 (by decide) ?_
  refine va_put (D := (dC, dI)) (ci := 8) (v := .int 0) (ty := .int) (C := R_MO) (T := F_MO) (N := 42) hx hb hts (in_MO _) t_MO t_MO_ok n_MO hown hK hP hD hS 0 rfl rfl 12 (by decide) (hts _ (List.mem_cons_of_mem _ mw_704)) (fun _ h9 => h9) rfl (by decide +kernel) rfl rfl (Nat.le_of_ble_eq_true rfl) d_MO_count_2 (fun H locs hP hD hS => ?_)
  have hP : va_P (dC, dI) classes (wMO tC a (sMO_thrown mo 0)) H := hP
  have hD : va_D A (wMO tC a (sMO_thrown mo 0)) := hD
  refine lv_iload_n hx hb d_MO_count_5 rfl (lv_at hl 1 rfl) ?_
  by_cases cb : x1 = 0
  · have hf := g_t hf cb
    refine lv_tableIn (tgt := 52) hx hb d_MO_count_6 (by rw [cb]; decide) (by rw [cb]; decide) (by rw [cb]; rfl) (by decide) ?_
    refine lv_aload_n hx hb d_MO_count_52 rfl (lv_at hl 0 rfl) ?_
    refine va_get (D := (dC, dI)) (ci := 8) (v := .int (MO_rows mo)) (C := R_MO) (T := F_MO) (N := 42) hx hb hts (in_MO _) hown hK hP 0 rfl rfl 18 (by decide) (hts _ (List.mem_cons_of_mem _ mw_710)) (fun _ h9 => h9) rfl d_MO_count_53 ?_
    obtain ⟨hq0, hr1⟩ := Prod.mk.inj hf
    subst hq0
    subst hr1
    exact cx_iret hx hb hr hlocks hP hS d_MO_count_56
  have hf := g_f hf cb
  by_cases cb_1 : x1 = 1
  · have hf := g_t hf cb_1
    refine lv_tableIn (tgt := 57) hx hb d_MO_count_6 (by rw [cb_1]; decide) (by rw [cb_1]; decide) (by rw [cb_1]; rfl) (by decide) ?_
    refine lv_aload_n hx hb d_MO_count_57 rfl (lv_at hl 0 rfl) ?_
    refine va_get (D := (dC, dI)) (ci := 8) (v := .int (MO_spans mo)) (C := R_MO) (T := F_MO) (N := 42) hx hb hts (in_MO _) hown hK hP 0 rfl rfl 29 (by decide) (hts _ (List.mem_cons_of_mem _ mw_721)) (fun _ h9 => h9) rfl d_MO_count_58 ?_
    obtain ⟨hq0, hr1⟩ := Prod.mk.inj hf
    subst hq0
    subst hr1
    exact cx_iret hx hb hr hlocks hP hS d_MO_count_61
  have hf := g_f hf cb_1
  by_cases cb_2 : x1 = 2
  · have hf := g_t hf cb_2
    refine lv_tableIn (tgt := 62) hx hb d_MO_count_6 (by rw [cb_2]; decide) (by rw [cb_2]; decide) (by rw [cb_2]; rfl) (by decide) ?_
    refine lv_aload_n hx hb d_MO_count_62 rfl (lv_at hl 0 rfl) ?_
    refine va_get (D := (dC, dI)) (ci := 8) (v := .int (MO_firings mo)) (C := R_MO) (T := F_MO) (N := 42) hx hb hts (in_MO _) hown hK hP 0 rfl rfl 34 (by decide) (hts _ (List.mem_cons_of_mem _ mw_726)) (fun _ h9 => h9) rfl d_MO_count_63 ?_
    obtain ⟨hq0, hr1⟩ := Prod.mk.inj hf
    subst hq0
    subst hr1
    exact cx_iret hx hb hr hlocks hP hS d_MO_count_66
  have hf := g_f hf cb_2
  by_cases cb_3 : x1 = 3
  · have hf := g_t hf cb_3
    refine lv_tableIn (tgt := 67) hx hb d_MO_count_6 (by rw [cb_3]; decide) (by rw [cb_3]; decide) (by rw [cb_3]; rfl) (by decide) ?_
    refine lv_aload_n hx hb d_MO_count_67 rfl (lv_at hl 0 rfl) ?_
    refine va_get (D := (dC, dI)) (ci := 8) (v := .int (MO_late mo)) (C := R_MO) (T := F_MO) (N := 42) hx hb hts (in_MO _) hown hK hP 0 rfl rfl 20 (by decide) (hts _ (List.mem_cons_of_mem _ mw_712)) (fun _ h9 => h9) rfl d_MO_count_68 ?_
    obtain ⟨hq0, hr1⟩ := Prod.mk.inj hf
    subst hq0
    subst hr1
    exact cx_iret hx hb hr hlocks hP hS d_MO_count_71
  have hf := g_f hf cb_3
  by_cases cb_4 : x1 = 4
  · have hf := g_t hf cb_4
    refine lv_tableIn (tgt := 72) hx hb d_MO_count_6 (by rw [cb_4]; decide) (by rw [cb_4]; decide) (by rw [cb_4]; rfl) (by decide) ?_
    refine lv_aload_n hx hb d_MO_count_72 rfl (lv_at hl 0 rfl) ?_
    refine va_get (D := (dC, dI)) (ci := 8) (v := .int (MO_came mo)) (C := R_MO) (T := F_MO) (N := 42) hx hb hts (in_MO _) hown hK hP 0 rfl rfl 19 (by decide) (hts _ (List.mem_cons_of_mem _ mw_711)) (fun _ h9 => h9) rfl d_MO_count_73 ?_
    obtain ⟨hq0, hr1⟩ := Prod.mk.inj hf
    subst hq0
    subst hr1
    exact cx_iret hx hb hr hlocks hP hS d_MO_count_76
  have hf := g_f hf cb_4
  by_cases cb_5 : x1 = 5
  · have hf := g_t hf cb_5
    refine lv_tableIn (tgt := 77) hx hb d_MO_count_6 (by rw [cb_5]; decide) (by rw [cb_5]; decide) (by rw [cb_5]; rfl) (by decide) ?_
    refine lv_aload_n hx hb d_MO_count_77 rfl (lv_at hl 0 rfl) ?_
    refine va_get (D := (dC, dI)) (ci := 8) (v := .int (MO_kept mo)) (C := R_MO) (T := F_MO) (N := 42) hx hb hts (in_MO _) hown hK hP 0 rfl rfl 33 (by decide) (hts _ (List.mem_cons_of_mem _ mw_725)) (fun _ h9 => h9) rfl d_MO_count_78 ?_
    obtain ⟨hq0, hr1⟩ := Prod.mk.inj hf
    subst hq0
    subst hr1
    exact cx_iret hx hb hr hlocks hP hS d_MO_count_81
  have hf := g_f hf cb_5
  by_cases cb_6 : x1 = 6
  · have hf := g_t hf cb_6
    refine lv_tableIn (tgt := 82) hx hb d_MO_count_6 (by rw [cb_6]; decide) (by rw [cb_6]; decide) (by rw [cb_6]; rfl) (by decide) ?_
    refine lv_aload_n hx hb d_MO_count_82 rfl (lv_at hl 0 rfl) ?_
    refine va_get (D := (dC, dI)) (ci := 8) (v := .int (MO_early mo)) (C := R_MO) (T := F_MO) (N := 42) hx hb hts (in_MO _) hown hK hP 0 rfl rfl 35 (by decide) (hts _ (List.mem_cons_of_mem _ mw_727)) (fun _ h9 => h9) rfl d_MO_count_83 ?_
    obtain ⟨hq0, hr1⟩ := Prod.mk.inj hf
    subst hq0
    subst hr1
    exact cx_iret hx hb hr hlocks hP hS d_MO_count_86
  have hf := g_f hf cb_6
  by_cases cb_7 : x1 = 7
  · have hf := g_t hf cb_7
    refine lv_tableIn (tgt := 87) hx hb d_MO_count_6 (by rw [cb_7]; decide) (by rw [cb_7]; decide) (by rw [cb_7]; rfl) (by decide) ?_
    refine lv_aload_n hx hb d_MO_count_87 rfl (lv_at hl 0 rfl) ?_
    refine va_get (D := (dC, dI)) (ci := 8) (v := .int (MO_lately mo)) (C := R_MO) (T := F_MO) (N := 42) hx hb hts (in_MO _) hown hK hP 0 rfl rfl 36 (by decide) (hts _ (List.mem_cons_of_mem _ mw_728)) (fun _ h9 => h9) rfl d_MO_count_88 ?_
    obtain ⟨hq0, hr1⟩ := Prod.mk.inj hf
    subst hq0
    subst hr1
    exact cx_iret hx hb hr hlocks hP hS d_MO_count_91
  have hf := g_f hf cb_7
  have n_cb := cx_ne (n := 0) (by decide) cb
  have n_cb_1 := cx_ne (n := 1) (by decide) cb_1
  have n_cb_2 := cx_ne (n := 2) (by decide) cb_2
  have n_cb_3 := cx_ne (n := 3) (by decide) cb_3
  have n_cb_4 := cx_ne (n := 4) (by decide) cb_4
  have n_cb_5 := cx_ne (n := 5) (by decide) cb_5
  have n_cb_6 := cx_ne (n := 6) (by decide) cb_6
  have n_cb_7 := cx_ne (n := 7) (by decide) cb_7
  refine lv_tableOut (tgt := 92) hx hb d_MO_count_6 (by omega) (by decide) ?_
  refine lv_bipush (v := (-2)) hx hb d_MO_count_92 (by decide) ?_
  obtain ⟨hq0, hr1⟩ := Prod.mk.inj hf
  subst hq0
  subst hr1
  exact cx_iret hx hb hr hlocks hP hS d_MO_count_94
