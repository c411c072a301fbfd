def f_MO_wantFor_L53 (x1 : Int64) (mo_15 : MOt) : Nat → Int64 → Option (Int64)
  | 0, _ => none
  | n + 1, v7_2 =>
    if (((MO_offset mo_15) + ((MO_step mo_15).toInt64 * (v7_2 - 1))) + (MO_size mo_15).toInt64) ≤ x1 then (
      some v7_2
    ) else
    gl_let ((v7_2 - 1)) fun v7_4 =>
    f_MO_wantFor_L53 x1 mo_15 n v7_4
def f_MO_wantFor_B124 (x1 : Int64) (mo_16 : MOt) (v11 : Int64) : Option (MOt) :=
  if (v11 + (MO_size mo_16).toInt64) ≤ x1 then (
    some mo_16
  ) else
  (f_MO_want v11 (v11 + (MO_size mo_16).toInt64) mo_16).bind fun mo_19 =>
  some mo_19
def f_MO_wantFor_L92 (x1 : Int64) (r_5 : Int64) : Nat → Int64 → MOt → Option (MOt)
  | 0, _, _ => none
  | n + 1, v9, mo_16 =>
    if r_5 < v9 then (
      some mo_16
    ) else
    gl_let (((MO_offset mo_16) + ((MO_step mo_16).toInt64 * v9))) fun v11 =>
    (f_MO_wantFor_B124 x1 mo_16 v11).bind fun mo_18 =>
    gl_let ((v9 + 1)) fun v9_1 =>
    f_MO_wantFor_L92 x1 r_5 n v9_1 mo_18
def f_MO_wantFor (k : Nat) (x1 : Int64) (x3 : Int64) (mo : MOt) : Option MOt :=
  if (MO_kind mo) = 0 then (
    gl_let ((sMO_wanted mo 0) : MOt) fun mo_20 =>
    (f_MO_beside x1 ((MO_size mo).toInt64) mo_20).bind fun mo_21 =>
    some mo_21
  ) else
  if (MO_kind mo) = 1 then (
    (f_MO_by (x1 - (MO_offset mo)) ((MO_step mo).toInt64)).bind fun r_5 =>
    gl_let ((sMO_wanted mo 0) : MOt) fun mo_15 =>
    (f_MO_wantFor_L53 x1 mo_15 k r_5).bind fun v7_3 =>
    (f_MO_wantFor_L92 x1 r_5 k v7_3 mo_15).bind fun mo_17 =>
    some mo_17
  ) else
  if (MO_kind mo) = 2 then (
    gl_let ((sMO_wanted mo 0) : MOt) fun mo_13 =>
    (f_MO_want x1 (x1 + (MO_size mo).toInt64) mo_13).bind fun mo_14 =>
    some mo_14
  ) else
  if (MO_kind mo) = 4 then (
    (f_MO_monthOf k x1).bind fun r_1 =>
    (f_MO_by (r_1 - (MO_offset mo)) ((MO_size mo).toInt64)).bind fun r_2 =>
    gl_let (((MO_offset mo) + ((MO_size mo).toInt64 * r_2))) fun v7_1 =>
    (f_MO_monthAt k v7_1).bind fun r_3 =>
    (f_MO_monthAt k (v7_1 + (MO_size mo).toInt64)).bind fun r_4 =>
    gl_let ((sMO_wanted mo 0) : MOt) fun mo_11 =>
    (f_MO_want r_3 r_4 mo_11).bind fun mo_12 =>
    some mo_12
  ) else
  if (MO_rule mo) = 0 then (
    gl_let (((MO_size mo).toInt64 + (MO_step mo).toInt64)) fun v5 =>
    (f_MO_by (x1 - (MO_offset mo)) v5).bind fun r =>
    gl_let (((MO_offset mo) + (v5 * r))) fun v7 =>
    if (v7 + (MO_size mo).toInt64) ≤ x1 then (
      gl_let ((sMO_wanted mo 0) : MOt) fun mo_7 =>
      (f_MO_want (v7 + (MO_size mo).toInt64) (v7 + v5) mo_7).bind fun mo_8 =>
      some mo_8
    ) else
    gl_let ((sMO_wanted mo 0) : MOt) fun mo_9 =>
    (f_MO_want v7 (v7 + (MO_size mo).toInt64) mo_9).bind fun mo_10 =>
    some mo_10
  ) else
  if (MO_rule mo) = 1 then (
    if 0 ≤ x3 then (
      gl_let ((sMO_wanted mo 0) : MOt) fun mo_3 =>
      (f_MO_beside x1 ((MO_size mo).toInt64) mo_3).bind fun mo_4 =>
      some mo_4
    ) else
    gl_let ((sMO_wanted mo 0) : MOt) fun mo_5 =>
    (f_MO_beside x1 ((MO_step mo).toInt64) mo_5).bind fun mo_6 =>
    some mo_6
  ) else
  gl_let ((sMO_wanted mo 0) : MOt) fun mo_1 =>
  (f_MO_double0 k (x1 - (MO_offset mo)) mo_1).bind fun mo_2 =>
  some mo_2
set_option maxHeartbeats 4000000 in
set_option maxRecDepth 100000 in
theorem c_MO_wantFor (l : Launch) (dC : Nat → ClassId) (dI : Nat → Nat → Nat) (tC : Nat → ClassId) (a : Nat → Nat) (k : Nat) (x1 : Int64) (x3 : Int64) (mo : MOt) (moR : MOt) (hf : f_MO_wantFor k x1 x3 mo = some moR) : cx_M l y_MO_wantFor w_MO_wantFor { frames := 4, cells := 0, slots := 0, locals := 98 } (dC, dI) classes (tyS tC) [.ref (a 0), .long x1, .long x3] (wMO tC a mo) (wMO tC a moR) (none) := by
  refine cx_of (cc := b_MO_wantFor) (maxL := 13) (ret := none) (plainFor_of_name (by decide)) rfl (Nat.le_of_ble_eq_true rfl) ?_
  intro p e s m below meth c hx hb hr hml hown hts hlocks A hA H locs ls hK hN hP hD hS hl
  have hown : s.vm.findClass R_MO = some m.cls := hown
  have hl : lv_has ls 13 [(0, .ref (a 0)), (1, .long x1), (3, .long x3)] := hl
  unfold f_MO_wantFor at hf
  refine lv_aload_n hx hb d_MO_wantFor_0 rfl (lv_at hl 0 rfl) ?_
  refine lv_iconst (v := 0) hx hb d_MO_wantFor_1 (by decide) ?_
  refine va_put (D := (dC, dI)) (ci := 8) (v := .int 0) (ty := .int) (C := R_MO) (T := F_MO) (N := 42) hx hb hts (in_MO _) t_MO t_MO_ok n_MO hown hK hP hD hS 0 rfl rfl 37 (by decide) (hts _ (List.mem_cons_of_mem _ mw_729)) (fun _ h9 => h9) rfl (by decide +kernel) rfl rfl (Nat.le_of_ble_eq_true rfl) d_MO_wantFor_2 (fun H locs hP hD hS => ?_)
  have hP : va_P (dC, dI) classes (wMO tC a (sMO_wanted mo 0)) H := hP
  have hD : va_D A (wMO tC a (sMO_wanted mo 0)) := hD
  refine lv_aload_n hx hb d_MO_wantFor_5 rfl (lv_at hl 0 rfl) ?_
  refine va_get (D := (dC, dI)) (ci := 8) (v := .int (MO_kind mo)) (C := R_MO) (T := F_MO) (N := 42) hx hb hts (in_MO _) hown hK hP 0 rfl rfl 0 (by decide) (hts _ (List.mem_cons_of_mem _ mw_692)) (fun _ h9 => h9) rfl d_MO_wantFor_6 ?_
  refine lv_if_ne (tgt := 25) hx hb d_MO_wantFor_9 (by decide) (fun cb => ?_) (fun cb => ?_)
  · have hf := g_f hf cb
    refine lv_aload_n hx hb d_MO_wantFor_25 rfl (lv_at hl 0 rfl) ?_
    refine va_get (D := (dC, dI)) (ci := 8) (v := .int (MO_kind mo)) (C := R_MO) (T := F_MO) (N := 42) hx hb hts (in_MO _) hown hK hP 0 rfl rfl 0 (by decide) (hts _ (List.mem_cons_of_mem _ mw_692)) (fun _ h9 => h9) rfl d_MO_wantFor_26 ?_
    refine lv_iconst (v := 1) hx hb d_MO_wantFor_29 (by decide) ?_
    refine lv_icmp_ne (tgt := 154) hx hb d_MO_wantFor_30 (by decide) (fun cb_1 => ?_) (fun cb_1 => ?_)
    · have hf := g_f hf cb_1
      refine lv_aload_n hx hb d_MO_wantFor_154 rfl (lv_at hl 0 rfl) ?_
      refine va_get (D := (dC, dI)) (ci := 8) (v := .int (MO_kind mo)) (C := R_MO) (T := F_MO) (N := 42) hx hb hts (in_MO _) hown hK hP 0 rfl rfl 0 (by decide) (hts _ (List.mem_cons_of_mem _ mw_692)) (fun _ h9 => h9) rfl d_MO_wantFor_155 ?_
      refine lv_iconst (v := 2) hx hb d_MO_wantFor_158 (by decide) ?_
      refine lv_icmp_ne (tgt := 177) hx hb d_MO_wantFor_159 (by decide) (fun cb_2 => ?_) (fun cb_2 => ?_)
      · have hf := g_f hf cb_2
        refine lv_aload_n hx hb d_MO_wantFor_177 rfl (lv_at hl 0 rfl) ?_
        refine va_get (D := (dC, dI)) (ci := 8) (v := .int (MO_kind mo)) (C := R_MO) (T := F_MO) (N := 42) hx hb hts (in_MO _) hown hK hP 0 rfl rfl 0 (by decide) (hts _ (List.mem_cons_of_mem _ mw_692)) (fun _ h9 => h9) rfl d_MO_wantFor_178 ?_
        refine lv_iconst (v := 4) hx hb d_MO_wantFor_181 (by decide) ?_
        refine lv_icmp_ne (tgt := 242) hx hb d_MO_wantFor_182 (by decide) (fun cb_3 => ?_) (fun cb_3 => ?_)
        · have hf := g_f hf cb_3
          refine lv_aload_n hx hb d_MO_wantFor_242 rfl (lv_at hl 0 rfl) ?_
          refine va_get (D := (dC, dI)) (ci := 8) (v := .int (MO_rule mo)) (C := R_MO) (T := F_MO) (N := 42) hx hb hts (in_MO _) hown hK hP 0 rfl rfl 8 (by decide) (hts _ (List.mem_cons_of_mem _ mw_700)) (fun _ h9 => h9) rfl d_MO_wantFor_243 ?_
          refine lv_if_ne (tgt := 333) hx hb d_MO_wantFor_246 (by decide) (fun cb_4 => ?_) (fun cb_4 => ?_)
          · have hf := g_f hf cb_4
            refine lv_aload_n hx hb d_MO_wantFor_333 rfl (lv_at hl 0 rfl) ?_
            refine va_get (D := (dC, dI)) (ci := 8) (v := .int (MO_rule mo)) (C := R_MO) (T := F_MO) (N := 42) hx hb hts (in_MO _) hown hK hP 0 rfl rfl 8 (by decide) (hts _ (List.mem_cons_of_mem _ mw_700)) (fun _ h9 => h9) rfl d_MO_wantFor_334 ?_
            refine lv_iconst (v := 1) hx hb d_MO_wantFor_337 (by decide) ?_
            refine lv_icmp_ne (tgt := 368) hx hb d_MO_wantFor_338 (by decide) (fun cb_5 => ?_) (fun cb_5 => ?_)
            · have hf := g_f hf cb_5
              refine lv_aload_n hx hb d_MO_wantFor_368 rfl (lv_at hl 0 rfl) ?_
              refine lv_lload_n hx hb d_MO_wantFor_369 rfl (lv_at hl 1 rfl) ?_
              refine lv_aload_n hx hb d_MO_wantFor_370 rfl (lv_at hl 0 rfl) ?_
              refine va_get (D := (dC, dI)) (ci := 8) (v := .long (MO_offset mo)) (C := R_MO) (T := F_MO) (N := 42) hx hb hts (in_MO _) hown hK hP 0 rfl rfl 3 (by decide) (hts _ (List.mem_cons_of_mem _ mw_695)) (fun _ h9 => h9) rfl d_MO_wantFor_371 ?_
              refine lv_lsub hx hb d_MO_wantFor_374 ?_
              obtain ⟨mo_1, h_mo_1⟩ : ∃ z : MOt, z = (sMO_wanted mo 0) := ⟨_, rfl⟩
              have hf := g_let hf h_mo_1
              have hP : va_P (dC, dI) classes (wMO tC a mo_1) H := by rw [h_mo_1]; exact hP
              have hD : va_D A (wMO tC a mo_1) := by rw [h_mo_1]; exact hD
              obtain ⟨mo_2, hc, hf⟩ := g_bind hf
              try dsimp only at hf
              refine cx3_callV (As := [.long (x1 - (MO_offset mo))]) (rest := []) (wMO tC a mo_2) ⟨hx, hb, hml, hown, hts⟩ (c_MO_double0 l dC dI tC a k (x1 - (MO_offset mo)) mo_1 mo_2 hc) (k_MO_196 hts ⟨Nat.le_of_ble_eq_true rfl, Nat.le_of_ble_eq_true rfl⟩) hl.1 hP hD hS hA hK hN 0 8 rfl rfl rfl (adMO _ _ _ _) rfl rfl (Nat.le_of_ble_eq_true rfl) d_MO_wantFor_375 ⟨Nat.zero_le _, Nat.zero_le _⟩ (fun H locs hP hD hS => ?_)
              refine W.eq (g2 := F0 m 378 ls []) rfl ?_
              have hq0 := (g_some hf)
              subst hq0
              exact cx_vret hx hb hr hlocks hP hS d_MO_wantFor_378
            · have hf := g_t hf cb_5
              refine lv_aload_n hx hb d_MO_wantFor_341 rfl (lv_at hl 0 rfl) ?_
              refine lv_lload_n hx hb d_MO_wantFor_342 rfl (lv_at hl 1 rfl) ?_
              refine lv_lload_n hx hb d_MO_wantFor_343 rfl (lv_at hl 2 rfl) ?_
              refine lv_lconst (v := 0) hx hb d_MO_wantFor_344 (by decide) ?_
              refine cq_ge (tgt := 357) hx hb d_MO_wantFor_345 d_MO_wantFor_346 (by decide) (fun cb_6 => ?_) (fun cb_6 => ?_)
              · have hf := g_t hf cb_6
                refine lv_aload_n hx hb d_MO_wantFor_357 rfl (lv_at hl 0 rfl) ?_
                refine va_get (D := (dC, dI)) (ci := 8) (v := .int (MO_size mo)) (C := R_MO) (T := F_MO) (N := 42) hx hb hts (in_MO _) hown hK hP 0 rfl rfl 1 (by decide) (hts _ (List.mem_cons_of_mem _ mw_693)) (fun _ h9 => h9) rfl d_MO_wantFor_358 ?_
                refine lv_i2l hx hb d_MO_wantFor_361 rfl ?_
                obtain ⟨mo_3, h_mo_3⟩ : ∃ z : MOt, z = (sMO_wanted mo 0) := ⟨_, rfl⟩
                have hf := g_let hf h_mo_3
                have hP : va_P (dC, dI) classes (wMO tC a mo_3) H := by rw [h_mo_3]; exact hP
                have hD : va_D A (wMO tC a mo_3) := by rw [h_mo_3]; exact hD
                obtain ⟨mo_4, hc_1, hf⟩ := g_bind hf
                try dsimp only at hf
                refine cx3_callV (As := [.long x1, .long ((MO_size mo).toInt64)]) (rest := []) (wMO tC a mo_4) ⟨hx, hb, hml, hown, hts⟩ (c_MO_beside l dC dI tC a x1 ((MO_size mo).toInt64) mo_3 mo_4 hc_1) (k_MO_190 hts ⟨Nat.le_of_ble_eq_true rfl, Nat.le_of_ble_eq_true rfl⟩) hl.1 hP hD hS hA hK hN 0 8 rfl rfl rfl (adMO _ _ _ _) rfl rfl (Nat.le_of_ble_eq_true rfl) d_MO_wantFor_362 ⟨Nat.zero_le _, Nat.zero_le _⟩ (fun H locs hP hD hS => ?_)
                refine W.eq (g2 := F0 m 365 ls []) rfl ?_
                refine lv_goto (tgt := 378) hx hb d_MO_wantFor_365 (by decide) ?_
                have hq0 := (g_some hf)
                subst hq0
                exact cx_vret hx hb hr hlocks hP hS d_MO_wantFor_378
              · have hf := g_f hf cb_6
                refine lv_aload_n hx hb d_MO_wantFor_349 rfl (lv_at hl 0 rfl) ?_
                refine va_get (D := (dC, dI)) (ci := 8) (v := .int (MO_step mo)) (C := R_MO) (T := F_MO) (N := 42) hx hb hts (in_MO _) hown hK hP 0 rfl rfl 2 (by decide) (hts _ (List.mem_cons_of_mem _ mw_694)) (fun _ h9 => h9) rfl d_MO_wantFor_350 ?_
                refine lv_i2l hx hb d_MO_wantFor_353 rfl ?_
                refine lv_goto (tgt := 362) hx hb d_MO_wantFor_354 (by decide) ?_
                obtain ⟨mo_5, h_mo_5⟩ : ∃ z : MOt, z = (sMO_wanted mo 0) := ⟨_, rfl⟩
                have hf := g_let hf h_mo_5
                have hP : va_P (dC, dI) classes (wMO tC a mo_5) H := by rw [h_mo_5]; exact hP
                have hD : va_D A (wMO tC a mo_5) := by rw [h_mo_5]; exact hD
                obtain ⟨mo_6, hc_2, hf⟩ := g_bind hf
                try dsimp only at hf
                refine cx3_callV (As := [.long x1, .long ((MO_step mo).toInt64)]) (rest := []) (wMO tC a mo_6) ⟨hx, hb, hml, hown, hts⟩ (c_MO_beside l dC dI tC a x1 ((MO_step mo).toInt64) mo_5 mo_6 hc_2) (k_MO_190 hts ⟨Nat.le_of_ble_eq_true rfl, Nat.le_of_ble_eq_true rfl⟩) hl.1 hP hD hS hA hK hN 0 8 rfl rfl rfl (adMO _ _ _ _) rfl rfl (Nat.le_of_ble_eq_true rfl) d_MO_wantFor_362 ⟨Nat.zero_le _, Nat.zero_le _⟩ (fun H locs hP hD hS => ?_)
                refine W.eq (g2 := F0 m 365 ls []) rfl ?_
                refine lv_goto (tgt := 378) hx hb d_MO_wantFor_365 (by decide) ?_
                have hq0 := (g_some hf)
                subst hq0
                exact cx_vret hx hb hr hlocks hP hS d_MO_wantFor_378
          · have hf := g_t hf cb_4
            refine lv_aload_n hx hb d_MO_wantFor_249 rfl (lv_at hl 0 rfl) ?_
            refine va_get (D := (dC, dI)) (ci := 8) (v := .int (MO_size mo)) (C := R_MO) (T := F_MO) (N := 42) hx hb hts (in_MO _) hown hK hP 0 rfl rfl 1 (by decide) (hts _ (List.mem_cons_of_mem _ mw_693)) (fun _ h9 => h9) rfl d_MO_wantFor_250 ?_
            refine lv_i2l hx hb d_MO_wantFor_253 rfl ?_
            refine lv_aload_n hx hb d_MO_wantFor_254 rfl (lv_at hl 0 rfl) ?_
            refine va_get (D := (dC, dI)) (ci := 8) (v := .int (MO_step mo)) (C := R_MO) (T := F_MO) (N := 42) hx hb hts (in_MO _) hown hK hP 0 rfl rfl 2 (by decide) (hts _ (List.mem_cons_of_mem _ mw_694)) (fun _ h9 => h9) rfl d_MO_wantFor_255 ?_
            refine lv_i2l hx hb d_MO_wantFor_258 rfl ?_
            refine lv_ladd hx hb d_MO_wantFor_259 ?_
            refine lv_topl (fun v5 h_v5 => ?_)
            have hf := g_let hf h_v5
            refine lv_lstore (lv' := [(5, .long v5), (0, .ref (a 0)), (1, .long x1), (3, .long x3)]) hx hb d_MO_wantFor_260 hl (by decide) rfl (fun ls hl => ?_)
            refine lv_aload_n hx hb d_MO_wantFor_262 rfl (lv_at hl 1 rfl) ?_
            refine va_get (D := (dC, dI)) (ci := 8) (v := .long (MO_offset mo)) (C := R_MO) (T := F_MO) (N := 42) hx hb hts (in_MO _) hown hK hP 0 rfl rfl 3 (by decide) (hts _ (List.mem_cons_of_mem _ mw_695)) (fun _ h9 => h9) rfl d_MO_wantFor_263 ?_
            refine lv_lload hx hb d_MO_wantFor_266 (lv_at hl 0 rfl) ?_
            refine lv_lload_n hx hb d_MO_wantFor_268 rfl (lv_at hl 2 rfl) ?_
            refine lv_aload_n hx hb d_MO_wantFor_269 rfl (lv_at hl 1 rfl) ?_
            refine va_get (D := (dC, dI)) (ci := 8) (v := .long (MO_offset mo)) (C := R_MO) (T := F_MO) (N := 42) hx hb hts (in_MO _) hown hK hP 0 rfl rfl 3 (by decide) (hts _ (List.mem_cons_of_mem _ mw_695)) (fun _ h9 => h9) rfl d_MO_wantFor_270 ?_
            refine lv_lsub hx hb d_MO_wantFor_273 ?_
            refine lv_lload hx hb d_MO_wantFor_274 (lv_at hl 0 rfl) ?_
            obtain ⟨r, hc_3, hf⟩ := g_bind hf
            try dsimp only at hf
            refine cx_callS (As := [.long (x1 - (MO_offset mo)), .long v5]) (rest := [.long v5, .long (MO_offset mo)]) ⟨hx, hb, hml, hown, hts⟩ (c_MO_by l dC dI tC  (x1 - (MO_offset mo)) v5 r hc_3) (k_MO_147 hts ⟨Nat.le_of_ble_eq_true rfl, Nat.le_of_ble_eq_true rfl⟩) hl.1 hP hD hS hA hK hN [] rfl rfl rfl rfl rfl (Nat.le_of_ble_eq_true rfl) d_MO_wantFor_276 ⟨Nat.zero_le _, Nat.zero_le _⟩ (fun H locs hP hD hS => ?_)
            have hP : va_P (dC, dI) classes (wMO tC a (sMO_wanted mo 0)) H := hP
            have hD : va_D A (wMO tC a (sMO_wanted mo 0)) := hD
            refine W.eq (g2 := F0 m 279 ls [.long r, .long v5, .long (MO_offset mo)]) rfl ?_
            refine lv_lmul hx hb d_MO_wantFor_279 ?_
            refine lv_ladd hx hb d_MO_wantFor_280 ?_
            refine lv_topl (fun v7 h_v7 => ?_)
            have hf := g_let hf h_v7
            refine lv_lstore (lv' := [(7, .long v7), (5, .long v5), (0, .ref (a 0)), (1, .long x1), (3, .long x3)]) hx hb d_MO_wantFor_281 hl (by decide) rfl (fun ls hl => ?_)
            refine lv_lload_n hx hb d_MO_wantFor_283 rfl (lv_at hl 3 rfl) ?_
            refine lv_lload hx hb d_MO_wantFor_284 (lv_at hl 0 rfl) ?_
            refine lv_aload_n hx hb d_MO_wantFor_286 rfl (lv_at hl 2 rfl) ?_
            refine va_get (D := (dC, dI)) (ci := 8) (v := .int (MO_size mo)) (C := R_MO) (T := F_MO) (N := 42) hx hb hts (in_MO _) hown hK hP 0 rfl rfl 1 (by decide) (hts _ (List.mem_cons_of_mem _ mw_693)) (fun _ h9 => h9) rfl d_MO_wantFor_287 ?_
            refine lv_i2l hx hb d_MO_wantFor_290 rfl ?_
            refine lv_ladd hx hb d_MO_wantFor_291 ?_
            refine cq_ge (tgt := 313) hx hb d_MO_wantFor_292 d_MO_wantFor_293 (by decide) (fun cb_7 => ?_) (fun cb_7 => ?_)
            · have hf := g_t hf cb_7
              refine lv_aload_n hx hb d_MO_wantFor_313 rfl (lv_at hl 2 rfl) ?_
              refine lv_lload hx hb d_MO_wantFor_314 (lv_at hl 0 rfl) ?_
              refine lv_aload_n hx hb d_MO_wantFor_316 rfl (lv_at hl 2 rfl) ?_
              refine va_get (D := (dC, dI)) (ci := 8) (v := .int (MO_size mo)) (C := R_MO) (T := F_MO) (N := 42) hx hb hts (in_MO _) hown hK hP 0 rfl rfl 1 (by decide) (hts _ (List.mem_cons_of_mem _ mw_693)) (fun _ h9 => h9) rfl d_MO_wantFor_317 ?_
              refine lv_i2l hx hb d_MO_wantFor_320 rfl ?_
              refine lv_ladd hx hb d_MO_wantFor_321 ?_
              refine lv_lload hx hb d_MO_wantFor_322 (lv_at hl 0 rfl) ?_
              refine lv_lload hx hb d_MO_wantFor_324 (lv_at hl 1 rfl) ?_
              refine lv_ladd hx hb d_MO_wantFor_326 ?_
              obtain ⟨mo_7, h_mo_7⟩ : ∃ z : MOt, z = (sMO_wanted mo 0) := ⟨_, rfl⟩
              have hf := g_let hf h_mo_7
              have hP : va_P (dC, dI) classes (wMO tC a mo_7) H := by rw [h_mo_7]; exact hP
              have hD : va_D A (wMO tC a mo_7) := by rw [h_mo_7]; exact hD
              obtain ⟨mo_8, hc_4, hf⟩ := g_bind hf
              try dsimp only at hf
              refine cx3_callV (As := [.long (v7 + (MO_size mo).toInt64), .long (v7 + v5)]) (rest := []) (wMO tC a mo_8) ⟨hx, hb, hml, hown, hts⟩ (c_MO_want l dC dI tC a (v7 + (MO_size mo).toInt64) (v7 + v5) mo_7 mo_8 hc_4) (k_MO_186 hts ⟨Nat.le_of_ble_eq_true rfl, Nat.le_of_ble_eq_true rfl⟩) hl.1 hP hD hS hA hK hN 0 8 rfl rfl rfl (adMO _ _ _ _) rfl rfl (Nat.le_of_ble_eq_true rfl) d_MO_wantFor_327 ⟨Nat.zero_le _, Nat.zero_le _⟩ (fun H locs hP hD hS => ?_)
              refine W.eq (g2 := F0 m 330 ls []) rfl ?_
              refine lv_goto (tgt := 378) hx hb d_MO_wantFor_330 (by decide) ?_
              have hq0 := (g_some hf)
              subst hq0
              exact cx_vret hx hb hr hlocks hP hS d_MO_wantFor_378
            · have hf := g_f hf cb_7
              refine lv_aload_n hx hb d_MO_wantFor_296 rfl (lv_at hl 2 rfl) ?_
              refine lv_lload hx hb d_MO_wantFor_297 (lv_at hl 0 rfl) ?_
              refine lv_lload hx hb d_MO_wantFor_299 (lv_at hl 0 rfl) ?_
              refine lv_aload_n hx hb d_MO_wantFor_301 rfl (lv_at hl 2 rfl) ?_
              refine va_get (D := (dC, dI)) (ci := 8) (v := .int (MO_size mo)) (C := R_MO) (T := F_MO) (N := 42) hx hb hts (in_MO _) hown hK hP 0 rfl rfl 1 (by decide) (hts _ (List.mem_cons_of_mem _ mw_693)) (fun _ h9 => h9) rfl d_MO_wantFor_302 ?_
              refine lv_i2l hx hb d_MO_wantFor_305 rfl ?_
              refine lv_ladd hx hb d_MO_wantFor_306 ?_
              obtain ⟨mo_9, h_mo_9⟩ : ∃ z : MOt, z = (sMO_wanted mo 0) := ⟨_, rfl⟩
              have hf := g_let hf h_mo_9
              have hP : va_P (dC, dI) classes (wMO tC a mo_9) H := by rw [h_mo_9]; exact hP
              have hD : va_D A (wMO tC a mo_9) := by rw [h_mo_9]; exact hD
              obtain ⟨mo_10, hc_5, hf⟩ := g_bind hf
              try dsimp only at hf
              refine cx3_callV (As := [.long v7, .long (v7 + (MO_size mo).toInt64)]) (rest := []) (wMO tC a mo_10) ⟨hx, hb, hml, hown, hts⟩ (c_MO_want l dC dI tC a v7 (v7 + (MO_size mo).toInt64) mo_9 mo_10 hc_5) (k_MO_186 hts ⟨Nat.le_of_ble_eq_true rfl, Nat.le_of_ble_eq_true rfl⟩) hl.1 hP hD hS hA hK hN 0 8 rfl rfl rfl (adMO _ _ _ _) rfl rfl (Nat.le_of_ble_eq_true rfl) d_MO_wantFor_307 ⟨Nat.zero_le _, Nat.zero_le _⟩ (fun H locs hP hD hS => ?_)
              refine W.eq (g2 := F0 m 310 ls []) rfl ?_
              refine lv_goto (tgt := 330) hx hb d_MO_wantFor_310 (by decide) ?_
              refine lv_goto (tgt := 378) hx hb d_MO_wantFor_330 (by decide) ?_
              have hq0 := (g_some hf)
              subst hq0
              exact cx_vret hx hb hr hlocks hP hS d_MO_wantFor_378
        · have hf := g_t hf cb_3
          refine lv_lload_n hx hb d_MO_wantFor_185 rfl (lv_at hl 1 rfl) ?_
          obtain ⟨r_1, hc_6, hf⟩ := g_bind hf
          try dsimp only at hf
          refine cx_callS (As := [.long x1]) (rest := []) ⟨hx, hb, hml, hown, hts⟩ (c_MO_monthOf l dC dI tC  k x1 r_1 hc_6) (k_MO_193 hts ⟨Nat.le_of_ble_eq_true rfl, Nat.le_of_ble_eq_true rfl⟩) hl.1 hP hD hS hA hK hN [] rfl rfl rfl rfl rfl (Nat.le_of_ble_eq_true rfl) d_MO_wantFor_186 ⟨Nat.zero_le _, Nat.zero_le _⟩ (fun H locs hP hD hS => ?_)
          have hP : va_P (dC, dI) classes (wMO tC a (sMO_wanted mo 0)) H := hP
          have hD : va_D A (wMO tC a (sMO_wanted mo 0)) := hD
          refine W.eq (g2 := F0 m 189 ls [.long r_1]) rfl ?_
          refine lv_lstore (lv' := [(5, .long r_1), (0, .ref (a 0)), (1, .long x1), (3, .long x3)]) hx hb d_MO_wantFor_189 hl (by decide) rfl (fun ls hl => ?_)
          refine lv_aload_n hx hb d_MO_wantFor_191 rfl (lv_at hl 1 rfl) ?_
          refine va_get (D := (dC, dI)) (ci := 8) (v := .long (MO_offset mo)) (C := R_MO) (T := F_MO) (N := 42) hx hb hts (in_MO _) hown hK hP 0 rfl rfl 3 (by decide) (hts _ (List.mem_cons_of_mem _ mw_695)) (fun _ h9 => h9) rfl d_MO_wantFor_192 ?_
          refine lv_aload_n hx hb d_MO_wantFor_195 rfl (lv_at hl 1 rfl) ?_
          refine va_get (D := (dC, dI)) (ci := 8) (v := .int (MO_size mo)) (C := R_MO) (T := F_MO) (N := 42) hx hb hts (in_MO _) hown hK hP 0 rfl rfl 1 (by decide) (hts _ (List.mem_cons_of_mem _ mw_693)) (fun _ h9 => h9) rfl d_MO_wantFor_196 ?_
          refine lv_i2l hx hb d_MO_wantFor_199 rfl ?_
          refine lv_lload hx hb d_MO_wantFor_200 (lv_at hl 0 rfl) ?_
          refine lv_aload_n hx hb d_MO_wantFor_202 rfl (lv_at hl 1 rfl) ?_
          refine va_get (D := (dC, dI)) (ci := 8) (v := .long (MO_offset mo)) (C := R_MO) (T := F_MO) (N := 42) hx hb hts (in_MO _) hown hK hP 0 rfl rfl 3 (by decide) (hts _ (List.mem_cons_of_mem _ mw_695)) (fun _ h9 => h9) rfl d_MO_wantFor_203 ?_
          refine lv_lsub hx hb d_MO_wantFor_206 ?_
          refine lv_aload_n hx hb d_MO_wantFor_207 rfl (lv_at hl 1 rfl) ?_
          refine va_get (D := (dC, dI)) (ci := 8) (v := .int (MO_size mo)) (C := R_MO) (T := F_MO) (N := 42) hx hb hts (in_MO _) hown hK hP 0 rfl rfl 1 (by decide) (hts _ (List.mem_cons_of_mem _ mw_693)) (fun _ h9 => h9) rfl d_MO_wantFor_208 ?_
          refine lv_i2l hx hb d_MO_wantFor_211 rfl ?_
          obtain ⟨r_2, hc_7, hf⟩ := g_bind hf
          try dsimp only at hf
          refine cx_callS (As := [.long (r_1 - (MO_offset mo)), .long ((MO_size mo).toInt64)]) (rest := [.long ((MO_size mo).toInt64), .long (MO_offset mo)]) ⟨hx, hb, hml, hown, hts⟩ (c_MO_by l dC dI tC  (r_1 - (MO_offset mo)) ((MO_size mo).toInt64) r_2 hc_7) (k_MO_147 hts ⟨Nat.le_of_ble_eq_true rfl, Nat.le_of_ble_eq_true rfl⟩) hl.1 hP hD hS hA hK hN [] rfl rfl rfl rfl rfl (Nat.le_of_ble_eq_true rfl) d_MO_wantFor_212 ⟨Nat.zero_le _, Nat.zero_le _⟩ (fun H locs hP hD hS => ?_)
          have hP : va_P (dC, dI) classes (wMO tC a (sMO_wanted mo 0)) H := hP
          have hD : va_D A (wMO tC a (sMO_wanted mo 0)) := hD
          refine W.eq (g2 := F0 m 215 ls [.long r_2, .long ((MO_size mo).toInt64), .long (MO_offset mo)]) rfl ?_
          refine lv_lmul hx hb d_MO_wantFor_215 ?_
          refine lv_ladd hx hb d_MO_wantFor_216 ?_
          refine lv_topl (fun v7_1 h_v7_1 => ?_)
          have hf := g_let hf h_v7_1
          refine lv_lstore (lv' := [(7, .long v7_1), (5, .long r_1), (0, .ref (a 0)), (1, .long x1), (3, .long x3)]) hx hb d_MO_wantFor_217 hl (by decide) rfl (fun ls hl => ?_)
          refine lv_aload_n hx hb d_MO_wantFor_219 rfl (lv_at hl 2 rfl) ?_
          refine lv_lload hx hb d_MO_wantFor_220 (lv_at hl 0 rfl) ?_
          obtain ⟨r_3, hc_8, hf⟩ := g_bind hf
          try dsimp only at hf
          refine cx_callS (As := [.long v7_1]) (rest := [.ref (a 0)]) ⟨hx, hb, hml, hown, hts⟩ (c_MO_monthAt l dC dI tC  k v7_1 r_3 hc_8) (k_MO_175 hts ⟨Nat.le_of_ble_eq_true rfl, Nat.le_of_ble_eq_true rfl⟩) hl.1 hP hD hS hA hK hN [] rfl rfl rfl rfl rfl (Nat.le_of_ble_eq_true rfl) d_MO_wantFor_222 ⟨Nat.zero_le _, Nat.zero_le _⟩ (fun H locs hP hD hS => ?_)
          have hP : va_P (dC, dI) classes (wMO tC a (sMO_wanted mo 0)) H := hP
          have hD : va_D A (wMO tC a (sMO_wanted mo 0)) := hD
          refine W.eq (g2 := F0 m 225 ls [.long r_3, .ref (a 0)]) rfl ?_
          refine lv_lload hx hb d_MO_wantFor_225 (lv_at hl 0 rfl) ?_
          refine lv_aload_n hx hb d_MO_wantFor_227 rfl (lv_at hl 2 rfl) ?_
          refine va_get (D := (dC, dI)) (ci := 8) (v := .int (MO_size mo)) (C := R_MO) (T := F_MO) (N := 42) hx hb hts (in_MO _) hown hK hP 0 rfl rfl 1 (by decide) (hts _ (List.mem_cons_of_mem _ mw_693)) (fun _ h9 => h9) rfl d_MO_wantFor_228 ?_
          refine lv_i2l hx hb d_MO_wantFor_231 rfl ?_
          refine lv_ladd hx hb d_MO_wantFor_232 ?_
          obtain ⟨r_4, hc_9, hf⟩ := g_bind hf
          try dsimp only at hf
          refine cx_callS (As := [.long (v7_1 + (MO_size mo).toInt64)]) (rest := [.long r_3, .ref (a 0)]) ⟨hx, hb, hml, hown, hts⟩ (c_MO_monthAt l dC dI tC  k (v7_1 + (MO_size mo).toInt64) r_4 hc_9) (k_MO_175 hts ⟨Nat.le_of_ble_eq_true rfl, Nat.le_of_ble_eq_true rfl⟩) hl.1 hP hD hS hA hK hN [] rfl rfl rfl rfl rfl (Nat.le_of_ble_eq_true rfl) d_MO_wantFor_233 ⟨Nat.zero_le _, Nat.zero_le _⟩ (fun H locs hP hD hS => ?_)
          have hP : va_P (dC, dI) classes (wMO tC a (sMO_wanted mo 0)) H := hP
          have hD : va_D A (wMO tC a (sMO_wanted mo 0)) := hD
          refine W.eq (g2 := F0 m 236 ls [.long r_4, .long r_3, .ref (a 0)]) rfl ?_
          obtain ⟨mo_11, h_mo_11⟩ : ∃ z : MOt, z = (sMO_wanted mo 0) := ⟨_, rfl⟩
          have hf := g_let hf h_mo_11
          have hP : va_P (dC, dI) classes (wMO tC a mo_11) H := by rw [h_mo_11]; exact hP
          have hD : va_D A (wMO tC a mo_11) := by rw [h_mo_11]; exact hD
          obtain ⟨mo_12, hc_10, hf⟩ := g_bind hf
          try dsimp only at hf
          refine cx3_callV (As := [.long r_3, .long r_4]) (rest := []) (wMO tC a mo_12) ⟨hx, hb, hml, hown, hts⟩ (c_MO_want l dC dI tC a r_3 r_4 mo_11 mo_12 hc_10) (k_MO_186 hts ⟨Nat.le_of_ble_eq_true rfl, Nat.le_of_ble_eq_true rfl⟩) hl.1 hP hD hS hA hK hN 0 8 rfl rfl rfl (adMO _ _ _ _) rfl rfl (Nat.le_of_ble_eq_true rfl) d_MO_wantFor_236 ⟨Nat.zero_le _, Nat.zero_le _⟩ (fun H locs hP hD hS => ?_)
          refine W.eq (g2 := F0 m 239 ls []) rfl ?_
          refine lv_goto (tgt := 378) hx hb d_MO_wantFor_239 (by decide) ?_
          have hq0 := (g_some hf)
          subst hq0
          exact cx_vret hx hb hr hlocks hP hS d_MO_wantFor_378
      · have hf := g_t hf cb_2
        refine lv_aload_n hx hb d_MO_wantFor_162 rfl (lv_at hl 0 rfl) ?_
        refine lv_lload_n hx hb d_MO_wantFor_163 rfl (lv_at hl 1 rfl) ?_
        refine lv_lload_n hx hb d_MO_wantFor_164 rfl (lv_at hl 1 rfl) ?_
        refine lv_aload_n hx hb d_MO_wantFor_165 rfl (lv_at hl 0 rfl) ?_
        refine va_get (D := (dC, dI)) (ci := 8) (v := .int (MO_size mo)) (C := R_MO) (T := F_MO) (N := 42) hx hb hts (in_MO _) hown hK hP 0 rfl rfl 1 (by decide) (hts _ (List.mem_cons_of_mem _ mw_693)) (fun _ h9 => h9) rfl d_MO_wantFor_166 ?_
        refine lv_i2l hx hb d_MO_wantFor_169 rfl ?_
        refine lv_ladd hx hb d_MO_wantFor_170 ?_
        obtain ⟨mo_13, h_mo_13⟩ : ∃ z : MOt, z = (sMO_wanted mo 0) := ⟨_, rfl⟩
        have hf := g_let hf h_mo_13
        have hP : va_P (dC, dI) classes (wMO tC a mo_13) H := by rw [h_mo_13]; exact hP
        have hD : va_D A (wMO tC a mo_13) := by rw [h_mo_13]; exact hD
        obtain ⟨mo_14, hc_11, hf⟩ := g_bind hf
        try dsimp only at hf
        refine cx3_callV (As := [.long x1, .long (x1 + (MO_size mo).toInt64)]) (rest := []) (wMO tC a mo_14) ⟨hx, hb, hml, hown, hts⟩ (c_MO_want l dC dI tC a x1 (x1 + (MO_size mo).toInt64) mo_13 mo_14 hc_11) (k_MO_186 hts ⟨Nat.le_of_ble_eq_true rfl, Nat.le_of_ble_eq_true rfl⟩) hl.1 hP hD hS hA hK hN 0 8 rfl rfl rfl (adMO _ _ _ _) rfl rfl (Nat.le_of_ble_eq_true rfl) d_MO_wantFor_171 ⟨Nat.zero_le _, Nat.zero_le _⟩ (fun H locs hP hD hS => ?_)
        refine W.eq (g2 := F0 m 174 ls []) rfl ?_
        refine lv_goto (tgt := 378) hx hb d_MO_wantFor_174 (by decide) ?_
        have hq0 := (g_some hf)
        subst hq0
        exact cx_vret hx hb hr hlocks hP hS d_MO_wantFor_378
    · have hf := g_t hf cb_1
      refine lv_lload_n hx hb d_MO_wantFor_33 rfl (lv_at hl 1 rfl) ?_
      refine lv_aload_n hx hb d_MO_wantFor_34 rfl (lv_at hl 0 rfl) ?_
      refine va_get (D := (dC, dI)) (ci := 8) (v := .long (MO_offset mo)) (C := R_MO) (T := F_MO) (N := 42) hx hb hts (in_MO _) hown hK hP 0 rfl rfl 3 (by decide) (hts _ (List.mem_cons_of_mem _ mw_695)) (fun _ h9 => h9) rfl d_MO_wantFor_35 ?_
      refine lv_lsub hx hb d_MO_wantFor_38 ?_
      refine lv_aload_n hx hb d_MO_wantFor_39 rfl (lv_at hl 0 rfl) ?_
      refine va_get (D := (dC, dI)) (ci := 8) (v := .int (MO_step mo)) (C := R_MO) (T := F_MO) (N := 42) hx hb hts (in_MO _) hown hK hP 0 rfl rfl 2 (by decide) (hts _ (List.mem_cons_of_mem _ mw_694)) (fun _ h9 => h9) rfl d_MO_wantFor_40 ?_
      refine lv_i2l hx hb d_MO_wantFor_43 rfl ?_
      obtain ⟨r_5, hc_12, hf⟩ := g_bind hf
      try dsimp only at hf
      refine cx_callS (As := [.long (x1 - (MO_offset mo)), .long ((MO_step mo).toInt64)]) (rest := []) ⟨hx, hb, hml, hown, hts⟩ (c_MO_by l dC dI tC  (x1 - (MO_offset mo)) ((MO_step mo).toInt64) r_5 hc_12) (k_MO_147 hts ⟨Nat.le_of_ble_eq_true rfl, Nat.le_of_ble_eq_true rfl⟩) hl.1 hP hD hS hA hK hN [] rfl rfl rfl rfl rfl (Nat.le_of_ble_eq_true rfl) d_MO_wantFor_44 ⟨Nat.zero_le _, Nat.zero_le _⟩ (fun H locs hP hD hS => ?_)
      have hP : va_P (dC, dI) classes (wMO tC a (sMO_wanted mo 0)) H := hP
      have hD : va_D A (wMO tC a (sMO_wanted mo 0)) := hD
      refine W.eq (g2 := F0 m 47 ls [.long r_5]) rfl ?_
      refine lv_lstore (lv' := [(5, .long r_5), (0, .ref (a 0)), (1, .long x1), (3, .long x3)]) hx hb d_MO_wantFor_47 hl (by decide) rfl (fun ls hl => ?_)
      refine lv_lload hx hb d_MO_wantFor_49 (lv_at hl 0 rfl) ?_
      refine lv_lstore (lv' := [(7, .long r_5), (5, .long r_5), (0, .ref (a 0)), (1, .long x1), (3, .long x3)]) hx hb d_MO_wantFor_51 hl (by decide) rfl (fun ls hl => ?_)
      obtain ⟨mo_15, h_mo_15⟩ : ∃ z : MOt, z = (sMO_wanted mo 0) := ⟨_, rfl⟩
      have hf := g_let hf h_mo_15
      have hP : va_P (dC, dI) classes (wMO tC a mo_15) H := by rw [h_mo_15]; exact hP
      have hD : va_D A (wMO tC a mo_15) := by rw [h_mo_15]; exact hD
      have L_53 : ∀ (n : Nat) (v7_2 : Int64) (v7_3 : Int64), f_MO_wantFor_L53 x1 mo_15 n v7_2 = some v7_3 → ∀ (H : Heap) (locs : List Loc) (ls : Array Slot), va_P (dC, dI) classes (wMO tC a mo_15) H → va_D A (wMO tC a mo_15) → va_S A s.heap H locs → lv_has ls 13 [(0, .ref (a 0)), (1, .long x1), (5, .long r_5), (7, .long v7_2)] → (∀ (H : Heap) (locs : List Loc) (ls : Array Slot), va_P (dC, dI) classes (wMO tC a mo_15) H → va_D A (wMO tC a mo_15) → va_S A s.heap H locs → lv_has ls 13 [(0, .ref (a 0)), (1, .long x1), (5, .long r_5), (7, .long v7_3)] → W p l e { frames := 4, cells := 0, slots := 0, locals := 98 } s m [.ref (a 0), .long x1, .long x3].toArray below meth c H locs 0 0 (cx_Z (dC, dI) classes below [.ref (a 0), .long x1, .long x3] s (wMO tC a moR) (none) A) (F0 m 88 ls [])) → W p l e { frames := 4, cells := 0, slots := 0, locals := 98 } s m [.ref (a 0), .long x1, .long x3].toArray below meth c H locs 0 0 (cx_Z (dC, dI) classes below [.ref (a 0), .long x1, .long x3] s (wMO tC a moR) (none) A) (F0 m 53 ls []) := by
        intro n
        induction n with
        | zero =>
          intro v7_2 v7_3 hf
          rw [f_MO_wantFor_L53] at hf
          cases hf
        | succ n ih =>
          intro v7_2 v7_3 hf H locs ls hP hD hS hl kk
          rw [f_MO_wantFor_L53] at hf
          refine lv_aload_n hx hb d_MO_wantFor_53 rfl (lv_at hl 0 rfl) ?_
          refine va_get (D := (dC, dI)) (ci := 8) (v := .long (MO_offset mo_15)) (C := R_MO) (T := F_MO) (N := 42) hx hb hts (in_MO _) hown hK hP 0 rfl rfl 3 (by decide) (hts _ (List.mem_cons_of_mem _ mw_695)) (fun _ h9 => h9) rfl d_MO_wantFor_54 ?_
          refine lv_aload_n hx hb d_MO_wantFor_57 rfl (lv_at hl 0 rfl) ?_
          refine va_get (D := (dC, dI)) (ci := 8) (v := .int (MO_step mo_15)) (C := R_MO) (T := F_MO) (N := 42) hx hb hts (in_MO _) hown hK hP 0 rfl rfl 2 (by decide) (hts _ (List.mem_cons_of_mem _ mw_694)) (fun _ h9 => h9) rfl d_MO_wantFor_58 ?_
          refine lv_i2l hx hb d_MO_wantFor_61 rfl ?_
          refine lv_lload hx hb d_MO_wantFor_62 (lv_at hl 3 rfl) ?_
          refine lv_lconst (v := 1) hx hb d_MO_wantFor_64 (by decide) ?_
          refine lv_lsub hx hb d_MO_wantFor_65 ?_
          refine lv_lmul hx hb d_MO_wantFor_66 ?_
          refine lv_ladd hx hb d_MO_wantFor_67 ?_
          refine lv_aload_n hx hb d_MO_wantFor_68 rfl (lv_at hl 0 rfl) ?_
          refine va_get (D := (dC, dI)) (ci := 8) (v := .int (MO_size mo_15)) (C := R_MO) (T := F_MO) (N := 42) hx hb hts (in_MO _) hown hK hP 0 rfl rfl 1 (by decide) (hts _ (List.mem_cons_of_mem _ mw_693)) (fun _ h9 => h9) rfl d_MO_wantFor_69 ?_
          refine lv_i2l hx hb d_MO_wantFor_72 rfl ?_
          refine lv_ladd hx hb d_MO_wantFor_73 ?_
          refine lv_lload_n hx hb d_MO_wantFor_74 rfl (lv_at hl 1 rfl) ?_
          refine cq_le (tgt := 88) hx hb d_MO_wantFor_75 d_MO_wantFor_76 (by decide) (fun cb_8 => ?_) (fun cb_8 => ?_)
          · have hf := g_t hf cb_8
            have hq0 := (g_some hf)
            subst hq0
            exact kk _ _ _ hP hD hS (lv_sub hl [0, 1, 2, 3] rfl)
          · have hf := g_f hf cb_8
            refine lv_lload hx hb d_MO_wantFor_79 (lv_at hl 3 rfl) ?_
            refine lv_lconst (v := 1) hx hb d_MO_wantFor_81 (by decide) ?_
            refine lv_lsub hx hb d_MO_wantFor_82 ?_
            refine lv_topl (fun v7_4 h_v7_4 => ?_)
            have hf := g_let hf h_v7_4
            refine lv_lstore (lv' := [(7, .long v7_4), (0, .ref (a 0)), (1, .long x1), (5, .long r_5)]) hx hb d_MO_wantFor_83 hl (by decide) rfl (fun ls hl => ?_)
            refine lv_goto (tgt := 53) hx hb d_MO_wantFor_85 (by decide) ?_
            exact ih v7_4 v7_3 hf H locs ls hP hD hS (lv_sub hl [1, 2, 3, 0] rfl) kk
      obtain ⟨v7_3, hL_53, hf⟩ := g_bind hf
      try dsimp only at hf
      refine L_53 k r_5 v7_3 hL_53 H locs ls hP hD hS (lv_sub hl [2, 3, 1, 0] rfl) (fun H locs ls hP hD hS hl => ?_)
      refine lv_lload hx hb d_MO_wantFor_88 (lv_at hl 3 rfl) ?_
      refine lv_lstore (lv' := [(9, .long v7_3), (0, .ref (a 0)), (1, .long x1), (5, .long r_5), (7, .long v7_3)]) hx hb d_MO_wantFor_90 hl (by decide) rfl (fun ls hl => ?_)
      have L_92 : ∀ (n : Nat) (v9 : Int64) (mo_16 : MOt) (mo_17 : MOt), f_MO_wantFor_L92 x1 r_5 n v9 mo_16 = some mo_17 → ∀ (H : Heap) (locs : List Loc) (ls : Array Slot), va_P (dC, dI) classes (wMO tC a mo_16) H → va_D A (wMO tC a mo_16) → va_S A s.heap H locs → lv_has ls 13 [(0, .ref (a 0)), (1, .long x1), (5, .long r_5), (9, .long v9)] → (∀ (H : Heap) (locs : List Loc) (ls : Array Slot), va_P (dC, dI) classes (wMO tC a mo_17) H → va_D A (wMO tC a mo_17) → va_S A s.heap H locs → lv_has ls 13 [] → W p l e { frames := 4, cells := 0, slots := 0, locals := 98 } s m [.ref (a 0), .long x1, .long x3].toArray below meth c H locs 0 0 (cx_Z (dC, dI) classes below [.ref (a 0), .long x1, .long x3] s (wMO tC a moR) (none) A) (F0 m 151 ls [])) → W p l e { frames := 4, cells := 0, slots := 0, locals := 98 } s m [.ref (a 0), .long x1, .long x3].toArray below meth c H locs 0 0 (cx_Z (dC, dI) classes below [.ref (a 0), .long x1, .long x3] s (wMO tC a moR) (none) A) (F0 m 92 ls []) := by
        intro n
        induction n with
        | zero =>
          intro v9 mo_16 mo_17 hf
          rw [f_MO_wantFor_L92] at hf
          cases hf
        | succ n ih =>
          intro v9 mo_16 mo_17 hf H locs ls hP hD hS hl kk
          rw [f_MO_wantFor_L92] at hf
          refine lv_lload hx hb d_MO_wantFor_92 (lv_at hl 3 rfl) ?_
          refine lv_lload hx hb d_MO_wantFor_94 (lv_at hl 2 rfl) ?_
          refine cq_gt (tgt := 151) hx hb d_MO_wantFor_96 d_MO_wantFor_97 (by decide) (fun cb_9 => ?_) (fun cb_9 => ?_)
          · have hf := g_t hf cb_9
            have hq0 := (g_some hf)
            subst hq0
            exact kk _ _ _ hP hD hS (lv_sub hl [] rfl)
          · have hf := g_f hf cb_9
            refine lv_aload_n hx hb d_MO_wantFor_100 rfl (lv_at hl 0 rfl) ?_
            refine va_get (D := (dC, dI)) (ci := 8) (v := .long (MO_offset mo_16)) (C := R_MO) (T := F_MO) (N := 42) hx hb hts (in_MO _) hown hK hP 0 rfl rfl 3 (by decide) (hts _ (List.mem_cons_of_mem _ mw_695)) (fun _ h9 => h9) rfl d_MO_wantFor_101 ?_
            refine lv_aload_n hx hb d_MO_wantFor_104 rfl (lv_at hl 0 rfl) ?_
            refine va_get (D := (dC, dI)) (ci := 8) (v := .int (MO_step mo_16)) (C := R_MO) (T := F_MO) (N := 42) hx hb hts (in_MO _) hown hK hP 0 rfl rfl 2 (by decide) (hts _ (List.mem_cons_of_mem _ mw_694)) (fun _ h9 => h9) rfl d_MO_wantFor_105 ?_
            refine lv_i2l hx hb d_MO_wantFor_108 rfl ?_
            refine lv_lload hx hb d_MO_wantFor_109 (lv_at hl 3 rfl) ?_
            refine lv_lmul hx hb d_MO_wantFor_111 ?_
            refine lv_ladd hx hb d_MO_wantFor_112 ?_
            refine lv_topl (fun v11 h_v11 => ?_)
            have hf := g_let hf h_v11
            refine lv_lstore (lv' := [(11, .long v11), (0, .ref (a 0)), (1, .long x1), (5, .long r_5), (9, .long v9)]) hx hb d_MO_wantFor_113 hl (by decide) rfl (fun ls hl => ?_)
            refine lv_lload hx hb d_MO_wantFor_115 (lv_at hl 0 rfl) ?_
            refine lv_aload_n hx hb d_MO_wantFor_117 rfl (lv_at hl 1 rfl) ?_
            refine va_get (D := (dC, dI)) (ci := 8) (v := .int (MO_size mo_16)) (C := R_MO) (T := F_MO) (N := 42) hx hb hts (in_MO _) hown hK hP 0 rfl rfl 1 (by decide) (hts _ (List.mem_cons_of_mem _ mw_693)) (fun _ h9 => h9) rfl d_MO_wantFor_118 ?_
            refine lv_i2l hx hb d_MO_wantFor_121 rfl ?_
            refine lv_ladd hx hb d_MO_wantFor_122 ?_
            refine lv_lload_n hx hb d_MO_wantFor_123 rfl (lv_at hl 2 rfl) ?_
            obtain ⟨mo_18, hB_142, hf⟩ := g_bind hf
            try dsimp only at hf
            have K_142 : ∀ (H : Heap) (locs : List Loc) (ls : Array Slot), va_P (dC, dI) classes (wMO tC a mo_18) H → va_D A (wMO tC a mo_18) → va_S A s.heap H locs → lv_has ls 13 [(0, .ref (a 0)), (1, .long x1), (5, .long r_5), (9, .long v9)] → W p l e { frames := 4, cells := 0, slots := 0, locals := 98 } s m [.ref (a 0), .long x1, .long x3].toArray below meth c H locs 0 0 (cx_Z (dC, dI) classes below [.ref (a 0), .long x1, .long x3] s (wMO tC a moR) (none) A) (F0 m 142 ls []) := by
              intro H locs ls hP hD hS hl
              refine lv_lload hx hb d_MO_wantFor_142 (lv_at hl 3 rfl) ?_
              refine lv_lconst (v := 1) hx hb d_MO_wantFor_144 (by decide) ?_
              refine lv_ladd hx hb d_MO_wantFor_145 ?_
              refine lv_topl (fun v9_1 h_v9_1 => ?_)
              have hf := g_let hf h_v9_1
              refine lv_lstore (lv' := [(9, .long v9_1), (0, .ref (a 0)), (1, .long x1), (5, .long r_5)]) hx hb d_MO_wantFor_146 hl (by decide) rfl (fun ls hl => ?_)
              refine lv_goto (tgt := 92) hx hb d_MO_wantFor_148 (by decide) ?_
              exact ih v9_1 mo_18 mo_17 hf H locs ls hP hD hS (lv_sub hl [1, 2, 3, 0] rfl) kk
            have hf := hB_142
            unfold f_MO_wantFor_B124 at hf
            refine cq_le (tgt := 142) hx hb d_MO_wantFor_124 d_MO_wantFor_125 (by decide) (fun cb_10 => ?_) (fun cb_10 => ?_)
            · have hf := g_t hf cb_10
              have hq0 := (g_some hf)
              subst hq0
              exact K_142 _ _ _ hP hD hS (lv_sub hl [1, 2, 3, 4] rfl)
            · have hf := g_f hf cb_10
              refine lv_aload_n hx hb d_MO_wantFor_128 rfl (lv_at hl 1 rfl) ?_
              refine lv_lload hx hb d_MO_wantFor_129 (lv_at hl 0 rfl) ?_
              refine lv_lload hx hb d_MO_wantFor_131 (lv_at hl 0 rfl) ?_
              refine lv_aload_n hx hb d_MO_wantFor_133 rfl (lv_at hl 1 rfl) ?_
              refine va_get (D := (dC, dI)) (ci := 8) (v := .int (MO_size mo_16)) (C := R_MO) (T := F_MO) (N := 42) hx hb hts (in_MO _) hown hK hP 0 rfl rfl 1 (by decide) (hts _ (List.mem_cons_of_mem _ mw_693)) (fun _ h9 => h9) rfl d_MO_wantFor_134 ?_
              refine lv_i2l hx hb d_MO_wantFor_137 rfl ?_
              refine lv_ladd hx hb d_MO_wantFor_138 ?_
              obtain ⟨mo_19, hc_13, hf⟩ := g_bind hf
              try dsimp only at hf
              refine cx3_callV (As := [.long v11, .long (v11 + (MO_size mo_16).toInt64)]) (rest := []) (wMO tC a mo_19) ⟨hx, hb, hml, hown, hts⟩ (c_MO_want l dC dI tC a v11 (v11 + (MO_size mo_16).toInt64) mo_16 mo_19 hc_13) (k_MO_186 hts ⟨Nat.le_of_ble_eq_true rfl, Nat.le_of_ble_eq_true rfl⟩) hl.1 hP hD hS hA hK hN 0 8 rfl rfl rfl (adMO _ _ _ _) rfl rfl (Nat.le_of_ble_eq_true rfl) d_MO_wantFor_139 ⟨Nat.zero_le _, Nat.zero_le _⟩ (fun H locs hP hD hS => ?_)
              refine W.eq (g2 := F0 m 142 ls []) rfl ?_
              have hq0 := (g_some hf)
              subst hq0
              exact K_142 _ _ _ hP hD hS (lv_sub hl [1, 2, 3, 4] rfl)
      obtain ⟨mo_17, hL_92, hf⟩ := g_bind hf
      try dsimp only at hf
      refine L_92 k v7_3 mo_15 mo_17 hL_92 H locs ls hP hD hS (lv_sub hl [1, 2, 3, 0] rfl) (fun H locs ls hP hD hS hl => ?_)
      refine lv_goto (tgt := 378) hx hb d_MO_wantFor_151 (by decide) ?_
      have hq0 := (g_some hf)
      subst hq0
      exact cx_vret hx hb hr hlocks hP hS d_MO_wantFor_378
  · have hf := g_t hf cb
    refine lv_aload_n hx hb d_MO_wantFor_12 rfl (lv_at hl 0 rfl) ?_
    refine lv_lload_n hx hb d_MO_wantFor_13 rfl (lv_at hl 1 rfl) ?_
    refine lv_aload_n hx hb d_MO_wantFor_14 rfl (lv_at hl 0 rfl) ?_
    refine va_get (D := (dC, dI)) (ci := 8) (v := .int (MO_size mo)) (C := R_MO) (T := F_MO) (N := 42) hx hb hts (in_MO _) hown hK hP 0 rfl rfl 1 (by decide) (hts _ (List.mem_cons_of_mem _ mw_693)) (fun _ h9 => h9) rfl d_MO_wantFor_15 ?_
    refine lv_i2l hx hb d_MO_wantFor_18 rfl ?_
    obtain ⟨mo_20, h_mo_20⟩ : ∃ z : MOt, z = (sMO_wanted mo 0) := ⟨_, rfl⟩
    have hf := g_let hf h_mo_20
    have hP : va_P (dC, dI) classes (wMO tC a mo_20) H := by rw [h_mo_20]; exact hP
    have hD : va_D A (wMO tC a mo_20) := by rw [h_mo_20]; exact hD
    obtain ⟨mo_21, hc_14, hf⟩ := g_bind hf
    try dsimp only at hf
    refine cx3_callV (As := [.long x1, .long ((MO_size mo).toInt64)]) (rest := []) (wMO tC a mo_21) ⟨hx, hb, hml, hown, hts⟩ (c_MO_beside l dC dI tC a x1 ((MO_size mo).toInt64) mo_20 mo_21 hc_14) (k_MO_190 hts ⟨Nat.le_of_ble_eq_true rfl, Nat.le_of_ble_eq_true rfl⟩) hl.1 hP hD hS hA hK hN 0 8 rfl rfl rfl (adMO _ _ _ _) rfl rfl (Nat.le_of_ble_eq_true rfl) d_MO_wantFor_19 ⟨Nat.zero_le _, Nat.zero_le _⟩ (fun H locs hP hD hS => ?_)
    refine W.eq (g2 := F0 m 22 ls []) rfl ?_
    refine lv_goto (tgt := 378) hx hb d_MO_wantFor_22 (by decide) ?_
    have hq0 := (g_some hf)
    subst hq0
    exact cx_vret hx hb hr hlocks hP hS d_MO_wantFor_378
