set_option maxHeartbeats 4000000 in
set_option maxRecDepth 100000 in
theorem c_O_scaled (l : Launch) (D : va_G) (kI kZ : ClassId) (qO qV : Nat → Nat) (O_modulus : Int32) (O_valueOf O_isNeeded O_registerOf : Nat → Int32) (V_length : Int32) (V_instructions : Nat → Int32) (a1 a2 : Int32) (res : Int32 × (Nat → Int32) × Int32) (hr : f_O_scaled O_modulus V_instructions V_length a1 a2 = some res) : zMi l D kI kZ y_O_scaled prog_5_method_10_code 6 ((some .int)) 4 90 [.ref (qO 0), .int a1, .int a2] (W_OV kI kZ qO qV O_modulus O_valueOf O_isNeeded O_registerOf V_length V_instructions) (W_OV kI kZ qO qV O_modulus O_valueOf O_isNeeded O_registerOf (res.2.2) (res.2.1)) (res.1) := by
  refine zMi.of (by decide +kernel) (Nat.le_of_ble_eq_true rfl) ?_
  intro p e R s m args below meth c Q A hR hx hb hml hts hown hA hK hN hQ
  have hown : s.vm.findClass "SquareCode$Optimiser" = some m.cls := hown
  have hB66 : ∀ (V_instructions : Nat → Int32) (V_length : Int32)   (H : Heap) (locs : List Loc) (ls : Array Slot), lv_has ls 6 [(0, .ref (qO 0))] → va_P D zCl (W_OV kI kZ qO qV O_modulus O_valueOf O_isNeeded O_registerOf V_length V_instructions) H → va_D A (W_OV kI kZ qO qV O_modulus O_valueOf O_isNeeded O_registerOf V_length V_instructions) → va_S A s.heap H locs → f_O_scaled_66 V_instructions V_length = some res → W p l e R s m args below meth c H locs 0 0 Q (F0 m 66 ls []) := by
    intro V_instructions V_length H locs ls hl hP hD hS hr
    rw [f_O_scaled_66] at hr
    refine lv_aload_n hx hb d_O_scaled_66 rfl (lv_at hl 0 rfl) ?_
    obtain ⟨r1, hr1, hr⟩ := ob hr
    refine z_ci (ws := (W_OV kI kZ qO qV O_modulus O_valueOf O_isNeeded O_registerOf V_length V_instructions)) (wc := (W_OV kI kZ qO qV O_modulus O_valueOf O_isNeeded O_registerOf V_length V_instructions)) (wr := ([] : va_W)) (w1 := (W_OV kI kZ qO qV O_modulus O_valueOf O_isNeeded O_registerOf r1.2.2 r1.2.1)) (w2 := (W_OV kI kZ qO qV O_modulus O_valueOf O_isNeeded O_registerOf r1.2.2 r1.2.1)) (va_runV (As := []) (rest := []) ⟨hx, hb, hml, hown, hts⟩ (c_O_nought l D kI kZ qO qV O_modulus O_valueOf O_isNeeded O_registerOf V_length V_instructions r1 hr1 H.size) (z_cwV hts mw_O_nought kw_284 ⟨by rw [hR]; exact Nat.le_of_ble_eq_true rfl, by rw [hR]; exact Nat.le_of_ble_eq_true rfl⟩) (z_preV (ci := 3) hK hP hD hN rfl (he := (rfl : _[0]? = _)) [0, 1, 2, 3, 4, 5] (by decide) rfl) rfl rfl hl.1 rfl (lv_room (Nat.le_of_ble_eq_true rfl)) d_O_scaled_67 ⟨Nat.zero_le _, Nat.zero_le _⟩) hP hD hS hA [0, 1, 2, 3, 4, 5] [] [0, 1, 2, 3, 4, 5] rfl rfl (by decide) (by decide) rfl (by decide) (fun H locs hP hD hS => ?_)
    obtain rfl := Option.some.inj hr
    exact hQ _ _ _ _ _ d_O_scaled_70 rfl rfl hP hD hS
  have hB49 : ∀ (v4 t0 : Int32) (V_instructions : Nat → Int32) (V_length : Int32)   (H : Heap) (locs : List Loc) (ls : Array Slot), lv_has ls 6 [(0, .ref (qO 0)), (4, .int v4)] → va_P D zCl (W_OV kI kZ qO qV O_modulus O_valueOf O_isNeeded O_registerOf V_length V_instructions) H → va_D A (W_OV kI kZ qO qV O_modulus O_valueOf O_isNeeded O_registerOf V_length V_instructions) → va_S A s.heap H locs → f_O_scaled_49 v4 t0 V_instructions V_length = some res → W p l e R s m args below meth c H locs 0 0 Q (F0 m 49 ls [.int t0]) := by
    intro v4 t0 V_instructions V_length H locs ls hl hP hD hS hr
    rw [f_O_scaled_49] at hr
    refine lv_istore (lv' := [(5, .int t0), (0, .ref (qO 0)), (4, .int v4)]) hx hb d_O_scaled_49 hl (by decide) rfl (fun ls hl => ?_)
    refine lv_iload hx hb d_O_scaled_51 (lv_at hl 0 rfl) ?_
    refine lv_if_eq hx hb d_O_scaled_53 rfl (fun hc => ?_) (fun hc => ?_)
    · rw [if_pos hc] at hr
      exact hB66 V_instructions V_length _ _ _ (lv_sub hl [1] rfl) hP hD hS hr
    · rw [if_neg hc] at hr
      refine lv_aload_n hx hb d_O_scaled_56 rfl (lv_at hl 1 rfl) ?_
      refine lv_iconst (v := (2 : Int32)) hx hb d_O_scaled_57 (by decide) ?_
      refine lv_iload hx hb d_O_scaled_58 (lv_at hl 2 rfl) ?_
      obtain ⟨r2, hr2, hr⟩ := ob hr
      refine z_ci (ws := (W_OV kI kZ qO qV O_modulus O_valueOf O_isNeeded O_registerOf V_length V_instructions)) (wc := (W_OV kI kZ qO qV O_modulus O_valueOf O_isNeeded O_registerOf V_length V_instructions)) (wr := ([] : va_W)) (w1 := (W_OV kI kZ qO qV O_modulus O_valueOf O_isNeeded O_registerOf V_length V_instructions)) (w2 := (W_OV kI kZ qO qV O_modulus O_valueOf O_isNeeded O_registerOf V_length V_instructions)) (va_runV (As := [.int (2 : Int32), .int v4]) (rest := []) ⟨hx, hb, hml, hown, hts⟩ (c_O_is l D kI kZ qO qV O_modulus O_valueOf O_isNeeded O_registerOf V_length V_instructions (2 : Int32) v4 r2 hr2 H.size) (z_cwV hts mw_O_is kw_265 ⟨by rw [hR]; exact Nat.le_of_ble_eq_true rfl, by rw [hR]; exact Nat.le_of_ble_eq_true rfl⟩) (z_preV (ci := 3) hK hP hD hN rfl (he := (rfl : _[0]? = _)) [0, 1, 2, 3, 4, 5] (by decide) rfl) rfl rfl hl.1 rfl (lv_room (Nat.le_of_ble_eq_true rfl)) d_O_scaled_60 ⟨Nat.zero_le _, Nat.zero_le _⟩) hP hD hS hA [0, 1, 2, 3, 4, 5] [] [0, 1, 2, 3, 4, 5] rfl rfl (by decide) (by decide) rfl (by decide) (fun H locs hP hD hS => ?_)
      refine lv_if_eq hx hb d_O_scaled_63 rfl (fun hc => ?_) (fun hc => ?_)
      · rw [if_pos hc] at hr
        refine lv_iload hx hb d_O_scaled_71 (lv_at hl 0 rfl) ?_
        refine lv_iconst (v := (1 : Int32)) hx hb d_O_scaled_73 (by decide) ?_
        refine lv_icmp_ne hx hb d_O_scaled_74 rfl (fun hc => ?_) (fun hc => ?_)
        · rw [if_neg hc] at hr
          refine lv_aload_n hx hb d_O_scaled_80 rfl (lv_at hl 1 rfl) ?_
          refine va_get (D := D) (ci := 3) (v := .ref (qV 0)) (C := R_O) (T := T_O) (N := 5) hx hb hts in_O hown hK hP 0 rfl rfl 1 (by decide) (hts _ kw_87) (fun _ h9 => h9) rfl d_O_scaled_81 ?_
          refine lv_bipush (v := (7 : Int32)) hx hb d_O_scaled_84 (by decide) ?_
          refine lv_iload hx hb d_O_scaled_86 (lv_at hl 2 rfl) ?_
          refine lv_iload hx hb d_O_scaled_88 (lv_at hl 0 rfl) ?_
          obtain ⟨r3, hr3, hr⟩ := ob hr
          refine z_ci (ws := (W_OV kI kZ qO qV O_modulus O_valueOf O_isNeeded O_registerOf V_length V_instructions)) (wc := (W_C kI kZ qV V_length V_instructions)) (wr := (W_O kI kZ qO qV O_modulus O_valueOf O_isNeeded O_registerOf)) (w1 := (W_C kI kZ qV r3.2.2 r3.2.1)) (w2 := (W_OV kI kZ qO qV O_modulus O_valueOf O_isNeeded O_registerOf r3.2.2 r3.2.1)) (va_runV (As := [.int (7 : Int32), .int v4, .int t0]) (rest := []) ⟨hx, hb, hml, hown, hts⟩ (c_C_findOrAppend l D kI kZ qV V_length V_instructions (7 : Int32) v4 t0 r3 hr3 H.size) (z_cwV hts mw_C_findOrAppend kw_275 ⟨by rw [hR]; exact Nat.le_of_ble_eq_true rfl, by rw [hR]; exact Nat.le_of_ble_eq_true rfl⟩) (z_preV (ci := 0) hK hP hD hN rfl (he := (rfl : _[4]? = _)) [4, 5] (by decide) rfl) rfl rfl hl.1 rfl (lv_room (Nat.le_of_ble_eq_true rfl)) d_O_scaled_90 ⟨Nat.zero_le _, Nat.zero_le _⟩) hP hD hS hA [4, 5] [0, 1, 2, 3] [0, 1, 2, 3, 4, 5] rfl rfl (by decide) (by decide) rfl (by decide) (fun H locs hP hD hS => ?_)
          obtain rfl := Option.some.inj hr
          exact hQ _ _ _ _ _ d_O_scaled_93 rfl rfl hP hD hS
        · rw [if_pos hc] at hr
          refine lv_iload hx hb d_O_scaled_77 (lv_at hl 2 rfl) ?_
          obtain rfl := Option.some.inj hr
          exact hQ _ _ _ _ _ d_O_scaled_79 rfl rfl hP hD hS
      · rw [if_neg hc] at hr
        exact hB66 V_instructions V_length _ _ _ (lv_sub hl [1] rfl) hP hD hS hr
  have hB24 : ∀ (v3 t0 : Int32) (V_instructions : Nat → Int32) (V_length : Int32)   (H : Heap) (locs : List Loc) (ls : Array Slot), lv_has ls 6 [(0, .ref (qO 0)), (1, .int a1), (2, .int a2), (3, .int v3)] → va_P D zCl (W_OV kI kZ qO qV O_modulus O_valueOf O_isNeeded O_registerOf V_length V_instructions) H → va_D A (W_OV kI kZ qO qV O_modulus O_valueOf O_isNeeded O_registerOf V_length V_instructions) → va_S A s.heap H locs → f_O_scaled_24 O_modulus a1 a2 v3 t0 V_instructions V_length = some res → W p l e R s m args below meth c H locs 0 0 Q (F0 m 24 ls [.int t0]) := by
    intro v3 t0 V_instructions V_length H locs ls hl hP hD hS hr
    rw [f_O_scaled_24] at hr
    refine lv_istore (lv' := [(4, .int t0), (0, .ref (qO 0)), (1, .int a1), (2, .int a2), (3, .int v3)]) hx hb d_O_scaled_24 hl (by decide) rfl (fun ls hl => ?_)
    refine lv_iload_n hx hb d_O_scaled_26 rfl (lv_at hl 4 rfl) ?_
    refine lv_if_eq hx hb d_O_scaled_27 rfl (fun hc => ?_) (fun hc => ?_)
    · rw [if_pos hc] at hr
      refine lv_iload_n hx hb d_O_scaled_48 rfl (lv_at hl 3 rfl) ?_
      exact hB49 t0 a2 V_instructions V_length _ _ _ (lv_sub hl [1, 0] rfl) hP hD hS hr
    · rw [if_neg hc] at hr
      refine lv_aload_n hx hb d_O_scaled_30 rfl (lv_at hl 1 rfl) ?_
      refine va_get (D := D) (ci := 3) (v := .ref (qV 0)) (C := R_O) (T := T_O) (N := 5) hx hb hts in_O hown hK hP 0 rfl rfl 1 (by decide) (hts _ kw_87) (fun _ h9 => h9) rfl d_O_scaled_31 ?_
      refine lv_iload_n hx hb d_O_scaled_34 rfl (lv_at hl 2 rfl) ?_
      obtain ⟨r4, hr4, hr⟩ := ob hr
      refine z_ci (ws := (W_OV kI kZ qO qV O_modulus O_valueOf O_isNeeded O_registerOf V_length V_instructions)) (wc := (W_C kI kZ qV V_length V_instructions)) (wr := (W_O kI kZ qO qV O_modulus O_valueOf O_isNeeded O_registerOf)) (w1 := (W_C kI kZ qV V_length V_instructions)) (w2 := (W_OV kI kZ qO qV O_modulus O_valueOf O_isNeeded O_registerOf V_length V_instructions)) (va_runV (As := [.int a1]) (rest := []) ⟨hx, hb, hml, hown, hts⟩ (c_C_second l D kI kZ qV V_length V_instructions a1 r4 hr4 H.size) (z_cwV hts mw_C_second kw_253 ⟨by rw [hR]; exact Nat.le_of_ble_eq_true rfl, by rw [hR]; exact Nat.le_of_ble_eq_true rfl⟩) (z_preV (ci := 0) hK hP hD hN rfl (he := (rfl : _[4]? = _)) [4, 5] (by decide) rfl) rfl rfl hl.1 rfl (lv_room (Nat.le_of_ble_eq_true rfl)) d_O_scaled_35 ⟨Nat.zero_le _, Nat.zero_le _⟩) hP hD hS hA [4, 5] [0, 1, 2, 3] [0, 1, 2, 3, 4, 5] rfl rfl (by decide) (by decide) rfl (by decide) (fun H locs hP hD hS => ?_)
      refine lv_iload_n hx hb d_O_scaled_38 rfl (lv_at hl 3 rfl) ?_
      refine lv_imul hx hb d_O_scaled_39 ?_
      refine lv_aload_n hx hb d_O_scaled_40 rfl (lv_at hl 1 rfl) ?_
      refine va_get (D := D) (ci := 3) (v := .int O_modulus) (C := R_O) (T := T_O) (N := 5) hx hb hts in_O hown hK hP 0 rfl rfl 0 (by decide) (hts _ kw_86) (fun _ h9 => h9) rfl d_O_scaled_41 ?_
      obtain ⟨hz, hr⟩ := nz_some hr
      refine z_irem hx hb d_O_scaled_44 hz ?_
      refine lv_goto hx hb d_O_scaled_45 rfl ?_
      exact hB49 t0 (zrem (r4 * a2) O_modulus) V_instructions V_length _ _ _ (lv_sub hl [1, 0] rfl) hP hD hS hr
  intro ls H hl hP hD hS
  have hl : lv_has ls 6 [(0, .ref (qO 0)), (1, .int a1), (2, .int a2)] := hl
  rw [f_O_scaled] at hr
  refine lv_aload_n hx hb d_O_scaled_0 rfl (lv_at hl 0 rfl) ?_
  refine lv_bipush (v := (7 : Int32)) hx hb d_O_scaled_1 (by decide) ?_
  refine lv_iload_n hx hb d_O_scaled_3 rfl (lv_at hl 1 rfl) ?_
  obtain ⟨r5, hr5, hr⟩ := ob hr
  refine z_ci (ws := (W_OV kI kZ qO qV O_modulus O_valueOf O_isNeeded O_registerOf V_length V_instructions)) (wc := (W_OV kI kZ qO qV O_modulus O_valueOf O_isNeeded O_registerOf V_length V_instructions)) (wr := ([] : va_W)) (w1 := (W_OV kI kZ qO qV O_modulus O_valueOf O_isNeeded O_registerOf V_length V_instructions)) (w2 := (W_OV kI kZ qO qV O_modulus O_valueOf O_isNeeded O_registerOf V_length V_instructions)) (va_runV (As := [.int (7 : Int32), .int a1]) (rest := []) ⟨hx, hb, hml, hown, hts⟩ (c_O_is l D kI kZ qO qV O_modulus O_valueOf O_isNeeded O_registerOf V_length V_instructions (7 : Int32) a1 r5 hr5 H.size) (z_cwV hts mw_O_is kw_265 ⟨by rw [hR]; exact Nat.le_of_ble_eq_true rfl, by rw [hR]; exact Nat.le_of_ble_eq_true rfl⟩) (z_preV (ci := 3) hK hP hD hN rfl (he := (rfl : _[0]? = _)) [0, 1, 2, 3, 4, 5] (by decide) rfl) rfl rfl hl.1 rfl (lv_room (Nat.le_of_ble_eq_true rfl)) d_O_scaled_4 ⟨Nat.zero_le _, Nat.zero_le _⟩) hP hD hS hA [0, 1, 2, 3, 4, 5] [] [0, 1, 2, 3, 4, 5] rfl rfl (by decide) (by decide) rfl (by decide) (fun H locs hP hD hS => ?_)
  refine lv_istore_n (lv' := [(3, .int r5), (0, .ref (qO 0)), (1, .int a1), (2, .int a2)]) hx hb d_O_scaled_7 rfl hl (by decide) rfl (fun ls hl => ?_)
  refine lv_iload_n hx hb d_O_scaled_8 rfl (lv_at hl 0 rfl) ?_
  refine lv_if_eq hx hb d_O_scaled_9 rfl (fun hc => ?_) (fun hc => ?_)
  · rw [if_pos hc] at hr
    refine lv_iload_n hx hb d_O_scaled_23 rfl (lv_at hl 2 rfl) ?_
    exact hB24 r5 a1 V_instructions V_length _ _ _ (lv_sub hl [1, 2, 3, 0] rfl) hP hD hS hr
  · rw [if_neg hc] at hr
    refine lv_aload_n hx hb d_O_scaled_12 rfl (lv_at hl 1 rfl) ?_
    refine va_get (D := D) (ci := 3) (v := .ref (qV 0)) (C := R_O) (T := T_O) (N := 5) hx hb hts in_O hown hK hP 0 rfl rfl 1 (by decide) (hts _ kw_87) (fun _ h9 => h9) rfl d_O_scaled_13 ?_
    refine lv_iload_n hx hb d_O_scaled_16 rfl (lv_at hl 2 rfl) ?_
    obtain ⟨r6, hr6, hr⟩ := ob hr
    refine z_ci (ws := (W_OV kI kZ qO qV O_modulus O_valueOf O_isNeeded O_registerOf V_length V_instructions)) (wc := (W_C kI kZ qV V_length V_instructions)) (wr := (W_O kI kZ qO qV O_modulus O_valueOf O_isNeeded O_registerOf)) (w1 := (W_C kI kZ qV V_length V_instructions)) (w2 := (W_OV kI kZ qO qV O_modulus O_valueOf O_isNeeded O_registerOf V_length V_instructions)) (va_runV (As := [.int a1]) (rest := []) ⟨hx, hb, hml, hown, hts⟩ (c_C_first l D kI kZ qV V_length V_instructions a1 r6 hr6 H.size) (z_cwV hts mw_C_first kw_249 ⟨by rw [hR]; exact Nat.le_of_ble_eq_true rfl, by rw [hR]; exact Nat.le_of_ble_eq_true rfl⟩) (z_preV (ci := 0) hK hP hD hN rfl (he := (rfl : _[4]? = _)) [4, 5] (by decide) rfl) rfl rfl hl.1 rfl (lv_room (Nat.le_of_ble_eq_true rfl)) d_O_scaled_17 ⟨Nat.zero_le _, Nat.zero_le _⟩) hP hD hS hA [4, 5] [0, 1, 2, 3] [0, 1, 2, 3, 4, 5] rfl rfl (by decide) (by decide) rfl (by decide) (fun H locs hP hD hS => ?_)
    refine lv_goto hx hb d_O_scaled_20 rfl ?_
    exact hB24 r5 r6 V_instructions V_length _ _ _ (lv_sub hl [1, 2, 3, 0] rfl) hP hD hS hr
set_option maxHeartbeats 4000000 in
set_option maxRecDepth 100000 in
theorem c_O_value (l : Launch) (D : va_G) (kI kZ : ClassId) (qO qV : Nat → Nat) (O_modulus : Int32) (O_valueOf O_isNeeded O_registerOf : Nat → Int32) (V_length : Int32) (V_instructions : Nat → Int32) (a1 a2 a3 : Int32) (res : Int32 × (Nat → Int32) × Int32) (hr : f_O_value O_modulus O_valueOf V_instructions V_length a1 a2 a3 = some res) : zMi l D kI kZ y_O_value prog_5_method_3_code 4 ((some .int)) 5 115 [.ref (qO 0), .int a1, .int a2, .int a3] (W_OV kI kZ qO qV O_modulus O_valueOf O_isNeeded O_registerOf V_length V_instructions) (W_OV kI kZ qO qV O_modulus O_valueOf O_isNeeded O_registerOf (res.2.2) (res.2.1)) (res.1) := by
  refine zMi.of (by decide +kernel) (Nat.le_of_ble_eq_true rfl) ?_
  intro p e R s m args below meth c Q A hR hx hb hml hts hown hA hK hN hQ
  have hown : s.vm.findClass "SquareCode$Optimiser" = some m.cls := hown
  intro ls H hl hP hD hS
  have hl : lv_has ls 4 [(0, .ref (qO 0)), (1, .int a1), (2, .int a2), (3, .int a3)] := hl
  rw [f_O_value] at hr
  refine lv_iload_n hx hb d_O_value_0 rfl (lv_at hl 1 rfl) ?_
  by_cases hs1_3 : a1 = (3 : Int32)
  · rw [if_pos hs1_3] at hr
    refine lv_tableIn hx hb d_O_value_1 (by rw [hs1_3]; decide) (by rw [hs1_3]; decide) (by rw [hs1_3]; rfl) rfl ?_
    refine lv_aload_n hx hb d_O_value_36 rfl (lv_at hl 0 rfl) ?_
    refine lv_aload_n hx hb d_O_value_37 rfl (lv_at hl 0 rfl) ?_
    refine va_get (D := D) (ci := 3) (v := .ref (qO 1)) (C := R_O) (T := T_O) (N := 5) hx hb hts in_O hown hK hP 0 rfl rfl 2 (by decide) (hts _ kw_88) (fun _ h9 => h9) rfl d_O_value_38 ?_
    refine lv_iload_n hx hb d_O_value_41 rfl (lv_at hl 2 rfl) ?_
    obtain ⟨hi, hr⟩ := gd_some hr
    refine va_iald hx hb hK hP 1 0 rfl rfl hi d_O_value_42 ?_
    refine lv_aload_n hx hb d_O_value_43 rfl (lv_at hl 0 rfl) ?_
    refine va_get (D := D) (ci := 3) (v := .ref (qO 1)) (C := R_O) (T := T_O) (N := 5) hx hb hts in_O hown hK hP 0 rfl rfl 2 (by decide) (hts _ kw_88) (fun _ h9 => h9) rfl d_O_value_44 ?_
    refine lv_iload_n hx hb d_O_value_47 rfl (lv_at hl 3 rfl) ?_
    obtain ⟨hi, hr⟩ := gd_some hr
    refine va_iald hx hb hK hP 1 0 rfl rfl hi d_O_value_48 ?_
    obtain ⟨r1, hr1, hr⟩ := ob hr
    refine z_ci (ws := (W_OV kI kZ qO qV O_modulus O_valueOf O_isNeeded O_registerOf V_length V_instructions)) (wc := (W_OV kI kZ qO qV O_modulus O_valueOf O_isNeeded O_registerOf V_length V_instructions)) (wr := ([] : va_W)) (w1 := (W_OV kI kZ qO qV O_modulus O_valueOf O_isNeeded O_registerOf r1.2.2 r1.2.1)) (w2 := (W_OV kI kZ qO qV O_modulus O_valueOf O_isNeeded O_registerOf r1.2.2 r1.2.1)) (va_runV (As := [.int (O_valueOf a2.toNatClampNeg), .int (O_valueOf a3.toNatClampNeg)]) (rest := []) ⟨hx, hb, hml, hown, hts⟩ (c_O_sum l D kI kZ qO qV O_modulus O_valueOf O_isNeeded O_registerOf V_length V_instructions (O_valueOf a2.toNatClampNeg) (O_valueOf a3.toNatClampNeg) r1 hr1 H.size) (z_cwV hts mw_O_sum kw_261 ⟨by rw [hR]; exact Nat.le_of_ble_eq_true rfl, by rw [hR]; exact Nat.le_of_ble_eq_true rfl⟩) (z_preV (ci := 3) hK hP hD hN rfl (he := (rfl : _[0]? = _)) [0, 1, 2, 3, 4, 5] (by decide) rfl) rfl rfl hl.1 rfl (lv_room (Nat.le_of_ble_eq_true rfl)) d_O_value_49 ⟨Nat.zero_le _, Nat.zero_le _⟩) hP hD hS hA [0, 1, 2, 3, 4, 5] [] [0, 1, 2, 3, 4, 5] rfl rfl (by decide) (by decide) rfl (by decide) (fun H locs hP hD hS => ?_)
    obtain rfl := Option.some.inj hr
    exact hQ _ _ _ _ _ d_O_value_52 rfl rfl hP hD hS
  rw [if_neg hs1_3] at hr
  by_cases hs1_4 : a1 = (4 : Int32)
  · rw [if_pos hs1_4] at hr
    refine lv_tableIn hx hb d_O_value_1 (by rw [hs1_4]; decide) (by rw [hs1_4]; decide) (by rw [hs1_4]; rfl) rfl ?_
    refine lv_aload_n hx hb d_O_value_53 rfl (lv_at hl 0 rfl) ?_
    refine lv_aload_n hx hb d_O_value_54 rfl (lv_at hl 0 rfl) ?_
    refine va_get (D := D) (ci := 3) (v := .ref (qO 1)) (C := R_O) (T := T_O) (N := 5) hx hb hts in_O hown hK hP 0 rfl rfl 2 (by decide) (hts _ kw_88) (fun _ h9 => h9) rfl d_O_value_55 ?_
    refine lv_iload_n hx hb d_O_value_58 rfl (lv_at hl 2 rfl) ?_
    obtain ⟨hi, hr⟩ := gd_some hr
    refine va_iald hx hb hK hP 1 0 rfl rfl hi d_O_value_59 ?_
    refine lv_aload_n hx hb d_O_value_60 rfl (lv_at hl 0 rfl) ?_
    refine va_get (D := D) (ci := 3) (v := .ref (qO 1)) (C := R_O) (T := T_O) (N := 5) hx hb hts in_O hown hK hP 0 rfl rfl 2 (by decide) (hts _ kw_88) (fun _ h9 => h9) rfl d_O_value_61 ?_
    refine lv_iload_n hx hb d_O_value_64 rfl (lv_at hl 3 rfl) ?_
    obtain ⟨hi, hr⟩ := gd_some hr
    refine va_iald hx hb hK hP 1 0 rfl rfl hi d_O_value_65 ?_
    obtain ⟨r2, hr2, hr⟩ := ob hr
    refine z_ci (ws := (W_OV kI kZ qO qV O_modulus O_valueOf O_isNeeded O_registerOf V_length V_instructions)) (wc := (W_OV kI kZ qO qV O_modulus O_valueOf O_isNeeded O_registerOf V_length V_instructions)) (wr := ([] : va_W)) (w1 := (W_OV kI kZ qO qV O_modulus O_valueOf O_isNeeded O_registerOf r2.2.2 r2.2.1)) (w2 := (W_OV kI kZ qO qV O_modulus O_valueOf O_isNeeded O_registerOf r2.2.2 r2.2.1)) (va_runV (As := [.int (O_valueOf a2.toNatClampNeg), .int (O_valueOf a3.toNatClampNeg)]) (rest := []) ⟨hx, hb, hml, hown, hts⟩ (c_O_difference l D kI kZ qO qV O_modulus O_valueOf O_isNeeded O_registerOf V_length V_instructions (O_valueOf a2.toNatClampNeg) (O_valueOf a3.toNatClampNeg) r2 hr2 H.size) (z_cwV hts mw_O_difference kw_280 ⟨by rw [hR]; exact Nat.le_of_ble_eq_true rfl, by rw [hR]; exact Nat.le_of_ble_eq_true rfl⟩) (z_preV (ci := 3) hK hP hD hN rfl (he := (rfl : _[0]? = _)) [0, 1, 2, 3, 4, 5] (by decide) rfl) rfl rfl hl.1 rfl (lv_room (Nat.le_of_ble_eq_true rfl)) d_O_value_66 ⟨Nat.zero_le _, Nat.zero_le _⟩) hP hD hS hA [0, 1, 2, 3, 4, 5] [] [0, 1, 2, 3, 4, 5] rfl rfl (by decide) (by decide) rfl (by decide) (fun H locs hP hD hS => ?_)
    obtain rfl := Option.some.inj hr
    exact hQ _ _ _ _ _ d_O_value_69 rfl rfl hP hD hS
  rw [if_neg hs1_4] at hr
  by_cases hs1_5 : a1 = (5 : Int32)
  · rw [if_pos hs1_5] at hr
    refine lv_tableIn hx hb d_O_value_1 (by rw [hs1_5]; decide) (by rw [hs1_5]; decide) (by rw [hs1_5]; rfl) rfl ?_
    refine lv_aload_n hx hb d_O_value_70 rfl (lv_at hl 0 rfl) ?_
    refine lv_aload_n hx hb d_O_value_71 rfl (lv_at hl 0 rfl) ?_
    refine va_get (D := D) (ci := 3) (v := .ref (qO 1)) (C := R_O) (T := T_O) (N := 5) hx hb hts in_O hown hK hP 0 rfl rfl 2 (by decide) (hts _ kw_88) (fun _ h9 => h9) rfl d_O_value_72 ?_
    refine lv_iload_n hx hb d_O_value_75 rfl (lv_at hl 2 rfl) ?_
    obtain ⟨hi, hr⟩ := gd_some hr
    refine va_iald hx hb hK hP 1 0 rfl rfl hi d_O_value_76 ?_
    refine lv_aload_n hx hb d_O_value_77 rfl (lv_at hl 0 rfl) ?_
    refine va_get (D := D) (ci := 3) (v := .ref (qO 1)) (C := R_O) (T := T_O) (N := 5) hx hb hts in_O hown hK hP 0 rfl rfl 2 (by decide) (hts _ kw_88) (fun _ h9 => h9) rfl d_O_value_78 ?_
    refine lv_iload_n hx hb d_O_value_81 rfl (lv_at hl 3 rfl) ?_
    obtain ⟨hi, hr⟩ := gd_some hr
    refine va_iald hx hb hK hP 1 0 rfl rfl hi d_O_value_82 ?_
    obtain ⟨r3, hr3, hr⟩ := ob hr
    refine z_ci (ws := (W_OV kI kZ qO qV O_modulus O_valueOf O_isNeeded O_registerOf V_length V_instructions)) (wc := (W_OV kI kZ qO qV O_modulus O_valueOf O_isNeeded O_registerOf V_length V_instructions)) (wr := ([] : va_W)) (w1 := (W_OV kI kZ qO qV O_modulus O_valueOf O_isNeeded O_registerOf r3.2.2 r3.2.1)) (w2 := (W_OV kI kZ qO qV O_modulus O_valueOf O_isNeeded O_registerOf r3.2.2 r3.2.1)) (va_runV (As := [.int (O_valueOf a2.toNatClampNeg), .int (O_valueOf a3.toNatClampNeg)]) (rest := []) ⟨hx, hb, hml, hown, hts⟩ (c_O_product l D kI kZ qO qV O_modulus O_valueOf O_isNeeded O_registerOf V_length V_instructions (O_valueOf a2.toNatClampNeg) (O_valueOf a3.toNatClampNeg) r3 hr3 H.size) (z_cwV hts mw_O_product kw_288 ⟨by rw [hR]; exact Nat.le_of_ble_eq_true rfl, by rw [hR]; exact Nat.le_of_ble_eq_true rfl⟩) (z_preV (ci := 3) hK hP hD hN rfl (he := (rfl : _[0]? = _)) [0, 1, 2, 3, 4, 5] (by decide) rfl) rfl rfl hl.1 rfl (lv_room (Nat.le_of_ble_eq_true rfl)) d_O_value_83 ⟨Nat.zero_le _, Nat.zero_le _⟩) hP hD hS hA [0, 1, 2, 3, 4, 5] [] [0, 1, 2, 3, 4, 5] rfl rfl (by decide) (by decide) rfl (by decide) (fun H locs hP hD hS => ?_)
    obtain rfl := Option.some.inj hr
    exact hQ _ _ _ _ _ d_O_value_86 rfl rfl hP hD hS
  rw [if_neg hs1_5] at hr
  by_cases hs1_6 : a1 = (6 : Int32)
  · rw [if_pos hs1_6] at hr
    refine lv_tableIn hx hb d_O_value_1 (by rw [hs1_6]; decide) (by rw [hs1_6]; decide) (by rw [hs1_6]; rfl) rfl ?_
    refine lv_aload_n hx hb d_O_value_87 rfl (lv_at hl 0 rfl) ?_
    refine lv_aload_n hx hb d_O_value_88 rfl (lv_at hl 0 rfl) ?_
    refine va_get (D := D) (ci := 3) (v := .ref (qO 1)) (C := R_O) (T := T_O) (N := 5) hx hb hts in_O hown hK hP 0 rfl rfl 2 (by decide) (hts _ kw_88) (fun _ h9 => h9) rfl d_O_value_89 ?_
    refine lv_iload_n hx hb d_O_value_92 rfl (lv_at hl 2 rfl) ?_
    obtain ⟨hi, hr⟩ := gd_some hr
    refine va_iald hx hb hK hP 1 0 rfl rfl hi d_O_value_93 ?_
    obtain ⟨r4, hr4, hr⟩ := ob hr
    refine z_ci (ws := (W_OV kI kZ qO qV O_modulus O_valueOf O_isNeeded O_registerOf V_length V_instructions)) (wc := (W_OV kI kZ qO qV O_modulus O_valueOf O_isNeeded O_registerOf V_length V_instructions)) (wr := ([] : va_W)) (w1 := (W_OV kI kZ qO qV O_modulus O_valueOf O_isNeeded O_registerOf r4.2.2 r4.2.1)) (w2 := (W_OV kI kZ qO qV O_modulus O_valueOf O_isNeeded O_registerOf r4.2.2 r4.2.1)) (va_runV (As := [.int (O_valueOf a2.toNatClampNeg)]) (rest := []) ⟨hx, hb, hml, hown, hts⟩ (c_O_turned l D kI kZ qO qV O_modulus O_valueOf O_isNeeded O_registerOf V_length V_instructions (O_valueOf a2.toNatClampNeg) r4 hr4 H.size) (z_cwV hts mw_O_turned kw_292 ⟨by rw [hR]; exact Nat.le_of_ble_eq_true rfl, by rw [hR]; exact Nat.le_of_ble_eq_true rfl⟩) (z_preV (ci := 3) hK hP hD hN rfl (he := (rfl : _[0]? = _)) [0, 1, 2, 3, 4, 5] (by decide) rfl) rfl rfl hl.1 rfl (lv_room (Nat.le_of_ble_eq_true rfl)) d_O_value_94 ⟨Nat.zero_le _, Nat.zero_le _⟩) hP hD hS hA [0, 1, 2, 3, 4, 5] [] [0, 1, 2, 3, 4, 5] rfl rfl (by decide) (by decide) rfl (by decide) (fun H locs hP hD hS => ?_)
    obtain rfl := Option.some.inj hr
    exact hQ _ _ _ _ _ d_O_value_97 rfl rfl hP hD hS
  rw [if_neg hs1_6] at hr
  by_cases hs1_7 : a1 = (7 : Int32)
  · rw [if_pos hs1_7] at hr
    refine lv_tableIn hx hb d_O_value_1 (by rw [hs1_7]; decide) (by rw [hs1_7]; decide) (by rw [hs1_7]; rfl) rfl ?_
    refine lv_aload_n hx hb d_O_value_98 rfl (lv_at hl 0 rfl) ?_
    refine lv_aload_n hx hb d_O_value_99 rfl (lv_at hl 0 rfl) ?_
    refine va_get (D := D) (ci := 3) (v := .ref (qO 1)) (C := R_O) (T := T_O) (N := 5) hx hb hts in_O hown hK hP 0 rfl rfl 2 (by decide) (hts _ kw_88) (fun _ h9 => h9) rfl d_O_value_100 ?_
    refine lv_iload_n hx hb d_O_value_103 rfl (lv_at hl 2 rfl) ?_
    obtain ⟨hi, hr⟩ := gd_some hr
    refine va_iald hx hb hK hP 1 0 rfl rfl hi d_O_value_104 ?_
    refine lv_iload_n hx hb d_O_value_105 rfl (lv_at hl 3 rfl) ?_
    refine lv_aload_n hx hb d_O_value_106 rfl (lv_at hl 0 rfl) ?_
    refine va_get (D := D) (ci := 3) (v := .int O_modulus) (C := R_O) (T := T_O) (N := 5) hx hb hts in_O hown hK hP 0 rfl rfl 0 (by decide) (hts _ kw_86) (fun _ h9 => h9) rfl d_O_value_107 ?_
    obtain ⟨hz, hr⟩ := nz_some hr
    refine z_irem hx hb d_O_value_110 hz ?_
    obtain ⟨r5, hr5, hr⟩ := ob hr
    refine z_ci (ws := (W_OV kI kZ qO qV O_modulus O_valueOf O_isNeeded O_registerOf V_length V_instructions)) (wc := (W_OV kI kZ qO qV O_modulus O_valueOf O_isNeeded O_registerOf V_length V_instructions)) (wr := ([] : va_W)) (w1 := (W_OV kI kZ qO qV O_modulus O_valueOf O_isNeeded O_registerOf r5.2.2 r5.2.1)) (w2 := (W_OV kI kZ qO qV O_modulus O_valueOf O_isNeeded O_registerOf r5.2.2 r5.2.1)) (va_runV (As := [.int (O_valueOf a2.toNatClampNeg), .int (zrem a3 O_modulus)]) (rest := []) ⟨hx, hb, hml, hown, hts⟩ (c_O_scaled l D kI kZ qO qV O_modulus O_valueOf O_isNeeded O_registerOf V_length V_instructions (O_valueOf a2.toNatClampNeg) (zrem a3 O_modulus) r5 hr5 H.size) (z_cwV hts mw_O_scaled kw_296 ⟨by rw [hR]; exact Nat.le_of_ble_eq_true rfl, by rw [hR]; exact Nat.le_of_ble_eq_true rfl⟩) (z_preV (ci := 3) hK hP hD hN rfl (he := (rfl : _[0]? = _)) [0, 1, 2, 3, 4, 5] (by decide) rfl) rfl rfl hl.1 rfl (lv_room (Nat.le_of_ble_eq_true rfl)) d_O_value_111 ⟨Nat.zero_le _, Nat.zero_le _⟩) hP hD hS hA [0, 1, 2, 3, 4, 5] [] [0, 1, 2, 3, 4, 5] rfl rfl (by decide) (by decide) rfl (by decide) (fun H locs hP hD hS => ?_)
    obtain rfl := Option.some.inj hr
    exact hQ _ _ _ _ _ d_O_value_114 rfl rfl hP hD hS
  rw [if_neg hs1_7] at hr
  have hs1_3 := z_ne (k := 3) (by decide) hs1_3
  have hs1_4 := z_ne (k := 4) (by decide) hs1_4
  have hs1_5 := z_ne (k := 5) (by decide) hs1_5
  have hs1_6 := z_ne (k := 6) (by decide) hs1_6
  have hs1_7 := z_ne (k := 7) (by decide) hs1_7
  refine lv_tableOut hx hb d_O_value_1 (by omega) rfl ?_
  refine lv_aload_n hx hb d_O_value_115 rfl (lv_at hl 0 rfl) ?_
  refine va_get (D := D) (ci := 3) (v := .ref (qV 0)) (C := R_O) (T := T_O) (N := 5) hx hb hts in_O hown hK hP 0 rfl rfl 1 (by decide) (hts _ kw_87) (fun _ h9 => h9) rfl d_O_value_116 ?_
  refine lv_iload_n hx hb d_O_value_119 rfl (lv_at hl 1 rfl) ?_
  refine lv_iload_n hx hb d_O_value_120 rfl (lv_at hl 2 rfl) ?_
  refine lv_iload_n hx hb d_O_value_121 rfl (lv_at hl 3 rfl) ?_
  obtain ⟨r6, hr6, hr⟩ := ob hr
  refine z_ci (ws := (W_OV kI kZ qO qV O_modulus O_valueOf O_isNeeded O_registerOf V_length V_instructions)) (wc := (W_C kI kZ qV V_length V_instructions)) (wr := (W_O kI kZ qO qV O_modulus O_valueOf O_isNeeded O_registerOf)) (w1 := (W_C kI kZ qV r6.2.2 r6.2.1)) (w2 := (W_OV kI kZ qO qV O_modulus O_valueOf O_isNeeded O_registerOf r6.2.2 r6.2.1)) (va_runV (As := [.int a1, .int a2, .int a3]) (rest := []) ⟨hx, hb, hml, hown, hts⟩ (c_C_findOrAppend l D kI kZ qV V_length V_instructions a1 a2 a3 r6 hr6 H.size) (z_cwV hts mw_C_findOrAppend kw_275 ⟨by rw [hR]; exact Nat.le_of_ble_eq_true rfl, by rw [hR]; exact Nat.le_of_ble_eq_true rfl⟩) (z_preV (ci := 0) hK hP hD hN rfl (he := (rfl : _[4]? = _)) [4, 5] (by decide) rfl) rfl rfl hl.1 rfl (lv_room (Nat.le_of_ble_eq_true rfl)) d_O_value_122 ⟨Nat.zero_le _, Nat.zero_le _⟩) hP hD hS hA [4, 5] [0, 1, 2, 3] [0, 1, 2, 3, 4, 5] rfl rfl (by decide) (by decide) rfl (by decide) (fun H locs hP hD hS => ?_)
  obtain rfl := Option.some.inj hr
  exact hQ _ _ _ _ _ d_O_value_125 rfl rfl hP hD hS
set_option maxHeartbeats 4000000 in
set_option maxRecDepth 100000 in
theorem c_C_result (l : Launch) (D : va_G) (kI kZ : ClassId) (qC : Nat → Nat) (C_length : Int32) (C_instructions : Nat → Int32)  (res : Int32) (hr : f_C_result C_length = some res) : zMi l D kI kZ y_C_result prog_2_method_8_code 1 ((some .int)) 0 0 [.ref (qC 0)] (W_C kI kZ qC C_length C_instructions) (W_C kI kZ qC C_length C_instructions) res := by
  refine zMi.of (by decide +kernel) (Nat.le_of_ble_eq_true rfl) ?_
  intro p e R s m args below meth c Q A hR hx hb hml hts hown hA hK hN hQ
  have hown : s.vm.findClass "SquareCode$Code" = some m.cls := hown
  intro ls H hl hP hD hS
  have hl : lv_has ls 1 [(0, .ref (qC 0))] := hl
  rw [f_C_result] at hr
  refine lv_aload_n hx hb d_C_result_0 rfl (lv_at hl 0 rfl) ?_
  refine va_get (D := D) (ci := 0) (v := .int C_length) (C := R_C) (T := T_C) (N := 2) hx hb hts in_C hown hK hP 0 rfl rfl 1 (by decide) (hts _ kw_62) (fun _ h9 => h9) rfl d_C_result_1 ?_
  refine lv_iconst (v := (1 : Int32)) hx hb d_C_result_4 (by decide) ?_
  refine lv_isub hx hb d_C_result_5 ?_
  obtain rfl := Option.some.inj hr
  exact hQ _ _ _ _ _ d_C_result_6 rfl rfl hP hD hS
set_option maxHeartbeats 4000000 in
set_option maxRecDepth 100000 in
theorem c_O_markNeeded (l : Launch) (D : va_G) (kI kZ : ClassId) (qO qV : Nat → Nat) (O_modulus : Int32) (O_valueOf O_isNeeded O_registerOf : Nat → Int32) (V_length : Int32) (V_instructions : Nat → Int32) (a1 : Int32) (res : (Nat → Int32)) (hr : f_O_markNeeded O_isNeeded V_instructions V_length a1 = some res) : zMv l D kI kZ y_O_markNeeded prog_5_method_11_code 4 none 1 21 [.ref (qO 0), .int a1] (W_OV kI kZ qO qV O_modulus O_valueOf O_isNeeded O_registerOf V_length V_instructions) (W_OV kI kZ qO qV O_modulus O_valueOf res O_registerOf V_length V_instructions) := by
  refine zMv.of (by decide +kernel) (Nat.le_of_ble_eq_true rfl) ?_
  intro p e R s m args below meth c Q A hR hx hb hml hts hown hA hK hN hQ
  have hown : s.vm.findClass "SquareCode$Optimiser" = some m.cls := hown
  have hB84 : ∀ (v2 v3 : Int32) (O_isNeeded : Nat → Int32) (k37 : Int32 → (Nat → Int32) → Option ((Nat → Int32))) (hk37 : ∀ (v2 : Int32) (O_isNeeded : Nat → Int32) (H : Heap) (locs : List Loc) (ls : Array Slot), lv_has ls 4 [(0, .ref (qO 0)), (2, .int v2)] → va_P D zCl (W_OV kI kZ qO qV O_modulus O_valueOf O_isNeeded O_registerOf V_length V_instructions) H → va_D A (W_OV kI kZ qO qV O_modulus O_valueOf O_isNeeded O_registerOf V_length V_instructions) → va_S A s.heap H locs → k37 v2 O_isNeeded = some res → W p l e R s m args below meth c H locs 0 0 Q (F0 m 37 ls [])) (H : Heap) (locs : List Loc) (ls : Array Slot), lv_has ls 4 [(0, .ref (qO 0)), (2, .int v2), (3, .int v3)] → va_P D zCl (W_OV kI kZ qO qV O_modulus O_valueOf O_isNeeded O_registerOf V_length V_instructions) H → va_D A (W_OV kI kZ qO qV O_modulus O_valueOf O_isNeeded O_registerOf V_length V_instructions) → va_S A s.heap H locs → f_O_markNeeded_84 V_instructions k37 v2 v3 O_isNeeded = some res → W p l e R s m args below meth c H locs 0 0 Q (F0 m 84 ls []) := by
    intro v2 v3 O_isNeeded k37 hk37 H locs ls hl hP hD hS hr
    rw [f_O_markNeeded_84] at hr
    refine lv_iload_n hx hb d_O_markNeeded_84 rfl (lv_at hl 2 rfl) ?_
    refine lv_iconst (v := (2 : Int32)) hx hb d_O_markNeeded_85 (by decide) ?_
    refine lv_icmp_ne hx hb d_O_markNeeded_86 rfl (fun hc => ?_) (fun hc => ?_)
    · rw [if_neg hc] at hr
      refine lv_iinc (k := 1) (v := (v2 + (-1 : Int32))) (lv' := [(2, .int (v2 + (-1 : Int32))), (0, .ref (qO 0)), (3, .int v3)]) hx hb d_O_markNeeded_103 hl rfl (congrArg (fun z => v2 + z) (by decide : Int32.ofInt (-1) = (-1 : Int32))) (by decide) rfl (fun ls hl => ?_)
      refine lv_goto hx hb d_O_markNeeded_106 rfl ?_
      exact hk37 (v2 + (-1 : Int32)) O_isNeeded _ _ _ (lv_sub hl [1, 0] rfl) hP hD hS hr
    · rw [if_pos hc] at hr
      refine lv_aload_n hx hb d_O_markNeeded_89 rfl (lv_at hl 0 rfl) ?_
      refine va_get (D := D) (ci := 3) (v := .ref (qO 2)) (C := R_O) (T := T_O) (N := 5) hx hb hts in_O hown hK hP 0 rfl rfl 3 (by decide) (hts _ kw_89) (fun _ h9 => h9) rfl d_O_markNeeded_90 ?_
      refine lv_aload_n hx hb d_O_markNeeded_93 rfl (lv_at hl 0 rfl) ?_
      refine va_get (D := D) (ci := 3) (v := .ref (qV 0)) (C := R_O) (T := T_O) (N := 5) hx hb hts in_O hown hK hP 0 rfl rfl 1 (by decide) (hts _ kw_87) (fun _ h9 => h9) rfl d_O_markNeeded_94 ?_
      refine lv_iload_n hx hb d_O_markNeeded_97 rfl (lv_at hl 1 rfl) ?_
      obtain ⟨r1, hr1, hr⟩ := ob hr
      refine z_ci (ws := (W_OV kI kZ qO qV O_modulus O_valueOf O_isNeeded O_registerOf V_length V_instructions)) (wc := (W_C kI kZ qV V_length V_instructions)) (wr := (W_O kI kZ qO qV O_modulus O_valueOf O_isNeeded O_registerOf)) (w1 := (W_C kI kZ qV V_length V_instructions)) (w2 := (W_OV kI kZ qO qV O_modulus O_valueOf O_isNeeded O_registerOf V_length V_instructions)) (va_runV (As := [.int v2]) (rest := [.ref (qO 2)]) ⟨hx, hb, hml, hown, hts⟩ (c_C_second l D kI kZ qV V_length V_instructions v2 r1 hr1 H.size) (z_cwV hts mw_C_second kw_253 ⟨by rw [hR]; exact Nat.le_of_ble_eq_true rfl, by rw [hR]; exact Nat.le_of_ble_eq_true rfl⟩) (z_preV (ci := 0) hK hP hD hN rfl (he := (rfl : _[4]? = _)) [4, 5] (by decide) rfl) rfl rfl hl.1 rfl (lv_room (Nat.le_of_ble_eq_true rfl)) d_O_markNeeded_98 ⟨Nat.zero_le _, Nat.zero_le _⟩) hP hD hS hA [4, 5] [0, 1, 2, 3] [0, 1, 2, 3, 4, 5] rfl rfl (by decide) (by decide) rfl (by decide) (fun H locs hP hD hS => ?_)
      refine lv_iconst (v := (1 : Int32)) hx hb d_O_markNeeded_101 (by decide) ?_
      obtain ⟨hi, hr⟩ := gd_some hr
      refine va_zast hx hb hK hP hD hS 2 1 rfl rfl hi d_O_markNeeded_102 (fun H locs hP hD hS => ?_)
      have hP : va_P D zCl (W_OV kI kZ qO qV O_modulus O_valueOf (upd O_isNeeded r1.toNatClampNeg (vp_nar .boolean (1 : Int32))) O_registerOf V_length V_instructions) H := hP
      have hD : va_D A (W_OV kI kZ qO qV O_modulus O_valueOf (upd O_isNeeded r1.toNatClampNeg (vp_nar .boolean (1 : Int32))) O_registerOf V_length V_instructions) := hD
      refine lv_iinc (k := 1) (v := (v2 + (-1 : Int32))) (lv' := [(2, .int (v2 + (-1 : Int32))), (0, .ref (qO 0)), (3, .int v3)]) hx hb d_O_markNeeded_103 hl rfl (congrArg (fun z => v2 + z) (by decide : Int32.ofInt (-1) = (-1 : Int32))) (by decide) rfl (fun ls hl => ?_)
      refine lv_goto hx hb d_O_markNeeded_106 rfl ?_
      exact hk37 (v2 + (-1 : Int32)) (upd O_isNeeded r1.toNatClampNeg (vp_nar .boolean (1 : Int32))) _ _ _ (lv_sub hl [1, 0] rfl) hP hD hS hr
  have hB37 : ∀ (fu : Nat) (v2 : Int32) (O_isNeeded : Nat → Int32) (H : Heap) (locs : List Loc) (ls : Array Slot), lv_has ls 4 [(0, .ref (qO 0)), (2, .int v2)] → va_P D zCl (W_OV kI kZ qO qV O_modulus O_valueOf O_isNeeded O_registerOf V_length V_instructions) H → va_D A (W_OV kI kZ qO qV O_modulus O_valueOf O_isNeeded O_registerOf V_length V_instructions) → va_S A s.heap H locs → f_O_markNeeded_37 V_instructions fu v2 O_isNeeded = some res → W p l e R s m args below meth c H locs 0 0 Q (F0 m 37 ls []) := by
    intro  fu
    induction fu with
    | zero => intro v2 O_isNeeded H locs ls hl hP hD hS hr; exact absurd hr (by rw [f_O_markNeeded_37]; exact fun h => by cases h)
    | succ fu ih =>
      intro v2 O_isNeeded H locs ls hl hP hD hS hr
      rw [f_O_markNeeded_37] at hr
      refine lv_iload_n hx hb d_O_markNeeded_37 rfl (lv_at hl 1 rfl) ?_
      refine lv_if_lt hx hb d_O_markNeeded_38 rfl (fun hc => ?_) (fun hc => ?_)
      · rw [if_pos hc] at hr
        obtain rfl := Option.some.inj hr
        exact hQ _ _ _ _ d_O_markNeeded_109 hP hD hS
      · rw [if_neg hc] at hr
        refine lv_aload_n hx hb d_O_markNeeded_41 rfl (lv_at hl 0 rfl) ?_
        refine va_get (D := D) (ci := 3) (v := .ref (qO 2)) (C := R_O) (T := T_O) (N := 5) hx hb hts in_O hown hK hP 0 rfl rfl 3 (by decide) (hts _ kw_89) (fun _ h9 => h9) rfl d_O_markNeeded_42 ?_
        refine lv_iload_n hx hb d_O_markNeeded_45 rfl (lv_at hl 1 rfl) ?_
        obtain ⟨hi, hr⟩ := gd_some hr
        refine va_zald hx hb hK hP 2 1 rfl rfl hi d_O_markNeeded_46 ?_
        refine lv_if_ne hx hb d_O_markNeeded_47 rfl (fun hc => ?_) (fun hc => ?_)
        · rw [if_neg hc] at hr
          refine lv_aload_n hx hb d_O_markNeeded_53 rfl (lv_at hl 0 rfl) ?_
          refine va_get (D := D) (ci := 3) (v := .ref (qV 0)) (C := R_O) (T := T_O) (N := 5) hx hb hts in_O hown hK hP 0 rfl rfl 1 (by decide) (hts _ kw_87) (fun _ h9 => h9) rfl d_O_markNeeded_54 ?_
          refine lv_iload_n hx hb d_O_markNeeded_57 rfl (lv_at hl 1 rfl) ?_
          obtain ⟨r2, hr2, hr⟩ := ob hr
          refine z_ci (ws := (W_OV kI kZ qO qV O_modulus O_valueOf O_isNeeded O_registerOf V_length V_instructions)) (wc := (W_C kI kZ qV V_length V_instructions)) (wr := (W_O kI kZ qO qV O_modulus O_valueOf O_isNeeded O_registerOf)) (w1 := (W_C kI kZ qV V_length V_instructions)) (w2 := (W_OV kI kZ qO qV O_modulus O_valueOf O_isNeeded O_registerOf V_length V_instructions)) (va_runV (As := [.int v2]) (rest := []) ⟨hx, hb, hml, hown, hts⟩ (c_C_operation l D kI kZ qV V_length V_instructions v2 r2 hr2 H.size) (z_cwV hts mw_C_operation kw_245 ⟨by rw [hR]; exact Nat.le_of_ble_eq_true rfl, by rw [hR]; exact Nat.le_of_ble_eq_true rfl⟩) (z_preV (ci := 0) hK hP hD hN rfl (he := (rfl : _[4]? = _)) [4, 5] (by decide) rfl) rfl rfl hl.1 rfl (lv_room (Nat.le_of_ble_eq_true rfl)) d_O_markNeeded_58 ⟨Nat.zero_le _, Nat.zero_le _⟩) hP hD hS hA [4, 5] [0, 1, 2, 3] [0, 1, 2, 3, 4, 5] rfl rfl (by decide) (by decide) rfl (by decide) (fun H locs hP hD hS => ?_)
          obtain ⟨r3, hr3, hr⟩ := ob hr
          refine z_ci (ws := (W_OV kI kZ qO qV O_modulus O_valueOf O_isNeeded O_registerOf V_length V_instructions)) (wc := ([] : va_W)) (wr := (W_OV kI kZ qO qV O_modulus O_valueOf O_isNeeded O_registerOf V_length V_instructions)) (w1 := ([] : va_W)) (w2 := (W_OV kI kZ qO qV O_modulus O_valueOf O_isNeeded O_registerOf V_length V_instructions)) (va_runSN (As := [.int r2]) (rest := []) ⟨hx, hb, hml, hown, hts⟩ (c_X_operandsOf l D kI kZ r2 r3 hr3 H.size) (z_cwN hts mw_X_operandsOf (zNestOf 5 hN rfl) ⟨by rw [hR]; exact Nat.le_of_ble_eq_true rfl, by rw [hR]; exact Nat.le_of_ble_eq_true rfl⟩) (z_pre hK hP hD hN [] (by decide) rfl) rfl rfl hl.1 rfl (lv_room (Nat.le_of_ble_eq_true rfl)) d_O_markNeeded_61 ⟨Nat.zero_le _, Nat.zero_le _⟩) hP hD hS hA [] [0, 1, 2, 3, 4, 5] [0, 1, 2, 3, 4, 5] rfl rfl (by decide) (by decide) rfl (by decide) (fun H locs hP hD hS => ?_)
          refine lv_istore_n (lv' := [(3, .int r3), (0, .ref (qO 0)), (2, .int v2)]) hx hb d_O_markNeeded_64 rfl hl (by decide) rfl (fun ls hl => ?_)
          refine lv_iload_n hx hb d_O_markNeeded_65 rfl (lv_at hl 0 rfl) ?_
          refine lv_iconst (v := (1 : Int32)) hx hb d_O_markNeeded_66 (by decide) ?_
          refine lv_icmp_lt hx hb d_O_markNeeded_67 rfl (fun hc => ?_) (fun hc => ?_)
          · rw [if_pos hc] at hr
            exact hB84 v2 r3 O_isNeeded _ ih _ _ _ (lv_sub hl [1, 2, 0] rfl) hP hD hS hr
          · rw [if_neg hc] at hr
            refine lv_aload_n hx hb d_O_markNeeded_70 rfl (lv_at hl 1 rfl) ?_
            refine va_get (D := D) (ci := 3) (v := .ref (qO 2)) (C := R_O) (T := T_O) (N := 5) hx hb hts in_O hown hK hP 0 rfl rfl 3 (by decide) (hts _ kw_89) (fun _ h9 => h9) rfl d_O_markNeeded_71 ?_
            refine lv_aload_n hx hb d_O_markNeeded_74 rfl (lv_at hl 1 rfl) ?_
            refine va_get (D := D) (ci := 3) (v := .ref (qV 0)) (C := R_O) (T := T_O) (N := 5) hx hb hts in_O hown hK hP 0 rfl rfl 1 (by decide) (hts _ kw_87) (fun _ h9 => h9) rfl d_O_markNeeded_75 ?_
            refine lv_iload_n hx hb d_O_markNeeded_78 rfl (lv_at hl 2 rfl) ?_
            obtain ⟨r4, hr4, hr⟩ := ob hr
            refine z_ci (ws := (W_OV kI kZ qO qV O_modulus O_valueOf O_isNeeded O_registerOf V_length V_instructions)) (wc := (W_C kI kZ qV V_length V_instructions)) (wr := (W_O kI kZ qO qV O_modulus O_valueOf O_isNeeded O_registerOf)) (w1 := (W_C kI kZ qV V_length V_instructions)) (w2 := (W_OV kI kZ qO qV O_modulus O_valueOf O_isNeeded O_registerOf V_length V_instructions)) (va_runV (As := [.int v2]) (rest := [.ref (qO 2)]) ⟨hx, hb, hml, hown, hts⟩ (c_C_first l D kI kZ qV V_length V_instructions v2 r4 hr4 H.size) (z_cwV hts mw_C_first kw_249 ⟨by rw [hR]; exact Nat.le_of_ble_eq_true rfl, by rw [hR]; exact Nat.le_of_ble_eq_true rfl⟩) (z_preV (ci := 0) hK hP hD hN rfl (he := (rfl : _[4]? = _)) [4, 5] (by decide) rfl) rfl rfl hl.1 rfl (lv_room (Nat.le_of_ble_eq_true rfl)) d_O_markNeeded_79 ⟨Nat.zero_le _, Nat.zero_le _⟩) hP hD hS hA [4, 5] [0, 1, 2, 3] [0, 1, 2, 3, 4, 5] rfl rfl (by decide) (by decide) rfl (by decide) (fun H locs hP hD hS => ?_)
            refine lv_iconst (v := (1 : Int32)) hx hb d_O_markNeeded_82 (by decide) ?_
            obtain ⟨hi, hr⟩ := gd_some hr
            refine va_zast hx hb hK hP hD hS 2 1 rfl rfl hi d_O_markNeeded_83 (fun H locs hP hD hS => ?_)
            have hP : va_P D zCl (W_OV kI kZ qO qV O_modulus O_valueOf (upd O_isNeeded r4.toNatClampNeg (vp_nar .boolean (1 : Int32))) O_registerOf V_length V_instructions) H := hP
            have hD : va_D A (W_OV kI kZ qO qV O_modulus O_valueOf (upd O_isNeeded r4.toNatClampNeg (vp_nar .boolean (1 : Int32))) O_registerOf V_length V_instructions) := hD
            exact hB84 v2 r3 (upd O_isNeeded r4.toNatClampNeg (vp_nar .boolean (1 : Int32))) _ ih _ _ _ (lv_sub hl [1, 2, 0] rfl) hP hD hS hr
        · rw [if_pos hc] at hr
          refine lv_goto hx hb d_O_markNeeded_50 rfl ?_
          refine lv_iinc (k := 1) (v := (v2 + (-1 : Int32))) (lv' := [(2, .int (v2 + (-1 : Int32))), (0, .ref (qO 0))]) hx hb d_O_markNeeded_103 hl rfl (congrArg (fun z => v2 + z) (by decide : Int32.ofInt (-1) = (-1 : Int32))) (by decide) rfl (fun ls hl => ?_)
          refine lv_goto hx hb d_O_markNeeded_106 rfl ?_
          exact ih (v2 + (-1 : Int32)) O_isNeeded _ _ _ (lv_sub hl [1, 0] rfl) hP hD hS hr
  have hB28 : ∀ (v2 t0 t1 : Int32) (O_isNeeded : Nat → Int32) (k2 : Int32 → (Nat → Int32) → Option ((Nat → Int32))) (hk2 : ∀ (v2 : Int32) (O_isNeeded : Nat → Int32) (H : Heap) (locs : List Loc) (ls : Array Slot), lv_has ls 4 [(0, .ref (qO 0)), (1, .int a1), (2, .int v2)] → va_P D zCl (W_OV kI kZ qO qV O_modulus O_valueOf O_isNeeded O_registerOf V_length V_instructions) H → va_D A (W_OV kI kZ qO qV O_modulus O_valueOf O_isNeeded O_registerOf V_length V_instructions) → va_S A s.heap H locs → k2 v2 O_isNeeded = some res → W p l e R s m args below meth c H locs 0 0 Q (F0 m 2 ls [])) (H : Heap) (locs : List Loc) (ls : Array Slot), lv_has ls 4 [(0, .ref (qO 0)), (1, .int a1), (2, .int v2)] → va_P D zCl (W_OV kI kZ qO qV O_modulus O_valueOf O_isNeeded O_registerOf V_length V_instructions) H → va_D A (W_OV kI kZ qO qV O_modulus O_valueOf O_isNeeded O_registerOf V_length V_instructions) → va_S A s.heap H locs → f_O_markNeeded_28 k2 v2 t0 t1 O_isNeeded = some res → W p l e R s m args below meth c H locs 0 0 Q (F0 m 28 ls [.int t0, .int t1, .ref (qO 2)]) := by
    intro v2 t0 t1 O_isNeeded k2 hk2 H locs ls hl hP hD hS hr
    rw [f_O_markNeeded_28] at hr
    obtain ⟨hi, hr⟩ := gd_some hr
    refine va_zast hx hb hK hP hD hS 2 1 rfl rfl hi d_O_markNeeded_28 (fun H locs hP hD hS => ?_)
    have hP : va_P D zCl (W_OV kI kZ qO qV O_modulus O_valueOf (upd O_isNeeded t1.toNatClampNeg (vp_nar .boolean t0)) O_registerOf V_length V_instructions) H := hP
    have hD : va_D A (W_OV kI kZ qO qV O_modulus O_valueOf (upd O_isNeeded t1.toNatClampNeg (vp_nar .boolean t0)) O_registerOf V_length V_instructions) := hD
    refine lv_iinc (k := 2) (v := (v2 + (1 : Int32))) (lv' := [(2, .int (v2 + (1 : Int32))), (0, .ref (qO 0)), (1, .int a1)]) hx hb d_O_markNeeded_29 hl rfl (congrArg (fun z => v2 + z) (by decide : Int32.ofInt 1 = (1 : Int32))) (by decide) rfl (fun ls hl => ?_)
    refine lv_goto hx hb d_O_markNeeded_32 rfl ?_
    exact hk2 (v2 + (1 : Int32)) (upd O_isNeeded t1.toNatClampNeg (vp_nar .boolean t0)) _ _ _ (lv_sub hl [1, 2, 0] rfl) hP hD hS hr
  have hB2 : ∀ (fu : Nat) (v2 : Int32) (O_isNeeded : Nat → Int32) (H : Heap) (locs : List Loc) (ls : Array Slot), lv_has ls 4 [(0, .ref (qO 0)), (1, .int a1), (2, .int v2)] → va_P D zCl (W_OV kI kZ qO qV O_modulus O_valueOf O_isNeeded O_registerOf V_length V_instructions) H → va_D A (W_OV kI kZ qO qV O_modulus O_valueOf O_isNeeded O_registerOf V_length V_instructions) → va_S A s.heap H locs → f_O_markNeeded_2 V_instructions V_length a1 fu v2 O_isNeeded = some res → W p l e R s m args below meth c H locs 0 0 Q (F0 m 2 ls []) := by
    intro  fu
    induction fu with
    | zero => intro v2 O_isNeeded H locs ls hl hP hD hS hr; exact absurd hr (by rw [f_O_markNeeded_2]; exact fun h => by cases h)
    | succ fu ih =>
      intro v2 O_isNeeded H locs ls hl hP hD hS hr
      rw [f_O_markNeeded_2] at hr
      refine lv_iload_n hx hb d_O_markNeeded_2 rfl (lv_at hl 2 rfl) ?_
      refine lv_aload_n hx hb d_O_markNeeded_3 rfl (lv_at hl 0 rfl) ?_
      refine va_get (D := D) (ci := 3) (v := .ref (qV 0)) (C := R_O) (T := T_O) (N := 5) hx hb hts in_O hown hK hP 0 rfl rfl 1 (by decide) (hts _ kw_87) (fun _ h9 => h9) rfl d_O_markNeeded_4 ?_
      obtain ⟨r5, hr5, hr⟩ := ob hr
      refine z_ci (ws := (W_OV kI kZ qO qV O_modulus O_valueOf O_isNeeded O_registerOf V_length V_instructions)) (wc := (W_C kI kZ qV V_length V_instructions)) (wr := (W_O kI kZ qO qV O_modulus O_valueOf O_isNeeded O_registerOf)) (w1 := (W_C kI kZ qV V_length V_instructions)) (w2 := (W_OV kI kZ qO qV O_modulus O_valueOf O_isNeeded O_registerOf V_length V_instructions)) (va_runV (As := []) (rest := [.int v2]) ⟨hx, hb, hml, hown, hts⟩ (c_C_length l D kI kZ qV V_length V_instructions r5 hr5 H.size) (z_cwV hts mw_C_length kw_244 ⟨by rw [hR]; exact Nat.le_of_ble_eq_true rfl, by rw [hR]; exact Nat.le_of_ble_eq_true rfl⟩) (z_preV (ci := 0) hK hP hD hN rfl (he := (rfl : _[4]? = _)) [4, 5] (by decide) rfl) rfl rfl hl.1 rfl (lv_room (Nat.le_of_ble_eq_true rfl)) d_O_markNeeded_7 ⟨Nat.zero_le _, Nat.zero_le _⟩) hP hD hS hA [4, 5] [0, 1, 2, 3] [0, 1, 2, 3, 4, 5] rfl rfl (by decide) (by decide) rfl (by decide) (fun H locs hP hD hS => ?_)
      refine lv_icmp_ge hx hb d_O_markNeeded_10 rfl (fun hc => ?_) (fun hc => ?_)
      · rw [if_pos hc] at hr
        refine lv_iload_n hx hb d_O_markNeeded_35 rfl (lv_at hl 1 rfl) ?_
        refine lv_istore_n (lv' := [(2, .int a1), (0, .ref (qO 0)), (1, .int a1)]) hx hb d_O_markNeeded_36 rfl hl (by decide) rfl (fun ls hl => ?_)
        exact hB37 zFU a1 O_isNeeded _ _ _ (lv_sub hl [1, 0] rfl) hP hD hS hr
      · rw [if_neg hc] at hr
        refine lv_aload_n hx hb d_O_markNeeded_13 rfl (lv_at hl 0 rfl) ?_
        refine va_get (D := D) (ci := 3) (v := .ref (qO 2)) (C := R_O) (T := T_O) (N := 5) hx hb hts in_O hown hK hP 0 rfl rfl 3 (by decide) (hts _ kw_89) (fun _ h9 => h9) rfl d_O_markNeeded_14 ?_
        refine lv_iload_n hx hb d_O_markNeeded_17 rfl (lv_at hl 2 rfl) ?_
        refine lv_iload_n hx hb d_O_markNeeded_18 rfl (lv_at hl 2 rfl) ?_
        refine lv_iload_n hx hb d_O_markNeeded_19 rfl (lv_at hl 1 rfl) ?_
        refine lv_icmp_ne hx hb d_O_markNeeded_20 rfl (fun hc => ?_) (fun hc => ?_)
        · rw [if_neg hc] at hr
          refine lv_iconst (v := (0 : Int32)) hx hb d_O_markNeeded_27 (by decide) ?_
          exact hB28 v2 (0 : Int32) v2 O_isNeeded _ ih _ _ _ hl hP hD hS hr
        · rw [if_pos hc] at hr
          refine lv_iconst (v := (1 : Int32)) hx hb d_O_markNeeded_23 (by decide) ?_
          refine lv_goto hx hb d_O_markNeeded_24 rfl ?_
          exact hB28 v2 (1 : Int32) v2 O_isNeeded _ ih _ _ _ hl hP hD hS hr
  intro ls H hl hP hD hS
  have hl : lv_has ls 4 [(0, .ref (qO 0)), (1, .int a1)] := hl
  rw [f_O_markNeeded] at hr
  refine lv_iconst (v := (0 : Int32)) hx hb d_O_markNeeded_0 (by decide) ?_
  refine lv_istore_n (lv' := [(2, .int (0 : Int32)), (0, .ref (qO 0)), (1, .int a1)]) hx hb d_O_markNeeded_1 rfl hl (by decide) rfl (fun ls hl => ?_)
  exact hB2 zFU (0 : Int32) O_isNeeded _ _ _ (lv_sub hl [1, 2, 0] rfl) hP hD hS hr
