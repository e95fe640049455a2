set_option maxHeartbeats 4000000 in
set_option maxRecDepth 100000 in
theorem c_C_operation (l : Launch) (D : va_G) (kI kZ : ClassId) (qC : Nat → Nat) (C_length : Int32) (C_instructions : Nat → Int32) (a1 : Int32) (res : Int32) (hr : f_C_operation C_instructions a1 = some res) : zMi l D kI kZ y_C_operation prog_2_method_5_code 2 ((some .int)) 0 0 [.ref (qC 0), .int a1] (W_C kI kZ qC C_length C_instructions) (W_C kI kZ qC C_length C_instructions) res := by
  refine zMi.of (by decide +kernel) (Nat.le_of_ble_eq_true rfl) ?_
  intro p e R s m args below meth c Q A hR hx hb hml hts hown hA hK hN hQ
  have hown : s.vm.findClass "SquareCode$Code" = some m.cls := hown
  intro ls H hl hP hD hS
  have hl : lv_has ls 2 [(0, .ref (qC 0)), (1, .int a1)] := hl
  rw [f_C_operation] at hr
  refine lv_aload_n hx hb d_C_operation_0 rfl (lv_at hl 0 rfl) ?_
  refine va_get (D := D) (ci := 0) (v := .ref (qC 1)) (C := R_C) (T := T_C) (N := 2) hx hb hts in_C hown hK hP 0 rfl rfl 0 (by decide) (hts _ kw_61) (fun _ h9 => h9) rfl d_C_operation_1 ?_
  refine lv_iload_n hx hb d_C_operation_4 rfl (lv_at hl 1 rfl) ?_
  obtain ⟨hi, hr⟩ := gd_some hr
  refine va_iald hx hb hK hP 1 0 rfl rfl hi d_C_operation_5 ?_
  refine lv_sipush (v := (10000 : Int32)) hx hb d_C_operation_6 (by decide) ?_
  refine lv_idiv hx hb d_C_operation_9 (by decide) ?_
  obtain rfl := Option.some.inj hr
  exact hQ _ _ _ _ _ d_C_operation_10 rfl rfl hP hD hS
set_option maxHeartbeats 4000000 in
set_option maxRecDepth 100000 in
theorem c_C_first (l : Launch) (D : va_G) (kI kZ : ClassId) (qC : Nat → Nat) (C_length : Int32) (C_instructions : Nat → Int32) (a1 : Int32) (res : Int32) (hr : f_C_first C_instructions a1 = some res) : zMi l D kI kZ y_C_first prog_2_method_6_code 2 ((some .int)) 0 0 [.ref (qC 0), .int a1] (W_C kI kZ qC C_length C_instructions) (W_C kI kZ qC C_length C_instructions) res := by
  refine zMi.of (by decide +kernel) (Nat.le_of_ble_eq_true rfl) ?_
  intro p e R s m args below meth c Q A hR hx hb hml hts hown hA hK hN hQ
  have hown : s.vm.findClass "SquareCode$Code" = some m.cls := hown
  intro ls H hl hP hD hS
  have hl : lv_has ls 2 [(0, .ref (qC 0)), (1, .int a1)] := hl
  rw [f_C_first] at hr
  refine lv_aload_n hx hb d_C_first_0 rfl (lv_at hl 0 rfl) ?_
  refine va_get (D := D) (ci := 0) (v := .ref (qC 1)) (C := R_C) (T := T_C) (N := 2) hx hb hts in_C hown hK hP 0 rfl rfl 0 (by decide) (hts _ kw_61) (fun _ h9 => h9) rfl d_C_first_1 ?_
  refine lv_iload_n hx hb d_C_first_4 rfl (lv_at hl 1 rfl) ?_
  obtain ⟨hi, hr⟩ := gd_some hr
  refine va_iald hx hb hK hP 1 0 rfl rfl hi d_C_first_5 ?_
  refine lv_bipush (v := (100 : Int32)) hx hb d_C_first_6 (by decide) ?_
  refine lv_idiv hx hb d_C_first_8 (by decide) ?_
  refine lv_bipush (v := (100 : Int32)) hx hb d_C_first_9 (by decide) ?_
  refine z_irem hx hb d_C_first_11 (by decide) ?_
  obtain rfl := Option.some.inj hr
  exact hQ _ _ _ _ _ d_C_first_12 rfl rfl hP hD hS
set_option maxHeartbeats 4000000 in
set_option maxRecDepth 100000 in
theorem c_C_second (l : Launch) (D : va_G) (kI kZ : ClassId) (qC : Nat → Nat) (C_length : Int32) (C_instructions : Nat → Int32) (a1 : Int32) (res : Int32) (hr : f_C_second C_instructions a1 = some res) : zMi l D kI kZ y_C_second prog_2_method_7_code 2 ((some .int)) 0 0 [.ref (qC 0), .int a1] (W_C kI kZ qC C_length C_instructions) (W_C kI kZ qC C_length C_instructions) res := by
  refine zMi.of (by decide +kernel) (Nat.le_of_ble_eq_true rfl) ?_
  intro p e R s m args below meth c Q A hR hx hb hml hts hown hA hK hN hQ
  have hown : s.vm.findClass "SquareCode$Code" = some m.cls := hown
  intro ls H hl hP hD hS
  have hl : lv_has ls 2 [(0, .ref (qC 0)), (1, .int a1)] := hl
  rw [f_C_second] at hr
  refine lv_aload_n hx hb d_C_second_0 rfl (lv_at hl 0 rfl) ?_
  refine va_get (D := D) (ci := 0) (v := .ref (qC 1)) (C := R_C) (T := T_C) (N := 2) hx hb hts in_C hown hK hP 0 rfl rfl 0 (by decide) (hts _ kw_61) (fun _ h9 => h9) rfl d_C_second_1 ?_
  refine lv_iload_n hx hb d_C_second_4 rfl (lv_at hl 1 rfl) ?_
  obtain ⟨hi, hr⟩ := gd_some hr
  refine va_iald hx hb hK hP 1 0 rfl rfl hi d_C_second_5 ?_
  refine lv_bipush (v := (100 : Int32)) hx hb d_C_second_6 (by decide) ?_
  refine z_irem hx hb d_C_second_8 (by decide) ?_
  obtain rfl := Option.some.inj hr
  exact hQ _ _ _ _ _ d_C_second_9 rfl rfl hP hD hS
set_option maxHeartbeats 4000000 in
set_option maxRecDepth 100000 in
theorem c_O_is (l : Launch) (D : va_G) (kI kZ : ClassId) (qO qV : Nat → Nat) (O_modulus : Int32) (O_valueOf O_isNeeded O_registerOf : Nat → Int32) (V_length : Int32) (V_instructions : Nat → Int32) (a1 a2 : Int32) (res : Int32) (hr : f_O_is V_instructions a1 a2 = some res) : zMi l D kI kZ y_O_is prog_5_method_4_code 3 ((some .boolean)) 1 21 [.ref (qO 0), .int a1, .int a2] (W_OV kI kZ qO qV O_modulus O_valueOf O_isNeeded O_registerOf V_length V_instructions) (W_OV kI kZ qO qV O_modulus O_valueOf O_isNeeded O_registerOf V_length V_instructions) res := by
  refine zMi.of (by decide +kernel) (Nat.le_of_ble_eq_true rfl) ?_
  intro p e R s m args below meth c Q A hR hx hb hml hts hown hA hK hN hQ
  have hown : s.vm.findClass "SquareCode$Optimiser" = some m.cls := hown
  intro ls H hl hP hD hS
  have hl : lv_has ls 3 [(0, .ref (qO 0)), (1, .int a1), (2, .int a2)] := hl
  rw [f_O_is] at hr
  refine lv_aload_n hx hb d_O_is_0 rfl (lv_at hl 0 rfl) ?_
  refine va_get (D := D) (ci := 3) (v := .ref (qV 0)) (C := R_O) (T := T_O) (N := 5) hx hb hts in_O hown hK hP 0 rfl rfl 1 (by decide) (hts _ kw_87) (fun _ h9 => h9) rfl d_O_is_1 ?_
  refine lv_iload_n hx hb d_O_is_4 rfl (lv_at hl 2 rfl) ?_
  obtain ⟨r1, hr1, hr⟩ := ob hr
  refine z_ci (ws := (W_OV kI kZ qO qV O_modulus O_valueOf O_isNeeded O_registerOf V_length V_instructions)) (wc := (W_C kI kZ qV V_length V_instructions)) (wr := (W_O kI kZ qO qV O_modulus O_valueOf O_isNeeded O_registerOf)) (w1 := (W_C kI kZ qV V_length V_instructions)) (w2 := (W_OV kI kZ qO qV O_modulus O_valueOf O_isNeeded O_registerOf V_length V_instructions)) (va_runV (As := [.int a2]) (rest := []) ⟨hx, hb, hml, hown, hts⟩ (c_C_operation l D kI kZ qV V_length V_instructions a2 r1 hr1 H.size) (z_cwV hts mw_C_operation kw_245 ⟨by rw [hR]; exact Nat.le_of_ble_eq_true rfl, by rw [hR]; exact Nat.le_of_ble_eq_true rfl⟩) (z_preV (ci := 0) hK hP hD hN rfl (he := (rfl : _[4]? = _)) [4, 5] (by decide) rfl) rfl rfl hl.1 rfl (lv_room (Nat.le_of_ble_eq_true rfl)) d_O_is_5 ⟨Nat.zero_le _, Nat.zero_le _⟩) hP hD hS hA [4, 5] [0, 1, 2, 3] [0, 1, 2, 3, 4, 5] rfl rfl (by decide) (by decide) rfl (by decide) (fun H locs hP hD hS => ?_)
  refine lv_iload_n hx hb d_O_is_8 rfl (lv_at hl 1 rfl) ?_
  refine lv_icmp_ne hx hb d_O_is_9 rfl (fun hc => ?_) (fun hc => ?_)
  · rw [if_neg hc] at hr
    refine lv_iconst (v := (0 : Int32)) hx hb d_O_is_16 (by decide) ?_
    obtain rfl := Option.some.inj hr
    exact hQ _ _ _ _ _ d_O_is_17 (by decide +kernel) rfl hP hD hS
  · rw [if_pos hc] at hr
    refine lv_iconst (v := (1 : Int32)) hx hb d_O_is_12 (by decide) ?_
    refine lv_goto hx hb d_O_is_13 rfl ?_
    obtain rfl := Option.some.inj hr
    exact hQ _ _ _ _ _ d_O_is_17 (by decide +kernel) rfl hP hD hS
set_option maxHeartbeats 4000000 in
set_option maxRecDepth 100000 in
theorem c_C_findOrAppend (l : Launch) (D : va_G) (kI kZ : ClassId) (qC : Nat → Nat) (C_length : Int32) (C_instructions : Nat → Int32) (a1 a2 a3 : Int32) (res : Int32 × (Nat → Int32) × Int32) (hr : f_C_findOrAppend C_instructions C_length a1 a2 a3 = some res) : zMi l D kI kZ y_C_findOrAppend prog_2_method_11_code 6 ((some .int)) 2 45 [.ref (qC 0), .int a1, .int a2, .int a3] (W_C kI kZ qC C_length C_instructions) (W_C kI kZ qC (res.2.2) (res.2.1)) (res.1) := by
  refine zMi.of (by decide +kernel) (Nat.le_of_ble_eq_true rfl) ?_
  intro p e R s m args below meth c Q A hR hx hb hml hts hown hA hK hN hQ
  have hown : s.vm.findClass "SquareCode$Code" = some m.cls := hown
  have hB11 : ∀ (v4 : Int32) (C_instructions : Nat → Int32) (C_length : Int32)   (fu : Nat) (v5 : Int32) (H : Heap) (locs : List Loc) (ls : Array Slot), lv_has ls 6 [(0, .ref (qC 0)), (1, .int a1), (2, .int a2), (3, .int a3), (4, .int v4), (5, .int v5)] → va_P D zCl (W_C kI kZ qC C_length C_instructions) H → va_D A (W_C kI kZ qC C_length C_instructions) → va_S A s.heap H locs → f_C_findOrAppend_11 a1 a2 a3 v4 C_instructions C_length fu v5 = some res → W p l e R s m args below meth c H locs 0 0 Q (F0 m 11 ls []) := by
    intro v4 C_instructions C_length fu
    induction fu with
    | zero => intro v5 H locs ls hl hP hD hS hr; exact absurd hr (by rw [f_C_findOrAppend_11]; exact fun h => by cases h)
    | succ fu ih =>
      intro v5 H locs ls hl hP hD hS hr
      rw [f_C_findOrAppend_11] at hr
      refine lv_iload hx hb d_C_findOrAppend_11 (lv_at hl 5 rfl) ?_
      refine lv_aload_n hx hb d_C_findOrAppend_13 rfl (lv_at hl 0 rfl) ?_
      refine va_get (D := D) (ci := 0) (v := .int C_length) (C := R_C) (T := T_C) (N := 2) hx hb hts in_C hown hK hP 0 rfl rfl 1 (by decide) (hts _ kw_62) (fun _ h9 => h9) rfl d_C_findOrAppend_14 ?_
      refine lv_icmp_ge hx hb d_C_findOrAppend_17 rfl (fun hc => ?_) (fun hc => ?_)
      · rw [if_pos hc] at hr
        refine lv_aload_n hx hb d_C_findOrAppend_41 rfl (lv_at hl 0 rfl) ?_
        refine lv_iload_n hx hb d_C_findOrAppend_42 rfl (lv_at hl 1 rfl) ?_
        refine lv_iload_n hx hb d_C_findOrAppend_43 rfl (lv_at hl 2 rfl) ?_
        refine lv_iload_n hx hb d_C_findOrAppend_44 rfl (lv_at hl 3 rfl) ?_
        obtain ⟨r1, hr1, hr⟩ := ob hr
        refine z_ci (ws := (W_C kI kZ qC C_length C_instructions)) (wc := (W_C kI kZ qC C_length C_instructions)) (wr := ([] : va_W)) (w1 := (W_C kI kZ qC r1.2.2 r1.2.1)) (w2 := (W_C kI kZ qC r1.2.2 r1.2.1)) (va_runV (As := [.int a1, .int a2, .int a3]) (rest := []) ⟨hx, hb, hml, hown, hts⟩ (c_C_append l D kI kZ qC C_length C_instructions a1 a2 a3 r1 hr1 H.size) (z_cwV hts mw_C_append kw_279 ⟨by rw [hR]; exact Nat.le_of_ble_eq_true rfl, by rw [hR]; exact Nat.le_of_ble_eq_true rfl⟩) (z_preV (ci := 0) hK hP hD hN rfl (he := (rfl : _[0]? = _)) [0, 1] (by decide) rfl) rfl rfl hl.1 rfl (lv_room (Nat.le_of_ble_eq_true rfl)) d_C_findOrAppend_45 ⟨Nat.zero_le _, Nat.zero_le _⟩) hP hD hS hA [0, 1] [] [0, 1] rfl rfl (by decide) (by decide) rfl (by decide) (fun H locs hP hD hS => ?_)
        obtain rfl := Option.some.inj hr
        exact hQ _ _ _ _ _ d_C_findOrAppend_48 rfl rfl hP hD hS
      · rw [if_neg hc] at hr
        refine lv_aload_n hx hb d_C_findOrAppend_20 rfl (lv_at hl 0 rfl) ?_
        refine va_get (D := D) (ci := 0) (v := .ref (qC 1)) (C := R_C) (T := T_C) (N := 2) hx hb hts in_C hown hK hP 0 rfl rfl 0 (by decide) (hts _ kw_61) (fun _ h9 => h9) rfl d_C_findOrAppend_21 ?_
        refine lv_iload hx hb d_C_findOrAppend_24 (lv_at hl 5 rfl) ?_
        obtain ⟨hi, hr⟩ := gd_some hr
        refine va_iald hx hb hK hP 1 0 rfl rfl hi d_C_findOrAppend_26 ?_
        refine lv_iload hx hb d_C_findOrAppend_27 (lv_at hl 4 rfl) ?_
        refine lv_icmp_ne hx hb d_C_findOrAppend_29 rfl (fun hc => ?_) (fun hc => ?_)
        · rw [if_neg hc] at hr
          refine lv_iinc (k := 5) (v := (v5 + (1 : Int32))) (lv' := [(5, .int (v5 + (1 : Int32))), (0, .ref (qC 0)), (1, .int a1), (2, .int a2), (3, .int a3), (4, .int v4)]) hx hb d_C_findOrAppend_35 hl rfl (congrArg (fun z => v5 + z) (by decide : Int32.ofInt 1 = (1 : Int32))) (by decide) rfl (fun ls hl => ?_)
          refine lv_goto hx hb d_C_findOrAppend_38 rfl ?_
          exact ih (v5 + (1 : Int32)) _ _ _ (lv_sub hl [1, 2, 3, 4, 5, 0] rfl) hP hD hS hr
        · rw [if_pos hc] at hr
          refine lv_iload hx hb d_C_findOrAppend_32 (lv_at hl 5 rfl) ?_
          obtain rfl := Option.some.inj hr
          exact hQ _ _ _ _ _ d_C_findOrAppend_34 rfl rfl hP hD hS
  intro ls H hl hP hD hS
  have hl : lv_has ls 6 [(0, .ref (qC 0)), (1, .int a1), (2, .int a2), (3, .int a3)] := hl
  rw [f_C_findOrAppend] at hr
  refine lv_iload_n hx hb d_C_findOrAppend_0 rfl (lv_at hl 1 rfl) ?_
  refine lv_iload_n hx hb d_C_findOrAppend_1 rfl (lv_at hl 2 rfl) ?_
  refine lv_iload_n hx hb d_C_findOrAppend_2 rfl (lv_at hl 3 rfl) ?_
  obtain ⟨r2, hr2, hr⟩ := ob hr
  refine z_ci (ws := (W_C kI kZ qC C_length C_instructions)) (wc := ([] : va_W)) (wr := (W_C kI kZ qC C_length C_instructions)) (w1 := ([] : va_W)) (w2 := (W_C kI kZ qC C_length C_instructions)) (va_runS (As := [.int a1, .int a2, .int a3]) (rest := []) ⟨hx, hb, hml, hown, hts⟩ (c_C_packed l D kI kZ a1 a2 a3 r2 hr2 H.size) (z_cwS hts mw_C_packed kw_225 ⟨by rw [hR]; exact Nat.le_of_ble_eq_true rfl, by rw [hR]; exact Nat.le_of_ble_eq_true rfl⟩) (z_pre hK hP hD hN [] (by decide) rfl) rfl rfl hl.1 rfl (lv_room (Nat.le_of_ble_eq_true rfl)) d_C_findOrAppend_3 ⟨Nat.zero_le _, Nat.zero_le _⟩) hP hD hS hA [] [0, 1] [0, 1] rfl rfl (by decide) (by decide) rfl (by decide) (fun H locs hP hD hS => ?_)
  refine lv_istore (lv' := [(4, .int r2), (0, .ref (qC 0)), (1, .int a1), (2, .int a2), (3, .int a3)]) hx hb d_C_findOrAppend_6 hl (by decide) rfl (fun ls hl => ?_)
  refine lv_iconst (v := (0 : Int32)) hx hb d_C_findOrAppend_8 (by decide) ?_
  refine lv_istore (lv' := [(5, .int (0 : Int32)), (4, .int r2), (0, .ref (qC 0)), (1, .int a1), (2, .int a2), (3, .int a3)]) hx hb d_C_findOrAppend_9 hl (by decide) rfl (fun ls hl => ?_)
  exact hB11 r2 C_instructions C_length zFU (0 : Int32) _ _ _ (lv_sub hl [2, 3, 4, 5, 1, 0] rfl) hP hD hS hr
set_option maxHeartbeats 4000000 in
set_option maxRecDepth 100000 in
theorem c_O_sum (l : Launch) (D : va_G) (kI kZ : ClassId) (qO qV : Nat → Nat) (O_modulus : Int32) (O_valueOf O_isNeeded O_registerOf : Nat → Int32) (V_length : Int32) (V_instructions : Nat → Int32) (a1 a2 : Int32) (res : Int32 × (Nat → Int32) × Int32) (hr : f_O_sum V_instructions V_length a1 a2 = some res) : zMi l D kI kZ y_O_sum prog_5_method_6_code 3 ((some .int)) 3 70 [.ref (qO 0), .int a1, .int a2] (W_OV kI kZ qO qV O_modulus O_valueOf O_isNeeded O_registerOf V_length V_instructions) (W_OV kI kZ qO qV O_modulus O_valueOf O_isNeeded O_registerOf (res.2.2) (res.2.1)) (res.1) := by
  refine zMi.of (by decide +kernel) (Nat.le_of_ble_eq_true rfl) ?_
  intro p e R s m args below meth c Q A hR hx hb hml hts hown hA hK hN hQ
  have hown : s.vm.findClass "SquareCode$Optimiser" = some m.cls := hown
  intro ls H hl hP hD hS
  have hl : lv_has ls 3 [(0, .ref (qO 0)), (1, .int a1), (2, .int a2)] := hl
  rw [f_O_sum] at hr
  refine lv_aload_n hx hb d_O_sum_0 rfl (lv_at hl 0 rfl) ?_
  refine lv_iconst (v := (2 : Int32)) hx hb d_O_sum_1 (by decide) ?_
  refine lv_iload_n hx hb d_O_sum_2 rfl (lv_at hl 2 rfl) ?_
  obtain ⟨r1, hr1, hr⟩ := ob hr
  refine z_ci (ws := (W_OV kI kZ qO qV O_modulus O_valueOf O_isNeeded O_registerOf V_length V_instructions)) (wc := (W_OV kI kZ qO qV O_modulus O_valueOf O_isNeeded O_registerOf V_length V_instructions)) (wr := ([] : va_W)) (w1 := (W_OV kI kZ qO qV O_modulus O_valueOf O_isNeeded O_registerOf V_length V_instructions)) (w2 := (W_OV kI kZ qO qV O_modulus O_valueOf O_isNeeded O_registerOf V_length V_instructions)) (va_runV (As := [.int (2 : Int32), .int a2]) (rest := []) ⟨hx, hb, hml, hown, hts⟩ (c_O_is l D kI kZ qO qV O_modulus O_valueOf O_isNeeded O_registerOf V_length V_instructions (2 : Int32) a2 r1 hr1 H.size) (z_cwV hts mw_O_is kw_265 ⟨by rw [hR]; exact Nat.le_of_ble_eq_true rfl, by rw [hR]; exact Nat.le_of_ble_eq_true rfl⟩) (z_preV (ci := 3) hK hP hD hN rfl (he := (rfl : _[0]? = _)) [0, 1, 2, 3, 4, 5] (by decide) rfl) rfl rfl hl.1 rfl (lv_room (Nat.le_of_ble_eq_true rfl)) d_O_sum_3 ⟨Nat.zero_le _, Nat.zero_le _⟩) hP hD hS hA [0, 1, 2, 3, 4, 5] [] [0, 1, 2, 3, 4, 5] rfl rfl (by decide) (by decide) rfl (by decide) (fun H locs hP hD hS => ?_)
  refine lv_if_eq hx hb d_O_sum_6 rfl (fun hc => ?_) (fun hc => ?_)
  · rw [if_pos hc] at hr
    refine lv_aload_n hx hb d_O_sum_11 rfl (lv_at hl 0 rfl) ?_
    refine lv_iconst (v := (2 : Int32)) hx hb d_O_sum_12 (by decide) ?_
    refine lv_iload_n hx hb d_O_sum_13 rfl (lv_at hl 1 rfl) ?_
    obtain ⟨r2, hr2, hr⟩ := ob hr
    refine z_ci (ws := (W_OV kI kZ qO qV O_modulus O_valueOf O_isNeeded O_registerOf V_length V_instructions)) (wc := (W_OV kI kZ qO qV O_modulus O_valueOf O_isNeeded O_registerOf V_length V_instructions)) (wr := ([] : va_W)) (w1 := (W_OV kI kZ qO qV O_modulus O_valueOf O_isNeeded O_registerOf V_length V_instructions)) (w2 := (W_OV kI kZ qO qV O_modulus O_valueOf O_isNeeded O_registerOf V_length V_instructions)) (va_runV (As := [.int (2 : Int32), .int a1]) (rest := []) ⟨hx, hb, hml, hown, hts⟩ (c_O_is l D kI kZ qO qV O_modulus O_valueOf O_isNeeded O_registerOf V_length V_instructions (2 : Int32) a1 r2 hr2 H.size) (z_cwV hts mw_O_is kw_265 ⟨by rw [hR]; exact Nat.le_of_ble_eq_true rfl, by rw [hR]; exact Nat.le_of_ble_eq_true rfl⟩) (z_preV (ci := 3) hK hP hD hN rfl (he := (rfl : _[0]? = _)) [0, 1, 2, 3, 4, 5] (by decide) rfl) rfl rfl hl.1 rfl (lv_room (Nat.le_of_ble_eq_true rfl)) d_O_sum_14 ⟨Nat.zero_le _, Nat.zero_le _⟩) hP hD hS hA [0, 1, 2, 3, 4, 5] [] [0, 1, 2, 3, 4, 5] rfl rfl (by decide) (by decide) rfl (by decide) (fun H locs hP hD hS => ?_)
    refine lv_if_eq hx hb d_O_sum_17 rfl (fun hc => ?_) (fun hc => ?_)
    · rw [if_pos hc] at hr
      refine lv_aload_n hx hb d_O_sum_22 rfl (lv_at hl 0 rfl) ?_
      refine va_get (D := D) (ci := 3) (v := .ref (qV 0)) (C := R_O) (T := T_O) (N := 5) hx hb hts in_O hown hK hP 0 rfl rfl 1 (by decide) (hts _ kw_87) (fun _ h9 => h9) rfl d_O_sum_23 ?_
      refine lv_iconst (v := (3 : Int32)) hx hb d_O_sum_26 (by decide) ?_
      refine lv_iload_n hx hb d_O_sum_27 rfl (lv_at hl 1 rfl) ?_
      refine lv_iload_n hx hb d_O_sum_28 rfl (lv_at hl 2 rfl) ?_
      refine z_min hx hb (hml.trans hl.1.symm) hown (hts _ kw_269) (hts _ kw_270) (hts _ kw_8) (hts _ kw_271) (by rw [hR]; exact Nat.le_of_ble_eq_true rfl) (by rw [hR]; exact Nat.le_of_ble_eq_true rfl) (Nat.zero_le _) (Nat.zero_le _) d_O_sum_29 ?_
      refine lv_iload_n hx hb d_O_sum_32 rfl (lv_at hl 1 rfl) ?_
      refine lv_iload_n hx hb d_O_sum_33 rfl (lv_at hl 2 rfl) ?_
      refine z_max hx hb (hml.trans hl.1.symm) hown (hts _ kw_272) (hts _ kw_273) (hts _ kw_8) (hts _ kw_274) (by rw [hR]; exact Nat.le_of_ble_eq_true rfl) (by rw [hR]; exact Nat.le_of_ble_eq_true rfl) (Nat.zero_le _) (Nat.zero_le _) d_O_sum_34 ?_
      obtain ⟨r3, hr3, hr⟩ := ob hr
      refine z_ci (ws := (W_OV kI kZ qO qV O_modulus O_valueOf O_isNeeded O_registerOf V_length V_instructions)) (wc := (W_C kI kZ qV V_length V_instructions)) (wr := (W_O kI kZ qO qV O_modulus O_valueOf O_isNeeded O_registerOf)) (w1 := (W_C kI kZ qV r3.2.2 r3.2.1)) (w2 := (W_OV kI kZ qO qV O_modulus O_valueOf O_isNeeded O_registerOf r3.2.2 r3.2.1)) (va_runV (As := [.int (3 : Int32), .int (zmin a1 a2), .int (zmax a1 a2)]) (rest := []) ⟨hx, hb, hml, hown, hts⟩ (c_C_findOrAppend l D kI kZ qV V_length V_instructions (3 : Int32) (zmin a1 a2) (zmax a1 a2) r3 hr3 H.size) (z_cwV hts mw_C_findOrAppend kw_275 ⟨by rw [hR]; exact Nat.le_of_ble_eq_true rfl, by rw [hR]; exact Nat.le_of_ble_eq_true rfl⟩) (z_preV (ci := 0) hK hP hD hN rfl (he := (rfl : _[4]? = _)) [4, 5] (by decide) rfl) rfl rfl hl.1 rfl (lv_room (Nat.le_of_ble_eq_true rfl)) d_O_sum_37 ⟨Nat.zero_le _, Nat.zero_le _⟩) hP hD hS hA [4, 5] [0, 1, 2, 3] [0, 1, 2, 3, 4, 5] rfl rfl (by decide) (by decide) rfl (by decide) (fun H locs hP hD hS => ?_)
      obtain rfl := Option.some.inj hr
      exact hQ _ _ _ _ _ d_O_sum_40 rfl rfl hP hD hS
    · rw [if_neg hc] at hr
      refine lv_iload_n hx hb d_O_sum_20 rfl (lv_at hl 2 rfl) ?_
      obtain rfl := Option.some.inj hr
      exact hQ _ _ _ _ _ d_O_sum_21 rfl rfl hP hD hS
  · rw [if_neg hc] at hr
    refine lv_iload_n hx hb d_O_sum_9 rfl (lv_at hl 1 rfl) ?_
    obtain rfl := Option.some.inj hr
    exact hQ _ _ _ _ _ d_O_sum_10 rfl rfl hP hD hS
set_option maxHeartbeats 4000000 in
set_option maxRecDepth 100000 in
theorem c_O_nought (l : Launch) (D : va_G) (kI kZ : ClassId) (qO qV : Nat → Nat) (O_modulus : Int32) (O_valueOf O_isNeeded O_registerOf : Nat → Int32) (V_length : Int32) (V_instructions : Nat → Int32)  (res : Int32 × (Nat → Int32) × Int32) (hr : f_O_nought V_instructions V_length = some res) : zMi l D kI kZ y_O_nought prog_5_method_5_code 1 ((some .int)) 3 70 [.ref (qO 0)] (W_OV kI kZ qO qV O_modulus O_valueOf O_isNeeded O_registerOf V_length V_instructions) (W_OV kI kZ qO qV O_modulus O_valueOf O_isNeeded O_registerOf (res.2.2) (res.2.1)) (res.1) := by
  refine zMi.of (by decide +kernel) (Nat.le_of_ble_eq_true rfl) ?_
  intro p e R s m args below meth c Q A hR hx hb hml hts hown hA hK hN hQ
  have hown : s.vm.findClass "SquareCode$Optimiser" = some m.cls := hown
  intro ls H hl hP hD hS
  have hl : lv_has ls 1 [(0, .ref (qO 0))] := hl
  rw [f_O_nought] at hr
  refine lv_aload_n hx hb d_O_nought_0 rfl (lv_at hl 0 rfl) ?_
  refine va_get (D := D) (ci := 3) (v := .ref (qV 0)) (C := R_O) (T := T_O) (N := 5) hx hb hts in_O hown hK hP 0 rfl rfl 1 (by decide) (hts _ kw_87) (fun _ h9 => h9) rfl d_O_nought_1 ?_
  refine lv_iconst (v := (2 : Int32)) hx hb d_O_nought_4 (by decide) ?_
  refine lv_iconst (v := (0 : Int32)) hx hb d_O_nought_5 (by decide) ?_
  refine lv_iconst (v := (0 : Int32)) hx hb d_O_nought_6 (by decide) ?_
  obtain ⟨r1, hr1, hr⟩ := ob hr
  refine z_ci (ws := (W_OV kI kZ qO qV O_modulus O_valueOf O_isNeeded O_registerOf V_length V_instructions)) (wc := (W_C kI kZ qV V_length V_instructions)) (wr := (W_O kI kZ qO qV O_modulus O_valueOf O_isNeeded O_registerOf)) (w1 := (W_C kI kZ qV r1.2.2 r1.2.1)) (w2 := (W_OV kI kZ qO qV O_modulus O_valueOf O_isNeeded O_registerOf r1.2.2 r1.2.1)) (va_runV (As := [.int (2 : Int32), .int (0 : Int32), .int (0 : Int32)]) (rest := []) ⟨hx, hb, hml, hown, hts⟩ (c_C_findOrAppend l D kI kZ qV V_length V_instructions (2 : Int32) (0 : Int32) (0 : Int32) r1 hr1 H.size) (z_cwV hts mw_C_findOrAppend kw_275 ⟨by rw [hR]; exact Nat.le_of_ble_eq_true rfl, by rw [hR]; exact Nat.le_of_ble_eq_true rfl⟩) (z_preV (ci := 0) hK hP hD hN rfl (he := (rfl : _[4]? = _)) [4, 5] (by decide) rfl) rfl rfl hl.1 rfl (lv_room (Nat.le_of_ble_eq_true rfl)) d_O_nought_7 ⟨Nat.zero_le _, Nat.zero_le _⟩) hP hD hS hA [4, 5] [0, 1, 2, 3] [0, 1, 2, 3, 4, 5] rfl rfl (by decide) (by decide) rfl (by decide) (fun H locs hP hD hS => ?_)
  obtain rfl := Option.some.inj hr
  exact hQ _ _ _ _ _ d_O_nought_10 rfl rfl hP hD hS
set_option maxHeartbeats 4000000 in
set_option maxRecDepth 100000 in
theorem c_O_difference (l : Launch) (D : va_G) (kI kZ : ClassId) (qO qV : Nat → Nat) (O_modulus : Int32) (O_valueOf O_isNeeded O_registerOf : Nat → Int32) (V_length : Int32) (V_instructions : Nat → Int32) (a1 a2 : Int32) (res : Int32 × (Nat → Int32) × Int32) (hr : f_O_difference V_instructions V_length a1 a2 = some res) : zMi l D kI kZ y_O_difference prog_5_method_7_code 3 ((some .int)) 4 90 [.ref (qO 0), .int a1, .int a2] (W_OV kI kZ qO qV O_modulus O_valueOf O_isNeeded O_registerOf V_length V_instructions) (W_OV kI kZ qO qV O_modulus O_valueOf O_isNeeded O_registerOf (res.2.2) (res.2.1)) (res.1) := by
  refine zMi.of (by decide +kernel) (Nat.le_of_ble_eq_true rfl) ?_
  intro p e R s m args below meth c Q A hR hx hb hml hts hown hA hK hN hQ
  have hown : s.vm.findClass "SquareCode$Optimiser" = some m.cls := hown
  intro ls H hl hP hD hS
  have hl : lv_has ls 3 [(0, .ref (qO 0)), (1, .int a1), (2, .int a2)] := hl
  rw [f_O_difference] at hr
  refine lv_aload_n hx hb d_O_difference_0 rfl (lv_at hl 0 rfl) ?_
  refine lv_iconst (v := (2 : Int32)) hx hb d_O_difference_1 (by decide) ?_
  refine lv_iload_n hx hb d_O_difference_2 rfl (lv_at hl 2 rfl) ?_
  obtain ⟨r1, hr1, hr⟩ := ob hr
  refine z_ci (ws := (W_OV kI kZ qO qV O_modulus O_valueOf O_isNeeded O_registerOf V_length V_instructions)) (wc := (W_OV kI kZ qO qV O_modulus O_valueOf O_isNeeded O_registerOf V_length V_instructions)) (wr := ([] : va_W)) (w1 := (W_OV kI kZ qO qV O_modulus O_valueOf O_isNeeded O_registerOf V_length V_instructions)) (w2 := (W_OV kI kZ qO qV O_modulus O_valueOf O_isNeeded O_registerOf V_length V_instructions)) (va_runV (As := [.int (2 : Int32), .int a2]) (rest := []) ⟨hx, hb, hml, hown, hts⟩ (c_O_is l D kI kZ qO qV O_modulus O_valueOf O_isNeeded O_registerOf V_length V_instructions (2 : Int32) a2 r1 hr1 H.size) (z_cwV hts mw_O_is kw_265 ⟨by rw [hR]; exact Nat.le_of_ble_eq_true rfl, by rw [hR]; exact Nat.le_of_ble_eq_true rfl⟩) (z_preV (ci := 3) hK hP hD hN rfl (he := (rfl : _[0]? = _)) [0, 1, 2, 3, 4, 5] (by decide) rfl) rfl rfl hl.1 rfl (lv_room (Nat.le_of_ble_eq_true rfl)) d_O_difference_3 ⟨Nat.zero_le _, Nat.zero_le _⟩) hP hD hS hA [0, 1, 2, 3, 4, 5] [] [0, 1, 2, 3, 4, 5] rfl rfl (by decide) (by decide) rfl (by decide) (fun H locs hP hD hS => ?_)
  refine lv_if_eq hx hb d_O_difference_6 rfl (fun hc => ?_) (fun hc => ?_)
  · rw [if_pos hc] at hr
    refine lv_iload_n hx hb d_O_difference_11 rfl (lv_at hl 1 rfl) ?_
    refine lv_iload_n hx hb d_O_difference_12 rfl (lv_at hl 2 rfl) ?_
    refine lv_icmp_ne hx hb d_O_difference_13 rfl (fun hc => ?_) (fun hc => ?_)
    · rw [if_neg hc] at hr
      refine lv_aload_n hx hb d_O_difference_21 rfl (lv_at hl 0 rfl) ?_
      refine va_get (D := D) (ci := 3) (v := .ref (qV 0)) (C := R_O) (T := T_O) (N := 5) hx hb hts in_O hown hK hP 0 rfl rfl 1 (by decide) (hts _ kw_87) (fun _ h9 => h9) rfl d_O_difference_22 ?_
      refine lv_iconst (v := (4 : Int32)) hx hb d_O_difference_25 (by decide) ?_
      refine lv_iload_n hx hb d_O_difference_26 rfl (lv_at hl 1 rfl) ?_
      refine lv_iload_n hx hb d_O_difference_27 rfl (lv_at hl 2 rfl) ?_
      obtain ⟨r2, hr2, hr⟩ := ob hr
      refine z_ci (ws := (W_OV kI kZ qO qV O_modulus O_valueOf O_isNeeded O_registerOf V_length V_instructions)) (wc := (W_C kI kZ qV V_length V_instructions)) (wr := (W_O kI kZ qO qV O_modulus O_valueOf O_isNeeded O_registerOf)) (w1 := (W_C kI kZ qV r2.2.2 r2.2.1)) (w2 := (W_OV kI kZ qO qV O_modulus O_valueOf O_isNeeded O_registerOf r2.2.2 r2.2.1)) (va_runV (As := [.int (4 : Int32), .int a1, .int a2]) (rest := []) ⟨hx, hb, hml, hown, hts⟩ (c_C_findOrAppend l D kI kZ qV V_length V_instructions (4 : Int32) a1 a2 r2 hr2 H.size) (z_cwV hts mw_C_findOrAppend kw_275 ⟨by rw [hR]; exact Nat.le_of_ble_eq_true rfl, by rw [hR]; exact Nat.le_of_ble_eq_true rfl⟩) (z_preV (ci := 0) hK hP hD hN rfl (he := (rfl : _[4]? = _)) [4, 5] (by decide) rfl) rfl rfl hl.1 rfl (lv_room (Nat.le_of_ble_eq_true rfl)) d_O_difference_28 ⟨Nat.zero_le _, Nat.zero_le _⟩) hP hD hS hA [4, 5] [0, 1, 2, 3] [0, 1, 2, 3, 4, 5] rfl rfl (by decide) (by decide) rfl (by decide) (fun H locs hP hD hS => ?_)
      obtain rfl := Option.some.inj hr
      exact hQ _ _ _ _ _ d_O_difference_31 rfl rfl hP hD hS
    · rw [if_pos hc] at hr
      refine lv_aload_n hx hb d_O_difference_16 rfl (lv_at hl 0 rfl) ?_
      obtain ⟨r3, hr3, hr⟩ := ob hr
      refine z_ci (ws := (W_OV kI kZ qO qV O_modulus O_valueOf O_isNeeded O_registerOf V_length V_instructions)) (wc := (W_OV kI kZ qO qV O_modulus O_valueOf O_isNeeded O_registerOf V_length V_instructions)) (wr := ([] : va_W)) (w1 := (W_OV kI kZ qO qV O_modulus O_valueOf O_isNeeded O_registerOf r3.2.2 r3.2.1)) (w2 := (W_OV kI kZ qO qV O_modulus O_valueOf O_isNeeded O_registerOf r3.2.2 r3.2.1)) (va_runV (As := []) (rest := []) ⟨hx, hb, hml, hown, hts⟩ (c_O_nought l D kI kZ qO qV O_modulus O_valueOf O_isNeeded O_registerOf V_length V_instructions r3 hr3 H.size) (z_cwV hts mw_O_nought kw_284 ⟨by rw [hR]; exact Nat.le_of_ble_eq_true rfl, by rw [hR]; exact Nat.le_of_ble_eq_true rfl⟩) (z_preV (ci := 3) hK hP hD hN rfl (he := (rfl : _[0]? = _)) [0, 1, 2, 3, 4, 5] (by decide) rfl) rfl rfl hl.1 rfl (lv_room (Nat.le_of_ble_eq_true rfl)) d_O_difference_17 ⟨Nat.zero_le _, Nat.zero_le _⟩) hP hD hS hA [0, 1, 2, 3, 4, 5] [] [0, 1, 2, 3, 4, 5] rfl rfl (by decide) (by decide) rfl (by decide) (fun H locs hP hD hS => ?_)
      obtain rfl := Option.some.inj hr
      exact hQ _ _ _ _ _ d_O_difference_20 rfl rfl hP hD hS
  · rw [if_neg hc] at hr
    refine lv_iload_n hx hb d_O_difference_9 rfl (lv_at hl 1 rfl) ?_
    obtain rfl := Option.some.inj hr
    exact hQ _ _ _ _ _ d_O_difference_10 rfl rfl hP hD hS
set_option maxHeartbeats 4000000 in
set_option maxRecDepth 100000 in
theorem c_O_product (l : Launch) (D : va_G) (kI kZ : ClassId) (qO qV : Nat → Nat) (O_modulus : Int32) (O_valueOf O_isNeeded O_registerOf : Nat → Int32) (V_length : Int32) (V_instructions : Nat → Int32) (a1 a2 : Int32) (res : Int32 × (Nat → Int32) × Int32) (hr : f_O_product V_instructions V_length a1 a2 = some res) : zMi l D kI kZ y_O_product prog_5_method_8_code 3 ((some .int)) 4 90 [.ref (qO 0), .int a1, .int a2] (W_OV kI kZ qO qV O_modulus O_valueOf O_isNeeded O_registerOf V_length V_instructions) (W_OV kI kZ qO qV O_modulus O_valueOf O_isNeeded O_registerOf (res.2.2) (res.2.1)) (res.1) := by
  refine zMi.of (by decide +kernel) (Nat.le_of_ble_eq_true rfl) ?_
  intro p e R s m args below meth c Q A hR hx hb hml hts hown hA hK hN hQ
  have hown : s.vm.findClass "SquareCode$Optimiser" = some m.cls := hown
  have hB18 : ∀ (V_instructions : Nat → Int32) (V_length : Int32)   (H : Heap) (locs : List Loc) (ls : Array Slot), lv_has ls 3 [(0, .ref (qO 0))] → va_P D zCl (W_OV kI kZ qO qV O_modulus O_valueOf O_isNeeded O_registerOf V_length V_instructions) H → va_D A (W_OV kI kZ qO qV O_modulus O_valueOf O_isNeeded O_registerOf V_length V_instructions) → va_S A s.heap H locs → f_O_product_18 V_instructions V_length = some res → W p l e R s m args below meth c H locs 0 0 Q (F0 m 18 ls []) := by
    intro V_instructions V_length H locs ls hl hP hD hS hr
    rw [f_O_product_18] at hr
    refine lv_aload_n hx hb d_O_product_18 rfl (lv_at hl 0 rfl) ?_
    obtain ⟨r1, hr1, hr⟩ := ob hr
    refine z_ci (ws := (W_OV kI kZ qO qV O_modulus O_valueOf O_isNeeded O_registerOf V_length V_instructions)) (wc := (W_OV kI kZ qO qV O_modulus O_valueOf O_isNeeded O_registerOf V_length V_instructions)) (wr := ([] : va_W)) (w1 := (W_OV kI kZ qO qV O_modulus O_valueOf O_isNeeded O_registerOf r1.2.2 r1.2.1)) (w2 := (W_OV kI kZ qO qV O_modulus O_valueOf O_isNeeded O_registerOf r1.2.2 r1.2.1)) (va_runV (As := []) (rest := []) ⟨hx, hb, hml, hown, hts⟩ (c_O_nought l D kI kZ qO qV O_modulus O_valueOf O_isNeeded O_registerOf V_length V_instructions r1 hr1 H.size) (z_cwV hts mw_O_nought kw_284 ⟨by rw [hR]; exact Nat.le_of_ble_eq_true rfl, by rw [hR]; exact Nat.le_of_ble_eq_true rfl⟩) (z_preV (ci := 3) hK hP hD hN rfl (he := (rfl : _[0]? = _)) [0, 1, 2, 3, 4, 5] (by decide) rfl) rfl rfl hl.1 rfl (lv_room (Nat.le_of_ble_eq_true rfl)) d_O_product_19 ⟨Nat.zero_le _, Nat.zero_le _⟩) hP hD hS hA [0, 1, 2, 3, 4, 5] [] [0, 1, 2, 3, 4, 5] rfl rfl (by decide) (by decide) rfl (by decide) (fun H locs hP hD hS => ?_)
    obtain rfl := Option.some.inj hr
    exact hQ _ _ _ _ _ d_O_product_22 rfl rfl hP hD hS
  intro ls H hl hP hD hS
  have hl : lv_has ls 3 [(0, .ref (qO 0)), (1, .int a1), (2, .int a2)] := hl
  rw [f_O_product] at hr
  refine lv_aload_n hx hb d_O_product_0 rfl (lv_at hl 0 rfl) ?_
  refine lv_iconst (v := (2 : Int32)) hx hb d_O_product_1 (by decide) ?_
  refine lv_iload_n hx hb d_O_product_2 rfl (lv_at hl 1 rfl) ?_
  obtain ⟨r2, hr2, hr⟩ := ob hr
  refine z_ci (ws := (W_OV kI kZ qO qV O_modulus O_valueOf O_isNeeded O_registerOf V_length V_instructions)) (wc := (W_OV kI kZ qO qV O_modulus O_valueOf O_isNeeded O_registerOf V_length V_instructions)) (wr := ([] : va_W)) (w1 := (W_OV kI kZ qO qV O_modulus O_valueOf O_isNeeded O_registerOf V_length V_instructions)) (w2 := (W_OV kI kZ qO qV O_modulus O_valueOf O_isNeeded O_registerOf V_length V_instructions)) (va_runV (As := [.int (2 : Int32), .int a1]) (rest := []) ⟨hx, hb, hml, hown, hts⟩ (c_O_is l D kI kZ qO qV O_modulus O_valueOf O_isNeeded O_registerOf V_length V_instructions (2 : Int32) a1 r2 hr2 H.size) (z_cwV hts mw_O_is kw_265 ⟨by rw [hR]; exact Nat.le_of_ble_eq_true rfl, by rw [hR]; exact Nat.le_of_ble_eq_true rfl⟩) (z_preV (ci := 3) hK hP hD hN rfl (he := (rfl : _[0]? = _)) [0, 1, 2, 3, 4, 5] (by decide) rfl) rfl rfl hl.1 rfl (lv_room (Nat.le_of_ble_eq_true rfl)) d_O_product_3 ⟨Nat.zero_le _, Nat.zero_le _⟩) hP hD hS hA [0, 1, 2, 3, 4, 5] [] [0, 1, 2, 3, 4, 5] rfl rfl (by decide) (by decide) rfl (by decide) (fun H locs hP hD hS => ?_)
  refine lv_if_ne hx hb d_O_product_6 rfl (fun hc => ?_) (fun hc => ?_)
  · rw [if_neg hc] at hr
    exact hB18 V_instructions V_length _ _ _ (lv_sub hl [0] rfl) hP hD hS hr
  · rw [if_pos hc] at hr
    refine lv_aload_n hx hb d_O_product_9 rfl (lv_at hl 0 rfl) ?_
    refine lv_iconst (v := (2 : Int32)) hx hb d_O_product_10 (by decide) ?_
    refine lv_iload_n hx hb d_O_product_11 rfl (lv_at hl 2 rfl) ?_
    obtain ⟨r3, hr3, hr⟩ := ob hr
    refine z_ci (ws := (W_OV kI kZ qO qV O_modulus O_valueOf O_isNeeded O_registerOf V_length V_instructions)) (wc := (W_OV kI kZ qO qV O_modulus O_valueOf O_isNeeded O_registerOf V_length V_instructions)) (wr := ([] : va_W)) (w1 := (W_OV kI kZ qO qV O_modulus O_valueOf O_isNeeded O_registerOf V_length V_instructions)) (w2 := (W_OV kI kZ qO qV O_modulus O_valueOf O_isNeeded O_registerOf V_length V_instructions)) (va_runV (As := [.int (2 : Int32), .int a2]) (rest := []) ⟨hx, hb, hml, hown, hts⟩ (c_O_is l D kI kZ qO qV O_modulus O_valueOf O_isNeeded O_registerOf V_length V_instructions (2 : Int32) a2 r3 hr3 H.size) (z_cwV hts mw_O_is kw_265 ⟨by rw [hR]; exact Nat.le_of_ble_eq_true rfl, by rw [hR]; exact Nat.le_of_ble_eq_true rfl⟩) (z_preV (ci := 3) hK hP hD hN rfl (he := (rfl : _[0]? = _)) [0, 1, 2, 3, 4, 5] (by decide) rfl) rfl rfl hl.1 rfl (lv_room (Nat.le_of_ble_eq_true rfl)) d_O_product_12 ⟨Nat.zero_le _, Nat.zero_le _⟩) hP hD hS hA [0, 1, 2, 3, 4, 5] [] [0, 1, 2, 3, 4, 5] rfl rfl (by decide) (by decide) rfl (by decide) (fun H locs hP hD hS => ?_)
    refine lv_if_eq hx hb d_O_product_15 rfl (fun hc => ?_) (fun hc => ?_)
    · rw [if_pos hc] at hr
      refine lv_aload_n hx hb d_O_product_23 rfl (lv_at hl 0 rfl) ?_
      refine lv_iconst (v := (1 : Int32)) hx hb d_O_product_24 (by decide) ?_
      refine lv_iload_n hx hb d_O_product_25 rfl (lv_at hl 2 rfl) ?_
      obtain ⟨r4, hr4, hr⟩ := ob hr
      refine z_ci (ws := (W_OV kI kZ qO qV O_modulus O_valueOf O_isNeeded O_registerOf V_length V_instructions)) (wc := (W_OV kI kZ qO qV O_modulus O_valueOf O_isNeeded O_registerOf V_length V_instructions)) (wr := ([] : va_W)) (w1 := (W_OV kI kZ qO qV O_modulus O_valueOf O_isNeeded O_registerOf V_length V_instructions)) (w2 := (W_OV kI kZ qO qV O_modulus O_valueOf O_isNeeded O_registerOf V_length V_instructions)) (va_runV (As := [.int (1 : Int32), .int a2]) (rest := []) ⟨hx, hb, hml, hown, hts⟩ (c_O_is l D kI kZ qO qV O_modulus O_valueOf O_isNeeded O_registerOf V_length V_instructions (1 : Int32) a2 r4 hr4 H.size) (z_cwV hts mw_O_is kw_265 ⟨by rw [hR]; exact Nat.le_of_ble_eq_true rfl, by rw [hR]; exact Nat.le_of_ble_eq_true rfl⟩) (z_preV (ci := 3) hK hP hD hN rfl (he := (rfl : _[0]? = _)) [0, 1, 2, 3, 4, 5] (by decide) rfl) rfl rfl hl.1 rfl (lv_room (Nat.le_of_ble_eq_true rfl)) d_O_product_26 ⟨Nat.zero_le _, Nat.zero_le _⟩) hP hD hS hA [0, 1, 2, 3, 4, 5] [] [0, 1, 2, 3, 4, 5] rfl rfl (by decide) (by decide) rfl (by decide) (fun H locs hP hD hS => ?_)
      refine lv_if_eq hx hb d_O_product_29 rfl (fun hc => ?_) (fun hc => ?_)
      · rw [if_pos hc] at hr
        refine lv_aload_n hx hb d_O_product_34 rfl (lv_at hl 0 rfl) ?_
        refine lv_iconst (v := (1 : Int32)) hx hb d_O_product_35 (by decide) ?_
        refine lv_iload_n hx hb d_O_product_36 rfl (lv_at hl 1 rfl) ?_
        obtain ⟨r5, hr5, hr⟩ := ob hr
        refine z_ci (ws := (W_OV kI kZ qO qV O_modulus O_valueOf O_isNeeded O_registerOf V_length V_instructions)) (wc := (W_OV kI kZ qO qV O_modulus O_valueOf O_isNeeded O_registerOf V_length V_instructions)) (wr := ([] : va_W)) (w1 := (W_OV kI kZ qO qV O_modulus O_valueOf O_isNeeded O_registerOf V_length V_instructions)) (w2 := (W_OV kI kZ qO qV O_modulus O_valueOf O_isNeeded O_registerOf V_length V_instructions)) (va_runV (As := [.int (1 : Int32), .int a1]) (rest := []) ⟨hx, hb, hml, hown, hts⟩ (c_O_is l D kI kZ qO qV O_modulus O_valueOf O_isNeeded O_registerOf V_length V_instructions (1 : Int32) a1 r5 hr5 H.size) (z_cwV hts mw_O_is kw_265 ⟨by rw [hR]; exact Nat.le_of_ble_eq_true rfl, by rw [hR]; exact Nat.le_of_ble_eq_true rfl⟩) (z_preV (ci := 3) hK hP hD hN rfl (he := (rfl : _[0]? = _)) [0, 1, 2, 3, 4, 5] (by decide) rfl) rfl rfl hl.1 rfl (lv_room (Nat.le_of_ble_eq_true rfl)) d_O_product_37 ⟨Nat.zero_le _, Nat.zero_le _⟩) hP hD hS hA [0, 1, 2, 3, 4, 5] [] [0, 1, 2, 3, 4, 5] rfl rfl (by decide) (by decide) rfl (by decide) (fun H locs hP hD hS => ?_)
        refine lv_if_eq hx hb d_O_product_40 rfl (fun hc => ?_) (fun hc => ?_)
        · rw [if_pos hc] at hr
          refine lv_aload_n hx hb d_O_product_45 rfl (lv_at hl 0 rfl) ?_
          refine va_get (D := D) (ci := 3) (v := .ref (qV 0)) (C := R_O) (T := T_O) (N := 5) hx hb hts in_O hown hK hP 0 rfl rfl 1 (by decide) (hts _ kw_87) (fun _ h9 => h9) rfl d_O_product_46 ?_
          refine lv_iconst (v := (5 : Int32)) hx hb d_O_product_49 (by decide) ?_
          refine lv_iload_n hx hb d_O_product_50 rfl (lv_at hl 1 rfl) ?_
          refine lv_iload_n hx hb d_O_product_51 rfl (lv_at hl 2 rfl) ?_
          obtain ⟨r6, hr6, hr⟩ := ob hr
          refine z_ci (ws := (W_OV kI kZ qO qV O_modulus O_valueOf O_isNeeded O_registerOf V_length V_instructions)) (wc := (W_C kI kZ qV V_length V_instructions)) (wr := (W_O kI kZ qO qV O_modulus O_valueOf O_isNeeded O_registerOf)) (w1 := (W_C kI kZ qV r6.2.2 r6.2.1)) (w2 := (W_OV kI kZ qO qV O_modulus O_valueOf O_isNeeded O_registerOf r6.2.2 r6.2.1)) (va_runV (As := [.int (5 : Int32), .int a1, .int a2]) (rest := []) ⟨hx, hb, hml, hown, hts⟩ (c_C_findOrAppend l D kI kZ qV V_length V_instructions (5 : Int32) a1 a2 r6 hr6 H.size) (z_cwV hts mw_C_findOrAppend kw_275 ⟨by rw [hR]; exact Nat.le_of_ble_eq_true rfl, by rw [hR]; exact Nat.le_of_ble_eq_true rfl⟩) (z_preV (ci := 0) hK hP hD hN rfl (he := (rfl : _[4]? = _)) [4, 5] (by decide) rfl) rfl rfl hl.1 rfl (lv_room (Nat.le_of_ble_eq_true rfl)) d_O_product_52 ⟨Nat.zero_le _, Nat.zero_le _⟩) hP hD hS hA [4, 5] [0, 1, 2, 3] [0, 1, 2, 3, 4, 5] rfl rfl (by decide) (by decide) rfl (by decide) (fun H locs hP hD hS => ?_)
          obtain rfl := Option.some.inj hr
          exact hQ _ _ _ _ _ d_O_product_55 rfl rfl hP hD hS
        · rw [if_neg hc] at hr
          refine lv_iload_n hx hb d_O_product_43 rfl (lv_at hl 2 rfl) ?_
          obtain rfl := Option.some.inj hr
          exact hQ _ _ _ _ _ d_O_product_44 rfl rfl hP hD hS
      · rw [if_neg hc] at hr
        refine lv_iload_n hx hb d_O_product_32 rfl (lv_at hl 1 rfl) ?_
        obtain rfl := Option.some.inj hr
        exact hQ _ _ _ _ _ d_O_product_33 rfl rfl hP hD hS
    · rw [if_neg hc] at hr
      exact hB18 V_instructions V_length _ _ _ (lv_sub hl [0] rfl) hP hD hS hr
set_option maxHeartbeats 4000000 in
set_option maxRecDepth 100000 in
theorem c_O_turned (l : Launch) (D : va_G) (kI kZ : ClassId) (qO qV : Nat → Nat) (O_modulus : Int32) (O_valueOf O_isNeeded O_registerOf : Nat → Int32) (V_length : Int32) (V_instructions : Nat → Int32) (a1 : Int32) (res : Int32 × (Nat → Int32) × Int32) (hr : f_O_turned V_instructions V_length a1 = some res) : zMi l D kI kZ y_O_turned prog_5_method_9_code 2 ((some .int)) 3 70 [.ref (qO 0), .int a1] (W_OV kI kZ qO qV O_modulus O_valueOf O_isNeeded O_registerOf V_length V_instructions) (W_OV kI kZ qO qV O_modulus O_valueOf O_isNeeded O_registerOf (res.2.2) (res.2.1)) (res.1) := by
  refine zMi.of (by decide +kernel) (Nat.le_of_ble_eq_true rfl) ?_
  intro p e R s m args below meth c Q A hR hx hb hml hts hown hA hK hN hQ
  have hown : s.vm.findClass "SquareCode$Optimiser" = some m.cls := hown
  intro ls H hl hP hD hS
  have hl : lv_has ls 2 [(0, .ref (qO 0)), (1, .int a1)] := hl
  rw [f_O_turned] at hr
  refine lv_aload_n hx hb d_O_turned_0 rfl (lv_at hl 0 rfl) ?_
  refine lv_iconst (v := (1 : Int32)) hx hb d_O_turned_1 (by decide) ?_
  refine lv_iload_n hx hb d_O_turned_2 rfl (lv_at hl 1 rfl) ?_
  obtain ⟨r1, hr1, hr⟩ := ob hr
  refine z_ci (ws := (W_OV kI kZ qO qV O_modulus O_valueOf O_isNeeded O_registerOf V_length V_instructions)) (wc := (W_OV kI kZ qO qV O_modulus O_valueOf O_isNeeded O_registerOf V_length V_instructions)) (wr := ([] : va_W)) (w1 := (W_OV kI kZ qO qV O_modulus O_valueOf O_isNeeded O_registerOf V_length V_instructions)) (w2 := (W_OV kI kZ qO qV O_modulus O_valueOf O_isNeeded O_registerOf V_length V_instructions)) (va_runV (As := [.int (1 : Int32), .int a1]) (rest := []) ⟨hx, hb, hml, hown, hts⟩ (c_O_is l D kI kZ qO qV O_modulus O_valueOf O_isNeeded O_registerOf V_length V_instructions (1 : Int32) a1 r1 hr1 H.size) (z_cwV hts mw_O_is kw_265 ⟨by rw [hR]; exact Nat.le_of_ble_eq_true rfl, by rw [hR]; exact Nat.le_of_ble_eq_true rfl⟩) (z_preV (ci := 3) hK hP hD hN rfl (he := (rfl : _[0]? = _)) [0, 1, 2, 3, 4, 5] (by decide) rfl) rfl rfl hl.1 rfl (lv_room (Nat.le_of_ble_eq_true rfl)) d_O_turned_3 ⟨Nat.zero_le _, Nat.zero_le _⟩) hP hD hS hA [0, 1, 2, 3, 4, 5] [] [0, 1, 2, 3, 4, 5] rfl rfl (by decide) (by decide) rfl (by decide) (fun H locs hP hD hS => ?_)
  refine lv_if_ne hx hb d_O_turned_6 rfl (fun hc => ?_) (fun hc => ?_)
  · rw [if_neg hc] at hr
    refine lv_iload_n hx hb d_O_turned_18 rfl (lv_at hl 1 rfl) ?_
    obtain rfl := Option.some.inj hr
    exact hQ _ _ _ _ _ d_O_turned_19 rfl rfl hP hD hS
  · rw [if_pos hc] at hr
    refine lv_aload_n hx hb d_O_turned_9 rfl (lv_at hl 0 rfl) ?_
    refine lv_iconst (v := (2 : Int32)) hx hb d_O_turned_10 (by decide) ?_
    refine lv_iload_n hx hb d_O_turned_11 rfl (lv_at hl 1 rfl) ?_
    obtain ⟨r2, hr2, hr⟩ := ob hr
    refine z_ci (ws := (W_OV kI kZ qO qV O_modulus O_valueOf O_isNeeded O_registerOf V_length V_instructions)) (wc := (W_OV kI kZ qO qV O_modulus O_valueOf O_isNeeded O_registerOf V_length V_instructions)) (wr := ([] : va_W)) (w1 := (W_OV kI kZ qO qV O_modulus O_valueOf O_isNeeded O_registerOf V_length V_instructions)) (w2 := (W_OV kI kZ qO qV O_modulus O_valueOf O_isNeeded O_registerOf V_length V_instructions)) (va_runV (As := [.int (2 : Int32), .int a1]) (rest := []) ⟨hx, hb, hml, hown, hts⟩ (c_O_is l D kI kZ qO qV O_modulus O_valueOf O_isNeeded O_registerOf V_length V_instructions (2 : Int32) a1 r2 hr2 H.size) (z_cwV hts mw_O_is kw_265 ⟨by rw [hR]; exact Nat.le_of_ble_eq_true rfl, by rw [hR]; exact Nat.le_of_ble_eq_true rfl⟩) (z_preV (ci := 3) hK hP hD hN rfl (he := (rfl : _[0]? = _)) [0, 1, 2, 3, 4, 5] (by decide) rfl) rfl rfl hl.1 rfl (lv_room (Nat.le_of_ble_eq_true rfl)) d_O_turned_12 ⟨Nat.zero_le _, Nat.zero_le _⟩) hP hD hS hA [0, 1, 2, 3, 4, 5] [] [0, 1, 2, 3, 4, 5] rfl rfl (by decide) (by decide) rfl (by decide) (fun H locs hP hD hS => ?_)
    refine lv_if_eq hx hb d_O_turned_15 rfl (fun hc => ?_) (fun hc => ?_)
    · rw [if_pos hc] at hr
      refine lv_aload_n hx hb d_O_turned_20 rfl (lv_at hl 0 rfl) ?_
      refine lv_bipush (v := (6 : Int32)) hx hb d_O_turned_21 (by decide) ?_
      refine lv_iload_n hx hb d_O_turned_23 rfl (lv_at hl 1 rfl) ?_
      obtain ⟨r3, hr3, hr⟩ := ob hr
      refine z_ci (ws := (W_OV kI kZ qO qV O_modulus O_valueOf O_isNeeded O_registerOf V_length V_instructions)) (wc := (W_OV kI kZ qO qV O_modulus O_valueOf O_isNeeded O_registerOf V_length V_instructions)) (wr := ([] : va_W)) (w1 := (W_OV kI kZ qO qV O_modulus O_valueOf O_isNeeded O_registerOf V_length V_instructions)) (w2 := (W_OV kI kZ qO qV O_modulus O_valueOf O_isNeeded O_registerOf V_length V_instructions)) (va_runV (As := [.int (6 : Int32), .int a1]) (rest := []) ⟨hx, hb, hml, hown, hts⟩ (c_O_is l D kI kZ qO qV O_modulus O_valueOf O_isNeeded O_registerOf V_length V_instructions (6 : Int32) a1 r3 hr3 H.size) (z_cwV hts mw_O_is kw_265 ⟨by rw [hR]; exact Nat.le_of_ble_eq_true rfl, by rw [hR]; exact Nat.le_of_ble_eq_true rfl⟩) (z_preV (ci := 3) hK hP hD hN rfl (he := (rfl : _[0]? = _)) [0, 1, 2, 3, 4, 5] (by decide) rfl) rfl rfl hl.1 rfl (lv_room (Nat.le_of_ble_eq_true rfl)) d_O_turned_24 ⟨Nat.zero_le _, Nat.zero_le _⟩) hP hD hS hA [0, 1, 2, 3, 4, 5] [] [0, 1, 2, 3, 4, 5] rfl rfl (by decide) (by decide) rfl (by decide) (fun H locs hP hD hS => ?_)
      refine lv_if_eq hx hb d_O_turned_27 rfl (fun hc => ?_) (fun hc => ?_)
      · rw [if_pos hc] at hr
        refine lv_aload_n hx hb d_O_turned_39 rfl (lv_at hl 0 rfl) ?_
        refine va_get (D := D) (ci := 3) (v := .ref (qV 0)) (C := R_O) (T := T_O) (N := 5) hx hb hts in_O hown hK hP 0 rfl rfl 1 (by decide) (hts _ kw_87) (fun _ h9 => h9) rfl d_O_turned_40 ?_
        refine lv_bipush (v := (6 : Int32)) hx hb d_O_turned_43 (by decide) ?_
        refine lv_iload_n hx hb d_O_turned_45 rfl (lv_at hl 1 rfl) ?_
        refine lv_iconst (v := (0 : Int32)) hx hb d_O_turned_46 (by decide) ?_
        obtain ⟨r4, hr4, hr⟩ := ob hr
        refine z_ci (ws := (W_OV kI kZ qO qV O_modulus O_valueOf O_isNeeded O_registerOf V_length V_instructions)) (wc := (W_C kI kZ qV V_length V_instructions)) (wr := (W_O kI kZ qO qV O_modulus O_valueOf O_isNeeded O_registerOf)) (w1 := (W_C kI kZ qV r4.2.2 r4.2.1)) (w2 := (W_OV kI kZ qO qV O_modulus O_valueOf O_isNeeded O_registerOf r4.2.2 r4.2.1)) (va_runV (As := [.int (6 : Int32), .int a1, .int (0 : Int32)]) (rest := []) ⟨hx, hb, hml, hown, hts⟩ (c_C_findOrAppend l D kI kZ qV V_length V_instructions (6 : Int32) a1 (0 : Int32) r4 hr4 H.size) (z_cwV hts mw_C_findOrAppend kw_275 ⟨by rw [hR]; exact Nat.le_of_ble_eq_true rfl, by rw [hR]; exact Nat.le_of_ble_eq_true rfl⟩) (z_preV (ci := 0) hK hP hD hN rfl (he := (rfl : _[4]? = _)) [4, 5] (by decide) rfl) rfl rfl hl.1 rfl (lv_room (Nat.le_of_ble_eq_true rfl)) d_O_turned_47 ⟨Nat.zero_le _, Nat.zero_le _⟩) hP hD hS hA [4, 5] [0, 1, 2, 3] [0, 1, 2, 3, 4, 5] rfl rfl (by decide) (by decide) rfl (by decide) (fun H locs hP hD hS => ?_)
        obtain rfl := Option.some.inj hr
        exact hQ _ _ _ _ _ d_O_turned_50 rfl rfl hP hD hS
      · rw [if_neg hc] at hr
        refine lv_aload_n hx hb d_O_turned_30 rfl (lv_at hl 0 rfl) ?_
        refine va_get (D := D) (ci := 3) (v := .ref (qV 0)) (C := R_O) (T := T_O) (N := 5) hx hb hts in_O hown hK hP 0 rfl rfl 1 (by decide) (hts _ kw_87) (fun _ h9 => h9) rfl d_O_turned_31 ?_
        refine lv_iload_n hx hb d_O_turned_34 rfl (lv_at hl 1 rfl) ?_
        obtain ⟨r5, hr5, hr⟩ := ob hr
        refine z_ci (ws := (W_OV kI kZ qO qV O_modulus O_valueOf O_isNeeded O_registerOf V_length V_instructions)) (wc := (W_C kI kZ qV V_length V_instructions)) (wr := (W_O kI kZ qO qV O_modulus O_valueOf O_isNeeded O_registerOf)) (w1 := (W_C kI kZ qV V_length V_instructions)) (w2 := (W_OV kI kZ qO qV O_modulus O_valueOf O_isNeeded O_registerOf V_length V_instructions)) (va_runV (As := [.int a1]) (rest := []) ⟨hx, hb, hml, hown, hts⟩ (c_C_first l D kI kZ qV V_length V_instructions a1 r5 hr5 H.size) (z_cwV hts mw_C_first kw_249 ⟨by rw [hR]; exact Nat.le_of_ble_eq_true rfl, by rw [hR]; exact Nat.le_of_ble_eq_true rfl⟩) (z_preV (ci := 0) hK hP hD hN rfl (he := (rfl : _[4]? = _)) [4, 5] (by decide) rfl) rfl rfl hl.1 rfl (lv_room (Nat.le_of_ble_eq_true rfl)) d_O_turned_35 ⟨Nat.zero_le _, Nat.zero_le _⟩) hP hD hS hA [4, 5] [0, 1, 2, 3] [0, 1, 2, 3, 4, 5] rfl rfl (by decide) (by decide) rfl (by decide) (fun H locs hP hD hS => ?_)
        obtain rfl := Option.some.inj hr
        exact hQ _ _ _ _ _ d_O_turned_38 rfl rfl hP hD hS
    · rw [if_neg hc] at hr
      refine lv_iload_n hx hb d_O_turned_18 rfl (lv_at hl 1 rfl) ?_
      obtain rfl := Option.some.inj hr
      exact hQ _ _ _ _ _ d_O_turned_19 rfl rfl hP hD hS
