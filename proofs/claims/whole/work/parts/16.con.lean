set_option maxHeartbeats 4000000 in
set_option maxRecDepth 100000 in
theorem c_O_rewritten (l : Launch) (D : va_G) (kI kZ : ClassId) (qC qO qV : Nat → Nat) (C_length : Int32) (C_instructions : Nat → Int32) (O_modulus : Int32) (O_valueOf O_isNeeded O_registerOf : Nat → Int32) (V_length : Int32) (V_instructions : Nat → Int32) (a1 : Int32) (res : Int32 × (Nat → Int32) × Int32) (hr : f_O_rewritten C_instructions C_length O_registerOf V_instructions a1 = some res) : zMi l D kI kZ y_O_rewritten prog_5_method_13_code 7 ((some .int)) 2 45 [.ref (qO 0), .int a1, .ref (qC 0)] (W_COV kI kZ qC qO qV C_length C_instructions O_modulus O_valueOf O_isNeeded O_registerOf V_length V_instructions) (W_COV kI kZ qC qO qV (res.2.2) (res.2.1) O_modulus O_valueOf O_isNeeded O_registerOf V_length V_instructions) (res.1) := by
  refine zMi.of (by decide +kernel) (Nat.le_of_ble_eq_true rfl) ?_
  intro p e R s m args below meth c Q A hR hx hb hml hts hown hA hK hN hQ
  have hown : s.vm.findClass "SquareCode$Optimiser" = some m.cls := hown
  have hB70 : ∀ (v3 v5 t0 : Int32) (C_instructions : Nat → Int32) (C_length : Int32)   (H : Heap) (locs : List Loc) (ls : Array Slot), lv_has ls 7 [(2, .ref (qC 0)), (3, .int v3), (5, .int v5)] → va_P D zCl (W_COV kI kZ qC qO qV C_length C_instructions O_modulus O_valueOf O_isNeeded O_registerOf V_length V_instructions) H → va_D A (W_COV kI kZ qC qO qV C_length C_instructions O_modulus O_valueOf O_isNeeded O_registerOf V_length V_instructions) → va_S A s.heap H locs → f_O_rewritten_70 v3 v5 t0 C_instructions C_length = some res → W p l e R s m args below meth c H locs 0 0 Q (F0 m 70 ls [.int t0]) := by
    intro v3 v5 t0 C_instructions C_length H locs ls hl hP hD hS hr
    rw [f_O_rewritten_70] at hr
    refine lv_istore (lv' := [(6, .int t0), (2, .ref (qC 0)), (3, .int v3), (5, .int v5)]) hx hb d_O_rewritten_70 hl (by decide) rfl (fun ls hl => ?_)
    refine lv_aload_n hx hb d_O_rewritten_72 rfl (lv_at hl 1 rfl) ?_
    refine lv_iload_n hx hb d_O_rewritten_73 rfl (lv_at hl 2 rfl) ?_
    refine lv_iload hx hb d_O_rewritten_74 (lv_at hl 3 rfl) ?_
    refine lv_iload hx hb d_O_rewritten_76 (lv_at hl 0 rfl) ?_
    obtain ⟨r1, hr1, hr⟩ := ob hr
    refine z_ci (ws := (W_COV kI kZ qC qO qV C_length C_instructions O_modulus O_valueOf O_isNeeded O_registerOf V_length V_instructions)) (wc := (W_C kI kZ qC C_length C_instructions)) (wr := (W_OV kI kZ qO qV O_modulus O_valueOf O_isNeeded O_registerOf V_length V_instructions)) (w1 := (W_C kI kZ qC r1.2.2 r1.2.1)) (w2 := (W_COV kI kZ qC qO qV r1.2.2 r1.2.1 O_modulus O_valueOf O_isNeeded O_registerOf V_length V_instructions)) (va_runV (As := [.int v3, .int v5, .int t0]) (rest := []) ⟨hx, hb, hml, hown, hts⟩ (c_C_append l D kI kZ qC C_length C_instructions v3 v5 t0 r1 hr1 H.size) (z_cwV hts mw_C_append kw_317 ⟨by rw [hR]; exact Nat.le_of_ble_eq_true rfl, by rw [hR]; exact Nat.le_of_ble_eq_true rfl⟩) (z_preV (ci := 0) hK hP hD hN rfl (he := (rfl : _[0]? = _)) [0, 1] (by decide) rfl) rfl rfl hl.1 rfl (lv_room (Nat.le_of_ble_eq_true rfl)) d_O_rewritten_78 ⟨Nat.zero_le _, Nat.zero_le _⟩) hP hD hS hA [0, 1] [2, 3, 4, 5, 6, 7] [6, 7, 0, 1, 2, 3, 4, 5] rfl rfl (by decide) (by decide) rfl (by decide) (fun H locs hP hD hS => ?_)
    obtain rfl := Option.some.inj hr
    exact hQ _ _ _ _ _ d_O_rewritten_81 rfl rfl hP hD hS
  have hB38 : ∀ (v3 v4 t0 : Int32) (C_instructions : Nat → Int32) (C_length : Int32)   (H : Heap) (locs : List Loc) (ls : Array Slot), lv_has ls 7 [(0, .ref (qO 0)), (1, .int a1), (2, .ref (qC 0)), (3, .int v3), (4, .int v4)] → va_P D zCl (W_COV kI kZ qC qO qV C_length C_instructions O_modulus O_valueOf O_isNeeded O_registerOf V_length V_instructions) H → va_D A (W_COV kI kZ qC qO qV C_length C_instructions O_modulus O_valueOf O_isNeeded O_registerOf V_length V_instructions) → va_S A s.heap H locs → f_O_rewritten_38 O_registerOf V_instructions a1 v3 v4 t0 C_instructions C_length = some res → W p l e R s m args below meth c H locs 0 0 Q (F0 m 38 ls [.int t0]) := by
    intro v3 v4 t0 C_instructions C_length H locs ls hl hP hD hS hr
    rw [f_O_rewritten_38] at hr
    refine lv_istore (lv' := [(5, .int t0), (0, .ref (qO 0)), (1, .int a1), (2, .ref (qC 0)), (3, .int v3), (4, .int v4)]) hx hb d_O_rewritten_38 hl (by decide) rfl (fun ls hl => ?_)
    refine lv_iload hx hb d_O_rewritten_40 (lv_at hl 5 rfl) ?_
    refine lv_iconst (v := (2 : Int32)) hx hb d_O_rewritten_42 (by decide) ?_
    refine lv_icmp_ne hx hb d_O_rewritten_43 rfl (fun hc => ?_) (fun hc => ?_)
    · rw [if_neg hc] at hr
      refine lv_aload_n hx hb d_O_rewritten_62 rfl (lv_at hl 1 rfl) ?_
      refine va_get (D := D) (ci := 3) (v := .ref (qV 0)) (C := R_O) (T := T_O) (N := 5) hx hb hts in_O hown hK hP 2 rfl rfl 1 (by decide) (hts _ kw_87) (fun _ h9 => h9) rfl d_O_rewritten_63 ?_
      refine lv_iload_n hx hb d_O_rewritten_66 rfl (lv_at hl 2 rfl) ?_
      obtain ⟨r2, hr2, hr⟩ := ob hr
      refine z_ci (ws := (W_COV kI kZ qC qO qV C_length C_instructions O_modulus O_valueOf O_isNeeded O_registerOf V_length V_instructions)) (wc := (W_C kI kZ qV V_length V_instructions)) (wr := (W_CO kI kZ qC qO qV C_length C_instructions O_modulus O_valueOf O_isNeeded O_registerOf)) (w1 := (W_C kI kZ qV V_length V_instructions)) (w2 := (W_COV kI kZ qC qO qV C_length C_instructions O_modulus O_valueOf O_isNeeded O_registerOf V_length V_instructions)) (va_runV (As := [.int a1]) (rest := []) ⟨hx, hb, hml, hown, hts⟩ (c_C_second l D kI kZ qV V_length V_instructions a1 r2 hr2 H.size) (z_cwV hts mw_C_second kw_253 ⟨by rw [hR]; exact Nat.le_of_ble_eq_true rfl, by rw [hR]; exact Nat.le_of_ble_eq_true rfl⟩) (z_preV (ci := 0) hK hP hD hN rfl (he := (rfl : _[6]? = _)) [6, 7] (by decide) rfl) rfl rfl hl.1 rfl (lv_room (Nat.le_of_ble_eq_true rfl)) d_O_rewritten_67 ⟨Nat.zero_le _, Nat.zero_le _⟩) hP hD hS hA [6, 7] [0, 1, 2, 3, 4, 5] [0, 1, 2, 3, 4, 5, 6, 7] rfl rfl (by decide) (by decide) rfl (by decide) (fun H locs hP hD hS => ?_)
      exact hB70 v3 t0 r2 C_instructions C_length _ _ _ (lv_sub hl [3, 4, 0] rfl) hP hD hS hr
    · rw [if_pos hc] at hr
      refine lv_aload_n hx hb d_O_rewritten_46 rfl (lv_at hl 1 rfl) ?_
      refine va_get (D := D) (ci := 3) (v := .ref (qO 3)) (C := R_O) (T := T_O) (N := 5) hx hb hts in_O hown hK hP 2 rfl rfl 4 (by decide) (hts _ kw_90) (fun _ h9 => h9) rfl d_O_rewritten_47 ?_
      refine lv_aload_n hx hb d_O_rewritten_50 rfl (lv_at hl 1 rfl) ?_
      refine va_get (D := D) (ci := 3) (v := .ref (qV 0)) (C := R_O) (T := T_O) (N := 5) hx hb hts in_O hown hK hP 2 rfl rfl 1 (by decide) (hts _ kw_87) (fun _ h9 => h9) rfl d_O_rewritten_51 ?_
      refine lv_iload_n hx hb d_O_rewritten_54 rfl (lv_at hl 2 rfl) ?_
      obtain ⟨r3, hr3, hr⟩ := ob hr
      refine z_ci (ws := (W_COV kI kZ qC qO qV C_length C_instructions O_modulus O_valueOf O_isNeeded O_registerOf V_length V_instructions)) (wc := (W_C kI kZ qV V_length V_instructions)) (wr := (W_CO kI kZ qC qO qV C_length C_instructions O_modulus O_valueOf O_isNeeded O_registerOf)) (w1 := (W_C kI kZ qV V_length V_instructions)) (w2 := (W_COV kI kZ qC qO qV C_length C_instructions O_modulus O_valueOf O_isNeeded O_registerOf V_length V_instructions)) (va_runV (As := [.int a1]) (rest := [.ref (qO 3)]) ⟨hx, hb, hml, hown, hts⟩ (c_C_second l D kI kZ qV V_length V_instructions a1 r3 hr3 H.size) (z_cwV hts mw_C_second kw_253 ⟨by rw [hR]; exact Nat.le_of_ble_eq_true rfl, by rw [hR]; exact Nat.le_of_ble_eq_true rfl⟩) (z_preV (ci := 0) hK hP hD hN rfl (he := (rfl : _[6]? = _)) [6, 7] (by decide) rfl) rfl rfl hl.1 rfl (lv_room (Nat.le_of_ble_eq_true rfl)) d_O_rewritten_55 ⟨Nat.zero_le _, Nat.zero_le _⟩) hP hD hS hA [6, 7] [0, 1, 2, 3, 4, 5] [0, 1, 2, 3, 4, 5, 6, 7] rfl rfl (by decide) (by decide) rfl (by decide) (fun H locs hP hD hS => ?_)
      obtain ⟨hi, hr⟩ := gd_some hr
      refine va_iald hx hb hK hP 5 0 rfl rfl hi d_O_rewritten_58 ?_
      refine lv_goto hx hb d_O_rewritten_59 rfl ?_
      exact hB70 v3 t0 (O_registerOf r3.toNatClampNeg) C_instructions C_length _ _ _ (lv_sub hl [3, 4, 0] rfl) hP hD hS hr
  intro ls H hl hP hD hS
  have hl : lv_has ls 7 [(0, .ref (qO 0)), (1, .int a1), (2, .ref (qC 0))] := hl
  rw [f_O_rewritten] at hr
  refine lv_aload_n hx hb d_O_rewritten_0 rfl (lv_at hl 0 rfl) ?_
  refine va_get (D := D) (ci := 3) (v := .ref (qV 0)) (C := R_O) (T := T_O) (N := 5) hx hb hts in_O hown hK hP 2 rfl rfl 1 (by decide) (hts _ kw_87) (fun _ h9 => h9) rfl d_O_rewritten_1 ?_
  refine lv_iload_n hx hb d_O_rewritten_4 rfl (lv_at hl 1 rfl) ?_
  obtain ⟨r4, hr4, hr⟩ := ob hr
  refine z_ci (ws := (W_COV kI kZ qC qO qV C_length C_instructions O_modulus O_valueOf O_isNeeded O_registerOf V_length V_instructions)) (wc := (W_C kI kZ qV V_length V_instructions)) (wr := (W_CO kI kZ qC qO qV C_length C_instructions O_modulus O_valueOf O_isNeeded O_registerOf)) (w1 := (W_C kI kZ qV V_length V_instructions)) (w2 := (W_COV kI kZ qC qO qV C_length C_instructions O_modulus O_valueOf O_isNeeded O_registerOf V_length V_instructions)) (va_runV (As := [.int a1]) (rest := []) ⟨hx, hb, hml, hown, hts⟩ (c_C_operation l D kI kZ qV V_length V_instructions a1 r4 hr4 H.size) (z_cwV hts mw_C_operation kw_245 ⟨by rw [hR]; exact Nat.le_of_ble_eq_true rfl, by rw [hR]; exact Nat.le_of_ble_eq_true rfl⟩) (z_preV (ci := 0) hK hP hD hN rfl (he := (rfl : _[6]? = _)) [6, 7] (by decide) rfl) rfl rfl hl.1 rfl (lv_room (Nat.le_of_ble_eq_true rfl)) d_O_rewritten_5 ⟨Nat.zero_le _, Nat.zero_le _⟩) hP hD hS hA [6, 7] [0, 1, 2, 3, 4, 5] [0, 1, 2, 3, 4, 5, 6, 7] rfl rfl (by decide) (by decide) rfl (by decide) (fun H locs hP hD hS => ?_)
  refine lv_istore_n (lv' := [(3, .int r4), (0, .ref (qO 0)), (1, .int a1), (2, .ref (qC 0))]) hx hb d_O_rewritten_8 rfl hl (by decide) rfl (fun ls hl => ?_)
  refine lv_iload_n hx hb d_O_rewritten_9 rfl (lv_at hl 0 rfl) ?_
  obtain ⟨r5, hr5, hr⟩ := ob hr
  refine z_ci (ws := (W_COV kI kZ qC qO qV C_length C_instructions O_modulus O_valueOf O_isNeeded O_registerOf V_length V_instructions)) (wc := ([] : va_W)) (wr := (W_COV kI kZ qC qO qV C_length C_instructions O_modulus O_valueOf O_isNeeded O_registerOf V_length V_instructions)) (w1 := ([] : va_W)) (w2 := (W_COV kI kZ qC qO qV C_length C_instructions O_modulus O_valueOf O_isNeeded O_registerOf V_length V_instructions)) (va_runSN (As := [.int r4]) (rest := []) ⟨hx, hb, hml, hown, hts⟩ (c_X_operandsOf l D kI kZ r4 r5 hr5 H.size) (z_cwN hts mw_X_operandsOf (zNestOf 5 hN rfl) ⟨by rw [hR]; exact Nat.le_of_ble_eq_true rfl, by rw [hR]; exact Nat.le_of_ble_eq_true rfl⟩) (z_pre hK hP hD hN [] (by decide) rfl) rfl rfl hl.1 rfl (lv_room (Nat.le_of_ble_eq_true rfl)) d_O_rewritten_10 ⟨Nat.zero_le _, Nat.zero_le _⟩) hP hD hS hA [] [0, 1, 2, 3, 4, 5, 6, 7] [0, 1, 2, 3, 4, 5, 6, 7] rfl rfl (by decide) (by decide) rfl (by decide) (fun H locs hP hD hS => ?_)
  refine lv_istore (lv' := [(4, .int r5), (3, .int r4), (0, .ref (qO 0)), (1, .int a1), (2, .ref (qC 0))]) hx hb d_O_rewritten_13 hl (by decide) rfl (fun ls hl => ?_)
  refine lv_iload hx hb d_O_rewritten_15 (lv_at hl 0 rfl) ?_
  refine lv_iconst (v := (1 : Int32)) hx hb d_O_rewritten_17 (by decide) ?_
  refine lv_icmp_lt hx hb d_O_rewritten_18 rfl (fun hc => ?_) (fun hc => ?_)
  · rw [if_pos hc] at hr
    refine lv_iconst (v := (0 : Int32)) hx hb d_O_rewritten_37 (by decide) ?_
    exact hB38 r4 r5 (0 : Int32) C_instructions C_length _ _ _ (lv_sub hl [2, 3, 4, 1, 0] rfl) hP hD hS hr
  · rw [if_neg hc] at hr
    refine lv_aload_n hx hb d_O_rewritten_21 rfl (lv_at hl 2 rfl) ?_
    refine va_get (D := D) (ci := 3) (v := .ref (qO 3)) (C := R_O) (T := T_O) (N := 5) hx hb hts in_O hown hK hP 2 rfl rfl 4 (by decide) (hts _ kw_90) (fun _ h9 => h9) rfl d_O_rewritten_22 ?_
    refine lv_aload_n hx hb d_O_rewritten_25 rfl (lv_at hl 2 rfl) ?_
    refine va_get (D := D) (ci := 3) (v := .ref (qV 0)) (C := R_O) (T := T_O) (N := 5) hx hb hts in_O hown hK hP 2 rfl rfl 1 (by decide) (hts _ kw_87) (fun _ h9 => h9) rfl d_O_rewritten_26 ?_
    refine lv_iload_n hx hb d_O_rewritten_29 rfl (lv_at hl 3 rfl) ?_
    obtain ⟨r6, hr6, hr⟩ := ob hr
    refine z_ci (ws := (W_COV kI kZ qC qO qV C_length C_instructions O_modulus O_valueOf O_isNeeded O_registerOf V_length V_instructions)) (wc := (W_C kI kZ qV V_length V_instructions)) (wr := (W_CO kI kZ qC qO qV C_length C_instructions O_modulus O_valueOf O_isNeeded O_registerOf)) (w1 := (W_C kI kZ qV V_length V_instructions)) (w2 := (W_COV kI kZ qC qO qV C_length C_instructions O_modulus O_valueOf O_isNeeded O_registerOf V_length V_instructions)) (va_runV (As := [.int a1]) (rest := [.ref (qO 3)]) ⟨hx, hb, hml, hown, hts⟩ (c_C_first l D kI kZ qV V_length V_instructions a1 r6 hr6 H.size) (z_cwV hts mw_C_first kw_249 ⟨by rw [hR]; exact Nat.le_of_ble_eq_true rfl, by rw [hR]; exact Nat.le_of_ble_eq_true rfl⟩) (z_preV (ci := 0) hK hP hD hN rfl (he := (rfl : _[6]? = _)) [6, 7] (by decide) rfl) rfl rfl hl.1 rfl (lv_room (Nat.le_of_ble_eq_true rfl)) d_O_rewritten_30 ⟨Nat.zero_le _, Nat.zero_le _⟩) hP hD hS hA [6, 7] [0, 1, 2, 3, 4, 5] [0, 1, 2, 3, 4, 5, 6, 7] rfl rfl (by decide) (by decide) rfl (by decide) (fun H locs hP hD hS => ?_)
    obtain ⟨hi, hr⟩ := gd_some hr
    refine va_iald hx hb hK hP 5 0 rfl rfl hi d_O_rewritten_33 ?_
    refine lv_goto hx hb d_O_rewritten_34 rfl ?_
    exact hB38 r4 r5 (O_registerOf r6.toNatClampNeg) C_instructions C_length _ _ _ (lv_sub hl [2, 3, 4, 1, 0] rfl) hP hD hS hr
set_option maxHeartbeats 4000000 in
set_option maxRecDepth 100000 in
theorem c_O_rewrite (l : Launch) (D : va_G) (kI kZ : ClassId) (qC qO qV : Nat → Nat) (C_length : Int32) (C_instructions : Nat → Int32) (O_modulus : Int32) (O_valueOf O_isNeeded O_registerOf : Nat → Int32) (V_length : Int32) (V_instructions : Nat → Int32)  (res : (Nat → Int32) × Int32 × (Nat → Int32)) (hr : f_O_rewrite C_instructions C_length O_isNeeded O_registerOf V_instructions V_length = some res) : zMv l D kI kZ y_O_rewrite prog_5_method_12_code 3 none 3 71 [.ref (qO 0), .ref (qC 0)] (W_COV kI kZ qC qO qV C_length C_instructions O_modulus O_valueOf O_isNeeded O_registerOf V_length V_instructions) (W_COV kI kZ qC qO qV (res.2.1) (res.1) O_modulus O_valueOf O_isNeeded (res.2.2) V_length V_instructions) := by
  refine zMv.of (by decide +kernel) (Nat.le_of_ble_eq_true rfl) ?_
  intro p e R s m args below meth c Q A hR hx hb hml hts hown hA hK hN hQ
  have hown : s.vm.findClass "SquareCode$Optimiser" = some m.cls := hown
  have hB6 : ∀ (fu : Nat) (v2 : Int32) (C_instructions : Nat → Int32) (C_length : Int32) (O_registerOf : Nat → Int32) (H : Heap) (locs : List Loc) (ls : Array Slot), lv_has ls 3 [(0, .ref (qO 0)), (1, .ref (qC 0)), (2, .int v2)] → va_P D zCl (W_COV kI kZ qC qO qV C_length C_instructions O_modulus O_valueOf O_isNeeded O_registerOf V_length V_instructions) H → va_D A (W_COV kI kZ qC qO qV C_length C_instructions O_modulus O_valueOf O_isNeeded O_registerOf V_length V_instructions) → va_S A s.heap H locs → f_O_rewrite_6 O_isNeeded V_instructions V_length fu v2 C_instructions C_length O_registerOf = some res → W p l e R s m args below meth c H locs 0 0 Q (F0 m 6 ls []) := by
    intro  fu
    induction fu with
    | zero => intro v2 C_instructions C_length O_registerOf H locs ls hl hP hD hS hr; exact absurd hr (by rw [f_O_rewrite_6]; exact fun h => by cases h)
    | succ fu ih =>
      intro v2 C_instructions C_length O_registerOf H locs ls hl hP hD hS hr
      rw [f_O_rewrite_6] at hr
      refine lv_iload_n hx hb d_O_rewrite_6 rfl (lv_at hl 2 rfl) ?_
      refine lv_aload_n hx hb d_O_rewrite_7 rfl (lv_at hl 0 rfl) ?_
      refine va_get (D := D) (ci := 3) (v := .ref (qV 0)) (C := R_O) (T := T_O) (N := 5) hx hb hts in_O hown hK hP 2 rfl rfl 1 (by decide) (hts _ kw_87) (fun _ h9 => h9) rfl d_O_rewrite_8 ?_
      obtain ⟨r1, hr1, hr⟩ := ob hr
      refine z_ci (ws := (W_COV kI kZ qC qO qV C_length C_instructions O_modulus O_valueOf O_isNeeded O_registerOf V_length V_instructions)) (wc := (W_C kI kZ qV V_length V_instructions)) (wr := (W_CO kI kZ qC qO qV C_length C_instructions O_modulus O_valueOf O_isNeeded O_registerOf)) (w1 := (W_C kI kZ qV V_length V_instructions)) (w2 := (W_COV kI kZ qC qO qV C_length C_instructions O_modulus O_valueOf O_isNeeded O_registerOf V_length V_instructions)) (va_runV (As := []) (rest := [.int v2]) ⟨hx, hb, hml, hown, hts⟩ (c_C_length l D kI kZ qV V_length V_instructions r1 hr1 H.size) (z_cwV hts mw_C_length kw_244 ⟨by rw [hR]; exact Nat.le_of_ble_eq_true rfl, by rw [hR]; exact Nat.le_of_ble_eq_true rfl⟩) (z_preV (ci := 0) hK hP hD hN rfl (he := (rfl : _[6]? = _)) [6, 7] (by decide) rfl) rfl rfl hl.1 rfl (lv_room (Nat.le_of_ble_eq_true rfl)) d_O_rewrite_11 ⟨Nat.zero_le _, Nat.zero_le _⟩) hP hD hS hA [6, 7] [0, 1, 2, 3, 4, 5] [0, 1, 2, 3, 4, 5, 6, 7] rfl rfl (by decide) (by decide) rfl (by decide) (fun H locs hP hD hS => ?_)
      refine lv_icmp_ge hx hb d_O_rewrite_14 rfl (fun hc => ?_) (fun hc => ?_)
      · rw [if_pos hc] at hr
        obtain rfl := Option.some.inj hr
        exact hQ _ _ _ _ d_O_rewrite_44 hP hD hS
      · rw [if_neg hc] at hr
        refine lv_aload_n hx hb d_O_rewrite_17 rfl (lv_at hl 0 rfl) ?_
        refine va_get (D := D) (ci := 3) (v := .ref (qO 2)) (C := R_O) (T := T_O) (N := 5) hx hb hts in_O hown hK hP 2 rfl rfl 3 (by decide) (hts _ kw_89) (fun _ h9 => h9) rfl d_O_rewrite_18 ?_
        refine lv_iload_n hx hb d_O_rewrite_21 rfl (lv_at hl 2 rfl) ?_
        obtain ⟨hi, hr⟩ := gd_some hr
        refine va_zald hx hb hK hP 4 1 rfl rfl hi d_O_rewrite_22 ?_
        refine lv_if_eq hx hb d_O_rewrite_23 rfl (fun hc => ?_) (fun hc => ?_)
        · rw [if_pos hc] at hr
          refine lv_iinc (k := 2) (v := (v2 + (1 : Int32))) (lv' := [(2, .int (v2 + (1 : Int32))), (0, .ref (qO 0)), (1, .ref (qC 0))]) hx hb d_O_rewrite_38 hl rfl (congrArg (fun z => v2 + z) (by decide : Int32.ofInt 1 = (1 : Int32))) (by decide) rfl (fun ls hl => ?_)
          refine lv_goto hx hb d_O_rewrite_41 rfl ?_
          exact ih (v2 + (1 : Int32)) C_instructions C_length O_registerOf _ _ _ (lv_sub hl [1, 2, 0] rfl) hP hD hS hr
        · rw [if_neg hc] at hr
          refine lv_aload_n hx hb d_O_rewrite_26 rfl (lv_at hl 0 rfl) ?_
          refine va_get (D := D) (ci := 3) (v := .ref (qO 3)) (C := R_O) (T := T_O) (N := 5) hx hb hts in_O hown hK hP 2 rfl rfl 4 (by decide) (hts _ kw_90) (fun _ h9 => h9) rfl d_O_rewrite_27 ?_
          refine lv_iload_n hx hb d_O_rewrite_30 rfl (lv_at hl 2 rfl) ?_
          refine lv_aload_n hx hb d_O_rewrite_31 rfl (lv_at hl 0 rfl) ?_
          refine lv_iload_n hx hb d_O_rewrite_32 rfl (lv_at hl 2 rfl) ?_
          refine lv_aload_n hx hb d_O_rewrite_33 rfl (lv_at hl 1 rfl) ?_
          obtain ⟨r2, hr2, hr⟩ := ob hr
          refine z_ci (ws := (W_COV kI kZ qC qO qV C_length C_instructions O_modulus O_valueOf O_isNeeded O_registerOf V_length V_instructions)) (wc := (W_COV kI kZ qC qO qV C_length C_instructions O_modulus O_valueOf O_isNeeded O_registerOf V_length V_instructions)) (wr := ([] : va_W)) (w1 := (W_COV kI kZ qC qO qV r2.2.2 r2.2.1 O_modulus O_valueOf O_isNeeded O_registerOf V_length V_instructions)) (w2 := (W_COV kI kZ qC qO qV r2.2.2 r2.2.1 O_modulus O_valueOf O_isNeeded O_registerOf V_length V_instructions)) (va_runV (As := [.int v2, .ref (qC 0)]) (rest := [.int v2, .ref (qO 3)]) ⟨hx, hb, hml, hown, hts⟩ (c_O_rewritten l D kI kZ qC qO qV C_length C_instructions O_modulus O_valueOf O_isNeeded O_registerOf V_length V_instructions v2 r2 hr2 H.size) (z_cwV hts mw_O_rewritten kw_313 ⟨by rw [hR]; exact Nat.le_of_ble_eq_true rfl, by rw [hR]; exact Nat.le_of_ble_eq_true rfl⟩) (z_preV (ci := 3) hK hP hD hN rfl (he := (rfl : _[2]? = _)) [0, 1, 2, 3, 4, 5, 6, 7] (by decide) rfl) rfl rfl hl.1 rfl (lv_room (Nat.le_of_ble_eq_true rfl)) d_O_rewrite_34 ⟨Nat.zero_le _, Nat.zero_le _⟩) hP hD hS hA [0, 1, 2, 3, 4, 5, 6, 7] [] [0, 1, 2, 3, 4, 5, 6, 7] rfl rfl (by decide) (by decide) rfl (by decide) (fun H locs hP hD hS => ?_)
          obtain ⟨hi, hr⟩ := gd_some hr
          refine va_iast hx hb hK hP hD hS 5 0 rfl rfl hi d_O_rewrite_37 (fun H locs hP hD hS => ?_)
          have hP : va_P D zCl (W_COV kI kZ qC qO qV r2.2.2 r2.2.1 O_modulus O_valueOf O_isNeeded (upd O_registerOf v2.toNatClampNeg r2.1) V_length V_instructions) H := hP
          have hD : va_D A (W_COV kI kZ qC qO qV r2.2.2 r2.2.1 O_modulus O_valueOf O_isNeeded (upd O_registerOf v2.toNatClampNeg r2.1) V_length V_instructions) := hD
          refine lv_iinc (k := 2) (v := (v2 + (1 : Int32))) (lv' := [(2, .int (v2 + (1 : Int32))), (0, .ref (qO 0)), (1, .ref (qC 0))]) hx hb d_O_rewrite_38 hl rfl (congrArg (fun z => v2 + z) (by decide : Int32.ofInt 1 = (1 : Int32))) (by decide) rfl (fun ls hl => ?_)
          refine lv_goto hx hb d_O_rewrite_41 rfl ?_
          exact ih (v2 + (1 : Int32)) r2.2.1 r2.2.2 (upd O_registerOf v2.toNatClampNeg r2.1) _ _ _ (lv_sub hl [1, 2, 0] rfl) hP hD hS hr
  intro ls H hl hP hD hS
  have hl : lv_has ls 3 [(0, .ref (qO 0)), (1, .ref (qC 0))] := hl
  rw [f_O_rewrite] at hr
  refine lv_aload_n hx hb d_O_rewrite_0 rfl (lv_at hl 1 rfl) ?_
  obtain ⟨r3, hr3, hr⟩ := ob hr
  refine z_cv (ws := (W_COV kI kZ qC qO qV C_length C_instructions O_modulus O_valueOf O_isNeeded O_registerOf V_length V_instructions)) (wc := (W_C kI kZ qC C_length C_instructions)) (wr := (W_OV kI kZ qO qV O_modulus O_valueOf O_isNeeded O_registerOf V_length V_instructions)) (w1 := (W_C kI kZ qC r3 C_instructions)) (w2 := (W_COV kI kZ qC qO qV r3 C_instructions O_modulus O_valueOf O_isNeeded O_registerOf V_length V_instructions)) (va_runV (As := []) (rest := []) ⟨hx, hb, hml, hown, hts⟩ (c_C_clear l D kI kZ qC C_length C_instructions r3 hr3 H.size) (z_cwV hts mw_C_clear kw_243 ⟨by rw [hR]; exact Nat.le_of_ble_eq_true rfl, by rw [hR]; exact Nat.le_of_ble_eq_true rfl⟩) (z_preV (ci := 0) hK hP hD hN rfl (he := (rfl : _[0]? = _)) [0, 1] (by decide) rfl) rfl rfl hl.1 rfl (lv_room (Nat.le_of_ble_eq_true rfl)) d_O_rewrite_1 ⟨Nat.zero_le _, Nat.zero_le _⟩) hP hD hS hA [0, 1] [2, 3, 4, 5, 6, 7] [6, 7, 0, 1, 2, 3, 4, 5] rfl rfl (by decide) (by decide) rfl (by decide) (fun H locs hP hD hS => ?_)
  refine lv_iconst (v := (0 : Int32)) hx hb d_O_rewrite_4 (by decide) ?_
  refine lv_istore_n (lv' := [(2, .int (0 : Int32)), (0, .ref (qO 0)), (1, .ref (qC 0))]) hx hb d_O_rewrite_5 rfl hl (by decide) rfl (fun ls hl => ?_)
  exact hB6 zFU (0 : Int32) C_instructions r3 O_registerOf _ _ _ (lv_sub hl [1, 2, 0] rfl) hP hD hS hr
set_option maxHeartbeats 4000000 in
set_option maxRecDepth 100000 in
theorem c_O_improve (l : Launch) (D : va_G) (kI kZ : ClassId) (qC qO qV : Nat → Nat) (C_length : Int32) (C_instructions : Nat → Int32) (O_modulus : Int32) (O_valueOf O_isNeeded O_registerOf : Nat → Int32) (V_length : Int32) (V_instructions : Nat → Int32)  (res : (Nat → Int32) × Int32 × (Nat → Int32) × (Nat → Int32) × (Nat → Int32) × (Nat → Int32) × Int32) (hr : f_O_improve C_instructions C_length O_modulus O_valueOf O_isNeeded O_registerOf V_instructions V_length = some res) : zMv l D kI kZ y_O_improve prog_5_method_2_code 3 none 6 138 [.ref (qO 0), .ref (qC 0)] (W_COV kI kZ qC qO qV C_length C_instructions O_modulus O_valueOf O_isNeeded O_registerOf V_length V_instructions) (W_COV kI kZ qC qO qV (res.2.1) (res.1) O_modulus (res.2.2.1) (res.2.2.2.1) (res.2.2.2.2.1) (res.2.2.2.2.2.2) (res.2.2.2.2.2.1)) := by
  refine zMv.of (by decide +kernel) (Nat.le_of_ble_eq_true rfl) ?_
  intro p e R s m args below meth c Q A hR hx hb hml hts hown hA hK hN hQ
  have hown : s.vm.findClass "SquareCode$Optimiser" = some m.cls := hown
  have hB9 : ∀ (C_instructions : Nat → Int32) (C_length : Int32) (O_isNeeded O_registerOf : Nat → Int32)   (fu : Nat) (v2 : Int32) (O_valueOf V_instructions : Nat → Int32) (V_length : Int32) (H : Heap) (locs : List Loc) (ls : Array Slot), lv_has ls 3 [(0, .ref (qO 0)), (1, .ref (qC 0)), (2, .int v2)] → va_P D zCl (W_COV kI kZ qC qO qV C_length C_instructions O_modulus O_valueOf O_isNeeded O_registerOf V_length V_instructions) H → va_D A (W_COV kI kZ qC qO qV C_length C_instructions O_modulus O_valueOf O_isNeeded O_registerOf V_length V_instructions) → va_S A s.heap H locs → f_O_improve_9 O_modulus C_instructions C_length O_isNeeded O_registerOf fu v2 O_valueOf V_instructions V_length = some res → W p l e R s m args below meth c H locs 0 0 Q (F0 m 9 ls []) := by
    intro C_instructions C_length O_isNeeded O_registerOf fu
    induction fu with
    | zero => intro v2 O_valueOf V_instructions V_length H locs ls hl hP hD hS hr; exact absurd hr (by rw [f_O_improve_9]; exact fun h => by cases h)
    | succ fu ih =>
      intro v2 O_valueOf V_instructions V_length H locs ls hl hP hD hS hr
      rw [f_O_improve_9] at hr
      refine lv_iload_n hx hb d_O_improve_9 rfl (lv_at hl 2 rfl) ?_
      refine lv_aload_n hx hb d_O_improve_10 rfl (lv_at hl 1 rfl) ?_
      obtain ⟨r1, hr1, hr⟩ := ob hr
      refine z_ci (ws := (W_COV kI kZ qC qO qV C_length C_instructions O_modulus O_valueOf O_isNeeded O_registerOf V_length V_instructions)) (wc := (W_C kI kZ qC C_length C_instructions)) (wr := (W_OV kI kZ qO qV O_modulus O_valueOf O_isNeeded O_registerOf V_length V_instructions)) (w1 := (W_C kI kZ qC C_length C_instructions)) (w2 := (W_COV kI kZ qC qO qV C_length C_instructions O_modulus O_valueOf O_isNeeded O_registerOf V_length V_instructions)) (va_runV (As := []) (rest := [.int v2]) ⟨hx, hb, hml, hown, hts⟩ (c_C_length l D kI kZ qC C_length C_instructions r1 hr1 H.size) (z_cwV hts mw_C_length kw_244 ⟨by rw [hR]; exact Nat.le_of_ble_eq_true rfl, by rw [hR]; exact Nat.le_of_ble_eq_true rfl⟩) (z_preV (ci := 0) hK hP hD hN rfl (he := (rfl : _[0]? = _)) [0, 1] (by decide) rfl) rfl rfl hl.1 rfl (lv_room (Nat.le_of_ble_eq_true rfl)) d_O_improve_11 ⟨Nat.zero_le _, Nat.zero_le _⟩) hP hD hS hA [0, 1] [2, 3, 4, 5, 6, 7] [6, 7, 0, 1, 2, 3, 4, 5] rfl rfl (by decide) (by decide) rfl (by decide) (fun H locs hP hD hS => ?_)
      refine lv_icmp_ge hx hb d_O_improve_14 rfl (fun hc => ?_) (fun hc => ?_)
      · rw [if_pos hc] at hr
        refine lv_aload_n hx hb d_O_improve_48 rfl (lv_at hl 0 rfl) ?_
        refine lv_aload_n hx hb d_O_improve_49 rfl (lv_at hl 0 rfl) ?_
        refine va_get (D := D) (ci := 3) (v := .ref (qO 1)) (C := R_O) (T := T_O) (N := 5) hx hb hts in_O hown hK hP 2 rfl rfl 2 (by decide) (hts _ kw_88) (fun _ h9 => h9) rfl d_O_improve_50 ?_
        refine lv_aload_n hx hb d_O_improve_53 rfl (lv_at hl 1 rfl) ?_
        obtain ⟨r2, hr2, hr⟩ := ob hr
        refine z_ci (ws := (W_COV kI kZ qC qO qV C_length C_instructions O_modulus O_valueOf O_isNeeded O_registerOf V_length V_instructions)) (wc := (W_C kI kZ qC C_length C_instructions)) (wr := (W_OV kI kZ qO qV O_modulus O_valueOf O_isNeeded O_registerOf V_length V_instructions)) (w1 := (W_C kI kZ qC C_length C_instructions)) (w2 := (W_COV kI kZ qC qO qV C_length C_instructions O_modulus O_valueOf O_isNeeded O_registerOf V_length V_instructions)) (va_runV (As := []) (rest := [.ref (qO 1), .ref (qO 0)]) ⟨hx, hb, hml, hown, hts⟩ (c_C_result l D kI kZ qC C_length C_instructions r2 hr2 H.size) (z_cwV hts mw_C_result kw_300 ⟨by rw [hR]; exact Nat.le_of_ble_eq_true rfl, by rw [hR]; exact Nat.le_of_ble_eq_true rfl⟩) (z_preV (ci := 0) hK hP hD hN rfl (he := (rfl : _[0]? = _)) [0, 1] (by decide) rfl) rfl rfl hl.1 rfl (lv_room (Nat.le_of_ble_eq_true rfl)) d_O_improve_54 ⟨Nat.zero_le _, Nat.zero_le _⟩) hP hD hS hA [0, 1] [2, 3, 4, 5, 6, 7] [6, 7, 0, 1, 2, 3, 4, 5] rfl rfl (by decide) (by decide) rfl (by decide) (fun H locs hP hD hS => ?_)
        obtain ⟨hi, hr⟩ := gd_some hr
        refine va_iald hx hb hK hP 3 0 rfl rfl hi d_O_improve_57 ?_
        obtain ⟨r3, hr3, hr⟩ := ob hr
        refine z_cv (ws := (W_COV kI kZ qC qO qV C_length C_instructions O_modulus O_valueOf O_isNeeded O_registerOf V_length V_instructions)) (wc := (W_OV kI kZ qO qV O_modulus O_valueOf O_isNeeded O_registerOf V_length V_instructions)) (wr := (W_C kI kZ qC C_length C_instructions)) (w1 := (W_OV kI kZ qO qV O_modulus O_valueOf r3 O_registerOf V_length V_instructions)) (w2 := (W_COV kI kZ qC qO qV C_length C_instructions O_modulus O_valueOf r3 O_registerOf V_length V_instructions)) (va_runV (As := [.int (O_valueOf r2.toNatClampNeg)]) (rest := []) ⟨hx, hb, hml, hown, hts⟩ (c_O_markNeeded l D kI kZ qO qV O_modulus O_valueOf O_isNeeded O_registerOf V_length V_instructions (O_valueOf r2.toNatClampNeg) r3 hr3 H.size) (z_cwV hts mw_O_markNeeded kw_304 ⟨by rw [hR]; exact Nat.le_of_ble_eq_true rfl, by rw [hR]; exact Nat.le_of_ble_eq_true rfl⟩) (z_preV (ci := 3) hK hP hD hN rfl (he := (rfl : _[2]? = _)) [2, 3, 4, 5, 6, 7] (by decide) rfl) rfl rfl hl.1 rfl (lv_room (Nat.le_of_ble_eq_true rfl)) d_O_improve_58 ⟨Nat.zero_le _, Nat.zero_le _⟩) hP hD hS hA [2, 3, 4, 5, 6, 7] [0, 1] [0, 1, 2, 3, 4, 5, 6, 7] rfl rfl (by decide) (by decide) rfl (by decide) (fun H locs hP hD hS => ?_)
        refine lv_aload_n hx hb d_O_improve_61 rfl (lv_at hl 0 rfl) ?_
        refine lv_aload_n hx hb d_O_improve_62 rfl (lv_at hl 1 rfl) ?_
        obtain ⟨r4, hr4, hr⟩ := ob hr
        refine z_cv (ws := (W_COV kI kZ qC qO qV C_length C_instructions O_modulus O_valueOf r3 O_registerOf V_length V_instructions)) (wc := (W_COV kI kZ qC qO qV C_length C_instructions O_modulus O_valueOf r3 O_registerOf V_length V_instructions)) (wr := ([] : va_W)) (w1 := (W_COV kI kZ qC qO qV r4.2.1 r4.1 O_modulus O_valueOf r3 r4.2.2 V_length V_instructions)) (w2 := (W_COV kI kZ qC qO qV r4.2.1 r4.1 O_modulus O_valueOf r3 r4.2.2 V_length V_instructions)) (va_runV (As := [.ref (qC 0)]) (rest := []) ⟨hx, hb, hml, hown, hts⟩ (c_O_rewrite l D kI kZ qC qO qV C_length C_instructions O_modulus O_valueOf r3 O_registerOf V_length V_instructions r4 hr4 H.size) (z_cwV hts mw_O_rewrite kw_309 ⟨by rw [hR]; exact Nat.le_of_ble_eq_true rfl, by rw [hR]; exact Nat.le_of_ble_eq_true rfl⟩) (z_preV (ci := 3) hK hP hD hN rfl (he := (rfl : _[2]? = _)) [0, 1, 2, 3, 4, 5, 6, 7] (by decide) rfl) rfl rfl hl.1 rfl (lv_room (Nat.le_of_ble_eq_true rfl)) d_O_improve_63 ⟨Nat.zero_le _, Nat.zero_le _⟩) hP hD hS hA [0, 1, 2, 3, 4, 5, 6, 7] [] [0, 1, 2, 3, 4, 5, 6, 7] rfl rfl (by decide) (by decide) rfl (by decide) (fun H locs hP hD hS => ?_)
        obtain rfl := Option.some.inj hr
        exact hQ _ _ _ _ d_O_improve_66 hP hD hS
      · rw [if_neg hc] at hr
        refine lv_aload_n hx hb d_O_improve_17 rfl (lv_at hl 0 rfl) ?_
        refine va_get (D := D) (ci := 3) (v := .ref (qO 1)) (C := R_O) (T := T_O) (N := 5) hx hb hts in_O hown hK hP 2 rfl rfl 2 (by decide) (hts _ kw_88) (fun _ h9 => h9) rfl d_O_improve_18 ?_
        refine lv_iload_n hx hb d_O_improve_21 rfl (lv_at hl 2 rfl) ?_
        refine lv_aload_n hx hb d_O_improve_22 rfl (lv_at hl 0 rfl) ?_
        refine lv_aload_n hx hb d_O_improve_23 rfl (lv_at hl 1 rfl) ?_
        refine lv_iload_n hx hb d_O_improve_24 rfl (lv_at hl 2 rfl) ?_
        obtain ⟨r5, hr5, hr⟩ := ob hr
        refine z_ci (ws := (W_COV kI kZ qC qO qV C_length C_instructions O_modulus O_valueOf O_isNeeded O_registerOf V_length V_instructions)) (wc := (W_C kI kZ qC C_length C_instructions)) (wr := (W_OV kI kZ qO qV O_modulus O_valueOf O_isNeeded O_registerOf V_length V_instructions)) (w1 := (W_C kI kZ qC C_length C_instructions)) (w2 := (W_COV kI kZ qC qO qV C_length C_instructions O_modulus O_valueOf O_isNeeded O_registerOf V_length V_instructions)) (va_runV (As := [.int v2]) (rest := [.ref (qO 0), .int v2, .ref (qO 1)]) ⟨hx, hb, hml, hown, hts⟩ (c_C_operation l D kI kZ qC C_length C_instructions v2 r5 hr5 H.size) (z_cwV hts mw_C_operation kw_245 ⟨by rw [hR]; exact Nat.le_of_ble_eq_true rfl, by rw [hR]; exact Nat.le_of_ble_eq_true rfl⟩) (z_preV (ci := 0) hK hP hD hN rfl (he := (rfl : _[0]? = _)) [0, 1] (by decide) rfl) rfl rfl hl.1 rfl (lv_room (Nat.le_of_ble_eq_true rfl)) d_O_improve_25 ⟨Nat.zero_le _, Nat.zero_le _⟩) hP hD hS hA [0, 1] [2, 3, 4, 5, 6, 7] [6, 7, 0, 1, 2, 3, 4, 5] rfl rfl (by decide) (by decide) rfl (by decide) (fun H locs hP hD hS => ?_)
        refine lv_aload_n hx hb d_O_improve_28 rfl (lv_at hl 1 rfl) ?_
        refine lv_iload_n hx hb d_O_improve_29 rfl (lv_at hl 2 rfl) ?_
        obtain ⟨r6, hr6, hr⟩ := ob hr
        refine z_ci (ws := (W_COV kI kZ qC qO qV C_length C_instructions O_modulus O_valueOf O_isNeeded O_registerOf V_length V_instructions)) (wc := (W_C kI kZ qC C_length C_instructions)) (wr := (W_OV kI kZ qO qV O_modulus O_valueOf O_isNeeded O_registerOf V_length V_instructions)) (w1 := (W_C kI kZ qC C_length C_instructions)) (w2 := (W_COV kI kZ qC qO qV C_length C_instructions O_modulus O_valueOf O_isNeeded O_registerOf V_length V_instructions)) (va_runV (As := [.int v2]) (rest := [.int r5, .ref (qO 0), .int v2, .ref (qO 1)]) ⟨hx, hb, hml, hown, hts⟩ (c_C_first l D kI kZ qC C_length C_instructions v2 r6 hr6 H.size) (z_cwV hts mw_C_first kw_249 ⟨by rw [hR]; exact Nat.le_of_ble_eq_true rfl, by rw [hR]; exact Nat.le_of_ble_eq_true rfl⟩) (z_preV (ci := 0) hK hP hD hN rfl (he := (rfl : _[0]? = _)) [0, 1] (by decide) rfl) rfl rfl hl.1 rfl (lv_room (Nat.le_of_ble_eq_true rfl)) d_O_improve_30 ⟨Nat.zero_le _, Nat.zero_le _⟩) hP hD hS hA [0, 1] [2, 3, 4, 5, 6, 7] [6, 7, 0, 1, 2, 3, 4, 5] rfl rfl (by decide) (by decide) rfl (by decide) (fun H locs hP hD hS => ?_)
        refine lv_aload_n hx hb d_O_improve_33 rfl (lv_at hl 1 rfl) ?_
        refine lv_iload_n hx hb d_O_improve_34 rfl (lv_at hl 2 rfl) ?_
        obtain ⟨r7, hr7, hr⟩ := ob hr
        refine z_ci (ws := (W_COV kI kZ qC qO qV C_length C_instructions O_modulus O_valueOf O_isNeeded O_registerOf V_length V_instructions)) (wc := (W_C kI kZ qC C_length C_instructions)) (wr := (W_OV kI kZ qO qV O_modulus O_valueOf O_isNeeded O_registerOf V_length V_instructions)) (w1 := (W_C kI kZ qC C_length C_instructions)) (w2 := (W_COV kI kZ qC qO qV C_length C_instructions O_modulus O_valueOf O_isNeeded O_registerOf V_length V_instructions)) (va_runV (As := [.int v2]) (rest := [.int r6, .int r5, .ref (qO 0), .int v2, .ref (qO 1)]) ⟨hx, hb, hml, hown, hts⟩ (c_C_second l D kI kZ qC C_length C_instructions v2 r7 hr7 H.size) (z_cwV hts mw_C_second kw_253 ⟨by rw [hR]; exact Nat.le_of_ble_eq_true rfl, by rw [hR]; exact Nat.le_of_ble_eq_true rfl⟩) (z_preV (ci := 0) hK hP hD hN rfl (he := (rfl : _[0]? = _)) [0, 1] (by decide) rfl) rfl rfl hl.1 rfl (lv_room (Nat.le_of_ble_eq_true rfl)) d_O_improve_35 ⟨Nat.zero_le _, Nat.zero_le _⟩) hP hD hS hA [0, 1] [2, 3, 4, 5, 6, 7] [6, 7, 0, 1, 2, 3, 4, 5] rfl rfl (by decide) (by decide) rfl (by decide) (fun H locs hP hD hS => ?_)
        obtain ⟨r8, hr8, hr⟩ := ob hr
        refine z_ci (ws := (W_COV kI kZ qC qO qV C_length C_instructions O_modulus O_valueOf O_isNeeded O_registerOf V_length V_instructions)) (wc := (W_OV kI kZ qO qV O_modulus O_valueOf O_isNeeded O_registerOf V_length V_instructions)) (wr := (W_C kI kZ qC C_length C_instructions)) (w1 := (W_OV kI kZ qO qV O_modulus O_valueOf O_isNeeded O_registerOf r8.2.2 r8.2.1)) (w2 := (W_COV kI kZ qC qO qV C_length C_instructions O_modulus O_valueOf O_isNeeded O_registerOf r8.2.2 r8.2.1)) (va_runV (As := [.int r5, .int r6, .int r7]) (rest := [.int v2, .ref (qO 1)]) ⟨hx, hb, hml, hown, hts⟩ (c_O_value l D kI kZ qO qV O_modulus O_valueOf O_isNeeded O_registerOf V_length V_instructions r5 r6 r7 r8 hr8 H.size) (z_cwV hts mw_O_value kw_257 ⟨by rw [hR]; exact Nat.le_of_ble_eq_true rfl, by rw [hR]; exact Nat.le_of_ble_eq_true rfl⟩) (z_preV (ci := 3) hK hP hD hN rfl (he := (rfl : _[2]? = _)) [2, 3, 4, 5, 6, 7] (by decide) rfl) rfl rfl hl.1 rfl (lv_room (Nat.le_of_ble_eq_true rfl)) d_O_improve_38 ⟨Nat.zero_le _, Nat.zero_le _⟩) hP hD hS hA [2, 3, 4, 5, 6, 7] [0, 1] [0, 1, 2, 3, 4, 5, 6, 7] rfl rfl (by decide) (by decide) rfl (by decide) (fun H locs hP hD hS => ?_)
        obtain ⟨hi, hr⟩ := gd_some hr
        refine va_iast hx hb hK hP hD hS 3 0 rfl rfl hi d_O_improve_41 (fun H locs hP hD hS => ?_)
        have hP : va_P D zCl (W_COV kI kZ qC qO qV C_length C_instructions O_modulus (upd O_valueOf v2.toNatClampNeg r8.1) O_isNeeded O_registerOf r8.2.2 r8.2.1) H := hP
        have hD : va_D A (W_COV kI kZ qC qO qV C_length C_instructions O_modulus (upd O_valueOf v2.toNatClampNeg r8.1) O_isNeeded O_registerOf r8.2.2 r8.2.1) := hD
        refine lv_iinc (k := 2) (v := (v2 + (1 : Int32))) (lv' := [(2, .int (v2 + (1 : Int32))), (0, .ref (qO 0)), (1, .ref (qC 0))]) hx hb d_O_improve_42 hl rfl (congrArg (fun z => v2 + z) (by decide : Int32.ofInt 1 = (1 : Int32))) (by decide) rfl (fun ls hl => ?_)
        refine lv_goto hx hb d_O_improve_45 rfl ?_
        exact ih (v2 + (1 : Int32)) (upd O_valueOf v2.toNatClampNeg r8.1) r8.2.1 r8.2.2 _ _ _ (lv_sub hl [1, 2, 0] rfl) hP hD hS hr
  intro ls H hl hP hD hS
  have hl : lv_has ls 3 [(0, .ref (qO 0)), (1, .ref (qC 0))] := hl
  rw [f_O_improve] at hr
  refine lv_aload_n hx hb d_O_improve_0 rfl (lv_at hl 0 rfl) ?_
  refine va_get (D := D) (ci := 3) (v := .ref (qV 0)) (C := R_O) (T := T_O) (N := 5) hx hb hts in_O hown hK hP 2 rfl rfl 1 (by decide) (hts _ kw_87) (fun _ h9 => h9) rfl d_O_improve_1 ?_
  obtain ⟨r9, hr9, hr⟩ := ob hr
  refine z_cv (ws := (W_COV kI kZ qC qO qV C_length C_instructions O_modulus O_valueOf O_isNeeded O_registerOf V_length V_instructions)) (wc := (W_C kI kZ qV V_length V_instructions)) (wr := (W_CO kI kZ qC qO qV C_length C_instructions O_modulus O_valueOf O_isNeeded O_registerOf)) (w1 := (W_C kI kZ qV r9 V_instructions)) (w2 := (W_COV kI kZ qC qO qV C_length C_instructions O_modulus O_valueOf O_isNeeded O_registerOf r9 V_instructions)) (va_runV (As := []) (rest := []) ⟨hx, hb, hml, hown, hts⟩ (c_C_clear l D kI kZ qV V_length V_instructions r9 hr9 H.size) (z_cwV hts mw_C_clear kw_243 ⟨by rw [hR]; exact Nat.le_of_ble_eq_true rfl, by rw [hR]; exact Nat.le_of_ble_eq_true rfl⟩) (z_preV (ci := 0) hK hP hD hN rfl (he := (rfl : _[6]? = _)) [6, 7] (by decide) rfl) rfl rfl hl.1 rfl (lv_room (Nat.le_of_ble_eq_true rfl)) d_O_improve_4 ⟨Nat.zero_le _, Nat.zero_le _⟩) hP hD hS hA [6, 7] [0, 1, 2, 3, 4, 5] [0, 1, 2, 3, 4, 5, 6, 7] rfl rfl (by decide) (by decide) rfl (by decide) (fun H locs hP hD hS => ?_)
  refine lv_iconst (v := (0 : Int32)) hx hb d_O_improve_7 (by decide) ?_
  refine lv_istore_n (lv' := [(2, .int (0 : Int32)), (0, .ref (qO 0)), (1, .ref (qC 0))]) hx hb d_O_improve_8 rfl hl (by decide) rfl (fun ls hl => ?_)
  exact hB9 C_instructions C_length O_isNeeded O_registerOf zFU (0 : Int32) O_valueOf V_instructions r9 _ _ _ (lv_sub hl [1, 2, 0] rfl) hP hD hS hr
set_option maxHeartbeats 4000000 in
set_option maxRecDepth 100000 in
theorem c_X_optimise (l : Launch) (D : va_G) (kI kZ : ClassId) (qX qM qR qC qP qO qV : Nat → Nat) (M_nc M_nf : Nat) (X_instructionsDone X_isWorkedOut M_modulus M_side M_size : Int32) (M_cells M_fresh : Nat → Int32) (R_length : Int32) (R_words : Nat → Int32) (C_length : Int32) (C_instructions P_registers : Nat → Int32) (O_modulus : Int32) (O_valueOf O_isNeeded O_registerOf : Nat → Int32) (V_length : Int32) (V_instructions : Nat → Int32)  (res : Int32 × Int32 × (Nat → Int32) × Int32 × (Nat → Int32) × (Nat → Int32) × (Nat → Int32) × (Nat → Int32) × Int32) (hr : f_X_optimise X_instructionsDone C_instructions C_length O_modulus O_valueOf O_isNeeded O_registerOf V_instructions V_length = some res) : zMi l D kI kZ y_X_optimise prog_1_method_5_code 1 ((some .int)) 7 160 [.ref (qX 0)] (W_XMRCPOV kI kZ qX qM qR qC qP qO qV M_nc M_nf X_instructionsDone X_isWorkedOut M_modulus M_side M_size M_cells M_fresh R_length R_words C_length C_instructions P_registers O_modulus O_valueOf O_isNeeded O_registerOf V_length V_instructions) (W_XMRCPOV kI kZ qX qM qR qC qP qO qV M_nc M_nf (res.2.1) X_isWorkedOut M_modulus M_side M_size M_cells M_fresh R_length R_words (res.2.2.2.1) (res.2.2.1) P_registers O_modulus (res.2.2.2.2.1) (res.2.2.2.2.2.1) (res.2.2.2.2.2.2.1) (res.2.2.2.2.2.2.2.2) (res.2.2.2.2.2.2.2.1)) (res.1) := by
  refine zMi.of (by decide +kernel) (Nat.le_of_ble_eq_true rfl) ?_
  intro p e R s m args below meth c Q A hR hx hb hml hts hown hA hK hN hQ
  have hown : s.vm.findClass "SquareCode" = some m.cls := hown
  intro ls H hl hP hD hS
  have hl : lv_has ls 1 [(0, .ref (qX 0))] := hl
  rw [f_X_optimise] at hr
  refine lv_aload_n hx hb d_X_optimise_0 rfl (lv_at hl 0 rfl) ?_
  obtain ⟨r1, hr1, hr⟩ := ob hr
  refine z_ci (ws := (W_XMRCPOV kI kZ qX qM qR qC qP qO qV M_nc M_nf X_instructionsDone X_isWorkedOut M_modulus M_side M_size M_cells M_fresh R_length R_words C_length C_instructions P_registers O_modulus O_valueOf O_isNeeded O_registerOf V_length V_instructions)) (wc := (W_XMRCPOV kI kZ qX qM qR qC qP qO qV M_nc M_nf X_instructionsDone X_isWorkedOut M_modulus M_side M_size M_cells M_fresh R_length R_words C_length C_instructions P_registers O_modulus O_valueOf O_isNeeded O_registerOf V_length V_instructions)) (wr := ([] : va_W)) (w1 := (W_XMRCPOV kI kZ qX qM qR qC qP qO qV M_nc M_nf X_instructionsDone X_isWorkedOut M_modulus M_side M_size M_cells M_fresh R_length R_words C_length C_instructions P_registers O_modulus O_valueOf O_isNeeded O_registerOf V_length V_instructions)) (w2 := (W_XMRCPOV kI kZ qX qM qR qC qP qO qV M_nc M_nf X_instructionsDone X_isWorkedOut M_modulus M_side M_size M_cells M_fresh R_length R_words C_length C_instructions P_registers O_modulus O_valueOf O_isNeeded O_registerOf V_length V_instructions)) (va_runV (As := []) (rest := []) ⟨hx, hb, hml, hown, hts⟩ (c_X_hasCode l D kI kZ qX qM qR qC qP qO qV M_nc M_nf X_instructionsDone X_isWorkedOut M_modulus M_side M_size M_cells M_fresh R_length R_words C_length C_instructions P_registers O_modulus O_valueOf O_isNeeded O_registerOf V_length V_instructions r1 hr1 H.size) (z_cwV hts mw_X_hasCode kw_133 ⟨by rw [hR]; exact Nat.le_of_ble_eq_true rfl, by rw [hR]; exact Nat.le_of_ble_eq_true rfl⟩) (z_preV (ci := 5) hK hP hD hN rfl (he := (rfl : _[0]? = _)) [0, 1, 2, 3, 4, 5, 6, 7, 8, 9, 10, 11, 12, 13, 14, 15] (by decide) rfl) rfl rfl hl.1 rfl (lv_room (Nat.le_of_ble_eq_true rfl)) d_X_optimise_1 ⟨Nat.zero_le _, Nat.zero_le _⟩) hP hD hS hA [0, 1, 2, 3, 4, 5, 6, 7, 8, 9, 10, 11, 12, 13, 14, 15] [] [0, 1, 2, 3, 4, 5, 6, 7, 8, 9, 10, 11, 12, 13, 14, 15] rfl rfl (by decide) (by decide) rfl (by decide) (fun H locs hP hD hS => ?_)
  refine lv_if_ne hx hb d_X_optimise_4 rfl (fun hc => ?_) (fun hc => ?_)
  · rw [if_neg hc] at hr
    refine lv_aload_n hx hb d_X_optimise_10 rfl (lv_at hl 0 rfl) ?_
    refine va_get (D := D) (ci := 5) (v := .ref (qO 0)) (C := R_X) (T := T_X) (N := 7) hx hb hts in_X hown hK hP 0 rfl rfl 4 (by decide) (hts _ kw_107) (fun _ h9 => h9) rfl d_X_optimise_11 ?_
    refine lv_aload_n hx hb d_X_optimise_14 rfl (lv_at hl 0 rfl) ?_
    refine va_get (D := D) (ci := 5) (v := .ref (qC 0)) (C := R_X) (T := T_X) (N := 7) hx hb hts in_X hown hK hP 0 rfl rfl 2 (by decide) (hts _ kw_105) (fun _ h9 => h9) rfl d_X_optimise_15 ?_
    obtain ⟨r2, hr2, hr⟩ := ob hr
    refine z_cv (ws := (W_XMRCPOV kI kZ qX qM qR qC qP qO qV M_nc M_nf X_instructionsDone X_isWorkedOut M_modulus M_side M_size M_cells M_fresh R_length R_words C_length C_instructions P_registers O_modulus O_valueOf O_isNeeded O_registerOf V_length V_instructions)) (wc := (W_COV kI kZ qC qO qV C_length C_instructions O_modulus O_valueOf O_isNeeded O_registerOf V_length V_instructions)) (wr := (W_XMRP kI kZ qX qM qR qP qC qO M_nc M_nf X_instructionsDone X_isWorkedOut M_modulus M_side M_size M_cells M_fresh R_length R_words P_registers)) (w1 := (W_COV kI kZ qC qO qV r2.2.1 r2.1 O_modulus r2.2.2.1 r2.2.2.2.1 r2.2.2.2.2.1 r2.2.2.2.2.2.2 r2.2.2.2.2.2.1)) (w2 := (W_XMRCPOV kI kZ qX qM qR qC qP qO qV M_nc M_nf X_instructionsDone X_isWorkedOut M_modulus M_side M_size M_cells M_fresh R_length R_words r2.2.1 r2.1 P_registers O_modulus r2.2.2.1 r2.2.2.2.1 r2.2.2.2.2.1 r2.2.2.2.2.2.2 r2.2.2.2.2.2.1)) (va_runV (As := [.ref (qC 0)]) (rest := []) ⟨hx, hb, hml, hown, hts⟩ (c_O_improve l D kI kZ qC qO qV C_length C_instructions O_modulus O_valueOf O_isNeeded O_registerOf V_length V_instructions r2 hr2 H.size) (z_cwV hts mw_O_improve kw_239 ⟨by rw [hR]; exact Nat.le_of_ble_eq_true rfl, by rw [hR]; exact Nat.le_of_ble_eq_true rfl⟩) (z_preV (ci := 3) hK hP hD hN rfl (he := (rfl : _[10]? = _)) [6, 7, 10, 11, 12, 13, 14, 15] (by decide) rfl) rfl rfl hl.1 rfl (lv_room (Nat.le_of_ble_eq_true rfl)) d_X_optimise_18 ⟨Nat.zero_le _, Nat.zero_le _⟩) hP hD hS hA [6, 7, 10, 11, 12, 13, 14, 15] [0, 1, 2, 3, 4, 5, 8, 9] [0, 1, 2, 3, 4, 5, 8, 9, 6, 7, 10, 11, 12, 13, 14, 15] rfl rfl (by decide) (by decide) rfl (by decide) (fun H locs hP hD hS => ?_)
    refine lv_aload_n hx hb d_X_optimise_21 rfl (lv_at hl 0 rfl) ?_
    obtain ⟨r3, hr3, hr⟩ := ob hr
    refine z_cv (ws := (W_XMRCPOV kI kZ qX qM qR qC qP qO qV M_nc M_nf X_instructionsDone X_isWorkedOut M_modulus M_side M_size M_cells M_fresh R_length R_words r2.2.1 r2.1 P_registers O_modulus r2.2.2.1 r2.2.2.2.1 r2.2.2.2.2.1 r2.2.2.2.2.2.2 r2.2.2.2.2.2.1)) (wc := (W_XMRCPOV kI kZ qX qM qR qC qP qO qV M_nc M_nf X_instructionsDone X_isWorkedOut M_modulus M_side M_size M_cells M_fresh R_length R_words r2.2.1 r2.1 P_registers O_modulus r2.2.2.1 r2.2.2.2.1 r2.2.2.2.2.1 r2.2.2.2.2.2.2 r2.2.2.2.2.2.1)) (wr := ([] : va_W)) (w1 := (W_XMRCPOV kI kZ qX qM qR qC qP qO qV M_nc M_nf r3 X_isWorkedOut M_modulus M_side M_size M_cells M_fresh R_length R_words r2.2.1 r2.1 P_registers O_modulus r2.2.2.1 r2.2.2.2.1 r2.2.2.2.2.1 r2.2.2.2.2.2.2 r2.2.2.2.2.2.1)) (w2 := (W_XMRCPOV kI kZ qX qM qR qC qP qO qV M_nc M_nf r3 X_isWorkedOut M_modulus M_side M_size M_cells M_fresh R_length R_words r2.2.1 r2.1 P_registers O_modulus r2.2.2.1 r2.2.2.2.1 r2.2.2.2.2.1 r2.2.2.2.2.2.2 r2.2.2.2.2.2.1)) (va_runV (As := []) (rest := []) ⟨hx, hb, hml, hown, hts⟩ (c_X_rewind l D kI kZ qX qM qR qC qP qO qV M_nc M_nf X_instructionsDone X_isWorkedOut M_modulus M_side M_size M_cells M_fresh R_length R_words r2.2.1 r2.1 P_registers O_modulus r2.2.2.1 r2.2.2.2.1 r2.2.2.2.2.1 r2.2.2.2.2.2.2 r2.2.2.2.2.2.1 r3 hr3 H.size) (z_cwV hts mw_X_rewind kw_160 ⟨by rw [hR]; exact Nat.le_of_ble_eq_true rfl, by rw [hR]; exact Nat.le_of_ble_eq_true rfl⟩) (z_preV (ci := 5) hK hP hD hN rfl (he := (rfl : _[0]? = _)) [0, 1, 2, 3, 4, 5, 6, 7, 8, 9, 10, 11, 12, 13, 14, 15] (by decide) rfl) rfl rfl hl.1 rfl (lv_room (Nat.le_of_ble_eq_true rfl)) d_X_optimise_22 ⟨Nat.zero_le _, Nat.zero_le _⟩) hP hD hS hA [0, 1, 2, 3, 4, 5, 6, 7, 8, 9, 10, 11, 12, 13, 14, 15] [] [0, 1, 2, 3, 4, 5, 6, 7, 8, 9, 10, 11, 12, 13, 14, 15] rfl rfl (by decide) (by decide) rfl (by decide) (fun H locs hP hD hS => ?_)
    refine lv_iconst (v := (0 : Int32)) hx hb d_X_optimise_25 (by decide) ?_
    obtain rfl := Option.some.inj hr
    exact hQ _ _ _ _ _ d_X_optimise_26 rfl rfl hP hD hS
  · rw [if_pos hc] at hr
    refine lv_bipush (v := (7 : Int32)) hx hb d_X_optimise_7 (by decide) ?_
    obtain rfl := Option.some.inj hr
    exact hQ _ _ _ _ _ d_X_optimise_9 rfl rfl hP hD hS
set_option maxHeartbeats 4000000 in
set_option maxRecDepth 100000 in
theorem c_M_copy (l : Launch) (D : va_G) (kI kZ : ClassId) (qM : Nat → Nat) (M_nc M_nf : Nat) (M_modulus M_side M_size : Int32) (M_cells M_fresh : Nat → Int32) (a1 a2 : Int32) (res : (Nat → Int32)) (hr : f_M_copy M_nc M_size M_cells a1 a2 = some res) : zMv l D kI kZ y_M_copy prog_4_method_6_code 3 none 1 60 [.ref (qM 0), .int a1, .int a2] (W_M kI kZ qM M_nc M_nf M_modulus M_side M_size M_cells M_fresh) (W_M kI kZ qM M_nc M_nf M_modulus M_side M_size res M_fresh) := by
  refine zMv.of (by decide +kernel) (Nat.le_of_ble_eq_true rfl) ?_
  intro p e R s m args below meth c Q A hR hx hb hml hts hown hA hK hN hQ
  have hown : s.vm.findClass "SquareCode$Matrices" = some m.cls := hown
  intro ls H hl hP hD hS
  have hl : lv_has ls 3 [(0, .ref (qM 0)), (1, .int a1), (2, .int a2)] := hl
  rw [f_M_copy] at hr
  refine lv_aload_n hx hb d_M_copy_0 rfl (lv_at hl 0 rfl) ?_
  refine va_get (D := D) (ci := 2) (v := .ref (qM 1)) (C := R_M) (T := T_M) (N := 5) hx hb hts in_M hown hK hP 0 rfl rfl 3 (by decide) (hts _ kw_28) (fun _ h9 => h9) rfl d_M_copy_1 ?_
  refine lv_iload_n hx hb d_M_copy_4 rfl (lv_at hl 2 rfl) ?_
  refine lv_aload_n hx hb d_M_copy_5 rfl (lv_at hl 0 rfl) ?_
  refine va_get (D := D) (ci := 2) (v := .int M_size) (C := R_M) (T := T_M) (N := 5) hx hb hts in_M hown hK hP 0 rfl rfl 2 (by decide) (hts _ kw_27) (fun _ h9 => h9) rfl d_M_copy_6 ?_
  refine lv_imul hx hb d_M_copy_9 ?_
  refine lv_aload_n hx hb d_M_copy_10 rfl (lv_at hl 0 rfl) ?_
  refine va_get (D := D) (ci := 2) (v := .ref (qM 1)) (C := R_M) (T := T_M) (N := 5) hx hb hts in_M hown hK hP 0 rfl rfl 3 (by decide) (hts _ kw_28) (fun _ h9 => h9) rfl d_M_copy_11 ?_
  refine lv_iload_n hx hb d_M_copy_14 rfl (lv_at hl 1 rfl) ?_
  refine lv_aload_n hx hb d_M_copy_15 rfl (lv_at hl 0 rfl) ?_
  refine va_get (D := D) (ci := 2) (v := .int M_size) (C := R_M) (T := T_M) (N := 5) hx hb hts in_M hown hK hP 0 rfl rfl 2 (by decide) (hts _ kw_27) (fun _ h9 => h9) rfl d_M_copy_16 ?_
  refine lv_imul hx hb d_M_copy_19 ?_
  refine lv_aload_n hx hb d_M_copy_20 rfl (lv_at hl 0 rfl) ?_
  refine va_get (D := D) (ci := 2) (v := .int M_size) (C := R_M) (T := T_M) (N := 5) hx hb hts in_M hown hK hP 0 rfl rfl 2 (by decide) (hts _ kw_27) (fun _ h9 => h9) rfl d_M_copy_21 ?_
  obtain ⟨h1, h2, h3, h4, h5, hr⟩ := cpg_some hr
  refine va_copyi hx hb (hml.trans hl.1.symm) hown (hts _ kw_335) (hts _ kw_337) (hts _ kw_336) (hts _ kw_10) hK hP hD hS 1 1 0 0 rfl rfl rfl rfl rfl h1 h2 h3 h4 h5 (fun i _ => rfl) (by rw [hR]; exact Nat.le_of_ble_eq_true rfl) (by rw [hR]; exact Nat.le_of_ble_eq_true (by decide +kernel)) d_M_copy_24 (fun H locs hP hD hS => ?_)
  have hP : va_P D zCl (W_M kI kZ qM M_nc M_nf M_modulus M_side M_size (va_cpy M_cells M_cells (a2 * M_size).toNatClampNeg (a1 * M_size).toNatClampNeg M_size.toNatClampNeg) M_fresh) H := hP
  have hD : va_D A (W_M kI kZ qM M_nc M_nf M_modulus M_side M_size (va_cpy M_cells M_cells (a2 * M_size).toNatClampNeg (a1 * M_size).toNatClampNeg M_size.toNatClampNeg) M_fresh) := hD
  obtain rfl := Option.some.inj hr
  exact hQ _ _ _ _ d_M_copy_27 hP hD hS
set_option maxHeartbeats 4000000 in
set_option maxRecDepth 100000 in
theorem c_M_makeNought (l : Launch) (D : va_G) (kI kZ : ClassId) (qM : Nat → Nat) (M_nc M_nf : Nat) (M_modulus M_side M_size : Int32) (M_cells M_fresh : Nat → Int32) (a1 : Int32) (res : (Nat → Int32)) (hr : f_M_makeNought M_nc M_size M_cells a1 = some res) : zMv l D kI kZ y_M_makeNought prog_4_method_7_code 3 none 0 0 [.ref (qM 0), .int a1] (W_M kI kZ qM M_nc M_nf M_modulus M_side M_size M_cells M_fresh) (W_M kI kZ qM M_nc M_nf M_modulus M_side M_size res M_fresh) := by
  refine zMv.of (by decide +kernel) (Nat.le_of_ble_eq_true rfl) ?_
  intro p e R s m args below meth c Q A hR hx hb hml hts hown hA hK hN hQ
  have hown : s.vm.findClass "SquareCode$Matrices" = some m.cls := hown
  have hB2 : ∀ (fu : Nat) (v2 : Int32) (M_cells : Nat → Int32) (H : Heap) (locs : List Loc) (ls : Array Slot), lv_has ls 3 [(0, .ref (qM 0)), (1, .int a1), (2, .int v2)] → va_P D zCl (W_M kI kZ qM M_nc M_nf M_modulus M_side M_size M_cells M_fresh) H → va_D A (W_M kI kZ qM M_nc M_nf M_modulus M_side M_size M_cells M_fresh) → va_S A s.heap H locs → f_M_makeNought_2 M_nc M_size a1 fu v2 M_cells = some res → W p l e R s m args below meth c H locs 0 0 Q (F0 m 2 ls []) := by
    intro  fu
    induction fu with
    | zero => intro v2 M_cells H locs ls hl hP hD hS hr; exact absurd hr (by rw [f_M_makeNought_2]; exact fun h => by cases h)
    | succ fu ih =>
      intro v2 M_cells H locs ls hl hP hD hS hr
      rw [f_M_makeNought_2] at hr
      refine lv_iload_n hx hb d_M_makeNought_2 rfl (lv_at hl 2 rfl) ?_
      refine lv_aload_n hx hb d_M_makeNought_3 rfl (lv_at hl 0 rfl) ?_
      refine va_get (D := D) (ci := 2) (v := .int M_size) (C := R_M) (T := T_M) (N := 5) hx hb hts in_M hown hK hP 0 rfl rfl 2 (by decide) (hts _ kw_27) (fun _ h9 => h9) rfl d_M_makeNought_4 ?_
      refine lv_icmp_ge hx hb d_M_makeNought_7 rfl (fun hc => ?_) (fun hc => ?_)
      · rw [if_pos hc] at hr
        obtain rfl := Option.some.inj hr
        exact hQ _ _ _ _ d_M_makeNought_30 hP hD hS
      · rw [if_neg hc] at hr
        refine lv_aload_n hx hb d_M_makeNought_10 rfl (lv_at hl 0 rfl) ?_
        refine va_get (D := D) (ci := 2) (v := .ref (qM 1)) (C := R_M) (T := T_M) (N := 5) hx hb hts in_M hown hK hP 0 rfl rfl 3 (by decide) (hts _ kw_28) (fun _ h9 => h9) rfl d_M_makeNought_11 ?_
        refine lv_iload_n hx hb d_M_makeNought_14 rfl (lv_at hl 1 rfl) ?_
        refine lv_aload_n hx hb d_M_makeNought_15 rfl (lv_at hl 0 rfl) ?_
        refine va_get (D := D) (ci := 2) (v := .int M_size) (C := R_M) (T := T_M) (N := 5) hx hb hts in_M hown hK hP 0 rfl rfl 2 (by decide) (hts _ kw_27) (fun _ h9 => h9) rfl d_M_makeNought_16 ?_
        refine lv_imul hx hb d_M_makeNought_19 ?_
        refine lv_iload_n hx hb d_M_makeNought_20 rfl (lv_at hl 2 rfl) ?_
        refine lv_iadd hx hb d_M_makeNought_21 ?_
        refine lv_iconst (v := (0 : Int32)) hx hb d_M_makeNought_22 (by decide) ?_
        obtain ⟨hi, hr⟩ := gd_some hr
        refine va_iast hx hb hK hP hD hS 1 0 rfl rfl hi d_M_makeNought_23 (fun H locs hP hD hS => ?_)
        have hP : va_P D zCl (W_M kI kZ qM M_nc M_nf M_modulus M_side M_size (upd M_cells ((a1 * M_size) + v2).toNatClampNeg (0 : Int32)) M_fresh) H := hP
        have hD : va_D A (W_M kI kZ qM M_nc M_nf M_modulus M_side M_size (upd M_cells ((a1 * M_size) + v2).toNatClampNeg (0 : Int32)) M_fresh) := hD
        refine lv_iinc (k := 2) (v := (v2 + (1 : Int32))) (lv' := [(2, .int (v2 + (1 : Int32))), (0, .ref (qM 0)), (1, .int a1)]) hx hb d_M_makeNought_24 hl rfl (congrArg (fun z => v2 + z) (by decide : Int32.ofInt 1 = (1 : Int32))) (by decide) rfl (fun ls hl => ?_)
        refine lv_goto hx hb d_M_makeNought_27 rfl ?_
        exact ih (v2 + (1 : Int32)) (upd M_cells ((a1 * M_size) + v2).toNatClampNeg (0 : Int32)) _ _ _ (lv_sub hl [1, 2, 0] rfl) hP hD hS hr
  intro ls H hl hP hD hS
  have hl : lv_has ls 3 [(0, .ref (qM 0)), (1, .int a1)] := hl
  rw [f_M_makeNought] at hr
  refine lv_iconst (v := (0 : Int32)) hx hb d_M_makeNought_0 (by decide) ?_
  refine lv_istore_n (lv' := [(2, .int (0 : Int32)), (0, .ref (qM 0)), (1, .int a1)]) hx hb d_M_makeNought_1 rfl hl (by decide) rfl (fun ls hl => ?_)
  exact hB2 zFU (0 : Int32) M_cells _ _ _ (lv_sub hl [1, 2, 0] rfl) hP hD hS hr
set_option maxHeartbeats 4000000 in
set_option maxRecDepth 100000 in
theorem c_M_makeOne (l : Launch) (D : va_G) (kI kZ : ClassId) (qM : Nat → Nat) (M_nc M_nf : Nat) (M_modulus M_side M_size : Int32) (M_cells M_fresh : Nat → Int32) (a1 : Int32) (res : (Nat → Int32)) (hr : f_M_makeOne M_nc M_modulus M_side M_size M_cells a1 = some res) : zMv l D kI kZ y_M_makeOne prog_4_method_8_code 3 none 2 46 [.ref (qM 0), .int a1] (W_M kI kZ qM M_nc M_nf M_modulus M_side M_size M_cells M_fresh) (W_M kI kZ qM M_nc M_nf M_modulus M_side M_size res M_fresh) := by
  refine zMv.of (by decide +kernel) (Nat.le_of_ble_eq_true rfl) ?_
  intro p e R s m args below meth c Q A hR hx hb hml hts hown hA hK hN hQ
  have hown : s.vm.findClass "SquareCode$Matrices" = some m.cls := hown
  have hB7 : ∀ (fu : Nat) (v2 : Int32) (M_cells : Nat → Int32) (H : Heap) (locs : List Loc) (ls : Array Slot), lv_has ls 3 [(0, .ref (qM 0)), (1, .int a1), (2, .int v2)] → va_P D zCl (W_M kI kZ qM M_nc M_nf M_modulus M_side M_size M_cells M_fresh) H → va_D A (W_M kI kZ qM M_nc M_nf M_modulus M_side M_size M_cells M_fresh) → va_S A s.heap H locs → f_M_makeOne_7 M_nc M_modulus M_side M_size a1 fu v2 M_cells = some res → W p l e R s m args below meth c H locs 0 0 Q (F0 m 7 ls []) := by
    intro  fu
    induction fu with
    | zero => intro v2 M_cells H locs ls hl hP hD hS hr; exact absurd hr (by rw [f_M_makeOne_7]; exact fun h => by cases h)
    | succ fu ih =>
      intro v2 M_cells H locs ls hl hP hD hS hr
      rw [f_M_makeOne_7] at hr
      refine lv_iload_n hx hb d_M_makeOne_7 rfl (lv_at hl 2 rfl) ?_
      refine lv_aload_n hx hb d_M_makeOne_8 rfl (lv_at hl 0 rfl) ?_
      refine va_get (D := D) (ci := 2) (v := .int M_side) (C := R_M) (T := T_M) (N := 5) hx hb hts in_M hown hK hP 0 rfl rfl 1 (by decide) (hts _ kw_26) (fun _ h9 => h9) rfl d_M_makeOne_9 ?_
      refine lv_icmp_ge hx hb d_M_makeOne_12 rfl (fun hc => ?_) (fun hc => ?_)
      · rw [if_pos hc] at hr
        obtain rfl := Option.some.inj hr
        exact hQ _ _ _ _ d_M_makeOne_29 hP hD hS
      · rw [if_neg hc] at hr
        refine lv_aload_n hx hb d_M_makeOne_15 rfl (lv_at hl 0 rfl) ?_
        refine lv_iload_n hx hb d_M_makeOne_16 rfl (lv_at hl 1 rfl) ?_
        refine lv_iload_n hx hb d_M_makeOne_17 rfl (lv_at hl 2 rfl) ?_
        refine lv_iload_n hx hb d_M_makeOne_18 rfl (lv_at hl 2 rfl) ?_
        refine lv_iconst (v := (1 : Int32)) hx hb d_M_makeOne_19 (by decide) ?_
        obtain ⟨r1, hr1, hr⟩ := ob hr
        refine z_cv (ws := (W_M kI kZ qM M_nc M_nf M_modulus M_side M_size M_cells M_fresh)) (wc := (W_M kI kZ qM M_nc M_nf M_modulus M_side M_size M_cells M_fresh)) (wr := ([] : va_W)) (w1 := (W_M kI kZ qM M_nc M_nf M_modulus M_side M_size r1 M_fresh)) (w2 := (W_M kI kZ qM M_nc M_nf M_modulus M_side M_size r1 M_fresh)) (va_runV (As := [.int a1, .int v2, .int v2, .int (1 : Int32)]) (rest := []) ⟨hx, hb, hml, hown, hts⟩ (c_M_put l D kI kZ qM M_nc M_nf M_modulus M_side M_size M_cells M_fresh a1 v2 v2 (1 : Int32) r1 hr1 H.size) (z_cwV hts mw_M_put kw_346 ⟨by rw [hR]; exact Nat.le_of_ble_eq_true rfl, by rw [hR]; exact Nat.le_of_ble_eq_true rfl⟩) (z_preV (ci := 2) hK hP hD hN rfl (he := (rfl : _[0]? = _)) [0, 1, 2] (by decide) rfl) rfl rfl hl.1 rfl (lv_room (Nat.le_of_ble_eq_true rfl)) d_M_makeOne_20 ⟨Nat.zero_le _, Nat.zero_le _⟩) hP hD hS hA [0, 1, 2] [] [0, 1, 2] rfl rfl (by decide) (by decide) rfl (by decide) (fun H locs hP hD hS => ?_)
        refine lv_iinc (k := 2) (v := (v2 + (1 : Int32))) (lv' := [(2, .int (v2 + (1 : Int32))), (0, .ref (qM 0)), (1, .int a1)]) hx hb d_M_makeOne_23 hl rfl (congrArg (fun z => v2 + z) (by decide : Int32.ofInt 1 = (1 : Int32))) (by decide) rfl (fun ls hl => ?_)
        refine lv_goto hx hb d_M_makeOne_26 rfl ?_
        exact ih (v2 + (1 : Int32)) r1 _ _ _ (lv_sub hl [1, 2, 0] rfl) hP hD hS hr
  intro ls H hl hP hD hS
  have hl : lv_has ls 3 [(0, .ref (qM 0)), (1, .int a1)] := hl
  rw [f_M_makeOne] at hr
  refine lv_aload_n hx hb d_M_makeOne_0 rfl (lv_at hl 0 rfl) ?_
  refine lv_iload_n hx hb d_M_makeOne_1 rfl (lv_at hl 1 rfl) ?_
  obtain ⟨r2, hr2, hr⟩ := ob hr
  refine z_cv (ws := (W_M kI kZ qM M_nc M_nf M_modulus M_side M_size M_cells M_fresh)) (wc := (W_M kI kZ qM M_nc M_nf M_modulus M_side M_size M_cells M_fresh)) (wr := ([] : va_W)) (w1 := (W_M kI kZ qM M_nc M_nf M_modulus M_side M_size r2 M_fresh)) (w2 := (W_M kI kZ qM M_nc M_nf M_modulus M_side M_size r2 M_fresh)) (va_runV (As := [.int a1]) (rest := []) ⟨hx, hb, hml, hown, hts⟩ (c_M_makeNought l D kI kZ qM M_nc M_nf M_modulus M_side M_size M_cells M_fresh a1 r2 hr2 H.size) (z_cwV hts mw_M_makeNought kw_342 ⟨by rw [hR]; exact Nat.le_of_ble_eq_true rfl, by rw [hR]; exact Nat.le_of_ble_eq_true rfl⟩) (z_preV (ci := 2) hK hP hD hN rfl (he := (rfl : _[0]? = _)) [0, 1, 2] (by decide) rfl) rfl rfl hl.1 rfl (lv_room (Nat.le_of_ble_eq_true rfl)) d_M_makeOne_2 ⟨Nat.zero_le _, Nat.zero_le _⟩) hP hD hS hA [0, 1, 2] [] [0, 1, 2] rfl rfl (by decide) (by decide) rfl (by decide) (fun H locs hP hD hS => ?_)
  refine lv_iconst (v := (0 : Int32)) hx hb d_M_makeOne_5 (by decide) ?_
  refine lv_istore_n (lv' := [(2, .int (0 : Int32)), (0, .ref (qM 0)), (1, .int a1)]) hx hb d_M_makeOne_6 rfl hl (by decide) rfl (fun ls hl => ?_)
  exact hB7 zFU (0 : Int32) r2 _ _ _ (lv_sub hl [1, 2, 0] rfl) hP hD hS hr
