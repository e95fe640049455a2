set_option maxHeartbeats 4000000 in
set_option maxRecDepth 100000 in
theorem c_R_isFull (l : Launch) (D : va_G) (kI kZ : ClassId) (qR : Nat → Nat) (R_length : Int32) (R_words : Nat → Int32)  (res : Int32) (hr : f_R_isFull R_length = some res) : zMi l D kI kZ y_R_isFull prog_6_method_3_code 1 ((some .boolean)) 0 0 [.ref (qR 0)] (W_R kI kZ qR R_length R_words) (W_R kI kZ qR R_length R_words) res := by
  refine zMi.of (by decide +kernel) (Nat.le_of_ble_eq_true rfl) ?_
  intro p e R s m args below meth c Q A hR hx hb hml hts hown hA hK hN hQ
  have hown : s.vm.findClass "SquareCode$Source" = some m.cls := hown
  intro ls H hl hP hD hS
  have hl : lv_has ls 1 [(0, .ref (qR 0))] := hl
  rw [f_R_isFull] at hr
  refine lv_aload_n hx hb d_R_isFull_0 rfl (lv_at hl 0 rfl) ?_
  refine va_get (D := D) (ci := 4) (v := .int R_length) (C := R_R) (T := T_R) (N := 2) hx hb hts in_R hown hK hP 0 rfl rfl 1 (by decide) (hts _ kw_49) (fun _ h9 => h9) rfl d_R_isFull_1 ?_
  refine lv_bipush (v := (24 : Int32)) hx hb d_R_isFull_4 (by decide) ?_
  refine lv_icmp_lt hx hb d_R_isFull_6 rfl (fun hc => ?_) (fun hc => ?_)
  · rw [if_pos hc] at hr
    refine lv_iconst (v := (0 : Int32)) hx hb d_R_isFull_13 (by decide) ?_
    obtain rfl := Option.some.inj hr
    exact hQ _ _ _ _ _ d_R_isFull_14 (by decide +kernel) rfl hP hD hS
  · rw [if_neg hc] at hr
    refine lv_iconst (v := (1 : Int32)) hx hb d_R_isFull_9 (by decide) ?_
    refine lv_goto hx hb d_R_isFull_10 rfl ?_
    obtain rfl := Option.some.inj hr
    exact hQ _ _ _ _ _ d_R_isFull_14 (by decide +kernel) rfl hP hD hS
set_option maxHeartbeats 4000000 in
set_option maxRecDepth 100000 in
theorem c_C_length (l : Launch) (D : va_G) (kI kZ : ClassId) (qC : Nat → Nat) (C_length : Int32) (C_instructions : Nat → Int32)  (res : Int32) (hr : f_C_length C_length = some res) : zMi l D kI kZ y_C_length prog_2_method_2_code 1 ((some .int)) 0 0 [.ref (qC 0)] (W_C kI kZ qC C_length C_instructions) (W_C kI kZ qC C_length C_instructions) res := by
  refine zMi.of (by decide +kernel) (Nat.le_of_ble_eq_true rfl) ?_
  intro p e R s m args below meth c Q A hR hx hb hml hts hown hA hK hN hQ
  have hown : s.vm.findClass "SquareCode$Code" = some m.cls := hown
  intro ls H hl hP hD hS
  have hl : lv_has ls 1 [(0, .ref (qC 0))] := hl
  rw [f_C_length] at hr
  refine lv_aload_n hx hb d_C_length_0 rfl (lv_at hl 0 rfl) ?_
  refine va_get (D := D) (ci := 0) (v := .int C_length) (C := R_C) (T := T_C) (N := 2) hx hb hts in_C hown hK hP 0 rfl rfl 1 (by decide) (hts _ kw_62) (fun _ h9 => h9) rfl d_C_length_1 ?_
  obtain rfl := Option.some.inj hr
  exact hQ _ _ _ _ _ d_C_length_4 rfl rfl hP hD hS
set_option maxHeartbeats 4000000 in
set_option maxRecDepth 100000 in
theorem c_X_hasCode (l : Launch) (D : va_G) (kI kZ : ClassId) (qX qM qR qC qP qO qV : Nat → Nat) (M_nc M_nf : Nat) (X_instructionsDone X_isWorkedOut M_modulus M_side M_size : Int32) (M_cells M_fresh : Nat → Int32) (R_length : Int32) (R_words : Nat → Int32) (C_length : Int32) (C_instructions P_registers : Nat → Int32) (O_modulus : Int32) (O_valueOf O_isNeeded O_registerOf : Nat → Int32) (V_length : Int32) (V_instructions : Nat → Int32)  (res : Int32) (hr : f_X_hasCode C_length = some res) : zMi l D kI kZ y_X_hasCode prog_1_method_14_code 1 ((some .boolean)) 1 20 [.ref (qX 0)] (W_XMRCPOV kI kZ qX qM qR qC qP qO qV M_nc M_nf X_instructionsDone X_isWorkedOut M_modulus M_side M_size M_cells M_fresh R_length R_words C_length C_instructions P_registers O_modulus O_valueOf O_isNeeded O_registerOf V_length V_instructions) (W_XMRCPOV kI kZ qX qM qR qC qP qO qV M_nc M_nf X_instructionsDone X_isWorkedOut M_modulus M_side M_size M_cells M_fresh R_length R_words C_length C_instructions P_registers O_modulus O_valueOf O_isNeeded O_registerOf V_length V_instructions) res := by
  refine zMi.of (by decide +kernel) (Nat.le_of_ble_eq_true rfl) ?_
  intro p e R s m args below meth c Q A hR hx hb hml hts hown hA hK hN hQ
  have hown : s.vm.findClass "SquareCode" = some m.cls := hown
  intro ls H hl hP hD hS
  have hl : lv_has ls 1 [(0, .ref (qX 0))] := hl
  rw [f_X_hasCode] at hr
  refine lv_aload_n hx hb d_X_hasCode_0 rfl (lv_at hl 0 rfl) ?_
  refine va_get (D := D) (ci := 5) (v := .ref (qC 0)) (C := R_X) (T := T_X) (N := 7) hx hb hts in_X hown hK hP 0 rfl rfl 2 (by decide) (hts _ kw_105) (fun _ h9 => h9) rfl d_X_hasCode_1 ?_
  obtain ⟨r1, hr1, hr⟩ := ob hr
  refine z_ci (ws := (W_XMRCPOV kI kZ qX qM qR qC qP qO qV M_nc M_nf X_instructionsDone X_isWorkedOut M_modulus M_side M_size M_cells M_fresh R_length R_words C_length C_instructions P_registers O_modulus O_valueOf O_isNeeded O_registerOf V_length V_instructions)) (wc := (W_C kI kZ qC C_length C_instructions)) (wr := (W_XMRPOV kI kZ qX qM qR qP qO qV qC M_nc M_nf X_instructionsDone X_isWorkedOut M_modulus M_side M_size M_cells M_fresh R_length R_words P_registers O_modulus O_valueOf O_isNeeded O_registerOf V_length V_instructions)) (w1 := (W_C kI kZ qC C_length C_instructions)) (w2 := (W_XMRCPOV kI kZ qX qM qR qC qP qO qV M_nc M_nf X_instructionsDone X_isWorkedOut M_modulus M_side M_size M_cells M_fresh R_length R_words C_length C_instructions P_registers O_modulus O_valueOf O_isNeeded O_registerOf V_length V_instructions)) (va_runV (As := []) (rest := []) ⟨hx, hb, hml, hown, hts⟩ (c_C_length l D kI kZ qC C_length C_instructions r1 hr1 H.size) (z_cwV hts mw_C_length kw_137 ⟨by rw [hR]; exact Nat.le_of_ble_eq_true rfl, by rw [hR]; exact Nat.le_of_ble_eq_true rfl⟩) (z_preV (ci := 0) hK hP hD hN rfl (he := (rfl : _[6]? = _)) [6, 7] (by decide) rfl) rfl rfl hl.1 rfl (lv_room (Nat.le_of_ble_eq_true rfl)) d_X_hasCode_4 ⟨Nat.zero_le _, Nat.zero_le _⟩) hP hD hS hA [6, 7] [0, 1, 2, 3, 4, 5, 8, 9, 10, 11, 12, 13, 14, 15] [0, 1, 2, 3, 4, 5, 14, 15, 6, 7, 8, 9, 10, 11, 12, 13] rfl rfl (by decide) (by decide) rfl (by decide) (fun H locs hP hD hS => ?_)
  refine lv_if_le hx hb d_X_hasCode_7 rfl (fun hc => ?_) (fun hc => ?_)
  · rw [if_pos hc] at hr
    refine lv_iconst (v := (0 : Int32)) hx hb d_X_hasCode_14 (by decide) ?_
    obtain rfl := Option.some.inj hr
    exact hQ _ _ _ _ _ d_X_hasCode_15 (by decide +kernel) rfl hP hD hS
  · rw [if_neg hc] at hr
    refine lv_iconst (v := (1 : Int32)) hx hb d_X_hasCode_10 (by decide) ?_
    refine lv_goto hx hb d_X_hasCode_11 rfl ?_
    obtain rfl := Option.some.inj hr
    exact hQ _ _ _ _ _ d_X_hasCode_15 (by decide +kernel) rfl hP hD hS
set_option maxHeartbeats 4000000 in
set_option maxRecDepth 100000 in
theorem c_R_append (l : Launch) (D : va_G) (kI kZ : ClassId) (qR : Nat → Nat) (R_length : Int32) (R_words : Nat → Int32) (a1 : Int32) (res : (Nat → Int32) × Int32) (hr : f_R_append R_words R_length a1 = some res) : zMv l D kI kZ y_R_append prog_6_method_4_code 2 none 0 0 [.ref (qR 0), .int a1] (W_R kI kZ qR R_length R_words) (W_R kI kZ qR (res.2) (res.1)) := by
  refine zMv.of (by decide +kernel) (Nat.le_of_ble_eq_true rfl) ?_
  intro p e R s m args below meth c Q A hR hx hb hml hts hown hA hK hN hQ
  have hown : s.vm.findClass "SquareCode$Source" = some m.cls := hown
  intro ls H hl hP hD hS
  have hl : lv_has ls 2 [(0, .ref (qR 0)), (1, .int a1)] := hl
  rw [f_R_append] at hr
  refine lv_aload_n hx hb d_R_append_0 rfl (lv_at hl 0 rfl) ?_
  refine va_get (D := D) (ci := 4) (v := .ref (qR 1)) (C := R_R) (T := T_R) (N := 2) hx hb hts in_R hown hK hP 0 rfl rfl 0 (by decide) (hts _ kw_48) (fun _ h9 => h9) rfl d_R_append_1 ?_
  refine lv_aload_n hx hb d_R_append_4 rfl (lv_at hl 0 rfl) ?_
  refine va_get (D := D) (ci := 4) (v := .int R_length) (C := R_R) (T := T_R) (N := 2) hx hb hts in_R hown hK hP 0 rfl rfl 1 (by decide) (hts _ kw_49) (fun _ h9 => h9) rfl d_R_append_5 ?_
  refine lv_iload_n hx hb d_R_append_8 rfl (lv_at hl 1 rfl) ?_
  obtain ⟨hi, hr⟩ := gd_some hr
  refine va_iast hx hb hK hP hD hS 1 0 rfl rfl hi d_R_append_9 (fun H locs hP hD hS => ?_)
  have hP : va_P D zCl (W_R kI kZ qR R_length (upd R_words R_length.toNatClampNeg a1)) H := hP
  have hD : va_D A (W_R kI kZ qR R_length (upd R_words R_length.toNatClampNeg a1)) := hD
  refine lv_aload_n hx hb d_R_append_10 rfl (lv_at hl 0 rfl) ?_
  refine lv_dup hx hb d_R_append_11 rfl ?_
  refine va_get (D := D) (ci := 4) (v := .int R_length) (C := R_R) (T := T_R) (N := 2) hx hb hts in_R hown hK hP 0 rfl rfl 1 (by decide) (hts _ kw_49) (fun _ h9 => h9) rfl d_R_append_12 ?_
  refine lv_iconst (v := (1 : Int32)) hx hb d_R_append_15 (by decide) ?_
  refine lv_iadd hx hb d_R_append_16 ?_
  refine va_put (D := D) (ci := 4) (v := .int (R_length + (1 : Int32))) (ty := .int) (C := R_R) (T := T_R) (N := 2) hx hb hts in_R ty_R tyo_R nm_R hown hK hP hD hS 0 rfl rfl 1 (by decide) (hts _ kw_49) (fun _ h9 => h9) rfl (by decide +kernel) rfl rfl (Nat.le_of_ble_eq_true rfl) d_R_append_17 (fun H locs hP hD hS => ?_)
  have hP : va_P D zCl (W_R kI kZ qR (R_length + (1 : Int32)) (upd R_words R_length.toNatClampNeg a1)) H := hP
  have hD : va_D A (W_R kI kZ qR (R_length + (1 : Int32)) (upd R_words R_length.toNatClampNeg a1)) := hD
  obtain rfl := Option.some.inj hr
  exact hQ _ _ _ _ d_R_append_20 hP hD hS
set_option maxHeartbeats 4000000 in
set_option maxRecDepth 100000 in
theorem c_X_feed (l : Launch) (D : va_G) (kI kZ : ClassId) (qX qM qR qC qP qO qV : Nat → Nat) (M_nc M_nf : Nat) (X_instructionsDone X_isWorkedOut M_modulus M_side M_size : Int32) (M_cells M_fresh : Nat → Int32) (R_length : Int32) (R_words : Nat → Int32) (C_length : Int32) (C_instructions P_registers : Nat → Int32) (O_modulus : Int32) (O_valueOf O_isNeeded O_registerOf : Nat → Int32) (V_length : Int32) (V_instructions : Nat → Int32) (a1 : Int32) (res : Int32 × (Nat → Int32) × Int32) (hr : f_X_feed R_words R_length C_length a1 = some res) : zMi l D kI kZ y_X_feed prog_1_method_2_code 2 ((some .int)) 2 40 [.ref (qX 0), .int a1] (W_XMRCPOV kI kZ qX qM qR qC qP qO qV M_nc M_nf X_instructionsDone X_isWorkedOut M_modulus M_side M_size M_cells M_fresh R_length R_words C_length C_instructions P_registers O_modulus O_valueOf O_isNeeded O_registerOf V_length V_instructions) (W_XMRCPOV kI kZ qX qM qR qC qP qO qV M_nc M_nf X_instructionsDone X_isWorkedOut M_modulus M_side M_size M_cells M_fresh (res.2.2) (res.2.1) C_length C_instructions P_registers O_modulus O_valueOf O_isNeeded O_registerOf V_length V_instructions) (res.1) := by
  refine zMi.of (by decide +kernel) (Nat.le_of_ble_eq_true rfl) ?_
  intro p e R s m args below meth c Q A hR hx hb hml hts hown hA hK hN hQ
  have hown : s.vm.findClass "SquareCode" = some m.cls := hown
  intro ls H hl hP hD hS
  have hl : lv_has ls 2 [(0, .ref (qX 0)), (1, .int a1)] := hl
  rw [f_X_feed] at hr
  refine lv_aload_n hx hb d_X_feed_0 rfl (lv_at hl 0 rfl) ?_
  refine va_get (D := D) (ci := 5) (v := .ref (qR 0)) (C := R_X) (T := T_X) (N := 7) hx hb hts in_X hown hK hP 0 rfl rfl 1 (by decide) (hts _ kw_104) (fun _ h9 => h9) rfl d_X_feed_1 ?_
  obtain ⟨r1, hr1, hr⟩ := ob hr
  refine z_ci (ws := (W_XMRCPOV kI kZ qX qM qR qC qP qO qV M_nc M_nf X_instructionsDone X_isWorkedOut M_modulus M_side M_size M_cells M_fresh R_length R_words C_length C_instructions P_registers O_modulus O_valueOf O_isNeeded O_registerOf V_length V_instructions)) (wc := (W_R kI kZ qR R_length R_words)) (wr := (W_XMCPOV kI kZ qX qM qC qP qO qV qR M_nc M_nf X_instructionsDone X_isWorkedOut M_modulus M_side M_size M_cells M_fresh C_length C_instructions P_registers O_modulus O_valueOf O_isNeeded O_registerOf V_length V_instructions)) (w1 := (W_R kI kZ qR R_length R_words)) (w2 := (W_XMRCPOV kI kZ qX qM qR qC qP qO qV M_nc M_nf X_instructionsDone X_isWorkedOut M_modulus M_side M_size M_cells M_fresh R_length R_words C_length C_instructions P_registers O_modulus O_valueOf O_isNeeded O_registerOf V_length V_instructions)) (va_runV (As := []) (rest := []) ⟨hx, hb, hml, hown, hts⟩ (c_R_isFull l D kI kZ qR R_length R_words r1 hr1 H.size) (z_cwV hts mw_R_isFull kw_129 ⟨by rw [hR]; exact Nat.le_of_ble_eq_true rfl, by rw [hR]; exact Nat.le_of_ble_eq_true rfl⟩) (z_preV (ci := 4) hK hP hD hN rfl (he := (rfl : _[4]? = _)) [4, 5] (by decide) rfl) rfl rfl hl.1 rfl (lv_room (Nat.le_of_ble_eq_true rfl)) d_X_feed_4 ⟨Nat.zero_le _, Nat.zero_le _⟩) hP hD hS hA [4, 5] [0, 1, 2, 3, 6, 7, 8, 9, 10, 11, 12, 13, 14, 15] [0, 1, 2, 3, 14, 15, 4, 5, 6, 7, 8, 9, 10, 11, 12, 13] rfl rfl (by decide) (by decide) rfl (by decide) (fun H locs hP hD hS => ?_)
  refine lv_if_ne hx hb d_X_feed_7 rfl (fun hc => ?_) (fun hc => ?_)
  · rw [if_neg hc] at hr
    refine lv_iconst (v := (1 : Int32)) hx hb d_X_feed_17 (by decide) ?_
    obtain rfl := Option.some.inj hr
    exact hQ _ _ _ _ _ d_X_feed_18 rfl rfl hP hD hS
  · rw [if_pos hc] at hr
    refine lv_aload_n hx hb d_X_feed_10 rfl (lv_at hl 0 rfl) ?_
    obtain ⟨r2, hr2, hr⟩ := ob hr
    refine z_ci (ws := (W_XMRCPOV kI kZ qX qM qR qC qP qO qV M_nc M_nf X_instructionsDone X_isWorkedOut M_modulus M_side M_size M_cells M_fresh R_length R_words C_length C_instructions P_registers O_modulus O_valueOf O_isNeeded O_registerOf V_length V_instructions)) (wc := (W_XMRCPOV kI kZ qX qM qR qC qP qO qV M_nc M_nf X_instructionsDone X_isWorkedOut M_modulus M_side M_size M_cells M_fresh R_length R_words C_length C_instructions P_registers O_modulus O_valueOf O_isNeeded O_registerOf V_length V_instructions)) (wr := ([] : va_W)) (w1 := (W_XMRCPOV kI kZ qX qM qR qC qP qO qV M_nc M_nf X_instructionsDone X_isWorkedOut M_modulus M_side M_size M_cells M_fresh R_length R_words C_length C_instructions P_registers O_modulus O_valueOf O_isNeeded O_registerOf V_length V_instructions)) (w2 := (W_XMRCPOV kI kZ qX qM qR qC qP qO qV M_nc M_nf X_instructionsDone X_isWorkedOut M_modulus M_side M_size M_cells M_fresh R_length R_words C_length C_instructions P_registers O_modulus O_valueOf O_isNeeded O_registerOf V_length V_instructions)) (va_runV (As := []) (rest := []) ⟨hx, hb, hml, hown, hts⟩ (c_X_hasCode l D kI kZ qX qM qR qC qP qO qV M_nc M_nf X_instructionsDone X_isWorkedOut M_modulus M_side M_size M_cells M_fresh R_length R_words C_length C_instructions P_registers O_modulus O_valueOf O_isNeeded O_registerOf V_length V_instructions r2 hr2 H.size) (z_cwV hts mw_X_hasCode kw_133 ⟨by rw [hR]; exact Nat.le_of_ble_eq_true rfl, by rw [hR]; exact Nat.le_of_ble_eq_true rfl⟩) (z_preV (ci := 5) hK hP hD hN rfl (he := (rfl : _[0]? = _)) [0, 1, 2, 3, 4, 5, 6, 7, 8, 9, 10, 11, 12, 13, 14, 15] (by decide) rfl) rfl rfl hl.1 rfl (lv_room (Nat.le_of_ble_eq_true rfl)) d_X_feed_11 ⟨Nat.zero_le _, Nat.zero_le _⟩) hP hD hS hA [0, 1, 2, 3, 4, 5, 6, 7, 8, 9, 10, 11, 12, 13, 14, 15] [] [0, 1, 2, 3, 4, 5, 6, 7, 8, 9, 10, 11, 12, 13, 14, 15] rfl rfl (by decide) (by decide) rfl (by decide) (fun H locs hP hD hS => ?_)
    refine lv_if_eq hx hb d_X_feed_14 rfl (fun hc => ?_) (fun hc => ?_)
    · rw [if_pos hc] at hr
      refine lv_aload_n hx hb d_X_feed_19 rfl (lv_at hl 0 rfl) ?_
      refine va_get (D := D) (ci := 5) (v := .ref (qR 0)) (C := R_X) (T := T_X) (N := 7) hx hb hts in_X hown hK hP 0 rfl rfl 1 (by decide) (hts _ kw_104) (fun _ h9 => h9) rfl d_X_feed_20 ?_
      refine lv_iload_n hx hb d_X_feed_23 rfl (lv_at hl 1 rfl) ?_
      obtain ⟨r3, hr3, hr⟩ := ob hr
      refine z_cv (ws := (W_XMRCPOV kI kZ qX qM qR qC qP qO qV M_nc M_nf X_instructionsDone X_isWorkedOut M_modulus M_side M_size M_cells M_fresh R_length R_words C_length C_instructions P_registers O_modulus O_valueOf O_isNeeded O_registerOf V_length V_instructions)) (wc := (W_R kI kZ qR R_length R_words)) (wr := (W_XMCPOV kI kZ qX qM qC qP qO qV qR M_nc M_nf X_instructionsDone X_isWorkedOut M_modulus M_side M_size M_cells M_fresh C_length C_instructions P_registers O_modulus O_valueOf O_isNeeded O_registerOf V_length V_instructions)) (w1 := (W_R kI kZ qR r3.2 r3.1)) (w2 := (W_XMRCPOV kI kZ qX qM qR qC qP qO qV M_nc M_nf X_instructionsDone X_isWorkedOut M_modulus M_side M_size M_cells M_fresh r3.2 r3.1 C_length C_instructions P_registers O_modulus O_valueOf O_isNeeded O_registerOf V_length V_instructions)) (va_runV (As := [.int a1]) (rest := []) ⟨hx, hb, hml, hown, hts⟩ (c_R_append l D kI kZ qR R_length R_words a1 r3 hr3 H.size) (z_cwV hts mw_R_append kw_141 ⟨by rw [hR]; exact Nat.le_of_ble_eq_true rfl, by rw [hR]; exact Nat.le_of_ble_eq_true rfl⟩) (z_preV (ci := 4) hK hP hD hN rfl (he := (rfl : _[4]? = _)) [4, 5] (by decide) rfl) rfl rfl hl.1 rfl (lv_room (Nat.le_of_ble_eq_true rfl)) d_X_feed_24 ⟨Nat.zero_le _, Nat.zero_le _⟩) hP hD hS hA [4, 5] [0, 1, 2, 3, 6, 7, 8, 9, 10, 11, 12, 13, 14, 15] [0, 1, 2, 3, 14, 15, 4, 5, 6, 7, 8, 9, 10, 11, 12, 13] rfl rfl (by decide) (by decide) rfl (by decide) (fun H locs hP hD hS => ?_)
      refine lv_iconst (v := (0 : Int32)) hx hb d_X_feed_27 (by decide) ?_
      obtain rfl := Option.some.inj hr
      exact hQ _ _ _ _ _ d_X_feed_28 rfl rfl hP hD hS
    · rw [if_neg hc] at hr
      refine lv_iconst (v := (1 : Int32)) hx hb d_X_feed_17 (by decide) ?_
      obtain rfl := Option.some.inj hr
      exact hQ _ _ _ _ _ d_X_feed_18 rfl rfl hP hD hS
set_option maxHeartbeats 4000000 in
set_option maxRecDepth 100000 in
theorem c_M_hasCell (l : Launch) (D : va_G) (kI kZ : ClassId) (qM : Nat → Nat) (M_nc M_nf : Nat) (M_modulus M_side M_size : Int32) (M_cells M_fresh : Nat → Int32) (a1 a2 : Int32) (res : Int32) (hr : f_M_hasCell M_side a1 a2 = some res) : zMi l D kI kZ y_M_hasCell prog_4_method_2_code 3 ((some .boolean)) 0 0 [.ref (qM 0), .int a1, .int a2] (W_M kI kZ qM M_nc M_nf M_modulus M_side M_size M_cells M_fresh) (W_M kI kZ qM M_nc M_nf M_modulus M_side M_size M_cells M_fresh) res := by
  refine zMi.of (by decide +kernel) (Nat.le_of_ble_eq_true rfl) ?_
  intro p e R s m args below meth c Q A hR hx hb hml hts hown hA hK hN hQ
  have hown : s.vm.findClass "SquareCode$Matrices" = some m.cls := hown
  intro ls H hl hP hD hS
  have hl : lv_has ls 3 [(0, .ref (qM 0)), (1, .int a1), (2, .int a2)] := hl
  rw [f_M_hasCell] at hr
  refine lv_iload_n hx hb d_M_hasCell_0 rfl (lv_at hl 1 rfl) ?_
  refine lv_if_lt hx hb d_M_hasCell_1 rfl (fun hc => ?_) (fun hc => ?_)
  · rw [if_pos hc] at hr
    refine lv_iconst (v := (0 : Int32)) hx hb d_M_hasCell_28 (by decide) ?_
    obtain rfl := Option.some.inj hr
    exact hQ _ _ _ _ _ d_M_hasCell_29 (by decide +kernel) rfl hP hD hS
  · rw [if_neg hc] at hr
    refine lv_iload_n hx hb d_M_hasCell_4 rfl (lv_at hl 1 rfl) ?_
    refine lv_aload_n hx hb d_M_hasCell_5 rfl (lv_at hl 0 rfl) ?_
    refine va_get (D := D) (ci := 2) (v := .int M_side) (C := R_M) (T := T_M) (N := 5) hx hb hts in_M hown hK hP 0 rfl rfl 1 (by decide) (hts _ kw_26) (fun _ h9 => h9) rfl d_M_hasCell_6 ?_
    refine lv_icmp_ge hx hb d_M_hasCell_9 rfl (fun hc => ?_) (fun hc => ?_)
    · rw [if_pos hc] at hr
      refine lv_iconst (v := (0 : Int32)) hx hb d_M_hasCell_28 (by decide) ?_
      obtain rfl := Option.some.inj hr
      exact hQ _ _ _ _ _ d_M_hasCell_29 (by decide +kernel) rfl hP hD hS
    · rw [if_neg hc] at hr
      refine lv_iload_n hx hb d_M_hasCell_12 rfl (lv_at hl 2 rfl) ?_
      refine lv_if_lt hx hb d_M_hasCell_13 rfl (fun hc => ?_) (fun hc => ?_)
      · rw [if_pos hc] at hr
        refine lv_iconst (v := (0 : Int32)) hx hb d_M_hasCell_28 (by decide) ?_
        obtain rfl := Option.some.inj hr
        exact hQ _ _ _ _ _ d_M_hasCell_29 (by decide +kernel) rfl hP hD hS
      · rw [if_neg hc] at hr
        refine lv_iload_n hx hb d_M_hasCell_16 rfl (lv_at hl 2 rfl) ?_
        refine lv_aload_n hx hb d_M_hasCell_17 rfl (lv_at hl 0 rfl) ?_
        refine va_get (D := D) (ci := 2) (v := .int M_side) (C := R_M) (T := T_M) (N := 5) hx hb hts in_M hown hK hP 0 rfl rfl 1 (by decide) (hts _ kw_26) (fun _ h9 => h9) rfl d_M_hasCell_18 ?_
        refine lv_icmp_ge hx hb d_M_hasCell_21 rfl (fun hc => ?_) (fun hc => ?_)
        · rw [if_pos hc] at hr
          refine lv_iconst (v := (0 : Int32)) hx hb d_M_hasCell_28 (by decide) ?_
          obtain rfl := Option.some.inj hr
          exact hQ _ _ _ _ _ d_M_hasCell_29 (by decide +kernel) rfl hP hD hS
        · rw [if_neg hc] at hr
          refine lv_iconst (v := (1 : Int32)) hx hb d_M_hasCell_24 (by decide) ?_
          refine lv_goto hx hb d_M_hasCell_25 rfl ?_
          obtain rfl := Option.some.inj hr
          exact hQ _ _ _ _ _ d_M_hasCell_29 (by decide +kernel) rfl hP hD hS
set_option maxHeartbeats 4000000 in
set_option maxRecDepth 100000 in
theorem c_JM_floorMod (l : Launch) (D : va_G) (kI kZ : ClassId)  (a0 a1 : Int32) (res : Int32) (hr : f_JM_floorMod a0 a1 = some res) : zMi l D kI kZ y_JM_floorMod prog_10_method_50_code 3 ((some .int)) 0 0 [.int a0, .int a1] ([] : va_W) ([] : va_W) res := by
  refine zMi.of (by decide +kernel) (Nat.le_of_ble_eq_true rfl) ?_
  intro p e R s m args below meth c Q A hR hx hb hml hts hown hA hK hN hQ
  have hown : s.vm.findClass "java/lang/Math" = some m.cls := hown
  intro ls H hl hP hD hS
  have hl : lv_has ls 3 [(0, .int a0), (1, .int a1)] := hl
  rw [f_JM_floorMod] at hr
  refine lv_iload_n hx hb d_JM_floorMod_0 rfl (lv_at hl 0 rfl) ?_
  refine lv_iload_n hx hb d_JM_floorMod_1 rfl (lv_at hl 1 rfl) ?_
  obtain ⟨hz, hr⟩ := nz_some hr
  refine z_irem hx hb d_JM_floorMod_2 hz ?_
  obtain ⟨v2_1, ev2_1, hr⟩ := nm_some hr
  refine z_top ev2_1 ?_
  refine lv_istore_n (lv' := [(2, .int v2_1), (0, .int a0), (1, .int a1)]) hx hb d_JM_floorMod_3 rfl hl (by decide) rfl (fun ls hl => ?_)
  refine lv_iload_n hx hb d_JM_floorMod_4 rfl (lv_at hl 1 rfl) ?_
  refine lv_iload_n hx hb d_JM_floorMod_5 rfl (lv_at hl 2 rfl) ?_
  refine lv_ixor hx hb d_JM_floorMod_6 ?_
  refine lv_if_ge hx hb d_JM_floorMod_7 rfl (fun hc => ?_) (fun hc => ?_)
  · rw [if_pos hc] at hr
    refine lv_iload_n hx hb d_JM_floorMod_18 rfl (lv_at hl 0 rfl) ?_
    obtain rfl := Option.some.inj hr
    exact hQ _ _ _ _ _ d_JM_floorMod_19 rfl rfl hP hD hS
  · rw [if_neg hc] at hr
    refine lv_iload_n hx hb d_JM_floorMod_10 rfl (lv_at hl 0 rfl) ?_
    refine lv_if_eq hx hb d_JM_floorMod_11 rfl (fun hc => ?_) (fun hc => ?_)
    · rw [if_pos hc] at hr
      refine lv_iload_n hx hb d_JM_floorMod_18 rfl (lv_at hl 0 rfl) ?_
      obtain rfl := Option.some.inj hr
      exact hQ _ _ _ _ _ d_JM_floorMod_19 rfl rfl hP hD hS
    · rw [if_neg hc] at hr
      refine lv_iload_n hx hb d_JM_floorMod_14 rfl (lv_at hl 0 rfl) ?_
      refine lv_iload_n hx hb d_JM_floorMod_15 rfl (lv_at hl 2 rfl) ?_
      refine lv_iadd hx hb d_JM_floorMod_16 ?_
      obtain rfl := Option.some.inj hr
      exact hQ _ _ _ _ _ d_JM_floorMod_17 rfl rfl hP hD hS
set_option maxHeartbeats 4000000 in
set_option maxRecDepth 100000 in
theorem c_M_put (l : Launch) (D : va_G) (kI kZ : ClassId) (qM : Nat → Nat) (M_nc M_nf : Nat) (M_modulus M_side M_size : Int32) (M_cells M_fresh : Nat → Int32) (a1 a2 a3 a4 : Int32) (res : (Nat → Int32)) (hr : f_M_put M_nc M_modulus M_side M_size M_cells a1 a2 a3 a4 = some res) : zMv l D kI kZ y_M_put prog_4_method_4_code 5 none 1 22 [.ref (qM 0), .int a1, .int a2, .int a3, .int a4] (W_M kI kZ qM M_nc M_nf M_modulus M_side M_size M_cells M_fresh) (W_M kI kZ qM M_nc M_nf M_modulus M_side M_size res M_fresh) := by
  refine zMv.of (by decide +kernel) (Nat.le_of_ble_eq_true rfl) ?_
  intro p e R s m args below meth c Q A hR hx hb hml hts hown hA hK hN hQ
  have hown : s.vm.findClass "SquareCode$Matrices" = some m.cls := hown
  intro ls H hl hP hD hS
  have hl : lv_has ls 5 [(0, .ref (qM 0)), (1, .int a1), (2, .int a2), (3, .int a3), (4, .int a4)] := hl
  rw [f_M_put] at hr
  refine lv_aload_n hx hb d_M_put_0 rfl (lv_at hl 0 rfl) ?_
  refine va_get (D := D) (ci := 2) (v := .ref (qM 1)) (C := R_M) (T := T_M) (N := 5) hx hb hts in_M hown hK hP 0 rfl rfl 3 (by decide) (hts _ kw_28) (fun _ h9 => h9) rfl d_M_put_1 ?_
  refine lv_iload_n hx hb d_M_put_4 rfl (lv_at hl 1 rfl) ?_
  refine lv_aload_n hx hb d_M_put_5 rfl (lv_at hl 0 rfl) ?_
  refine va_get (D := D) (ci := 2) (v := .int M_size) (C := R_M) (T := T_M) (N := 5) hx hb hts in_M hown hK hP 0 rfl rfl 2 (by decide) (hts _ kw_27) (fun _ h9 => h9) rfl d_M_put_6 ?_
  refine lv_imul hx hb d_M_put_9 ?_
  refine lv_iload_n hx hb d_M_put_10 rfl (lv_at hl 2 rfl) ?_
  refine lv_aload_n hx hb d_M_put_11 rfl (lv_at hl 0 rfl) ?_
  refine va_get (D := D) (ci := 2) (v := .int M_side) (C := R_M) (T := T_M) (N := 5) hx hb hts in_M hown hK hP 0 rfl rfl 1 (by decide) (hts _ kw_26) (fun _ h9 => h9) rfl d_M_put_12 ?_
  refine lv_imul hx hb d_M_put_15 ?_
  refine lv_iadd hx hb d_M_put_16 ?_
  refine lv_iload_n hx hb d_M_put_17 rfl (lv_at hl 3 rfl) ?_
  refine lv_iadd hx hb d_M_put_18 ?_
  refine lv_iload hx hb d_M_put_19 (lv_at hl 4 rfl) ?_
  refine lv_aload_n hx hb d_M_put_21 rfl (lv_at hl 0 rfl) ?_
  refine va_get (D := D) (ci := 2) (v := .int M_modulus) (C := R_M) (T := T_M) (N := 5) hx hb hts in_M hown hK hP 0 rfl rfl 0 (by decide) (hts _ kw_25) (fun _ h9 => h9) rfl d_M_put_22 ?_
  obtain ⟨r1, hr1, hr⟩ := ob hr
  refine z_ci (ws := (W_M kI kZ qM M_nc M_nf M_modulus M_side M_size M_cells M_fresh)) (wc := ([] : va_W)) (wr := (W_M kI kZ qM M_nc M_nf M_modulus M_side M_size M_cells M_fresh)) (w1 := ([] : va_W)) (w2 := (W_M kI kZ qM M_nc M_nf M_modulus M_side M_size M_cells M_fresh)) (va_runS (As := [.int a4, .int M_modulus]) (rest := [.int (((a1 * M_size) + (a2 * M_side)) + a3), .ref (qM 1)]) ⟨hx, hb, hml, hown, hts⟩ (c_JM_floorMod l D kI kZ a4 M_modulus r1 hr1 H.size) (z_cwS hts mw_JM_floorMod kw_157 ⟨by rw [hR]; exact Nat.le_of_ble_eq_true rfl, by rw [hR]; exact Nat.le_of_ble_eq_true rfl⟩) (z_pre hK hP hD hN [] (by decide) rfl) rfl rfl hl.1 rfl (lv_room (Nat.le_of_ble_eq_true rfl)) d_M_put_25 ⟨Nat.zero_le _, Nat.zero_le _⟩) hP hD hS hA [] [0, 1, 2] [0, 1, 2] rfl rfl (by decide) (by decide) rfl (by decide) (fun H locs hP hD hS => ?_)
  obtain ⟨hi, hr⟩ := gd_some hr
  refine va_iast hx hb hK hP hD hS 1 0 rfl rfl hi d_M_put_28 (fun H locs hP hD hS => ?_)
  have hP : va_P D zCl (W_M kI kZ qM M_nc M_nf M_modulus M_side M_size (upd M_cells (((a1 * M_size) + (a2 * M_side)) + a3).toNatClampNeg r1) M_fresh) H := hP
  have hD : va_D A (W_M kI kZ qM M_nc M_nf M_modulus M_side M_size (upd M_cells (((a1 * M_size) + (a2 * M_side)) + a3).toNatClampNeg r1) M_fresh) := hD
  obtain rfl := Option.some.inj hr
  exact hQ _ _ _ _ d_M_put_29 hP hD hS
set_option maxHeartbeats 4000000 in
set_option maxRecDepth 100000 in
theorem c_X_rewind (l : Launch) (D : va_G) (kI kZ : ClassId) (qX qM qR qC qP qO qV : Nat → Nat) (M_nc M_nf : Nat) (X_instructionsDone X_isWorkedOut M_modulus M_side M_size : Int32) (M_cells M_fresh : Nat → Int32) (R_length : Int32) (R_words : Nat → Int32) (C_length : Int32) (C_instructions P_registers : Nat → Int32) (O_modulus : Int32) (O_valueOf O_isNeeded O_registerOf : Nat → Int32) (V_length : Int32) (V_instructions : Nat → Int32)  (res : Int32) (hr : f_X_rewind X_instructionsDone = some res) : zMv l D kI kZ y_X_rewind prog_1_method_16_code 1 none 0 0 [.ref (qX 0)] (W_XMRCPOV kI kZ qX qM qR qC qP qO qV M_nc M_nf X_instructionsDone X_isWorkedOut M_modulus M_side M_size M_cells M_fresh R_length R_words C_length C_instructions P_registers O_modulus O_valueOf O_isNeeded O_registerOf V_length V_instructions) (W_XMRCPOV kI kZ qX qM qR qC qP qO qV M_nc M_nf res X_isWorkedOut M_modulus M_side M_size M_cells M_fresh R_length R_words C_length C_instructions P_registers O_modulus O_valueOf O_isNeeded O_registerOf V_length V_instructions) := by
  refine zMv.of (by decide +kernel) (Nat.le_of_ble_eq_true rfl) ?_
  intro p e R s m args below meth c Q A hR hx hb hml hts hown hA hK hN hQ
  have hown : s.vm.findClass "SquareCode" = some m.cls := hown
  intro ls H hl hP hD hS
  have hl : lv_has ls 1 [(0, .ref (qX 0))] := hl
  rw [f_X_rewind] at hr
  refine lv_aload_n hx hb d_X_rewind_0 rfl (lv_at hl 0 rfl) ?_
  refine lv_iconst (v := (0 : Int32)) hx hb d_X_rewind_1 (by decide) ?_
  refine va_put (D := D) (ci := 5) (v := .int (0 : Int32)) (ty := .int) (C := R_X) (T := T_X) (N := 7) hx hb hts in_X ty_X tyo_X nm_X hown hK hP hD hS 0 rfl rfl 5 (by decide) (hts _ kw_108) (fun _ h9 => h9) rfl (by decide +kernel) rfl rfl (Nat.le_of_ble_eq_true rfl) d_X_rewind_2 (fun H locs hP hD hS => ?_)
  have hP : va_P D zCl (W_XMRCPOV kI kZ qX qM qR qC qP qO qV M_nc M_nf (0 : Int32) X_isWorkedOut M_modulus M_side M_size M_cells M_fresh R_length R_words C_length C_instructions P_registers O_modulus O_valueOf O_isNeeded O_registerOf V_length V_instructions) H := hP
  have hD : va_D A (W_XMRCPOV kI kZ qX qM qR qC qP qO qV M_nc M_nf (0 : Int32) X_isWorkedOut M_modulus M_side M_size M_cells M_fresh R_length R_words C_length C_instructions P_registers O_modulus O_valueOf O_isNeeded O_registerOf V_length V_instructions) := hD
  obtain rfl := Option.some.inj hr
  exact hQ _ _ _ _ d_X_rewind_5 hP hD hS
set_option maxHeartbeats 4000000 in
set_option maxRecDepth 100000 in
theorem c_X_setInput (l : Launch) (D : va_G) (kI kZ : ClassId) (qX qM qR qC qP qO qV : Nat → Nat) (M_nc M_nf : Nat) (X_instructionsDone X_isWorkedOut M_modulus M_side M_size : Int32) (M_cells M_fresh : Nat → Int32) (R_length : Int32) (R_words : Nat → Int32) (C_length : Int32) (C_instructions P_registers : Nat → Int32) (O_modulus : Int32) (O_valueOf O_isNeeded O_registerOf : Nat → Int32) (V_length : Int32) (V_instructions : Nat → Int32) (a1 a2 a3 a4 : Int32) (res : Int32 × Int32 × (Nat → Int32)) (hr : f_X_setInput M_nc X_instructionsDone M_modulus M_side M_size M_cells a1 a2 a3 a4 = some res) : zMi l D kI kZ y_X_setInput prog_1_method_3_code 5 ((some .int)) 2 46 [.ref (qX 0), .int a1, .int a2, .int a3, .int a4] (W_XMRCPOV kI kZ qX qM qR qC qP qO qV M_nc M_nf X_instructionsDone X_isWorkedOut M_modulus M_side M_size M_cells M_fresh R_length R_words C_length C_instructions P_registers O_modulus O_valueOf O_isNeeded O_registerOf V_length V_instructions) (W_XMRCPOV kI kZ qX qM qR qC qP qO qV M_nc M_nf (res.2.1) X_isWorkedOut M_modulus M_side M_size (res.2.2) M_fresh R_length R_words C_length C_instructions P_registers O_modulus O_valueOf O_isNeeded O_registerOf V_length V_instructions) (res.1) := by
  refine zMi.of (by decide +kernel) (Nat.le_of_ble_eq_true rfl) ?_
  intro p e R s m args below meth c Q A hR hx hb hml hts hown hA hK hN hQ
  have hown : s.vm.findClass "SquareCode" = some m.cls := hown
  intro ls H hl hP hD hS
  have hl : lv_has ls 5 [(0, .ref (qX 0)), (1, .int a1), (2, .int a2), (3, .int a3), (4, .int a4)] := hl
  rw [f_X_setInput] at hr
  refine lv_iload_n hx hb d_X_setInput_0 rfl (lv_at hl 1 rfl) ?_
  refine lv_if_lt hx hb d_X_setInput_1 rfl (fun hc => ?_) (fun hc => ?_)
  · rw [if_pos hc] at hr
    refine lv_iconst (v := (2 : Int32)) hx hb d_X_setInput_21 (by decide) ?_
    obtain rfl := Option.some.inj hr
    exact hQ _ _ _ _ _ d_X_setInput_22 rfl rfl hP hD hS
  · rw [if_neg hc] at hr
    refine lv_iload_n hx hb d_X_setInput_4 rfl (lv_at hl 1 rfl) ?_
    refine lv_iconst (v := (4 : Int32)) hx hb d_X_setInput_5 (by decide) ?_
    refine lv_icmp_ge hx hb d_X_setInput_6 rfl (fun hc => ?_) (fun hc => ?_)
    · rw [if_pos hc] at hr
      refine lv_iconst (v := (2 : Int32)) hx hb d_X_setInput_21 (by decide) ?_
      obtain rfl := Option.some.inj hr
      exact hQ _ _ _ _ _ d_X_setInput_22 rfl rfl hP hD hS
    · rw [if_neg hc] at hr
      refine lv_aload_n hx hb d_X_setInput_9 rfl (lv_at hl 0 rfl) ?_
      refine va_get (D := D) (ci := 5) (v := .ref (qM 0)) (C := R_X) (T := T_X) (N := 7) hx hb hts in_X hown hK hP 0 rfl rfl 0 (by decide) (hts _ kw_103) (fun _ h9 => h9) rfl d_X_setInput_10 ?_
      refine lv_iload_n hx hb d_X_setInput_13 rfl (lv_at hl 2 rfl) ?_
      refine lv_iload_n hx hb d_X_setInput_14 rfl (lv_at hl 3 rfl) ?_
      obtain ⟨r1, hr1, hr⟩ := ob hr
      refine z_ci (ws := (W_XMRCPOV kI kZ qX qM qR qC qP qO qV M_nc M_nf X_instructionsDone X_isWorkedOut M_modulus M_side M_size M_cells M_fresh R_length R_words C_length C_instructions P_registers O_modulus O_valueOf O_isNeeded O_registerOf V_length V_instructions)) (wc := (W_M kI kZ qM M_nc M_nf M_modulus M_side M_size M_cells M_fresh)) (wr := (W_XRCPOV kI kZ qX qR qC qP qO qV qM X_instructionsDone X_isWorkedOut R_length R_words C_length C_instructions P_registers O_modulus O_valueOf O_isNeeded O_registerOf V_length V_instructions)) (w1 := (W_M kI kZ qM M_nc M_nf M_modulus M_side M_size M_cells M_fresh)) (w2 := (W_XMRCPOV kI kZ qX qM qR qC qP qO qV M_nc M_nf X_instructionsDone X_isWorkedOut M_modulus M_side M_size M_cells M_fresh R_length R_words C_length C_instructions P_registers O_modulus O_valueOf O_isNeeded O_registerOf V_length V_instructions)) (va_runV (As := [.int a2, .int a3]) (rest := []) ⟨hx, hb, hml, hown, hts⟩ (c_M_hasCell l D kI kZ qM M_nc M_nf M_modulus M_side M_size M_cells M_fresh a2 a3 r1 hr1 H.size) (z_cwV hts mw_M_hasCell kw_149 ⟨by rw [hR]; exact Nat.le_of_ble_eq_true rfl, by rw [hR]; exact Nat.le_of_ble_eq_true rfl⟩) (z_preV (ci := 2) hK hP hD hN rfl (he := (rfl : _[1]? = _)) [1, 2, 3] (by decide) rfl) rfl rfl hl.1 rfl (lv_room (Nat.le_of_ble_eq_true rfl)) d_X_setInput_15 ⟨Nat.zero_le _, Nat.zero_le _⟩) hP hD hS hA [1, 2, 3] [0, 4, 5, 6, 7, 8, 9, 10, 11, 12, 13, 14, 15] [0, 13, 14, 15, 1, 2, 3, 4, 5, 6, 7, 8, 9, 10, 11, 12] rfl rfl (by decide) (by decide) rfl (by decide) (fun H locs hP hD hS => ?_)
      refine lv_if_ne hx hb d_X_setInput_18 rfl (fun hc => ?_) (fun hc => ?_)
      · rw [if_neg hc] at hr
        refine lv_aload_n hx hb d_X_setInput_23 rfl (lv_at hl 0 rfl) ?_
        refine va_get (D := D) (ci := 5) (v := .ref (qM 0)) (C := R_X) (T := T_X) (N := 7) hx hb hts in_X hown hK hP 0 rfl rfl 0 (by decide) (hts _ kw_103) (fun _ h9 => h9) rfl d_X_setInput_24 ?_
        refine lv_bipush (v := (40 : Int32)) hx hb d_X_setInput_27 (by decide) ?_
        refine lv_iload_n hx hb d_X_setInput_29 rfl (lv_at hl 1 rfl) ?_
        refine lv_iadd hx hb d_X_setInput_30 ?_
        refine lv_iload_n hx hb d_X_setInput_31 rfl (lv_at hl 2 rfl) ?_
        refine lv_iload_n hx hb d_X_setInput_32 rfl (lv_at hl 3 rfl) ?_
        refine lv_iload hx hb d_X_setInput_33 (lv_at hl 4 rfl) ?_
        obtain ⟨r2, hr2, hr⟩ := ob hr
        refine z_cv (ws := (W_XMRCPOV kI kZ qX qM qR qC qP qO qV M_nc M_nf X_instructionsDone X_isWorkedOut M_modulus M_side M_size M_cells M_fresh R_length R_words C_length C_instructions P_registers O_modulus O_valueOf O_isNeeded O_registerOf V_length V_instructions)) (wc := (W_M kI kZ qM M_nc M_nf M_modulus M_side M_size M_cells M_fresh)) (wr := (W_XRCPOV kI kZ qX qR qC qP qO qV qM X_instructionsDone X_isWorkedOut R_length R_words C_length C_instructions P_registers O_modulus O_valueOf O_isNeeded O_registerOf V_length V_instructions)) (w1 := (W_M kI kZ qM M_nc M_nf M_modulus M_side M_size r2 M_fresh)) (w2 := (W_XMRCPOV kI kZ qX qM qR qC qP qO qV M_nc M_nf X_instructionsDone X_isWorkedOut M_modulus M_side M_size r2 M_fresh R_length R_words C_length C_instructions P_registers O_modulus O_valueOf O_isNeeded O_registerOf V_length V_instructions)) (va_runV (As := [.int ((40 : Int32) + a1), .int a2, .int a3, .int a4]) (rest := []) ⟨hx, hb, hml, hown, hts⟩ (c_M_put l D kI kZ qM M_nc M_nf M_modulus M_side M_size M_cells M_fresh ((40 : Int32) + a1) a2 a3 a4 r2 hr2 H.size) (z_cwV hts mw_M_put kw_153 ⟨by rw [hR]; exact Nat.le_of_ble_eq_true rfl, by rw [hR]; exact Nat.le_of_ble_eq_true rfl⟩) (z_preV (ci := 2) hK hP hD hN rfl (he := (rfl : _[1]? = _)) [1, 2, 3] (by decide) rfl) rfl rfl hl.1 rfl (lv_room (Nat.le_of_ble_eq_true rfl)) d_X_setInput_35 ⟨Nat.zero_le _, Nat.zero_le _⟩) hP hD hS hA [1, 2, 3] [0, 4, 5, 6, 7, 8, 9, 10, 11, 12, 13, 14, 15] [0, 13, 14, 15, 1, 2, 3, 4, 5, 6, 7, 8, 9, 10, 11, 12] rfl rfl (by decide) (by decide) rfl (by decide) (fun H locs hP hD hS => ?_)
        refine lv_aload_n hx hb d_X_setInput_38 rfl (lv_at hl 0 rfl) ?_
        obtain ⟨r3, hr3, hr⟩ := ob hr
        refine z_cv (ws := (W_XMRCPOV kI kZ qX qM qR qC qP qO qV M_nc M_nf X_instructionsDone X_isWorkedOut M_modulus M_side M_size r2 M_fresh R_length R_words C_length C_instructions P_registers O_modulus O_valueOf O_isNeeded O_registerOf V_length V_instructions)) (wc := (W_XMRCPOV kI kZ qX qM qR qC qP qO qV M_nc M_nf X_instructionsDone X_isWorkedOut M_modulus M_side M_size r2 M_fresh R_length R_words C_length C_instructions P_registers O_modulus O_valueOf O_isNeeded O_registerOf V_length V_instructions)) (wr := ([] : va_W)) (w1 := (W_XMRCPOV kI kZ qX qM qR qC qP qO qV M_nc M_nf r3 X_isWorkedOut M_modulus M_side M_size r2 M_fresh R_length R_words C_length C_instructions P_registers O_modulus O_valueOf O_isNeeded O_registerOf V_length V_instructions)) (w2 := (W_XMRCPOV kI kZ qX qM qR qC qP qO qV M_nc M_nf r3 X_isWorkedOut M_modulus M_side M_size r2 M_fresh R_length R_words C_length C_instructions P_registers O_modulus O_valueOf O_isNeeded O_registerOf V_length V_instructions)) (va_runV (As := []) (rest := []) ⟨hx, hb, hml, hown, hts⟩ (c_X_rewind l D kI kZ qX qM qR qC qP qO qV M_nc M_nf X_instructionsDone X_isWorkedOut M_modulus M_side M_size r2 M_fresh R_length R_words C_length C_instructions P_registers O_modulus O_valueOf O_isNeeded O_registerOf V_length V_instructions r3 hr3 H.size) (z_cwV hts mw_X_rewind kw_160 ⟨by rw [hR]; exact Nat.le_of_ble_eq_true rfl, by rw [hR]; exact Nat.le_of_ble_eq_true rfl⟩) (z_preV (ci := 5) hK hP hD hN rfl (he := (rfl : _[0]? = _)) [0, 1, 2, 3, 4, 5, 6, 7, 8, 9, 10, 11, 12, 13, 14, 15] (by decide) rfl) rfl rfl hl.1 rfl (lv_room (Nat.le_of_ble_eq_true rfl)) d_X_setInput_39 ⟨Nat.zero_le _, Nat.zero_le _⟩) hP hD hS hA [0, 1, 2, 3, 4, 5, 6, 7, 8, 9, 10, 11, 12, 13, 14, 15] [] [0, 1, 2, 3, 4, 5, 6, 7, 8, 9, 10, 11, 12, 13, 14, 15] rfl rfl (by decide) (by decide) rfl (by decide) (fun H locs hP hD hS => ?_)
        refine lv_iconst (v := (0 : Int32)) hx hb d_X_setInput_42 (by decide) ?_
        obtain rfl := Option.some.inj hr
        exact hQ _ _ _ _ _ d_X_setInput_43 rfl rfl hP hD hS
      · rw [if_pos hc] at hr
        refine lv_iconst (v := (2 : Int32)) hx hb d_X_setInput_21 (by decide) ?_
        obtain rfl := Option.some.inj hr
        exact hQ _ _ _ _ _ d_X_setInput_22 rfl rfl hP hD hS
set_option maxHeartbeats 4000000 in
set_option maxRecDepth 100000 in
theorem c_R_isWord (l : Launch) (D : va_G) (kI kZ : ClassId)  (a0 : Int32) (res : Int32) (hr : f_R_isWord a0 = some res) : zMi l D kI kZ y_R_isWord prog_6_method_11_code 2 ((some .boolean)) 0 0 [.int a0] ([] : va_W) ([] : va_W) res := by
  refine zMi.of (by decide +kernel) (Nat.le_of_ble_eq_true rfl) ?_
  intro p e R s m args below meth c Q A hR hx hb hml hts hown hA hK hN hQ
  have hown : s.vm.findClass "SquareCode$Source" = some m.cls := hown
  have hB75 : ∀ (v1 : Int32)   (H : Heap) (locs : List Loc) (ls : Array Slot), lv_has ls 2 [(1, .int v1)] → va_P D zCl ([] : va_W) H → va_D A ([] : va_W) → va_S A s.heap H locs → f_R_isWord_75 v1 = some res → W p l e R s m args below meth c H locs 0 0 Q (F0 m 75 ls []) := by
    intro v1 H locs ls hl hP hD hS hr
    rw [f_R_isWord_75] at hr
    refine lv_iload_n hx hb d_R_isWord_75 rfl (lv_at hl 0 rfl) ?_
    refine lv_if_ne hx hb d_R_isWord_76 rfl (fun hc => ?_) (fun hc => ?_)
    · rw [if_neg hc] at hr
      refine lv_iconst (v := (0 : Int32)) hx hb d_R_isWord_83 (by decide) ?_
      obtain rfl := Option.some.inj hr
      exact hQ _ _ _ _ _ d_R_isWord_84 (by decide +kernel) rfl hP hD hS
    · rw [if_pos hc] at hr
      refine lv_iconst (v := (1 : Int32)) hx hb d_R_isWord_79 (by decide) ?_
      refine lv_goto hx hb d_R_isWord_80 rfl ?_
      obtain rfl := Option.some.inj hr
      exact hQ _ _ _ _ _ d_R_isWord_84 (by decide +kernel) rfl hP hD hS
  intro ls H hl hP hD hS
  have hl : lv_has ls 2 [(0, .int a0)] := hl
  rw [f_R_isWord] at hr
  refine lv_iload_n hx hb d_R_isWord_0 rfl (lv_at hl 0 rfl) ?_
  refine lv_if_ge hx hb d_R_isWord_1 rfl (fun hc => ?_) (fun hc => ?_)
  · rw [if_pos hc] at hr
    refine lv_iload_n hx hb d_R_isWord_6 rfl (lv_at hl 0 rfl) ?_
    refine lv_bipush (v := (100 : Int32)) hx hb d_R_isWord_7 (by decide) ?_
    refine z_irem hx hb d_R_isWord_9 (by decide) ?_
    obtain ⟨v1_1, ev1_1, hr⟩ := nm_some hr
    refine z_top ev1_1 ?_
    refine lv_istore_n (lv' := [(1, .int v1_1), (0, .int a0)]) hx hb d_R_isWord_10 rfl hl (by decide) rfl (fun ls hl => ?_)
    refine lv_iload_n hx hb d_R_isWord_11 rfl (lv_at hl 1 rfl) ?_
    refine lv_bipush (v := (100 : Int32)) hx hb d_R_isWord_12 (by decide) ?_
    refine lv_idiv hx hb d_R_isWord_14 (by decide) ?_
    by_cases hs15_0 : (a0 / (100 : Int32)) = (0 : Int32)
    · rw [if_pos hs15_0] at hr
      refine lv_tableIn hx hb d_R_isWord_15 (by rw [hs15_0]; decide) (by rw [hs15_0]; decide) (by rw [hs15_0]; rfl) rfl ?_
      refine lv_iload_n hx hb d_R_isWord_64 rfl (lv_at hl 0 rfl) ?_
      refine lv_iconst (v := (4 : Int32)) hx hb d_R_isWord_65 (by decide) ?_
      refine lv_icmp_ge hx hb d_R_isWord_66 rfl (fun hc => ?_) (fun hc => ?_)
      · rw [if_pos hc] at hr
        refine lv_iconst (v := (0 : Int32)) hx hb d_R_isWord_73 (by decide) ?_
        obtain rfl := Option.some.inj hr
        exact hQ _ _ _ _ _ d_R_isWord_74 (by decide +kernel) rfl hP hD hS
      · rw [if_neg hc] at hr
        refine lv_iconst (v := (1 : Int32)) hx hb d_R_isWord_69 (by decide) ?_
        refine lv_goto hx hb d_R_isWord_70 rfl ?_
        obtain rfl := Option.some.inj hr
        exact hQ _ _ _ _ _ d_R_isWord_74 (by decide +kernel) rfl hP hD hS
    rw [if_neg hs15_0] at hr
    by_cases hs15_1 : (a0 / (100 : Int32)) = (1 : Int32)
    · rw [if_pos hs15_1] at hr
      refine lv_tableIn hx hb d_R_isWord_15 (by rw [hs15_1]; decide) (by rw [hs15_1]; decide) (by rw [hs15_1]; rfl) rfl ?_
      exact hB75 v1_1 _ _ _ (lv_sub hl [0] rfl) hP hD hS hr
    rw [if_neg hs15_1] at hr
    by_cases hs15_2 : (a0 / (100 : Int32)) = (2 : Int32)
    · rw [if_pos hs15_2] at hr
      refine lv_tableIn hx hb d_R_isWord_15 (by rw [hs15_2]; decide) (by rw [hs15_2]; decide) (by rw [hs15_2]; rfl) rfl ?_
      exact hB75 v1_1 _ _ _ (lv_sub hl [0] rfl) hP hD hS hr
    rw [if_neg hs15_2] at hr
    by_cases hs15_3 : (a0 / (100 : Int32)) = (3 : Int32)
    · rw [if_pos hs15_3] at hr
      refine lv_tableIn hx hb d_R_isWord_15 (by rw [hs15_3]; decide) (by rw [hs15_3]; decide) (by rw [hs15_3]; rfl) rfl ?_
      exact hB75 v1_1 _ _ _ (lv_sub hl [0] rfl) hP hD hS hr
    rw [if_neg hs15_3] at hr
    by_cases hs15_4 : (a0 / (100 : Int32)) = (4 : Int32)
    · rw [if_pos hs15_4] at hr
      refine lv_tableIn hx hb d_R_isWord_15 (by rw [hs15_4]; decide) (by rw [hs15_4]; decide) (by rw [hs15_4]; rfl) rfl ?_
      exact hB75 v1_1 _ _ _ (lv_sub hl [0] rfl) hP hD hS hr
    rw [if_neg hs15_4] at hr
    by_cases hs15_5 : (a0 / (100 : Int32)) = (5 : Int32)
    · rw [if_pos hs15_5] at hr
      refine lv_tableIn hx hb d_R_isWord_15 (by rw [hs15_5]; decide) (by rw [hs15_5]; decide) (by rw [hs15_5]; rfl) rfl ?_
      exact hB75 v1_1 _ _ _ (lv_sub hl [0] rfl) hP hD hS hr
    rw [if_neg hs15_5] at hr
    by_cases hs15_6 : (a0 / (100 : Int32)) = (6 : Int32)
    · rw [if_pos hs15_6] at hr
      refine lv_tableIn hx hb d_R_isWord_15 (by rw [hs15_6]; decide) (by rw [hs15_6]; decide) (by rw [hs15_6]; rfl) rfl ?_
      exact hB75 v1_1 _ _ _ (lv_sub hl [0] rfl) hP hD hS hr
    rw [if_neg hs15_6] at hr
    by_cases hs15_7 : (a0 / (100 : Int32)) = (7 : Int32)
    · rw [if_pos hs15_7] at hr
      refine lv_tableIn hx hb d_R_isWord_15 (by rw [hs15_7]; decide) (by rw [hs15_7]; decide) (by rw [hs15_7]; rfl) rfl ?_
      refine lv_iconst (v := (1 : Int32)) hx hb d_R_isWord_85 (by decide) ?_
      obtain rfl := Option.some.inj hr
      exact hQ _ _ _ _ _ d_R_isWord_86 (by decide +kernel) rfl hP hD hS
    rw [if_neg hs15_7] at hr
    by_cases hs15_8 : (a0 / (100 : Int32)) = (8 : Int32)
    · rw [if_pos hs15_8] at hr
      refine lv_tableIn hx hb d_R_isWord_15 (by rw [hs15_8]; decide) (by rw [hs15_8]; decide) (by rw [hs15_8]; rfl) rfl ?_
      refine lv_iconst (v := (1 : Int32)) hx hb d_R_isWord_85 (by decide) ?_
      obtain rfl := Option.some.inj hr
      exact hQ _ _ _ _ _ d_R_isWord_86 (by decide +kernel) rfl hP hD hS
    rw [if_neg hs15_8] at hr
    have hs15_0 := z_ne (k := 0) (by decide) hs15_0
    have hs15_1 := z_ne (k := 1) (by decide) hs15_1
    have hs15_2 := z_ne (k := 2) (by decide) hs15_2
    have hs15_3 := z_ne (k := 3) (by decide) hs15_3
    have hs15_4 := z_ne (k := 4) (by decide) hs15_4
    have hs15_5 := z_ne (k := 5) (by decide) hs15_5
    have hs15_6 := z_ne (k := 6) (by decide) hs15_6
    have hs15_7 := z_ne (k := 7) (by decide) hs15_7
    have hs15_8 := z_ne (k := 8) (by decide) hs15_8
    refine lv_tableOut hx hb d_R_isWord_15 (by omega) rfl ?_
    refine lv_iconst (v := (0 : Int32)) hx hb d_R_isWord_87 (by decide) ?_
    obtain rfl := Option.some.inj hr
    exact hQ _ _ _ _ _ d_R_isWord_88 (by decide +kernel) rfl hP hD hS
  · rw [if_neg hc] at hr
    refine lv_iconst (v := (0 : Int32)) hx hb d_R_isWord_4 (by decide) ?_
    obtain rfl := Option.some.inj hr
    exact hQ _ _ _ _ _ d_R_isWord_5 (by decide +kernel) rfl hP hD hS
set_option maxHeartbeats 4000000 in
set_option maxRecDepth 100000 in
theorem c_R_operation (l : Launch) (D : va_G) (kI kZ : ClassId) (qR : Nat → Nat) (R_length : Int32) (R_words : Nat → Int32) (a1 : Int32) (res : Int32) (hr : f_R_operation R_words a1 = some res) : zMi l D kI kZ y_R_operation prog_6_method_6_code 2 ((some .int)) 0 0 [.ref (qR 0), .int a1] (W_R kI kZ qR R_length R_words) (W_R kI kZ qR R_length R_words) res := by
  refine zMi.of (by decide +kernel) (Nat.le_of_ble_eq_true rfl) ?_
  intro p e R s m args below meth c Q A hR hx hb hml hts hown hA hK hN hQ
  have hown : s.vm.findClass "SquareCode$Source" = some m.cls := hown
  intro ls H hl hP hD hS
  have hl : lv_has ls 2 [(0, .ref (qR 0)), (1, .int a1)] := hl
  rw [f_R_operation] at hr
  refine lv_aload_n hx hb d_R_operation_0 rfl (lv_at hl 0 rfl) ?_
  refine va_get (D := D) (ci := 4) (v := .ref (qR 1)) (C := R_R) (T := T_R) (N := 2) hx hb hts in_R hown hK hP 0 rfl rfl 0 (by decide) (hts _ kw_48) (fun _ h9 => h9) rfl d_R_operation_1 ?_
  refine lv_iload_n hx hb d_R_operation_4 rfl (lv_at hl 1 rfl) ?_
  obtain ⟨hi, hr⟩ := gd_some hr
  refine va_iald hx hb hK hP 1 0 rfl rfl hi d_R_operation_5 ?_
  refine lv_bipush (v := (100 : Int32)) hx hb d_R_operation_6 (by decide) ?_
  refine lv_idiv hx hb d_R_operation_8 (by decide) ?_
  obtain rfl := Option.some.inj hr
  exact hQ _ _ _ _ _ d_R_operation_9 rfl rfl hP hD hS
