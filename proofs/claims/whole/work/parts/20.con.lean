set_option maxHeartbeats 4000000 in
set_option maxRecDepth 100000 in
theorem c_R_clear (l : Launch) (D : va_G) (kI kZ : ClassId) (qR : Nat → Nat) (R_length : Int32) (R_words : Nat → Int32)  (res : Int32) (hr : f_R_clear R_length = some res) : zMv l D kI kZ y_R_clear prog_6_method_5_code 1 none 0 0 [.ref (qR 0)] (W_R kI kZ qR R_length R_words) (W_R kI kZ qR res R_words) := by
  refine zMv.of (by decide +kernel) (Nat.le_of_ble_eq_true rfl) ?_
  intro p e R s m args below meth c Q A hR hx hb hml hts hown hA hK hN hQ
  have hown : s.vm.findClass "SquareCode$Source" = some m.cls := hown
  intro ls H hl hP hD hS
  have hl : lv_has ls 1 [(0, .ref (qR 0))] := hl
  rw [f_R_clear] at hr
  refine lv_aload_n hx hb d_R_clear_0 rfl (lv_at hl 0 rfl) ?_
  refine lv_iconst (v := (0 : Int32)) hx hb d_R_clear_1 (by decide) ?_
  refine va_put (D := D) (ci := 4) (v := .int (0 : Int32)) (ty := .int) (C := R_R) (T := T_R) (N := 2) hx hb hts in_R ty_R tyo_R nm_R hown hK hP hD hS 0 rfl rfl 1 (by decide) (hts _ kw_49) (fun _ h9 => h9) rfl (by decide +kernel) rfl rfl (Nat.le_of_ble_eq_true rfl) d_R_clear_2 (fun H locs hP hD hS => ?_)
  have hP : va_P D zCl (W_R kI kZ qR (0 : Int32) R_words) H := hP
  have hD : va_D A (W_R kI kZ qR (0 : Int32) R_words) := hD
  obtain rfl := Option.some.inj hr
  exact hQ _ _ _ _ d_R_clear_5 hP hD hS
set_option maxHeartbeats 4000000 in
set_option maxRecDepth 100000 in
theorem c_X_reset (l : Launch) (D : va_G) (kI kZ : ClassId) (qX qM qR qC qP qO qV : Nat → Nat) (M_nc M_nf : Nat) (X_instructionsDone X_isWorkedOut M_modulus M_side M_size : Int32) (M_cells M_fresh : Nat → Int32) (R_length : Int32) (R_words : Nat → Int32) (C_length : Int32) (C_instructions P_registers : Nat → Int32) (O_modulus : Int32) (O_valueOf O_isNeeded O_registerOf : Nat → Int32) (V_length : Int32) (V_instructions : Nat → Int32)  (res : Int32 × Int32 × (Nat → Int32) × Int32 × Int32) (hr : f_X_reset M_nc X_instructionsDone X_isWorkedOut M_size M_cells R_length C_length = some res) : zMv l D kI kZ y_X_reset prog_1_method_13_code 2 none 1 22 [.ref (qX 0)] (W_XMRCPOV kI kZ qX qM qR qC qP qO qV M_nc M_nf X_instructionsDone X_isWorkedOut M_modulus M_side M_size M_cells M_fresh R_length R_words C_length C_instructions P_registers O_modulus O_valueOf O_isNeeded O_registerOf V_length V_instructions) (W_XMRCPOV kI kZ qX qM qR qC qP qO qV M_nc M_nf (res.1) (res.2.1) M_modulus M_side M_size (res.2.2.1) M_fresh (res.2.2.2.1) R_words (res.2.2.2.2) C_instructions P_registers O_modulus O_valueOf O_isNeeded O_registerOf V_length V_instructions) := by
  refine zMv.of (by decide +kernel) (Nat.le_of_ble_eq_true rfl) ?_
  intro p e R s m args below meth c Q A hR hx hb hml hts hown hA hK hN hQ
  have hown : s.vm.findClass "SquareCode" = some m.cls := hown
  have hB25 : ∀ (X_instructionsDone X_isWorkedOut R_length C_length : Int32)   (fu : Nat) (v1 : Int32) (M_cells : Nat → Int32) (H : Heap) (locs : List Loc) (ls : Array Slot), lv_has ls 2 [(0, .ref (qX 0)), (1, .int v1)] → va_P D zCl (W_XMRCPOV kI kZ qX qM qR qC qP qO qV M_nc M_nf X_instructionsDone X_isWorkedOut M_modulus M_side M_size M_cells M_fresh R_length R_words C_length C_instructions P_registers O_modulus O_valueOf O_isNeeded O_registerOf V_length V_instructions) H → va_D A (W_XMRCPOV kI kZ qX qM qR qC qP qO qV M_nc M_nf X_instructionsDone X_isWorkedOut M_modulus M_side M_size M_cells M_fresh R_length R_words C_length C_instructions P_registers O_modulus O_valueOf O_isNeeded O_registerOf V_length V_instructions) → va_S A s.heap H locs → f_X_reset_25 M_nc M_size X_instructionsDone X_isWorkedOut R_length C_length fu v1 M_cells = some res → W p l e R s m args below meth c H locs 0 0 Q (F0 m 25 ls []) := by
    intro X_instructionsDone X_isWorkedOut R_length C_length fu
    induction fu with
    | zero => intro v1 M_cells H locs ls hl hP hD hS hr; exact absurd hr (by rw [f_X_reset_25]; exact fun h => by cases h)
    | succ fu ih =>
      intro v1 M_cells H locs ls hl hP hD hS hr
      rw [f_X_reset_25] at hr
      refine lv_iload_n hx hb d_X_reset_25 rfl (lv_at hl 1 rfl) ?_
      refine lv_iconst (v := (4 : Int32)) hx hb d_X_reset_26 (by decide) ?_
      refine lv_icmp_ge hx hb d_X_reset_27 rfl (fun hc => ?_) (fun hc => ?_)
      · rw [if_pos hc] at hr
        obtain rfl := Option.some.inj hr
        exact hQ _ _ _ _ d_X_reset_47 hP hD hS
      · rw [if_neg hc] at hr
        refine lv_aload_n hx hb d_X_reset_30 rfl (lv_at hl 0 rfl) ?_
        refine va_get (D := D) (ci := 5) (v := .ref (qM 0)) (C := R_X) (T := T_X) (N := 7) hx hb hts in_X hown hK hP 0 rfl rfl 0 (by decide) (hts _ kw_103) (fun _ h9 => h9) rfl d_X_reset_31 ?_
        refine lv_bipush (v := (40 : Int32)) hx hb d_X_reset_34 (by decide) ?_
        refine lv_iload_n hx hb d_X_reset_36 rfl (lv_at hl 1 rfl) ?_
        refine lv_iadd hx hb d_X_reset_37 ?_
        obtain ⟨r1, hr1, hr⟩ := ob hr
        refine z_cv (ws := (W_XMRCPOV kI kZ qX qM qR qC qP qO qV M_nc M_nf X_instructionsDone X_isWorkedOut M_modulus M_side M_size M_cells M_fresh R_length R_words C_length C_instructions P_registers O_modulus O_valueOf O_isNeeded O_registerOf V_length V_instructions)) (wc := (W_M kI kZ qM M_nc M_nf M_modulus M_side M_size M_cells M_fresh)) (wr := (W_XRCPOV kI kZ qX qR qC qP qO qV qM X_instructionsDone X_isWorkedOut R_length R_words C_length C_instructions P_registers O_modulus O_valueOf O_isNeeded O_registerOf V_length V_instructions)) (w1 := (W_M kI kZ qM M_nc M_nf M_modulus M_side M_size r1 M_fresh)) (w2 := (W_XMRCPOV kI kZ qX qM qR qC qP qO qV M_nc M_nf X_instructionsDone X_isWorkedOut M_modulus M_side M_size r1 M_fresh R_length R_words C_length C_instructions P_registers O_modulus O_valueOf O_isNeeded O_registerOf V_length V_instructions)) (va_runV (As := [.int ((40 : Int32) + v1)]) (rest := []) ⟨hx, hb, hml, hown, hts⟩ (c_M_makeNought l D kI kZ qM M_nc M_nf M_modulus M_side M_size M_cells M_fresh ((40 : Int32) + v1) r1 hr1 H.size) (z_cwV hts mw_M_makeNought kw_434 ⟨by rw [hR]; exact Nat.le_of_ble_eq_true rfl, by rw [hR]; exact Nat.le_of_ble_eq_true rfl⟩) (z_preV (ci := 2) hK hP hD hN rfl (he := (rfl : _[1]? = _)) [1, 2, 3] (by decide) rfl) rfl rfl hl.1 rfl (lv_room (Nat.le_of_ble_eq_true rfl)) d_X_reset_38 ⟨Nat.zero_le _, Nat.zero_le _⟩) hP hD hS hA [1, 2, 3] [0, 4, 5, 6, 7, 8, 9, 10, 11, 12, 13, 14, 15] [0, 13, 14, 15, 1, 2, 3, 4, 5, 6, 7, 8, 9, 10, 11, 12] rfl rfl (by decide) (by decide) rfl (by decide) (fun H locs hP hD hS => ?_)
        refine lv_iinc (k := 1) (v := (v1 + (1 : Int32))) (lv' := [(1, .int (v1 + (1 : Int32))), (0, .ref (qX 0))]) hx hb d_X_reset_41 hl rfl (congrArg (fun z => v1 + z) (by decide : Int32.ofInt 1 = (1 : Int32))) (by decide) rfl (fun ls hl => ?_)
        refine lv_goto hx hb d_X_reset_44 rfl ?_
        exact ih (v1 + (1 : Int32)) r1 _ _ _ (lv_sub hl [1, 0] rfl) hP hD hS hr
  intro ls H hl hP hD hS
  have hl : lv_has ls 2 [(0, .ref (qX 0))] := hl
  rw [f_X_reset] at hr
  refine lv_aload_n hx hb d_X_reset_0 rfl (lv_at hl 0 rfl) ?_
  refine va_get (D := D) (ci := 5) (v := .ref (qR 0)) (C := R_X) (T := T_X) (N := 7) hx hb hts in_X hown hK hP 0 rfl rfl 1 (by decide) (hts _ kw_104) (fun _ h9 => h9) rfl d_X_reset_1 ?_
  obtain ⟨r2, hr2, hr⟩ := ob hr
  refine z_cv (ws := (W_XMRCPOV kI kZ qX qM qR qC qP qO qV M_nc M_nf X_instructionsDone X_isWorkedOut M_modulus M_side M_size M_cells M_fresh R_length R_words C_length C_instructions P_registers O_modulus O_valueOf O_isNeeded O_registerOf V_length V_instructions)) (wc := (W_R kI kZ qR R_length R_words)) (wr := (W_XMCPOV kI kZ qX qM qC qP qO qV qR M_nc M_nf X_instructionsDone X_isWorkedOut M_modulus M_side M_size M_cells M_fresh C_length C_instructions P_registers O_modulus O_valueOf O_isNeeded O_registerOf V_length V_instructions)) (w1 := (W_R kI kZ qR r2 R_words)) (w2 := (W_XMRCPOV kI kZ qX qM qR qC qP qO qV M_nc M_nf X_instructionsDone X_isWorkedOut M_modulus M_side M_size M_cells M_fresh r2 R_words C_length C_instructions P_registers O_modulus O_valueOf O_isNeeded O_registerOf V_length V_instructions)) (va_runV (As := []) (rest := []) ⟨hx, hb, hml, hown, hts⟩ (c_R_clear l D kI kZ qR R_length R_words r2 hr2 H.size) (z_cwV hts mw_R_clear kw_429 ⟨by rw [hR]; exact Nat.le_of_ble_eq_true rfl, by rw [hR]; exact Nat.le_of_ble_eq_true rfl⟩) (z_preV (ci := 4) hK hP hD hN rfl (he := (rfl : _[4]? = _)) [4, 5] (by decide) rfl) rfl rfl hl.1 rfl (lv_room (Nat.le_of_ble_eq_true rfl)) d_X_reset_4 ⟨Nat.zero_le _, Nat.zero_le _⟩) hP hD hS hA [4, 5] [0, 1, 2, 3, 6, 7, 8, 9, 10, 11, 12, 13, 14, 15] [0, 1, 2, 3, 14, 15, 4, 5, 6, 7, 8, 9, 10, 11, 12, 13] rfl rfl (by decide) (by decide) rfl (by decide) (fun H locs hP hD hS => ?_)
  refine lv_aload_n hx hb d_X_reset_7 rfl (lv_at hl 0 rfl) ?_
  refine va_get (D := D) (ci := 5) (v := .ref (qC 0)) (C := R_X) (T := T_X) (N := 7) hx hb hts in_X hown hK hP 0 rfl rfl 2 (by decide) (hts _ kw_105) (fun _ h9 => h9) rfl d_X_reset_8 ?_
  obtain ⟨r3, hr3, hr⟩ := ob hr
  refine z_cv (ws := (W_XMRCPOV kI kZ qX qM qR qC qP qO qV M_nc M_nf X_instructionsDone X_isWorkedOut M_modulus M_side M_size M_cells M_fresh r2 R_words C_length C_instructions P_registers O_modulus O_valueOf O_isNeeded O_registerOf V_length V_instructions)) (wc := (W_C kI kZ qC C_length C_instructions)) (wr := (W_XMRPOV kI kZ qX qM qR qP qO qV qC M_nc M_nf X_instructionsDone X_isWorkedOut M_modulus M_side M_size M_cells M_fresh r2 R_words P_registers O_modulus O_valueOf O_isNeeded O_registerOf V_length V_instructions)) (w1 := (W_C kI kZ qC r3 C_instructions)) (w2 := (W_XMRCPOV kI kZ qX qM qR qC qP qO qV M_nc M_nf X_instructionsDone X_isWorkedOut M_modulus M_side M_size M_cells M_fresh r2 R_words r3 C_instructions P_registers O_modulus O_valueOf O_isNeeded O_registerOf V_length V_instructions)) (va_runV (As := []) (rest := []) ⟨hx, hb, hml, hown, hts⟩ (c_C_clear l D kI kZ qC C_length C_instructions r3 hr3 H.size) (z_cwV hts mw_C_clear kw_433 ⟨by rw [hR]; exact Nat.le_of_ble_eq_true rfl, by rw [hR]; exact Nat.le_of_ble_eq_true rfl⟩) (z_preV (ci := 0) hK hP hD hN rfl (he := (rfl : _[6]? = _)) [6, 7] (by decide) rfl) rfl rfl hl.1 rfl (lv_room (Nat.le_of_ble_eq_true rfl)) d_X_reset_11 ⟨Nat.zero_le _, Nat.zero_le _⟩) hP hD hS hA [6, 7] [0, 1, 2, 3, 4, 5, 8, 9, 10, 11, 12, 13, 14, 15] [0, 1, 2, 3, 4, 5, 14, 15, 6, 7, 8, 9, 10, 11, 12, 13] rfl rfl (by decide) (by decide) rfl (by decide) (fun H locs hP hD hS => ?_)
  refine lv_aload_n hx hb d_X_reset_14 rfl (lv_at hl 0 rfl) ?_
  obtain ⟨r4, hr4, hr⟩ := ob hr
  refine z_cv (ws := (W_XMRCPOV kI kZ qX qM qR qC qP qO qV M_nc M_nf X_instructionsDone X_isWorkedOut M_modulus M_side M_size M_cells M_fresh r2 R_words r3 C_instructions P_registers O_modulus O_valueOf O_isNeeded O_registerOf V_length V_instructions)) (wc := (W_XMRCPOV kI kZ qX qM qR qC qP qO qV M_nc M_nf X_instructionsDone X_isWorkedOut M_modulus M_side M_size M_cells M_fresh r2 R_words r3 C_instructions P_registers O_modulus O_valueOf O_isNeeded O_registerOf V_length V_instructions)) (wr := ([] : va_W)) (w1 := (W_XMRCPOV kI kZ qX qM qR qC qP qO qV M_nc M_nf r4 X_isWorkedOut M_modulus M_side M_size M_cells M_fresh r2 R_words r3 C_instructions P_registers O_modulus O_valueOf O_isNeeded O_registerOf V_length V_instructions)) (w2 := (W_XMRCPOV kI kZ qX qM qR qC qP qO qV M_nc M_nf r4 X_isWorkedOut M_modulus M_side M_size M_cells M_fresh r2 R_words r3 C_instructions P_registers O_modulus O_valueOf O_isNeeded O_registerOf V_length V_instructions)) (va_runV (As := []) (rest := []) ⟨hx, hb, hml, hown, hts⟩ (c_X_rewind l D kI kZ qX qM qR qC qP qO qV M_nc M_nf X_instructionsDone X_isWorkedOut M_modulus M_side M_size M_cells M_fresh r2 R_words r3 C_instructions P_registers O_modulus O_valueOf O_isNeeded O_registerOf V_length V_instructions r4 hr4 H.size) (z_cwV hts mw_X_rewind kw_160 ⟨by rw [hR]; exact Nat.le_of_ble_eq_true rfl, by rw [hR]; exact Nat.le_of_ble_eq_true rfl⟩) (z_preV (ci := 5) hK hP hD hN rfl (he := (rfl : _[0]? = _)) [0, 1, 2, 3, 4, 5, 6, 7, 8, 9, 10, 11, 12, 13, 14, 15] (by decide) rfl) rfl rfl hl.1 rfl (lv_room (Nat.le_of_ble_eq_true rfl)) d_X_reset_15 ⟨Nat.zero_le _, Nat.zero_le _⟩) hP hD hS hA [0, 1, 2, 3, 4, 5, 6, 7, 8, 9, 10, 11, 12, 13, 14, 15] [] [0, 1, 2, 3, 4, 5, 6, 7, 8, 9, 10, 11, 12, 13, 14, 15] rfl rfl (by decide) (by decide) rfl (by decide) (fun H locs hP hD hS => ?_)
  refine lv_aload_n hx hb d_X_reset_18 rfl (lv_at hl 0 rfl) ?_
  refine lv_iconst (v := (0 : Int32)) hx hb d_X_reset_19 (by decide) ?_
  refine va_put (D := D) (ci := 5) (v := .int (0 : Int32)) (ty := .boolean) (C := R_X) (T := T_X) (N := 7) hx hb hts in_X ty_X tyo_X nm_X hown hK hP hD hS 0 rfl rfl 6 (by decide) (hts _ kw_109) (fun _ h9 => h9) rfl (by decide +kernel) rfl rfl (Nat.le_of_ble_eq_true rfl) d_X_reset_20 (fun H locs hP hD hS => ?_)
  have hP : va_P D zCl (W_XMRCPOV kI kZ qX qM qR qC qP qO qV M_nc M_nf r4 (0 : Int32) M_modulus M_side M_size M_cells M_fresh r2 R_words r3 C_instructions P_registers O_modulus O_valueOf O_isNeeded O_registerOf V_length V_instructions) H := hP
  have hD : va_D A (W_XMRCPOV kI kZ qX qM qR qC qP qO qV M_nc M_nf r4 (0 : Int32) M_modulus M_side M_size M_cells M_fresh r2 R_words r3 C_instructions P_registers O_modulus O_valueOf O_isNeeded O_registerOf V_length V_instructions) := hD
  refine lv_iconst (v := (0 : Int32)) hx hb d_X_reset_23 (by decide) ?_
  refine lv_istore_n (lv' := [(1, .int (0 : Int32)), (0, .ref (qX 0))]) hx hb d_X_reset_24 rfl hl (by decide) rfl (fun ls hl => ?_)
  exact hB25 r4 (0 : Int32) r2 r3 zFU (0 : Int32) M_cells _ _ _ (lv_sub hl [1, 0] rfl) hP hD hS hr
set_option maxHeartbeats 4000000 in
set_option maxRecDepth 100000 in
theorem c_N_in (l : Launch) (D : va_G) (kI kZ : ClassId)  (a0 a1 a2 : Int32) (res : Int32) (hr : f_N_in a0 a1 a2 = some res) : zMi l D kI kZ y_N_in prog_8_method_2_code 3 ((some .boolean)) 0 0 [.int a0, .int a1, .int a2] ([] : va_W) ([] : va_W) res := by
  refine zMi.of (by decide +kernel) (Nat.le_of_ble_eq_true rfl) ?_
  intro p e R s m args below meth c Q A hR hx hb hml hts hown hA hK hN hQ
  have hown : s.vm.findClass "SquareCodeModel" = some m.cls := hown
  intro ls H hl hP hD hS
  have hl : lv_has ls 3 [(0, .int a0), (1, .int a1), (2, .int a2)] := hl
  rw [f_N_in] at hr
  refine lv_iload_n hx hb d_N_in_0 rfl (lv_at hl 0 rfl) ?_
  refine lv_iload_n hx hb d_N_in_1 rfl (lv_at hl 1 rfl) ?_
  refine lv_icmp_lt hx hb d_N_in_2 rfl (fun hc => ?_) (fun hc => ?_)
  · rw [if_pos hc] at hr
    refine lv_iconst (v := (0 : Int32)) hx hb d_N_in_14 (by decide) ?_
    obtain rfl := Option.some.inj hr
    exact hQ _ _ _ _ _ d_N_in_15 (by decide +kernel) rfl hP hD hS
  · rw [if_neg hc] at hr
    refine lv_iload_n hx hb d_N_in_5 rfl (lv_at hl 0 rfl) ?_
    refine lv_iload_n hx hb d_N_in_6 rfl (lv_at hl 2 rfl) ?_
    refine lv_icmp_gt hx hb d_N_in_7 rfl (fun hc => ?_) (fun hc => ?_)
    · rw [if_pos hc] at hr
      refine lv_iconst (v := (0 : Int32)) hx hb d_N_in_14 (by decide) ?_
      obtain rfl := Option.some.inj hr
      exact hQ _ _ _ _ _ d_N_in_15 (by decide +kernel) rfl hP hD hS
    · rw [if_neg hc] at hr
      refine lv_iconst (v := (1 : Int32)) hx hb d_N_in_10 (by decide) ?_
      refine lv_goto hx hb d_N_in_11 rfl ?_
      obtain rfl := Option.some.inj hr
      exact hQ _ _ _ _ _ d_N_in_15 (by decide +kernel) rfl hP hD hS
set_option maxHeartbeats 4000000 in
set_option maxRecDepth 100000 in
theorem c_N_isPlace (l : Launch) (D : va_G) (kI kZ : ClassId) (qN : Nat → Nat) (N_p N_n N_words N_hasDirect N_compiled N_size N_outcome N_done N_values : Int32) (N_word N_table N_direct N_op N_a N_b N_x N_there N_vOp N_vA N_vB N_vX N_needed N_valueOf N_place : Nat → Int32) (a1 a2 : Int32) (res : Int32) (hr : f_N_isPlace N_n a1 a2 = some res) : zMi l D kI kZ y_N_isPlace prog_8_method_3_code 3 ((some .boolean)) 1 22 [.ref (qN 0), .int a1, .int a2] (W_N kI kZ qN N_p N_n N_words N_hasDirect N_compiled N_size N_outcome N_done N_values N_word N_table N_direct N_op N_a N_b N_x N_there N_vOp N_vA N_vB N_vX N_needed N_valueOf N_place) (W_N kI kZ qN N_p N_n N_words N_hasDirect N_compiled N_size N_outcome N_done N_values N_word N_table N_direct N_op N_a N_b N_x N_there N_vOp N_vA N_vB N_vX N_needed N_valueOf N_place) res := by
  refine zMi.of (by decide +kernel) (Nat.le_of_ble_eq_true rfl) ?_
  intro p e R s m args below meth c Q A hR hx hb hml hts hown hA hK hN hQ
  have hown : s.vm.findClass "SquareCodeModel" = some m.cls := hown
  intro ls H hl hP hD hS
  have hl : lv_has ls 3 [(0, .ref (qN 0)), (1, .int a1), (2, .int a2)] := hl
  rw [f_N_isPlace] at hr
  refine lv_iload_n hx hb d_N_isPlace_0 rfl (lv_at hl 1 rfl) ?_
  refine lv_iconst (v := (0 : Int32)) hx hb d_N_isPlace_1 (by decide) ?_
  refine lv_aload_n hx hb d_N_isPlace_2 rfl (lv_at hl 0 rfl) ?_
  refine va_get (D := D) (ci := 6) (v := .int N_n) (C := R_N) (T := T_N) (N := 24) hx hb hts in_N hown hK hP 0 rfl rfl 1 (by decide) (hts _ kw_445) (fun _ h9 => h9) rfl d_N_isPlace_3 ?_
  refine lv_iconst (v := (1 : Int32)) hx hb d_N_isPlace_6 (by decide) ?_
  refine lv_isub hx hb d_N_isPlace_7 ?_
  obtain ⟨r1, hr1, hr⟩ := ob hr
  refine z_ci (ws := (W_N kI kZ qN N_p N_n N_words N_hasDirect N_compiled N_size N_outcome N_done N_values N_word N_table N_direct N_op N_a N_b N_x N_there N_vOp N_vA N_vB N_vX N_needed N_valueOf N_place)) (wc := ([] : va_W)) (wr := (W_N kI kZ qN N_p N_n N_words N_hasDirect N_compiled N_size N_outcome N_done N_values N_word N_table N_direct N_op N_a N_b N_x N_there N_vOp N_vA N_vB N_vX N_needed N_valueOf N_place)) (w1 := ([] : va_W)) (w2 := (W_N kI kZ qN N_p N_n N_words N_hasDirect N_compiled N_size N_outcome N_done N_values N_word N_table N_direct N_op N_a N_b N_x N_there N_vOp N_vA N_vB N_vX N_needed N_valueOf N_place)) (va_runS (As := [.int a1, .int (0 : Int32), .int (N_n - (1 : Int32))]) (rest := []) ⟨hx, hb, hml, hown, hts⟩ (c_N_in l D kI kZ a1 (0 : Int32) (N_n - (1 : Int32)) r1 hr1 H.size) (z_cwS hts mw_N_in kw_525 ⟨by rw [hR]; exact Nat.le_of_ble_eq_true rfl, by rw [hR]; exact Nat.le_of_ble_eq_true rfl⟩) (z_pre hK hP hD hN [] (by decide) rfl) rfl rfl hl.1 rfl (lv_room (Nat.le_of_ble_eq_true rfl)) d_N_isPlace_8 ⟨Nat.zero_le _, Nat.zero_le _⟩) hP hD hS hA [] [0, 1, 2, 3, 4, 5, 6, 7, 8, 9, 10, 11, 12, 13, 14, 15] [0, 1, 2, 3, 4, 5, 6, 7, 8, 9, 10, 11, 12, 13, 14, 15] rfl rfl (by decide) (by decide) rfl (by decide) (fun H locs hP hD hS => ?_)
  refine lv_if_eq hx hb d_N_isPlace_11 rfl (fun hc => ?_) (fun hc => ?_)
  · rw [if_pos hc] at hr
    refine lv_iconst (v := (0 : Int32)) hx hb d_N_isPlace_32 (by decide) ?_
    obtain rfl := Option.some.inj hr
    exact hQ _ _ _ _ _ d_N_isPlace_33 (by decide +kernel) rfl hP hD hS
  · rw [if_neg hc] at hr
    refine lv_iload_n hx hb d_N_isPlace_14 rfl (lv_at hl 2 rfl) ?_
    refine lv_iconst (v := (0 : Int32)) hx hb d_N_isPlace_15 (by decide) ?_
    refine lv_aload_n hx hb d_N_isPlace_16 rfl (lv_at hl 0 rfl) ?_
    refine va_get (D := D) (ci := 6) (v := .int N_n) (C := R_N) (T := T_N) (N := 24) hx hb hts in_N hown hK hP 0 rfl rfl 1 (by decide) (hts _ kw_445) (fun _ h9 => h9) rfl d_N_isPlace_17 ?_
    refine lv_iconst (v := (1 : Int32)) hx hb d_N_isPlace_20 (by decide) ?_
    refine lv_isub hx hb d_N_isPlace_21 ?_
    obtain ⟨r2, hr2, hr⟩ := ob hr
    refine z_ci (ws := (W_N kI kZ qN N_p N_n N_words N_hasDirect N_compiled N_size N_outcome N_done N_values N_word N_table N_direct N_op N_a N_b N_x N_there N_vOp N_vA N_vB N_vX N_needed N_valueOf N_place)) (wc := ([] : va_W)) (wr := (W_N kI kZ qN N_p N_n N_words N_hasDirect N_compiled N_size N_outcome N_done N_values N_word N_table N_direct N_op N_a N_b N_x N_there N_vOp N_vA N_vB N_vX N_needed N_valueOf N_place)) (w1 := ([] : va_W)) (w2 := (W_N kI kZ qN N_p N_n N_words N_hasDirect N_compiled N_size N_outcome N_done N_values N_word N_table N_direct N_op N_a N_b N_x N_there N_vOp N_vA N_vB N_vX N_needed N_valueOf N_place)) (va_runS (As := [.int a2, .int (0 : Int32), .int (N_n - (1 : Int32))]) (rest := []) ⟨hx, hb, hml, hown, hts⟩ (c_N_in l D kI kZ a2 (0 : Int32) (N_n - (1 : Int32)) r2 hr2 H.size) (z_cwS hts mw_N_in kw_525 ⟨by rw [hR]; exact Nat.le_of_ble_eq_true rfl, by rw [hR]; exact Nat.le_of_ble_eq_true rfl⟩) (z_pre hK hP hD hN [] (by decide) rfl) rfl rfl hl.1 rfl (lv_room (Nat.le_of_ble_eq_true rfl)) d_N_isPlace_22 ⟨Nat.zero_le _, Nat.zero_le _⟩) hP hD hS hA [] [0, 1, 2, 3, 4, 5, 6, 7, 8, 9, 10, 11, 12, 13, 14, 15] [0, 1, 2, 3, 4, 5, 6, 7, 8, 9, 10, 11, 12, 13, 14, 15] rfl rfl (by decide) (by decide) rfl (by decide) (fun H locs hP hD hS => ?_)
    refine lv_if_eq hx hb d_N_isPlace_25 rfl (fun hc => ?_) (fun hc => ?_)
    · rw [if_pos hc] at hr
      refine lv_iconst (v := (0 : Int32)) hx hb d_N_isPlace_32 (by decide) ?_
      obtain rfl := Option.some.inj hr
      exact hQ _ _ _ _ _ d_N_isPlace_33 (by decide +kernel) rfl hP hD hS
    · rw [if_neg hc] at hr
      refine lv_iconst (v := (1 : Int32)) hx hb d_N_isPlace_28 (by decide) ?_
      refine lv_goto hx hb d_N_isPlace_29 rfl ?_
      obtain rfl := Option.some.inj hr
      exact hQ _ _ _ _ _ d_N_isPlace_33 (by decide +kernel) rfl hP hD hS
set_option maxHeartbeats 4000000 in
set_option maxRecDepth 100000 in
theorem c_N_get (l : Launch) (D : va_G) (kI kZ : ClassId) (qN : Nat → Nat) (N_p N_n N_words N_hasDirect N_compiled N_size N_outcome N_done N_values : Int32) (N_word N_table N_direct N_op N_a N_b N_x N_there N_vOp N_vA N_vB N_vX N_needed N_valueOf N_place : Nat → Int32) (a1 a2 a3 : Int32) (res : Int32) (hr : f_N_get N_table a1 a2 a3 = some res) : zMi l D kI kZ y_N_get prog_8_method_4_code 4 ((some .int)) 0 0 [.ref (qN 0), .int a1, .int a2, .int a3] (W_N kI kZ qN N_p N_n N_words N_hasDirect N_compiled N_size N_outcome N_done N_values N_word N_table N_direct N_op N_a N_b N_x N_there N_vOp N_vA N_vB N_vX N_needed N_valueOf N_place) (W_N kI kZ qN N_p N_n N_words N_hasDirect N_compiled N_size N_outcome N_done N_values N_word N_table N_direct N_op N_a N_b N_x N_there N_vOp N_vA N_vB N_vX N_needed N_valueOf N_place) res := by
  refine zMi.of (by decide +kernel) (Nat.le_of_ble_eq_true rfl) ?_
  intro p e R s m args below meth c Q A hR hx hb hml hts hown hA hK hN hQ
  have hown : s.vm.findClass "SquareCodeModel" = some m.cls := hown
  intro ls H hl hP hD hS
  have hl : lv_has ls 4 [(0, .ref (qN 0)), (1, .int a1), (2, .int a2), (3, .int a3)] := hl
  rw [f_N_get] at hr
  refine lv_aload_n hx hb d_N_get_0 rfl (lv_at hl 0 rfl) ?_
  refine va_get (D := D) (ci := 6) (v := .ref (qN 2)) (C := R_N) (T := T_N) (N := 24) hx hb hts in_N hown hK hP 0 rfl rfl 4 (by decide) (hts _ kw_448) (fun _ h9 => h9) rfl d_N_get_1 ?_
  refine lv_bipush (v := (16 : Int32)) hx hb d_N_get_4 (by decide) ?_
  refine lv_iload_n hx hb d_N_get_6 rfl (lv_at hl 1 rfl) ?_
  refine lv_imul hx hb d_N_get_7 ?_
  refine lv_iconst (v := (4 : Int32)) hx hb d_N_get_8 (by decide) ?_
  refine lv_iload_n hx hb d_N_get_9 rfl (lv_at hl 2 rfl) ?_
  refine lv_imul hx hb d_N_get_10 ?_
  refine lv_iadd hx hb d_N_get_11 ?_
  refine lv_iload_n hx hb d_N_get_12 rfl (lv_at hl 3 rfl) ?_
  refine lv_iadd hx hb d_N_get_13 ?_
  obtain ⟨hi, hr⟩ := gd_some hr
  refine va_iald hx hb hK hP 2 0 rfl rfl hi d_N_get_14 ?_
  obtain rfl := Option.some.inj hr
  exact hQ _ _ _ _ _ d_N_get_15 rfl rfl hP hD hS
set_option maxHeartbeats 4000000 in
set_option maxRecDepth 100000 in
theorem c_N_put (l : Launch) (D : va_G) (kI kZ : ClassId) (qN : Nat → Nat) (N_p N_n N_words N_hasDirect N_compiled N_size N_outcome N_done N_values : Int32) (N_word N_table N_direct N_op N_a N_b N_x N_there N_vOp N_vA N_vB N_vX N_needed N_valueOf N_place : Nat → Int32) (a1 a2 a3 a4 : Int32) (res : (Nat → Int32)) (hr : f_N_put N_table a1 a2 a3 a4 = some res) : zMv l D kI kZ y_N_put prog_8_method_5_code 5 none 0 0 [.ref (qN 0), .int a1, .int a2, .int a3, .int a4] (W_N kI kZ qN N_p N_n N_words N_hasDirect N_compiled N_size N_outcome N_done N_values N_word N_table N_direct N_op N_a N_b N_x N_there N_vOp N_vA N_vB N_vX N_needed N_valueOf N_place) (W_N kI kZ qN N_p N_n N_words N_hasDirect N_compiled N_size N_outcome N_done N_values N_word res N_direct N_op N_a N_b N_x N_there N_vOp N_vA N_vB N_vX N_needed N_valueOf N_place) := by
  refine zMv.of (by decide +kernel) (Nat.le_of_ble_eq_true rfl) ?_
  intro p e R s m args below meth c Q A hR hx hb hml hts hown hA hK hN hQ
  have hown : s.vm.findClass "SquareCodeModel" = some m.cls := hown
  intro ls H hl hP hD hS
  have hl : lv_has ls 5 [(0, .ref (qN 0)), (1, .int a1), (2, .int a2), (3, .int a3), (4, .int a4)] := hl
  rw [f_N_put] at hr
  refine lv_aload_n hx hb d_N_put_0 rfl (lv_at hl 0 rfl) ?_
  refine va_get (D := D) (ci := 6) (v := .ref (qN 2)) (C := R_N) (T := T_N) (N := 24) hx hb hts in_N hown hK hP 0 rfl rfl 4 (by decide) (hts _ kw_448) (fun _ h9 => h9) rfl d_N_put_1 ?_
  refine lv_bipush (v := (16 : Int32)) hx hb d_N_put_4 (by decide) ?_
  refine lv_iload_n hx hb d_N_put_6 rfl (lv_at hl 1 rfl) ?_
  refine lv_imul hx hb d_N_put_7 ?_
  refine lv_iconst (v := (4 : Int32)) hx hb d_N_put_8 (by decide) ?_
  refine lv_iload_n hx hb d_N_put_9 rfl (lv_at hl 2 rfl) ?_
  refine lv_imul hx hb d_N_put_10 ?_
  refine lv_iadd hx hb d_N_put_11 ?_
  refine lv_iload_n hx hb d_N_put_12 rfl (lv_at hl 3 rfl) ?_
  refine lv_iadd hx hb d_N_put_13 ?_
  refine lv_iload hx hb d_N_put_14 (lv_at hl 4 rfl) ?_
  obtain ⟨hi, hr⟩ := gd_some hr
  refine va_iast hx hb hK hP hD hS 2 0 rfl rfl hi d_N_put_16 (fun H locs hP hD hS => ?_)
  have hP : va_P D zCl (W_N kI kZ qN N_p N_n N_words N_hasDirect N_compiled N_size N_outcome N_done N_values N_word (upd N_table ((((16 : Int32) * a1) + ((4 : Int32) * a2)) + a3).toNatClampNeg a4) N_direct N_op N_a N_b N_x N_there N_vOp N_vA N_vB N_vX N_needed N_valueOf N_place) H := hP
  have hD : va_D A (W_N kI kZ qN N_p N_n N_words N_hasDirect N_compiled N_size N_outcome N_done N_values N_word (upd N_table ((((16 : Int32) * a1) + ((4 : Int32) * a2)) + a3).toNatClampNeg a4) N_direct N_op N_a N_b N_x N_there N_vOp N_vA N_vB N_vX N_needed N_valueOf N_place) := hD
  obtain rfl := Option.some.inj hr
  exact hQ _ _ _ _ d_N_put_17 hP hD hS
set_option maxHeartbeats 4000000 in
set_option maxRecDepth 100000 in
theorem c_N_mod (l : Launch) (D : va_G) (kI kZ : ClassId) (qN : Nat → Nat) (N_p N_n N_words N_hasDirect N_compiled N_size N_outcome N_done N_values : Int32) (N_word N_table N_direct N_op N_a N_b N_x N_there N_vOp N_vA N_vB N_vX N_needed N_valueOf N_place : Nat → Int32) (a1 : Int32) (res : Int32) (hr : f_N_mod N_p a1 = some res) : zMi l D kI kZ y_N_mod prog_8_method_6_code 3 ((some .int)) 0 0 [.ref (qN 0), .int a1] (W_N kI kZ qN N_p N_n N_words N_hasDirect N_compiled N_size N_outcome N_done N_values N_word N_table N_direct N_op N_a N_b N_x N_there N_vOp N_vA N_vB N_vX N_needed N_valueOf N_place) (W_N kI kZ qN N_p N_n N_words N_hasDirect N_compiled N_size N_outcome N_done N_values N_word N_table N_direct N_op N_a N_b N_x N_there N_vOp N_vA N_vB N_vX N_needed N_valueOf N_place) res := by
  refine zMi.of (by decide +kernel) (Nat.le_of_ble_eq_true rfl) ?_
  intro p e R s m args below meth c Q A hR hx hb hml hts hown hA hK hN hQ
  have hown : s.vm.findClass "SquareCodeModel" = some m.cls := hown
  intro ls H hl hP hD hS
  have hl : lv_has ls 3 [(0, .ref (qN 0)), (1, .int a1)] := hl
  rw [f_N_mod] at hr
  refine lv_iload_n hx hb d_N_mod_0 rfl (lv_at hl 1 rfl) ?_
  refine lv_aload_n hx hb d_N_mod_1 rfl (lv_at hl 0 rfl) ?_
  refine va_get (D := D) (ci := 6) (v := .int N_p) (C := R_N) (T := T_N) (N := 24) hx hb hts in_N hown hK hP 0 rfl rfl 0 (by decide) (hts _ kw_444) (fun _ h9 => h9) rfl d_N_mod_2 ?_
  obtain ⟨hz, hr⟩ := nz_some hr
  refine z_irem hx hb d_N_mod_5 hz ?_
  obtain ⟨v2_1, ev2_1, hr⟩ := nm_some hr
  refine z_top ev2_1 ?_
  refine lv_istore_n (lv' := [(2, .int v2_1), (0, .ref (qN 0)), (1, .int a1)]) hx hb d_N_mod_6 rfl hl (by decide) rfl (fun ls hl => ?_)
  refine lv_iload_n hx hb d_N_mod_7 rfl (lv_at hl 0 rfl) ?_
  refine lv_if_ge hx hb d_N_mod_8 rfl (fun hc => ?_) (fun hc => ?_)
  · rw [if_pos hc] at hr
    refine lv_iload_n hx hb d_N_mod_20 rfl (lv_at hl 0 rfl) ?_
    obtain rfl := Option.some.inj hr
    exact hQ _ _ _ _ _ d_N_mod_21 rfl rfl hP hD hS
  · rw [if_neg hc] at hr
    refine lv_iload_n hx hb d_N_mod_11 rfl (lv_at hl 0 rfl) ?_
    refine lv_aload_n hx hb d_N_mod_12 rfl (lv_at hl 1 rfl) ?_
    refine va_get (D := D) (ci := 6) (v := .int N_p) (C := R_N) (T := T_N) (N := 24) hx hb hts in_N hown hK hP 0 rfl rfl 0 (by decide) (hts _ kw_444) (fun _ h9 => h9) rfl d_N_mod_13 ?_
    refine lv_iadd hx hb d_N_mod_16 ?_
    refine lv_goto hx hb d_N_mod_17 rfl ?_
    obtain rfl := Option.some.inj hr
    exact hQ _ _ _ _ _ d_N_mod_21 rfl rfl hP hD hS
set_option maxHeartbeats 4000000 in
set_option maxRecDepth 100000 in
theorem c_N_copy (l : Launch) (D : va_G) (kI kZ : ClassId) (qN : Nat → Nat) (N_p N_n N_words N_hasDirect N_compiled N_size N_outcome N_done N_values : Int32) (N_word N_table N_direct N_op N_a N_b N_x N_there N_vOp N_vA N_vB N_vX N_needed N_valueOf N_place : Nat → Int32) (a1 a2 : Int32) (res : (Nat → Int32)) (hr : f_N_copy N_table a1 a2 = some res) : zMv l D kI kZ y_N_copy prog_8_method_7_code 4 none 0 0 [.ref (qN 0), .int a1, .int a2] (W_N kI kZ qN N_p N_n N_words N_hasDirect N_compiled N_size N_outcome N_done N_values N_word N_table N_direct N_op N_a N_b N_x N_there N_vOp N_vA N_vB N_vX N_needed N_valueOf N_place) (W_N kI kZ qN N_p N_n N_words N_hasDirect N_compiled N_size N_outcome N_done N_values N_word res N_direct N_op N_a N_b N_x N_there N_vOp N_vA N_vB N_vX N_needed N_valueOf N_place) := by
  refine zMv.of (by decide +kernel) (Nat.le_of_ble_eq_true rfl) ?_
  intro p e R s m args below meth c Q A hR hx hb hml hts hown hA hK hN hQ
  have hown : s.vm.findClass "SquareCodeModel" = some m.cls := hown
  have hB2 : ∀ (fu : Nat) (v3 : Int32) (N_table : Nat → Int32) (H : Heap) (locs : List Loc) (ls : Array Slot), lv_has ls 4 [(0, .ref (qN 0)), (1, .int a1), (2, .int a2), (3, .int v3)] → va_P D zCl (W_N kI kZ qN N_p N_n N_words N_hasDirect N_compiled N_size N_outcome N_done N_values N_word N_table N_direct N_op N_a N_b N_x N_there N_vOp N_vA N_vB N_vX N_needed N_valueOf N_place) H → va_D A (W_N kI kZ qN N_p N_n N_words N_hasDirect N_compiled N_size N_outcome N_done N_values N_word N_table N_direct N_op N_a N_b N_x N_there N_vOp N_vA N_vB N_vX N_needed N_valueOf N_place) → va_S A s.heap H locs → f_N_copy_2 a1 a2 fu v3 N_table = some res → W p l e R s m args below meth c H locs 0 0 Q (F0 m 2 ls []) := by
    intro  fu
    induction fu with
    | zero => intro v3 N_table H locs ls hl hP hD hS hr; exact absurd hr (by rw [f_N_copy_2]; exact fun h => by cases h)
    | succ fu ih =>
      intro v3 N_table H locs ls hl hP hD hS hr
      rw [f_N_copy_2] at hr
      refine lv_iload_n hx hb d_N_copy_2 rfl (lv_at hl 3 rfl) ?_
      refine lv_bipush (v := (16 : Int32)) hx hb d_N_copy_3 (by decide) ?_
      refine lv_icmp_ge hx hb d_N_copy_5 rfl (fun hc => ?_) (fun hc => ?_)
      · rw [if_pos hc] at hr
        obtain rfl := Option.some.inj hr
        exact hQ _ _ _ _ d_N_copy_36 hP hD hS
      · rw [if_neg hc] at hr
        refine lv_aload_n hx hb d_N_copy_8 rfl (lv_at hl 0 rfl) ?_
        refine va_get (D := D) (ci := 6) (v := .ref (qN 2)) (C := R_N) (T := T_N) (N := 24) hx hb hts in_N hown hK hP 0 rfl rfl 4 (by decide) (hts _ kw_448) (fun _ h9 => h9) rfl d_N_copy_9 ?_
        refine lv_bipush (v := (16 : Int32)) hx hb d_N_copy_12 (by decide) ?_
        refine lv_iload_n hx hb d_N_copy_14 rfl (lv_at hl 2 rfl) ?_
        refine lv_imul hx hb d_N_copy_15 ?_
        refine lv_iload_n hx hb d_N_copy_16 rfl (lv_at hl 3 rfl) ?_
        refine lv_iadd hx hb d_N_copy_17 ?_
        refine lv_aload_n hx hb d_N_copy_18 rfl (lv_at hl 0 rfl) ?_
        refine va_get (D := D) (ci := 6) (v := .ref (qN 2)) (C := R_N) (T := T_N) (N := 24) hx hb hts in_N hown hK hP 0 rfl rfl 4 (by decide) (hts _ kw_448) (fun _ h9 => h9) rfl d_N_copy_19 ?_
        refine lv_bipush (v := (16 : Int32)) hx hb d_N_copy_22 (by decide) ?_
        refine lv_iload_n hx hb d_N_copy_24 rfl (lv_at hl 1 rfl) ?_
        refine lv_imul hx hb d_N_copy_25 ?_
        refine lv_iload_n hx hb d_N_copy_26 rfl (lv_at hl 3 rfl) ?_
        refine lv_iadd hx hb d_N_copy_27 ?_
        obtain ⟨hi, hr⟩ := gd_some hr
        refine va_iald hx hb hK hP 2 0 rfl rfl hi d_N_copy_28 ?_
        obtain ⟨hi, hr⟩ := gd_some hr
        refine va_iast hx hb hK hP hD hS 2 0 rfl rfl hi d_N_copy_29 (fun H locs hP hD hS => ?_)
        have hP : va_P D zCl (W_N kI kZ qN N_p N_n N_words N_hasDirect N_compiled N_size N_outcome N_done N_values N_word (upd N_table (((16 : Int32) * a2) + v3).toNatClampNeg (N_table (((16 : Int32) * a1) + v3).toNatClampNeg)) N_direct N_op N_a N_b N_x N_there N_vOp N_vA N_vB N_vX N_needed N_valueOf N_place) H := hP
        have hD : va_D A (W_N kI kZ qN N_p N_n N_words N_hasDirect N_compiled N_size N_outcome N_done N_values N_word (upd N_table (((16 : Int32) * a2) + v3).toNatClampNeg (N_table (((16 : Int32) * a1) + v3).toNatClampNeg)) N_direct N_op N_a N_b N_x N_there N_vOp N_vA N_vB N_vX N_needed N_valueOf N_place) := hD
        refine lv_iinc (k := 3) (v := (v3 + (1 : Int32))) (lv' := [(3, .int (v3 + (1 : Int32))), (0, .ref (qN 0)), (1, .int a1), (2, .int a2)]) hx hb d_N_copy_30 hl rfl (congrArg (fun z => v3 + z) (by decide : Int32.ofInt 1 = (1 : Int32))) (by decide) rfl (fun ls hl => ?_)
        refine lv_goto hx hb d_N_copy_33 rfl ?_
        exact ih (v3 + (1 : Int32)) (upd N_table (((16 : Int32) * a2) + v3).toNatClampNeg (N_table (((16 : Int32) * a1) + v3).toNatClampNeg)) _ _ _ (lv_sub hl [1, 2, 3, 0] rfl) hP hD hS hr
  intro ls H hl hP hD hS
  have hl : lv_has ls 4 [(0, .ref (qN 0)), (1, .int a1), (2, .int a2)] := hl
  rw [f_N_copy] at hr
  refine lv_iconst (v := (0 : Int32)) hx hb d_N_copy_0 (by decide) ?_
  refine lv_istore_n (lv' := [(3, .int (0 : Int32)), (0, .ref (qN 0)), (1, .int a1), (2, .int a2)]) hx hb d_N_copy_1 rfl hl (by decide) rfl (fun ls hl => ?_)
  exact hB2 zFU (0 : Int32) N_table _ _ _ (lv_sub hl [1, 2, 3, 0] rfl) hP hD hS hr
set_option maxHeartbeats 4000000 in
set_option maxRecDepth 100000 in
theorem c_N_operate (l : Launch) (D : va_G) (kI kZ : ClassId) (qN : Nat → Nat) (N_p N_n N_words N_hasDirect N_compiled N_size N_outcome N_done N_values : Int32) (N_word N_table N_direct N_op N_a N_b N_x N_there N_vOp N_vA N_vB N_vX N_needed N_valueOf N_place : Nat → Int32) (a1 a2 a3 a4 a5 : Int32) (res : (Nat → Int32)) (hr : f_N_operate N_p N_n N_table a1 a2 a3 a4 a5 = some res) : zMv l D kI kZ y_N_operate prog_8_method_8_code 10 none 1 24 [.ref (qN 0), .int a1, .int a2, .int a3, .int a4, .int a5] (W_N kI kZ qN N_p N_n N_words N_hasDirect N_compiled N_size N_outcome N_done N_values N_word N_table N_direct N_op N_a N_b N_x N_there N_vOp N_vA N_vB N_vX N_needed N_valueOf N_place) (W_N kI kZ qN N_p N_n N_words N_hasDirect N_compiled N_size N_outcome N_done N_values N_word res N_direct N_op N_a N_b N_x N_there N_vOp N_vA N_vB N_vX N_needed N_valueOf N_place) := by
  refine zMv.of (by decide +kernel) (Nat.le_of_ble_eq_true rfl) ?_
  intro p e R s m args below meth c Q A hR hx hb hml hts hown hA hK hN hQ
  have hown : s.vm.findClass "SquareCodeModel" = some m.cls := hown
  have hB198 : ∀ (v6 v7 v8 : Int32) (N_table : Nat → Int32) (k15 : Int32 → (Nat → Int32) → Option ((Nat → Int32))) (hk15 : ∀ (v7 : Int32) (N_table : Nat → Int32) (H : Heap) (locs : List Loc) (ls : Array Slot), lv_has ls 10 [(0, .ref (qN 0)), (1, .int a1), (2, .int a2), (3, .int a3), (4, .int a4), (5, .int a5), (6, .int v6), (7, .int v7)] → va_P D zCl (W_N kI kZ qN N_p N_n N_words N_hasDirect N_compiled N_size N_outcome N_done N_values N_word N_table N_direct N_op N_a N_b N_x N_there N_vOp N_vA N_vB N_vX N_needed N_valueOf N_place) H → va_D A (W_N kI kZ qN N_p N_n N_words N_hasDirect N_compiled N_size N_outcome N_done N_values N_word N_table N_direct N_op N_a N_b N_x N_there N_vOp N_vA N_vB N_vX N_needed N_valueOf N_place) → va_S A s.heap H locs → k15 v7 N_table = some res → W p l e R s m args below meth c H locs 0 0 Q (F0 m 15 ls [])) (H : Heap) (locs : List Loc) (ls : Array Slot), lv_has ls 10 [(0, .ref (qN 0)), (1, .int a1), (2, .int a2), (3, .int a3), (4, .int a4), (5, .int a5), (6, .int v6), (7, .int v7), (8, .int v8)] → va_P D zCl (W_N kI kZ qN N_p N_n N_words N_hasDirect N_compiled N_size N_outcome N_done N_values N_word N_table N_direct N_op N_a N_b N_x N_there N_vOp N_vA N_vB N_vX N_needed N_valueOf N_place) H → va_D A (W_N kI kZ qN N_p N_n N_words N_hasDirect N_compiled N_size N_outcome N_done N_values N_word N_table N_direct N_op N_a N_b N_x N_there N_vOp N_vA N_vB N_vX N_needed N_valueOf N_place) → va_S A s.heap H locs → f_N_operate_198 N_p k15 v6 v7 v8 N_table = some res → W p l e R s m args below meth c H locs 0 0 Q (F0 m 198 ls []) := by
    intro v6 v7 v8 N_table k15 hk15 H locs ls hl hP hD hS hr
    rw [f_N_operate_198] at hr
    refine lv_aload_n hx hb d_N_operate_198 rfl (lv_at hl 0 rfl) ?_
    refine lv_bipush (v := (29 : Int32)) hx hb d_N_operate_199 (by decide) ?_
    refine lv_iload hx hb d_N_operate_201 (lv_at hl 6 rfl) ?_
    refine lv_iload hx hb d_N_operate_203 (lv_at hl 7 rfl) ?_
    refine lv_aload_n hx hb d_N_operate_205 rfl (lv_at hl 0 rfl) ?_
    refine lv_iload hx hb d_N_operate_206 (lv_at hl 8 rfl) ?_
    obtain ⟨r1, hr1, hr⟩ := ob hr
    refine z_ci (ws := (W_N kI kZ qN N_p N_n N_words N_hasDirect N_compiled N_size N_outcome N_done N_values N_word N_table N_direct N_op N_a N_b N_x N_there N_vOp N_vA N_vB N_vX N_needed N_valueOf N_place)) (wc := (W_N kI kZ qN N_p N_n N_words N_hasDirect N_compiled N_size N_outcome N_done N_values N_word N_table N_direct N_op N_a N_b N_x N_there N_vOp N_vA N_vB N_vX N_needed N_valueOf N_place)) (wr := ([] : va_W)) (w1 := (W_N kI kZ qN N_p N_n N_words N_hasDirect N_compiled N_size N_outcome N_done N_values N_word N_table N_direct N_op N_a N_b N_x N_there N_vOp N_vA N_vB N_vX N_needed N_valueOf N_place)) (w2 := (W_N kI kZ qN N_p N_n N_words N_hasDirect N_compiled N_size N_outcome N_done N_values N_word N_table N_direct N_op N_a N_b N_x N_there N_vOp N_vA N_vB N_vX N_needed N_valueOf N_place)) (va_runV (As := [.int v8]) (rest := [.int v7, .int v6, .int (29 : Int32), .ref (qN 0)]) ⟨hx, hb, hml, hown, hts⟩ (c_N_mod l D kI kZ qN N_p N_n N_words N_hasDirect N_compiled N_size N_outcome N_done N_values N_word N_table N_direct N_op N_a N_b N_x N_there N_vOp N_vA N_vB N_vX N_needed N_valueOf N_place v8 r1 hr1 H.size) (z_cwV hts mw_N_mod kw_532 ⟨by rw [hR]; exact Nat.le_of_ble_eq_true rfl, by rw [hR]; exact Nat.le_of_ble_eq_true rfl⟩) (z_preV (ci := 6) hK hP hD hN rfl (he := (rfl : _[0]? = _)) [0, 1, 2, 3, 4, 5, 6, 7, 8, 9, 10, 11, 12, 13, 14, 15] (by decide) rfl) rfl rfl hl.1 rfl (lv_room (Nat.le_of_ble_eq_true rfl)) d_N_operate_208 ⟨Nat.zero_le _, Nat.zero_le _⟩) hP hD hS hA [0, 1, 2, 3, 4, 5, 6, 7, 8, 9, 10, 11, 12, 13, 14, 15] [] [0, 1, 2, 3, 4, 5, 6, 7, 8, 9, 10, 11, 12, 13, 14, 15] rfl rfl (by decide) (by decide) rfl (by decide) (fun H locs hP hD hS => ?_)
    obtain ⟨r2, hr2, hr⟩ := ob hr
    refine z_cv (ws := (W_N kI kZ qN N_p N_n N_words N_hasDirect N_compiled N_size N_outcome N_done N_values N_word N_table N_direct N_op N_a N_b N_x N_there N_vOp N_vA N_vB N_vX N_needed N_valueOf N_place)) (wc := (W_N kI kZ qN N_p N_n N_words N_hasDirect N_compiled N_size N_outcome N_done N_values N_word N_table N_direct N_op N_a N_b N_x N_there N_vOp N_vA N_vB N_vX N_needed N_valueOf N_place)) (wr := ([] : va_W)) (w1 := (W_N kI kZ qN N_p N_n N_words N_hasDirect N_compiled N_size N_outcome N_done N_values N_word r2 N_direct N_op N_a N_b N_x N_there N_vOp N_vA N_vB N_vX N_needed N_valueOf N_place)) (w2 := (W_N kI kZ qN N_p N_n N_words N_hasDirect N_compiled N_size N_outcome N_done N_values N_word r2 N_direct N_op N_a N_b N_x N_there N_vOp N_vA N_vB N_vX N_needed N_valueOf N_place)) (va_runV (As := [.int (29 : Int32), .int v6, .int v7, .int r1]) (rest := []) ⟨hx, hb, hml, hown, hts⟩ (c_N_put l D kI kZ qN N_p N_n N_words N_hasDirect N_compiled N_size N_outcome N_done N_values N_word N_table N_direct N_op N_a N_b N_x N_there N_vOp N_vA N_vB N_vX N_needed N_valueOf N_place (29 : Int32) v6 v7 r1 r2 hr2 H.size) (z_cwV hts mw_N_put kw_536 ⟨by rw [hR]; exact Nat.le_of_ble_eq_true rfl, by rw [hR]; exact Nat.le_of_ble_eq_true rfl⟩) (z_preV (ci := 6) hK hP hD hN rfl (he := (rfl : _[0]? = _)) [0, 1, 2, 3, 4, 5, 6, 7, 8, 9, 10, 11, 12, 13, 14, 15] (by decide) rfl) rfl rfl hl.1 rfl (lv_room (Nat.le_of_ble_eq_true rfl)) d_N_operate_211 ⟨Nat.zero_le _, Nat.zero_le _⟩) hP hD hS hA [0, 1, 2, 3, 4, 5, 6, 7, 8, 9, 10, 11, 12, 13, 14, 15] [] [0, 1, 2, 3, 4, 5, 6, 7, 8, 9, 10, 11, 12, 13, 14, 15] rfl rfl (by decide) (by decide) rfl (by decide) (fun H locs hP hD hS => ?_)
    refine lv_iinc (k := 7) (v := (v7 + (1 : Int32))) (lv' := [(7, .int (v7 + (1 : Int32))), (0, .ref (qN 0)), (1, .int a1), (2, .int a2), (3, .int a3), (4, .int a4), (5, .int a5), (6, .int v6), (8, .int v8)]) hx hb d_N_operate_214 hl rfl (congrArg (fun z => v7 + z) (by decide : Int32.ofInt 1 = (1 : Int32))) (by decide) rfl (fun ls hl => ?_)
    refine lv_goto hx hb d_N_operate_217 rfl ?_
    exact hk15 (v7 + (1 : Int32)) r2 _ _ _ (lv_sub hl [1, 2, 3, 4, 5, 6, 7, 0] rfl) hP hD hS hr
  have hB154 : ∀ (v6 v7 : Int32) (N_table : Nat → Int32) (k15 : Int32 → (Nat → Int32) → Option ((Nat → Int32))) (hk15 : ∀ (v7 : Int32) (N_table : Nat → Int32) (H : Heap) (locs : List Loc) (ls : Array Slot), lv_has ls 10 [(0, .ref (qN 0)), (1, .int a1), (2, .int a2), (3, .int a3), (4, .int a4), (5, .int a5), (6, .int v6), (7, .int v7)] → va_P D zCl (W_N kI kZ qN N_p N_n N_words N_hasDirect N_compiled N_size N_outcome N_done N_values N_word N_table N_direct N_op N_a N_b N_x N_there N_vOp N_vA N_vB N_vX N_needed N_valueOf N_place) H → va_D A (W_N kI kZ qN N_p N_n N_words N_hasDirect N_compiled N_size N_outcome N_done N_values N_word N_table N_direct N_op N_a N_b N_x N_there N_vOp N_vA N_vB N_vX N_needed N_valueOf N_place) → va_S A s.heap H locs → k15 v7 N_table = some res → W p l e R s m args below meth c H locs 0 0 Q (F0 m 15 ls [])) (fu : Nat) (v8 v9 : Int32) (H : Heap) (locs : List Loc) (ls : Array Slot), lv_has ls 10 [(0, .ref (qN 0)), (1, .int a1), (2, .int a2), (3, .int a3), (4, .int a4), (5, .int a5), (6, .int v6), (7, .int v7), (8, .int v8), (9, .int v9)] → va_P D zCl (W_N kI kZ qN N_p N_n N_words N_hasDirect N_compiled N_size N_outcome N_done N_values N_word N_table N_direct N_op N_a N_b N_x N_there N_vOp N_vA N_vB N_vX N_needed N_valueOf N_place) H → va_D A (W_N kI kZ qN N_p N_n N_words N_hasDirect N_compiled N_size N_outcome N_done N_values N_word N_table N_direct N_op N_a N_b N_x N_there N_vOp N_vA N_vB N_vX N_needed N_valueOf N_place) → va_S A s.heap H locs → f_N_operate_154 N_p N_n a1 a2 a3 k15 v6 v7 N_table fu v8 v9 = some res → W p l e R s m args below meth c H locs 0 0 Q (F0 m 154 ls []) := by
    intro v6 v7 N_table k15 hk15 fu
    induction fu with
    | zero => intro v8 v9 H locs ls hl hP hD hS hr; exact absurd hr (by rw [f_N_operate_154]; exact fun h => by cases h)
    | succ fu ih =>
      intro v8 v9 H locs ls hl hP hD hS hr
      rw [f_N_operate_154] at hr
      refine lv_iload hx hb d_N_operate_154 (lv_at hl 9 rfl) ?_
      refine lv_aload_n hx hb d_N_operate_156 rfl (lv_at hl 0 rfl) ?_
      refine va_get (D := D) (ci := 6) (v := .int N_n) (C := R_N) (T := T_N) (N := 24) hx hb hts in_N hown hK hP 0 rfl rfl 1 (by decide) (hts _ kw_445) (fun _ h9 => h9) rfl d_N_operate_157 ?_
      refine lv_icmp_ge hx hb d_N_operate_160 rfl (fun hc => ?_) (fun hc => ?_)
      · rw [if_pos hc] at hr
        exact hB198 v6 v7 v8 N_table _ hk15 _ _ _ (lv_sub hl [0, 1, 2, 3, 4, 5, 6, 7, 8] rfl) hP hD hS hr
      · rw [if_neg hc] at hr
        refine lv_iload_n hx hb d_N_operate_163 rfl (lv_at hl 1 rfl) ?_
        refine lv_iconst (v := (5 : Int32)) hx hb d_N_operate_164 (by decide) ?_
        refine lv_icmp_ne hx hb d_N_operate_165 rfl (fun hc => ?_) (fun hc => ?_)
        · rw [if_neg hc] at hr
          exact hB198 v6 v7 v8 N_table _ hk15 _ _ _ (lv_sub hl [0, 1, 2, 3, 4, 5, 6, 7, 8] rfl) hP hD hS hr
        · rw [if_pos hc] at hr
          refine lv_iload hx hb d_N_operate_168 (lv_at hl 8 rfl) ?_
          refine lv_aload_n hx hb d_N_operate_170 rfl (lv_at hl 0 rfl) ?_
          refine lv_iload_n hx hb d_N_operate_171 rfl (lv_at hl 2 rfl) ?_
          refine lv_iload hx hb d_N_operate_172 (lv_at hl 6 rfl) ?_
          refine lv_iload hx hb d_N_operate_174 (lv_at hl 9 rfl) ?_
          obtain ⟨r3, hr3, hr⟩ := ob hr
          refine z_ci (ws := (W_N kI kZ qN N_p N_n N_words N_hasDirect N_compiled N_size N_outcome N_done N_values N_word N_table N_direct N_op N_a N_b N_x N_there N_vOp N_vA N_vB N_vX N_needed N_valueOf N_place)) (wc := (W_N kI kZ qN N_p N_n N_words N_hasDirect N_compiled N_size N_outcome N_done N_values N_word N_table N_direct N_op N_a N_b N_x N_there N_vOp N_vA N_vB N_vX N_needed N_valueOf N_place)) (wr := ([] : va_W)) (w1 := (W_N kI kZ qN N_p N_n N_words N_hasDirect N_compiled N_size N_outcome N_done N_values N_word N_table N_direct N_op N_a N_b N_x N_there N_vOp N_vA N_vB N_vX N_needed N_valueOf N_place)) (w2 := (W_N kI kZ qN N_p N_n N_words N_hasDirect N_compiled N_size N_outcome N_done N_values N_word N_table N_direct N_op N_a N_b N_x N_there N_vOp N_vA N_vB N_vX N_needed N_valueOf N_place)) (va_runV (As := [.int a2, .int v6, .int v9]) (rest := [.int v8]) ⟨hx, hb, hml, hown, hts⟩ (c_N_get l D kI kZ qN N_p N_n N_words N_hasDirect N_compiled N_size N_outcome N_done N_values N_word N_table N_direct N_op N_a N_b N_x N_there N_vOp N_vA N_vB N_vX N_needed N_valueOf N_place a2 v6 v9 r3 hr3 H.size) (z_cwV hts mw_N_get kw_569 ⟨by rw [hR]; exact Nat.le_of_ble_eq_true rfl, by rw [hR]; exact Nat.le_of_ble_eq_true rfl⟩) (z_preV (ci := 6) hK hP hD hN rfl (he := (rfl : _[0]? = _)) [0, 1, 2, 3, 4, 5, 6, 7, 8, 9, 10, 11, 12, 13, 14, 15] (by decide) rfl) rfl rfl hl.1 rfl (lv_room (Nat.le_of_ble_eq_true rfl)) d_N_operate_176 ⟨Nat.zero_le _, Nat.zero_le _⟩) hP hD hS hA [0, 1, 2, 3, 4, 5, 6, 7, 8, 9, 10, 11, 12, 13, 14, 15] [] [0, 1, 2, 3, 4, 5, 6, 7, 8, 9, 10, 11, 12, 13, 14, 15] rfl rfl (by decide) (by decide) rfl (by decide) (fun H locs hP hD hS => ?_)
          refine lv_aload_n hx hb d_N_operate_179 rfl (lv_at hl 0 rfl) ?_
          refine lv_iload_n hx hb d_N_operate_180 rfl (lv_at hl 3 rfl) ?_
          refine lv_iload hx hb d_N_operate_181 (lv_at hl 9 rfl) ?_
          refine lv_iload hx hb d_N_operate_183 (lv_at hl 7 rfl) ?_
          obtain ⟨r4, hr4, hr⟩ := ob hr
          refine z_ci (ws := (W_N kI kZ qN N_p N_n N_words N_hasDirect N_compiled N_size N_outcome N_done N_values N_word N_table N_direct N_op N_a N_b N_x N_there N_vOp N_vA N_vB N_vX N_needed N_valueOf N_place)) (wc := (W_N kI kZ qN N_p N_n N_words N_hasDirect N_compiled N_size N_outcome N_done N_values N_word N_table N_direct N_op N_a N_b N_x N_there N_vOp N_vA N_vB N_vX N_needed N_valueOf N_place)) (wr := ([] : va_W)) (w1 := (W_N kI kZ qN N_p N_n N_words N_hasDirect N_compiled N_size N_outcome N_done N_values N_word N_table N_direct N_op N_a N_b N_x N_there N_vOp N_vA N_vB N_vX N_needed N_valueOf N_place)) (w2 := (W_N kI kZ qN N_p N_n N_words N_hasDirect N_compiled N_size N_outcome N_done N_values N_word N_table N_direct N_op N_a N_b N_x N_there N_vOp N_vA N_vB N_vX N_needed N_valueOf N_place)) (va_runV (As := [.int a3, .int v9, .int v7]) (rest := [.int r3, .int v8]) ⟨hx, hb, hml, hown, hts⟩ (c_N_get l D kI kZ qN N_p N_n N_words N_hasDirect N_compiled N_size N_outcome N_done N_values N_word N_table N_direct N_op N_a N_b N_x N_there N_vOp N_vA N_vB N_vX N_needed N_valueOf N_place a3 v9 v7 r4 hr4 H.size) (z_cwV hts mw_N_get kw_569 ⟨by rw [hR]; exact Nat.le_of_ble_eq_true rfl, by rw [hR]; exact Nat.le_of_ble_eq_true rfl⟩) (z_preV (ci := 6) hK hP hD hN rfl (he := (rfl : _[0]? = _)) [0, 1, 2, 3, 4, 5, 6, 7, 8, 9, 10, 11, 12, 13, 14, 15] (by decide) rfl) rfl rfl hl.1 rfl (lv_room (Nat.le_of_ble_eq_true rfl)) d_N_operate_185 ⟨Nat.zero_le _, Nat.zero_le _⟩) hP hD hS hA [0, 1, 2, 3, 4, 5, 6, 7, 8, 9, 10, 11, 12, 13, 14, 15] [] [0, 1, 2, 3, 4, 5, 6, 7, 8, 9, 10, 11, 12, 13, 14, 15] rfl rfl (by decide) (by decide) rfl (by decide) (fun H locs hP hD hS => ?_)
          refine lv_imul hx hb d_N_operate_188 ?_
          refine lv_iadd hx hb d_N_operate_189 ?_
          obtain ⟨v8_5, ev8_5, hr⟩ := nm_some hr
          refine z_top ev8_5 ?_
          refine lv_istore (lv' := [(8, .int v8_5), (0, .ref (qN 0)), (1, .int a1), (2, .int a2), (3, .int a3), (4, .int a4), (5, .int a5), (6, .int v6), (7, .int v7), (9, .int v9)]) hx hb d_N_operate_190 hl (by decide) rfl (fun ls hl => ?_)
          refine lv_iinc (k := 9) (v := (v9 + (1 : Int32))) (lv' := [(9, .int (v9 + (1 : Int32))), (8, .int v8_5), (0, .ref (qN 0)), (1, .int a1), (2, .int a2), (3, .int a3), (4, .int a4), (5, .int a5), (6, .int v6), (7, .int v7)]) hx hb d_N_operate_192 hl rfl (congrArg (fun z => v9 + z) (by decide : Int32.ofInt 1 = (1 : Int32))) (by decide) rfl (fun ls hl => ?_)
          refine lv_goto hx hb d_N_operate_195 rfl ?_
          exact ih v8_5 (v9 + (1 : Int32)) _ _ _ (lv_sub hl [2, 3, 4, 5, 6, 7, 8, 9, 1, 0] rfl) hP hD hS hr
  have hB151 : ∀ (v6 v7 v8 : Int32) (N_table : Nat → Int32) (k15 : Int32 → (Nat → Int32) → Option ((Nat → Int32))) (hk15 : ∀ (v7 : Int32) (N_table : Nat → Int32) (H : Heap) (locs : List Loc) (ls : Array Slot), lv_has ls 10 [(0, .ref (qN 0)), (1, .int a1), (2, .int a2), (3, .int a3), (4, .int a4), (5, .int a5), (6, .int v6), (7, .int v7)] → va_P D zCl (W_N kI kZ qN N_p N_n N_words N_hasDirect N_compiled N_size N_outcome N_done N_values N_word N_table N_direct N_op N_a N_b N_x N_there N_vOp N_vA N_vB N_vX N_needed N_valueOf N_place) H → va_D A (W_N kI kZ qN N_p N_n N_words N_hasDirect N_compiled N_size N_outcome N_done N_values N_word N_table N_direct N_op N_a N_b N_x N_there N_vOp N_vA N_vB N_vX N_needed N_valueOf N_place) → va_S A s.heap H locs → k15 v7 N_table = some res → W p l e R s m args below meth c H locs 0 0 Q (F0 m 15 ls [])) (H : Heap) (locs : List Loc) (ls : Array Slot), lv_has ls 10 [(0, .ref (qN 0)), (1, .int a1), (2, .int a2), (3, .int a3), (4, .int a4), (5, .int a5), (6, .int v6), (7, .int v7), (8, .int v8)] → va_P D zCl (W_N kI kZ qN N_p N_n N_words N_hasDirect N_compiled N_size N_outcome N_done N_values N_word N_table N_direct N_op N_a N_b N_x N_there N_vOp N_vA N_vB N_vX N_needed N_valueOf N_place) H → va_D A (W_N kI kZ qN N_p N_n N_words N_hasDirect N_compiled N_size N_outcome N_done N_values N_word N_table N_direct N_op N_a N_b N_x N_there N_vOp N_vA N_vB N_vX N_needed N_valueOf N_place) → va_S A s.heap H locs → f_N_operate_151 N_p N_n a1 a2 a3 k15 v6 v7 v8 N_table = some res → W p l e R s m args below meth c H locs 0 0 Q (F0 m 151 ls []) := by
    intro v6 v7 v8 N_table k15 hk15 H locs ls hl hP hD hS hr
    rw [f_N_operate_151] at hr
    refine lv_iconst (v := (0 : Int32)) hx hb d_N_operate_151 (by decide) ?_
    refine lv_istore (lv' := [(9, .int (0 : Int32)), (0, .ref (qN 0)), (1, .int a1), (2, .int a2), (3, .int a3), (4, .int a4), (5, .int a5), (6, .int v6), (7, .int v7), (8, .int v8)]) hx hb d_N_operate_152 hl (by decide) rfl (fun ls hl => ?_)
    exact hB154 v6 v7 N_table _ hk15 zFU v8 (0 : Int32) _ _ _ (lv_sub hl [1, 2, 3, 4, 5, 6, 7, 8, 9, 0] rfl) hP hD hS hr
  have hB131 : ∀ (v6 v7 v8 : Int32) (N_table : Nat → Int32) (k15 : Int32 → (Nat → Int32) → Option ((Nat → Int32))) (hk15 : ∀ (v7 : Int32) (N_table : Nat → Int32) (H : Heap) (locs : List Loc) (ls : Array Slot), lv_has ls 10 [(0, .ref (qN 0)), (1, .int a1), (2, .int a2), (3, .int a3), (4, .int a4), (5, .int a5), (6, .int v6), (7, .int v7)] → va_P D zCl (W_N kI kZ qN N_p N_n N_words N_hasDirect N_compiled N_size N_outcome N_done N_values N_word N_table N_direct N_op N_a N_b N_x N_there N_vOp N_vA N_vB N_vX N_needed N_valueOf N_place) H → va_D A (W_N kI kZ qN N_p N_n N_words N_hasDirect N_compiled N_size N_outcome N_done N_values N_word N_table N_direct N_op N_a N_b N_x N_there N_vOp N_vA N_vB N_vX N_needed N_valueOf N_place) → va_S A s.heap H locs → k15 v7 N_table = some res → W p l e R s m args below meth c H locs 0 0 Q (F0 m 15 ls [])) (H : Heap) (locs : List Loc) (ls : Array Slot), lv_has ls 10 [(0, .ref (qN 0)), (1, .int a1), (2, .int a2), (3, .int a3), (4, .int a4), (5, .int a5), (6, .int v6), (7, .int v7), (8, .int v8)] → va_P D zCl (W_N kI kZ qN N_p N_n N_words N_hasDirect N_compiled N_size N_outcome N_done N_values N_word N_table N_direct N_op N_a N_b N_x N_there N_vOp N_vA N_vB N_vX N_needed N_valueOf N_place) H → va_D A (W_N kI kZ qN N_p N_n N_words N_hasDirect N_compiled N_size N_outcome N_done N_values N_word N_table N_direct N_op N_a N_b N_x N_there N_vOp N_vA N_vB N_vX N_needed N_valueOf N_place) → va_S A s.heap H locs → f_N_operate_131 N_p N_n a1 a2 a3 a4 k15 v6 v7 v8 N_table = some res → W p l e R s m args below meth c H locs 0 0 Q (F0 m 131 ls []) := by
    intro v6 v7 v8 N_table k15 hk15 H locs ls hl hP hD hS hr
    rw [f_N_operate_131] at hr
    refine lv_iload_n hx hb d_N_operate_131 rfl (lv_at hl 1 rfl) ?_
    refine lv_bipush (v := (7 : Int32)) hx hb d_N_operate_132 (by decide) ?_
    refine lv_icmp_ne hx hb d_N_operate_134 rfl (fun hc => ?_) (fun hc => ?_)
    · rw [if_neg hc] at hr
      exact hB151 v6 v7 v8 N_table _ hk15 _ _ _ hl hP hD hS hr
    · rw [if_pos hc] at hr
      refine lv_iload hx hb d_N_operate_137 (lv_at hl 4 rfl) ?_
      refine lv_aload_n hx hb d_N_operate_139 rfl (lv_at hl 0 rfl) ?_
      refine lv_iload_n hx hb d_N_operate_140 rfl (lv_at hl 2 rfl) ?_
      refine lv_iload hx hb d_N_operate_141 (lv_at hl 6 rfl) ?_
      refine lv_iload hx hb d_N_operate_143 (lv_at hl 7 rfl) ?_
      obtain ⟨r6, hr6, hr⟩ := ob hr
      refine z_ci (ws := (W_N kI kZ qN N_p N_n N_words N_hasDirect N_compiled N_size N_outcome N_done N_values N_word N_table N_direct N_op N_a N_b N_x N_there N_vOp N_vA N_vB N_vX N_needed N_valueOf N_place)) (wc := (W_N kI kZ qN N_p N_n N_words N_hasDirect N_compiled N_size N_outcome N_done N_values N_word N_table N_direct N_op N_a N_b N_x N_there N_vOp N_vA N_vB N_vX N_needed N_valueOf N_place)) (wr := ([] : va_W)) (w1 := (W_N kI kZ qN N_p N_n N_words N_hasDirect N_compiled N_size N_outcome N_done N_values N_word N_table N_direct N_op N_a N_b N_x N_there N_vOp N_vA N_vB N_vX N_needed N_valueOf N_place)) (w2 := (W_N kI kZ qN N_p N_n N_words N_hasDirect N_compiled N_size N_outcome N_done N_values N_word N_table N_direct N_op N_a N_b N_x N_there N_vOp N_vA N_vB N_vX N_needed N_valueOf N_place)) (va_runV (As := [.int a2, .int v6, .int v7]) (rest := [.int a4]) ⟨hx, hb, hml, hown, hts⟩ (c_N_get l D kI kZ qN N_p N_n N_words N_hasDirect N_compiled N_size N_outcome N_done N_values N_word N_table N_direct N_op N_a N_b N_x N_there N_vOp N_vA N_vB N_vX N_needed N_valueOf N_place a2 v6 v7 r6 hr6 H.size) (z_cwV hts mw_N_get kw_569 ⟨by rw [hR]; exact Nat.le_of_ble_eq_true rfl, by rw [hR]; exact Nat.le_of_ble_eq_true rfl⟩) (z_preV (ci := 6) hK hP hD hN rfl (he := (rfl : _[0]? = _)) [0, 1, 2, 3, 4, 5, 6, 7, 8, 9, 10, 11, 12, 13, 14, 15] (by decide) rfl) rfl rfl hl.1 rfl (lv_room (Nat.le_of_ble_eq_true rfl)) d_N_operate_145 ⟨Nat.zero_le _, Nat.zero_le _⟩) hP hD hS hA [0, 1, 2, 3, 4, 5, 6, 7, 8, 9, 10, 11, 12, 13, 14, 15] [] [0, 1, 2, 3, 4, 5, 6, 7, 8, 9, 10, 11, 12, 13, 14, 15] rfl rfl (by decide) (by decide) rfl (by decide) (fun H locs hP hD hS => ?_)
      refine lv_imul hx hb d_N_operate_148 ?_
      obtain ⟨v8_7, ev8_7, hr⟩ := nm_some hr
      refine z_top ev8_7 ?_
      refine lv_istore (lv' := [(8, .int v8_7), (0, .ref (qN 0)), (1, .int a1), (2, .int a2), (3, .int a3), (4, .int a4), (5, .int a5), (6, .int v6), (7, .int v7)]) hx hb d_N_operate_149 hl (by decide) rfl (fun ls hl => ?_)
      exact hB151 v6 v7 v8_7 N_table _ hk15 _ _ _ (lv_sub hl [1, 2, 3, 4, 5, 6, 7, 8, 0] rfl) hP hD hS hr
  have hB114 : ∀ (v6 v7 v8 : Int32) (N_table : Nat → Int32) (k15 : Int32 → (Nat → Int32) → Option ((Nat → Int32))) (hk15 : ∀ (v7 : Int32) (N_table : Nat → Int32) (H : Heap) (locs : List Loc) (ls : Array Slot), lv_has ls 10 [(0, .ref (qN 0)), (1, .int a1), (2, .int a2), (3, .int a3), (4, .int a4), (5, .int a5), (6, .int v6), (7, .int v7)] → va_P D zCl (W_N kI kZ qN N_p N_n N_words N_hasDirect N_compiled N_size N_outcome N_done N_values N_word N_table N_direct N_op N_a N_b N_x N_there N_vOp N_vA N_vB N_vX N_needed N_valueOf N_place) H → va_D A (W_N kI kZ qN N_p N_n N_words N_hasDirect N_compiled N_size N_outcome N_done N_values N_word N_table N_direct N_op N_a N_b N_x N_there N_vOp N_vA N_vB N_vX N_needed N_valueOf N_place) → va_S A s.heap H locs → k15 v7 N_table = some res → W p l e R s m args below meth c H locs 0 0 Q (F0 m 15 ls [])) (H : Heap) (locs : List Loc) (ls : Array Slot), lv_has ls 10 [(0, .ref (qN 0)), (1, .int a1), (2, .int a2), (3, .int a3), (4, .int a4), (5, .int a5), (6, .int v6), (7, .int v7), (8, .int v8)] → va_P D zCl (W_N kI kZ qN N_p N_n N_words N_hasDirect N_compiled N_size N_outcome N_done N_values N_word N_table N_direct N_op N_a N_b N_x N_there N_vOp N_vA N_vB N_vX N_needed N_valueOf N_place) H → va_D A (W_N kI kZ qN N_p N_n N_words N_hasDirect N_compiled N_size N_outcome N_done N_values N_word N_table N_direct N_op N_a N_b N_x N_there N_vOp N_vA N_vB N_vX N_needed N_valueOf N_place) → va_S A s.heap H locs → f_N_operate_114 N_p N_n a1 a2 a3 a4 k15 v6 v7 v8 N_table = some res → W p l e R s m args below meth c H locs 0 0 Q (F0 m 114 ls []) := by
    intro v6 v7 v8 N_table k15 hk15 H locs ls hl hP hD hS hr
    rw [f_N_operate_114] at hr
    refine lv_iload_n hx hb d_N_operate_114 rfl (lv_at hl 1 rfl) ?_
    refine lv_bipush (v := (6 : Int32)) hx hb d_N_operate_115 (by decide) ?_
    refine lv_icmp_ne hx hb d_N_operate_117 rfl (fun hc => ?_) (fun hc => ?_)
    · rw [if_neg hc] at hr
      exact hB131 v6 v7 v8 N_table _ hk15 _ _ _ hl hP hD hS hr
    · rw [if_pos hc] at hr
      refine lv_aload_n hx hb d_N_operate_120 rfl (lv_at hl 0 rfl) ?_
      refine lv_iload_n hx hb d_N_operate_121 rfl (lv_at hl 2 rfl) ?_
      refine lv_iload hx hb d_N_operate_122 (lv_at hl 7 rfl) ?_
      refine lv_iload hx hb d_N_operate_124 (lv_at hl 6 rfl) ?_
      obtain ⟨r8, hr8, hr⟩ := ob hr
      refine z_ci (ws := (W_N kI kZ qN N_p N_n N_words N_hasDirect N_compiled N_size N_outcome N_done N_values N_word N_table N_direct N_op N_a N_b N_x N_there N_vOp N_vA N_vB N_vX N_needed N_valueOf N_place)) (wc := (W_N kI kZ qN N_p N_n N_words N_hasDirect N_compiled N_size N_outcome N_done N_values N_word N_table N_direct N_op N_a N_b N_x N_there N_vOp N_vA N_vB N_vX N_needed N_valueOf N_place)) (wr := ([] : va_W)) (w1 := (W_N kI kZ qN N_p N_n N_words N_hasDirect N_compiled N_size N_outcome N_done N_values N_word N_table N_direct N_op N_a N_b N_x N_there N_vOp N_vA N_vB N_vX N_needed N_valueOf N_place)) (w2 := (W_N kI kZ qN N_p N_n N_words N_hasDirect N_compiled N_size N_outcome N_done N_values N_word N_table N_direct N_op N_a N_b N_x N_there N_vOp N_vA N_vB N_vX N_needed N_valueOf N_place)) (va_runV (As := [.int a2, .int v7, .int v6]) (rest := []) ⟨hx, hb, hml, hown, hts⟩ (c_N_get l D kI kZ qN N_p N_n N_words N_hasDirect N_compiled N_size N_outcome N_done N_values N_word N_table N_direct N_op N_a N_b N_x N_there N_vOp N_vA N_vB N_vX N_needed N_valueOf N_place a2 v7 v6 r8 hr8 H.size) (z_cwV hts mw_N_get kw_569 ⟨by rw [hR]; exact Nat.le_of_ble_eq_true rfl, by rw [hR]; exact Nat.le_of_ble_eq_true rfl⟩) (z_preV (ci := 6) hK hP hD hN rfl (he := (rfl : _[0]? = _)) [0, 1, 2, 3, 4, 5, 6, 7, 8, 9, 10, 11, 12, 13, 14, 15] (by decide) rfl) rfl rfl hl.1 rfl (lv_room (Nat.le_of_ble_eq_true rfl)) d_N_operate_126 ⟨Nat.zero_le _, Nat.zero_le _⟩) hP hD hS hA [0, 1, 2, 3, 4, 5, 6, 7, 8, 9, 10, 11, 12, 13, 14, 15] [] [0, 1, 2, 3, 4, 5, 6, 7, 8, 9, 10, 11, 12, 13, 14, 15] rfl rfl (by decide) (by decide) rfl (by decide) (fun H locs hP hD hS => ?_)
      refine lv_istore (lv' := [(8, .int r8), (0, .ref (qN 0)), (1, .int a1), (2, .int a2), (3, .int a3), (4, .int a4), (5, .int a5), (6, .int v6), (7, .int v7)]) hx hb d_N_operate_129 hl (by decide) rfl (fun ls hl => ?_)
      exact hB131 v6 v7 r8 N_table _ hk15 _ _ _ (lv_sub hl [1, 2, 3, 4, 5, 6, 7, 8, 0] rfl) hP hD hS hr
  have hB88 : ∀ (v6 v7 v8 : Int32) (N_table : Nat → Int32) (k15 : Int32 → (Nat → Int32) → Option ((Nat → Int32))) (hk15 : ∀ (v7 : Int32) (N_table : Nat → Int32) (H : Heap) (locs : List Loc) (ls : Array Slot), lv_has ls 10 [(0, .ref (qN 0)), (1, .int a1), (2, .int a2), (3, .int a3), (4, .int a4), (5, .int a5), (6, .int v6), (7, .int v7)] → va_P D zCl (W_N kI kZ qN N_p N_n N_words N_hasDirect N_compiled N_size N_outcome N_done N_values N_word N_table N_direct N_op N_a N_b N_x N_there N_vOp N_vA N_vB N_vX N_needed N_valueOf N_place) H → va_D A (W_N kI kZ qN N_p N_n N_words N_hasDirect N_compiled N_size N_outcome N_done N_values N_word N_table N_direct N_op N_a N_b N_x N_there N_vOp N_vA N_vB N_vX N_needed N_valueOf N_place) → va_S A s.heap H locs → k15 v7 N_table = some res → W p l e R s m args below meth c H locs 0 0 Q (F0 m 15 ls [])) (H : Heap) (locs : List Loc) (ls : Array Slot), lv_has ls 10 [(0, .ref (qN 0)), (1, .int a1), (2, .int a2), (3, .int a3), (4, .int a4), (5, .int a5), (6, .int v6), (7, .int v7), (8, .int v8)] → va_P D zCl (W_N kI kZ qN N_p N_n N_words N_hasDirect N_compiled N_size N_outcome N_done N_values N_word N_table N_direct N_op N_a N_b N_x N_there N_vOp N_vA N_vB N_vX N_needed N_valueOf N_place) H → va_D A (W_N kI kZ qN N_p N_n N_words N_hasDirect N_compiled N_size N_outcome N_done N_values N_word N_table N_direct N_op N_a N_b N_x N_there N_vOp N_vA N_vB N_vX N_needed N_valueOf N_place) → va_S A s.heap H locs → f_N_operate_88 N_p N_n a1 a2 a3 a4 k15 v6 v7 v8 N_table = some res → W p l e R s m args below meth c H locs 0 0 Q (F0 m 88 ls []) := by
    intro v6 v7 v8 N_table k15 hk15 H locs ls hl hP hD hS hr
    rw [f_N_operate_88] at hr
    refine lv_iload_n hx hb d_N_operate_88 rfl (lv_at hl 1 rfl) ?_
    refine lv_iconst (v := (4 : Int32)) hx hb d_N_operate_89 (by decide) ?_
    refine lv_icmp_ne hx hb d_N_operate_90 rfl (fun hc => ?_) (fun hc => ?_)
    · rw [if_neg hc] at hr
      exact hB114 v6 v7 v8 N_table _ hk15 _ _ _ hl hP hD hS hr
    · rw [if_pos hc] at hr
      refine lv_aload_n hx hb d_N_operate_93 rfl (lv_at hl 0 rfl) ?_
      refine lv_iload_n hx hb d_N_operate_94 rfl (lv_at hl 2 rfl) ?_
      refine lv_iload hx hb d_N_operate_95 (lv_at hl 6 rfl) ?_
      refine lv_iload hx hb d_N_operate_97 (lv_at hl 7 rfl) ?_
      obtain ⟨r9, hr9, hr⟩ := ob hr
      refine z_ci (ws := (W_N kI kZ qN N_p N_n N_words N_hasDirect N_compiled N_size N_outcome N_done N_values N_word N_table N_direct N_op N_a N_b N_x N_there N_vOp N_vA N_vB N_vX N_needed N_valueOf N_place)) (wc := (W_N kI kZ qN N_p N_n N_words N_hasDirect N_compiled N_size N_outcome N_done N_values N_word N_table N_direct N_op N_a N_b N_x N_there N_vOp N_vA N_vB N_vX N_needed N_valueOf N_place)) (wr := ([] : va_W)) (w1 := (W_N kI kZ qN N_p N_n N_words N_hasDirect N_compiled N_size N_outcome N_done N_values N_word N_table N_direct N_op N_a N_b N_x N_there N_vOp N_vA N_vB N_vX N_needed N_valueOf N_place)) (w2 := (W_N kI kZ qN N_p N_n N_words N_hasDirect N_compiled N_size N_outcome N_done N_values N_word N_table N_direct N_op N_a N_b N_x N_there N_vOp N_vA N_vB N_vX N_needed N_valueOf N_place)) (va_runV (As := [.int a2, .int v6, .int v7]) (rest := []) ⟨hx, hb, hml, hown, hts⟩ (c_N_get l D kI kZ qN N_p N_n N_words N_hasDirect N_compiled N_size N_outcome N_done N_values N_word N_table N_direct N_op N_a N_b N_x N_there N_vOp N_vA N_vB N_vX N_needed N_valueOf N_place a2 v6 v7 r9 hr9 H.size) (z_cwV hts mw_N_get kw_569 ⟨by rw [hR]; exact Nat.le_of_ble_eq_true rfl, by rw [hR]; exact Nat.le_of_ble_eq_true rfl⟩) (z_preV (ci := 6) hK hP hD hN rfl (he := (rfl : _[0]? = _)) [0, 1, 2, 3, 4, 5, 6, 7, 8, 9, 10, 11, 12, 13, 14, 15] (by decide) rfl) rfl rfl hl.1 rfl (lv_room (Nat.le_of_ble_eq_true rfl)) d_N_operate_99 ⟨Nat.zero_le _, Nat.zero_le _⟩) hP hD hS hA [0, 1, 2, 3, 4, 5, 6, 7, 8, 9, 10, 11, 12, 13, 14, 15] [] [0, 1, 2, 3, 4, 5, 6, 7, 8, 9, 10, 11, 12, 13, 14, 15] rfl rfl (by decide) (by decide) rfl (by decide) (fun H locs hP hD hS => ?_)
      refine lv_aload_n hx hb d_N_operate_102 rfl (lv_at hl 0 rfl) ?_
      refine lv_iload_n hx hb d_N_operate_103 rfl (lv_at hl 3 rfl) ?_
      refine lv_iload hx hb d_N_operate_104 (lv_at hl 6 rfl) ?_
      refine lv_iload hx hb d_N_operate_106 (lv_at hl 7 rfl) ?_
      obtain ⟨r10, hr10, hr⟩ := ob hr
      refine z_ci (ws := (W_N kI kZ qN N_p N_n N_words N_hasDirect N_compiled N_size N_outcome N_done N_values N_word N_table N_direct N_op N_a N_b N_x N_there N_vOp N_vA N_vB N_vX N_needed N_valueOf N_place)) (wc := (W_N kI kZ qN N_p N_n N_words N_hasDirect N_compiled N_size N_outcome N_done N_values N_word N_table N_direct N_op N_a N_b N_x N_there N_vOp N_vA N_vB N_vX N_needed N_valueOf N_place)) (wr := ([] : va_W)) (w1 := (W_N kI kZ qN N_p N_n N_words N_hasDirect N_compiled N_size N_outcome N_done N_values N_word N_table N_direct N_op N_a N_b N_x N_there N_vOp N_vA N_vB N_vX N_needed N_valueOf N_place)) (w2 := (W_N kI kZ qN N_p N_n N_words N_hasDirect N_compiled N_size N_outcome N_done N_values N_word N_table N_direct N_op N_a N_b N_x N_there N_vOp N_vA N_vB N_vX N_needed N_valueOf N_place)) (va_runV (As := [.int a3, .int v6, .int v7]) (rest := [.int r9]) ⟨hx, hb, hml, hown, hts⟩ (c_N_get l D kI kZ qN N_p N_n N_words N_hasDirect N_compiled N_size N_outcome N_done N_values N_word N_table N_direct N_op N_a N_b N_x N_there N_vOp N_vA N_vB N_vX N_needed N_valueOf N_place a3 v6 v7 r10 hr10 H.size) (z_cwV hts mw_N_get kw_569 ⟨by rw [hR]; exact Nat.le_of_ble_eq_true rfl, by rw [hR]; exact Nat.le_of_ble_eq_true rfl⟩) (z_preV (ci := 6) hK hP hD hN rfl (he := (rfl : _[0]? = _)) [0, 1, 2, 3, 4, 5, 6, 7, 8, 9, 10, 11, 12, 13, 14, 15] (by decide) rfl) rfl rfl hl.1 rfl (lv_room (Nat.le_of_ble_eq_true rfl)) d_N_operate_108 ⟨Nat.zero_le _, Nat.zero_le _⟩) hP hD hS hA [0, 1, 2, 3, 4, 5, 6, 7, 8, 9, 10, 11, 12, 13, 14, 15] [] [0, 1, 2, 3, 4, 5, 6, 7, 8, 9, 10, 11, 12, 13, 14, 15] rfl rfl (by decide) (by decide) rfl (by decide) (fun H locs hP hD hS => ?_)
      refine lv_isub hx hb d_N_operate_111 ?_
      obtain ⟨v8_11, ev8_11, hr⟩ := nm_some hr
      refine z_top ev8_11 ?_
      refine lv_istore (lv' := [(8, .int v8_11), (0, .ref (qN 0)), (1, .int a1), (2, .int a2), (3, .int a3), (4, .int a4), (5, .int a5), (6, .int v6), (7, .int v7)]) hx hb d_N_operate_112 hl (by decide) rfl (fun ls hl => ?_)
      exact hB114 v6 v7 v8_11 N_table _ hk15 _ _ _ (lv_sub hl [1, 2, 3, 4, 5, 6, 7, 8, 0] rfl) hP hD hS hr
  have hB62 : ∀ (v6 v7 v8 : Int32) (N_table : Nat → Int32) (k15 : Int32 → (Nat → Int32) → Option ((Nat → Int32))) (hk15 : ∀ (v7 : Int32) (N_table : Nat → Int32) (H : Heap) (locs : List Loc) (ls : Array Slot), lv_has ls 10 [(0, .ref (qN 0)), (1, .int a1), (2, .int a2), (3, .int a3), (4, .int a4), (5, .int a5), (6, .int v6), (7, .int v7)] → va_P D zCl (W_N kI kZ qN N_p N_n N_words N_hasDirect N_compiled N_size N_outcome N_done N_values N_word N_table N_direct N_op N_a N_b N_x N_there N_vOp N_vA N_vB N_vX N_needed N_valueOf N_place) H → va_D A (W_N kI kZ qN N_p N_n N_words N_hasDirect N_compiled N_size N_outcome N_done N_values N_word N_table N_direct N_op N_a N_b N_x N_there N_vOp N_vA N_vB N_vX N_needed N_valueOf N_place) → va_S A s.heap H locs → k15 v7 N_table = some res → W p l e R s m args below meth c H locs 0 0 Q (F0 m 15 ls [])) (H : Heap) (locs : List Loc) (ls : Array Slot), lv_has ls 10 [(0, .ref (qN 0)), (1, .int a1), (2, .int a2), (3, .int a3), (4, .int a4), (5, .int a5), (6, .int v6), (7, .int v7), (8, .int v8)] → va_P D zCl (W_N kI kZ qN N_p N_n N_words N_hasDirect N_compiled N_size N_outcome N_done N_values N_word N_table N_direct N_op N_a N_b N_x N_there N_vOp N_vA N_vB N_vX N_needed N_valueOf N_place) H → va_D A (W_N kI kZ qN N_p N_n N_words N_hasDirect N_compiled N_size N_outcome N_done N_values N_word N_table N_direct N_op N_a N_b N_x N_there N_vOp N_vA N_vB N_vX N_needed N_valueOf N_place) → va_S A s.heap H locs → f_N_operate_62 N_p N_n a1 a2 a3 a4 k15 v6 v7 v8 N_table = some res → W p l e R s m args below meth c H locs 0 0 Q (F0 m 62 ls []) := by
    intro v6 v7 v8 N_table k15 hk15 H locs ls hl hP hD hS hr
    rw [f_N_operate_62] at hr
    refine lv_iload_n hx hb d_N_operate_62 rfl (lv_at hl 1 rfl) ?_
    refine lv_iconst (v := (3 : Int32)) hx hb d_N_operate_63 (by decide) ?_
    refine lv_icmp_ne hx hb d_N_operate_64 rfl (fun hc => ?_) (fun hc => ?_)
    · rw [if_neg hc] at hr
      exact hB88 v6 v7 v8 N_table _ hk15 _ _ _ hl hP hD hS hr
    · rw [if_pos hc] at hr
      refine lv_aload_n hx hb d_N_operate_67 rfl (lv_at hl 0 rfl) ?_
      refine lv_iload_n hx hb d_N_operate_68 rfl (lv_at hl 2 rfl) ?_
      refine lv_iload hx hb d_N_operate_69 (lv_at hl 6 rfl) ?_
      refine lv_iload hx hb d_N_operate_71 (lv_at hl 7 rfl) ?_
      obtain ⟨r12, hr12, hr⟩ := ob hr
      refine z_ci (ws := (W_N kI kZ qN N_p N_n N_words N_hasDirect N_compiled N_size N_outcome N_done N_values N_word N_table N_direct N_op N_a N_b N_x N_there N_vOp N_vA N_vB N_vX N_needed N_valueOf N_place)) (wc := (W_N kI kZ qN N_p N_n N_words N_hasDirect N_compiled N_size N_outcome N_done N_values N_word N_table N_direct N_op N_a N_b N_x N_there N_vOp N_vA N_vB N_vX N_needed N_valueOf N_place)) (wr := ([] : va_W)) (w1 := (W_N kI kZ qN N_p N_n N_words N_hasDirect N_compiled N_size N_outcome N_done N_values N_word N_table N_direct N_op N_a N_b N_x N_there N_vOp N_vA N_vB N_vX N_needed N_valueOf N_place)) (w2 := (W_N kI kZ qN N_p N_n N_words N_hasDirect N_compiled N_size N_outcome N_done N_values N_word N_table N_direct N_op N_a N_b N_x N_there N_vOp N_vA N_vB N_vX N_needed N_valueOf N_place)) (va_runV (As := [.int a2, .int v6, .int v7]) (rest := []) ⟨hx, hb, hml, hown, hts⟩ (c_N_get l D kI kZ qN N_p N_n N_words N_hasDirect N_compiled N_size N_outcome N_done N_values N_word N_table N_direct N_op N_a N_b N_x N_there N_vOp N_vA N_vB N_vX N_needed N_valueOf N_place a2 v6 v7 r12 hr12 H.size) (z_cwV hts mw_N_get kw_569 ⟨by rw [hR]; exact Nat.le_of_ble_eq_true rfl, by rw [hR]; exact Nat.le_of_ble_eq_true rfl⟩) (z_preV (ci := 6) hK hP hD hN rfl (he := (rfl : _[0]? = _)) [0, 1, 2, 3, 4, 5, 6, 7, 8, 9, 10, 11, 12, 13, 14, 15] (by decide) rfl) rfl rfl hl.1 rfl (lv_room (Nat.le_of_ble_eq_true rfl)) d_N_operate_73 ⟨Nat.zero_le _, Nat.zero_le _⟩) hP hD hS hA [0, 1, 2, 3, 4, 5, 6, 7, 8, 9, 10, 11, 12, 13, 14, 15] [] [0, 1, 2, 3, 4, 5, 6, 7, 8, 9, 10, 11, 12, 13, 14, 15] rfl rfl (by decide) (by decide) rfl (by decide) (fun H locs hP hD hS => ?_)
      refine lv_aload_n hx hb d_N_operate_76 rfl (lv_at hl 0 rfl) ?_
      refine lv_iload_n hx hb d_N_operate_77 rfl (lv_at hl 3 rfl) ?_
      refine lv_iload hx hb d_N_operate_78 (lv_at hl 6 rfl) ?_
      refine lv_iload hx hb d_N_operate_80 (lv_at hl 7 rfl) ?_
      obtain ⟨r13, hr13, hr⟩ := ob hr
      refine z_ci (ws := (W_N kI kZ qN N_p N_n N_words N_hasDirect N_compiled N_size N_outcome N_done N_values N_word N_table N_direct N_op N_a N_b N_x N_there N_vOp N_vA N_vB N_vX N_needed N_valueOf N_place)) (wc := (W_N kI kZ qN N_p N_n N_words N_hasDirect N_compiled N_size N_outcome N_done N_values N_word N_table N_direct N_op N_a N_b N_x N_there N_vOp N_vA N_vB N_vX N_needed N_valueOf N_place)) (wr := ([] : va_W)) (w1 := (W_N kI kZ qN N_p N_n N_words N_hasDirect N_compiled N_size N_outcome N_done N_values N_word N_table N_direct N_op N_a N_b N_x N_there N_vOp N_vA N_vB N_vX N_needed N_valueOf N_place)) (w2 := (W_N kI kZ qN N_p N_n N_words N_hasDirect N_compiled N_size N_outcome N_done N_values N_word N_table N_direct N_op N_a N_b N_x N_there N_vOp N_vA N_vB N_vX N_needed N_valueOf N_place)) (va_runV (As := [.int a3, .int v6, .int v7]) (rest := [.int r12]) ⟨hx, hb, hml, hown, hts⟩ (c_N_get l D kI kZ qN N_p N_n N_words N_hasDirect N_compiled N_size N_outcome N_done N_values N_word N_table N_direct N_op N_a N_b N_x N_there N_vOp N_vA N_vB N_vX N_needed N_valueOf N_place a3 v6 v7 r13 hr13 H.size) (z_cwV hts mw_N_get kw_569 ⟨by rw [hR]; exact Nat.le_of_ble_eq_true rfl, by rw [hR]; exact Nat.le_of_ble_eq_true rfl⟩) (z_preV (ci := 6) hK hP hD hN rfl (he := (rfl : _[0]? = _)) [0, 1, 2, 3, 4, 5, 6, 7, 8, 9, 10, 11, 12, 13, 14, 15] (by decide) rfl) rfl rfl hl.1 rfl (lv_room (Nat.le_of_ble_eq_true rfl)) d_N_operate_82 ⟨Nat.zero_le _, Nat.zero_le _⟩) hP hD hS hA [0, 1, 2, 3, 4, 5, 6, 7, 8, 9, 10, 11, 12, 13, 14, 15] [] [0, 1, 2, 3, 4, 5, 6, 7, 8, 9, 10, 11, 12, 13, 14, 15] rfl rfl (by decide) (by decide) rfl (by decide) (fun H locs hP hD hS => ?_)
      refine lv_iadd hx hb d_N_operate_85 ?_
      obtain ⟨v8_14, ev8_14, hr⟩ := nm_some hr
      refine z_top ev8_14 ?_
      refine lv_istore (lv' := [(8, .int v8_14), (0, .ref (qN 0)), (1, .int a1), (2, .int a2), (3, .int a3), (4, .int a4), (5, .int a5), (6, .int v6), (7, .int v7)]) hx hb d_N_operate_86 hl (by decide) rfl (fun ls hl => ?_)
      exact hB88 v6 v7 v8_14 N_table _ hk15 _ _ _ (lv_sub hl [1, 2, 3, 4, 5, 6, 7, 8, 0] rfl) hP hD hS hr
  have hB60 : ∀ (v6 v7 t0 : Int32) (N_table : Nat → Int32) (k15 : Int32 → (Nat → Int32) → Option ((Nat → Int32))) (hk15 : ∀ (v7 : Int32) (N_table : Nat → Int32) (H : Heap) (locs : List Loc) (ls : Array Slot), lv_has ls 10 [(0, .ref (qN 0)), (1, .int a1), (2, .int a2), (3, .int a3), (4, .int a4), (5, .int a5), (6, .int v6), (7, .int v7)] → va_P D zCl (W_N kI kZ qN N_p N_n N_words N_hasDirect N_compiled N_size N_outcome N_done N_values N_word N_table N_direct N_op N_a N_b N_x N_there N_vOp N_vA N_vB N_vX N_needed N_valueOf N_place) H → va_D A (W_N kI kZ qN N_p N_n N_words N_hasDirect N_compiled N_size N_outcome N_done N_values N_word N_table N_direct N_op N_a N_b N_x N_there N_vOp N_vA N_vB N_vX N_needed N_valueOf N_place) → va_S A s.heap H locs → k15 v7 N_table = some res → W p l e R s m args below meth c H locs 0 0 Q (F0 m 15 ls [])) (H : Heap) (locs : List Loc) (ls : Array Slot), lv_has ls 10 [(0, .ref (qN 0)), (1, .int a1), (2, .int a2), (3, .int a3), (4, .int a4), (5, .int a5), (6, .int v6), (7, .int v7)] → va_P D zCl (W_N kI kZ qN N_p N_n N_words N_hasDirect N_compiled N_size N_outcome N_done N_values N_word N_table N_direct N_op N_a N_b N_x N_there N_vOp N_vA N_vB N_vX N_needed N_valueOf N_place) H → va_D A (W_N kI kZ qN N_p N_n N_words N_hasDirect N_compiled N_size N_outcome N_done N_values N_word N_table N_direct N_op N_a N_b N_x N_there N_vOp N_vA N_vB N_vX N_needed N_valueOf N_place) → va_S A s.heap H locs → f_N_operate_60 N_p N_n a1 a2 a3 a4 k15 v6 v7 t0 N_table = some res → W p l e R s m args below meth c H locs 0 0 Q (F0 m 60 ls [.int t0]) := by
    intro v6 v7 t0 N_table k15 hk15 H locs ls hl hP hD hS hr
    rw [f_N_operate_60] at hr
    refine lv_istore (lv' := [(8, .int t0), (0, .ref (qN 0)), (1, .int a1), (2, .int a2), (3, .int a3), (4, .int a4), (5, .int a5), (6, .int v6), (7, .int v7)]) hx hb d_N_operate_60 hl (by decide) rfl (fun ls hl => ?_)
    exact hB62 v6 v7 t0 N_table _ hk15 _ _ _ (lv_sub hl [1, 2, 3, 4, 5, 6, 7, 8, 0] rfl) hP hD hS hr
  have hB43 : ∀ (v6 v7 v8 : Int32) (N_table : Nat → Int32) (k15 : Int32 → (Nat → Int32) → Option ((Nat → Int32))) (hk15 : ∀ (v7 : Int32) (N_table : Nat → Int32) (H : Heap) (locs : List Loc) (ls : Array Slot), lv_has ls 10 [(0, .ref (qN 0)), (1, .int a1), (2, .int a2), (3, .int a3), (4, .int a4), (5, .int a5), (6, .int v6), (7, .int v7)] → va_P D zCl (W_N kI kZ qN N_p N_n N_words N_hasDirect N_compiled N_size N_outcome N_done N_values N_word N_table N_direct N_op N_a N_b N_x N_there N_vOp N_vA N_vB N_vX N_needed N_valueOf N_place) H → va_D A (W_N kI kZ qN N_p N_n N_words N_hasDirect N_compiled N_size N_outcome N_done N_values N_word N_table N_direct N_op N_a N_b N_x N_there N_vOp N_vA N_vB N_vX N_needed N_valueOf N_place) → va_S A s.heap H locs → k15 v7 N_table = some res → W p l e R s m args below meth c H locs 0 0 Q (F0 m 15 ls [])) (H : Heap) (locs : List Loc) (ls : Array Slot), lv_has ls 10 [(0, .ref (qN 0)), (1, .int a1), (2, .int a2), (3, .int a3), (4, .int a4), (5, .int a5), (6, .int v6), (7, .int v7), (8, .int v8)] → va_P D zCl (W_N kI kZ qN N_p N_n N_words N_hasDirect N_compiled N_size N_outcome N_done N_values N_word N_table N_direct N_op N_a N_b N_x N_there N_vOp N_vA N_vB N_vX N_needed N_valueOf N_place) H → va_D A (W_N kI kZ qN N_p N_n N_words N_hasDirect N_compiled N_size N_outcome N_done N_values N_word N_table N_direct N_op N_a N_b N_x N_there N_vOp N_vA N_vB N_vX N_needed N_valueOf N_place) → va_S A s.heap H locs → f_N_operate_43 N_p N_n a1 a2 a3 a4 k15 v6 v7 v8 N_table = some res → W p l e R s m args below meth c H locs 0 0 Q (F0 m 43 ls []) := by
    intro v6 v7 v8 N_table k15 hk15 H locs ls hl hP hD hS hr
    rw [f_N_operate_43] at hr
    refine lv_iload_n hx hb d_N_operate_43 rfl (lv_at hl 1 rfl) ?_
    refine lv_iconst (v := (1 : Int32)) hx hb d_N_operate_44 (by decide) ?_
    refine lv_icmp_ne hx hb d_N_operate_45 rfl (fun hc => ?_) (fun hc => ?_)
    · rw [if_neg hc] at hr
      exact hB62 v6 v7 v8 N_table _ hk15 _ _ _ hl hP hD hS hr
    · rw [if_pos hc] at hr
      refine lv_iload hx hb d_N_operate_48 (lv_at hl 6 rfl) ?_
      refine lv_iload hx hb d_N_operate_50 (lv_at hl 7 rfl) ?_
      refine lv_icmp_ne hx hb d_N_operate_52 rfl (fun hc => ?_) (fun hc => ?_)
      · rw [if_neg hc] at hr
        refine lv_iconst (v := (0 : Int32)) hx hb d_N_operate_59 (by decide) ?_
        exact hB60 v6 v7 (0 : Int32) N_table _ hk15 _ _ _ (lv_sub hl [0, 1, 2, 3, 4, 5, 6, 7] rfl) hP hD hS hr
      · rw [if_pos hc] at hr
        refine lv_iconst (v := (1 : Int32)) hx hb d_N_operate_55 (by decide) ?_
        refine lv_goto hx hb d_N_operate_56 rfl ?_
        exact hB60 v6 v7 (1 : Int32) N_table _ hk15 _ _ _ (lv_sub hl [0, 1, 2, 3, 4, 5, 6, 7] rfl) hP hD hS hr
  have hB15 : ∀ (v6 : Int32) (k3 : Int32 → (Nat → Int32) → Option ((Nat → Int32))) (hk3 : ∀ (v6 : Int32) (N_table : Nat → Int32) (H : Heap) (locs : List Loc) (ls : Array Slot), lv_has ls 10 [(0, .ref (qN 0)), (1, .int a1), (2, .int a2), (3, .int a3), (4, .int a4), (5, .int a5), (6, .int v6)] → va_P D zCl (W_N kI kZ qN N_p N_n N_words N_hasDirect N_compiled N_size N_outcome N_done N_values N_word N_table N_direct N_op N_a N_b N_x N_there N_vOp N_vA N_vB N_vX N_needed N_valueOf N_place) H → va_D A (W_N kI kZ qN N_p N_n N_words N_hasDirect N_compiled N_size N_outcome N_done N_values N_word N_table N_direct N_op N_a N_b N_x N_there N_vOp N_vA N_vB N_vX N_needed N_valueOf N_place) → va_S A s.heap H locs → k3 v6 N_table = some res → W p l e R s m args below meth c H locs 0 0 Q (F0 m 3 ls [])) (fu : Nat) (v7 : Int32) (N_table : Nat → Int32) (H : Heap) (locs : List Loc) (ls : Array Slot), lv_has ls 10 [(0, .ref (qN 0)), (1, .int a1), (2, .int a2), (3, .int a3), (4, .int a4), (5, .int a5), (6, .int v6), (7, .int v7)] → va_P D zCl (W_N kI kZ qN N_p N_n N_words N_hasDirect N_compiled N_size N_outcome N_done N_values N_word N_table N_direct N_op N_a N_b N_x N_there N_vOp N_vA N_vB N_vX N_needed N_valueOf N_place) H → va_D A (W_N kI kZ qN N_p N_n N_words N_hasDirect N_compiled N_size N_outcome N_done N_values N_word N_table N_direct N_op N_a N_b N_x N_there N_vOp N_vA N_vB N_vX N_needed N_valueOf N_place) → va_S A s.heap H locs → f_N_operate_15 N_p N_n a1 a2 a3 a4 k3 v6 fu v7 N_table = some res → W p l e R s m args below meth c H locs 0 0 Q (F0 m 15 ls []) := by
    intro v6 k3 hk3 fu
    induction fu with
    | zero => intro v7 N_table H locs ls hl hP hD hS hr; exact absurd hr (by rw [f_N_operate_15]; exact fun h => by cases h)
    | succ fu ih =>
      intro v7 N_table H locs ls hl hP hD hS hr
      rw [f_N_operate_15] at hr
      refine lv_iload hx hb d_N_operate_15 (lv_at hl 7 rfl) ?_
      refine lv_aload_n hx hb d_N_operate_17 rfl (lv_at hl 0 rfl) ?_
      refine va_get (D := D) (ci := 6) (v := .int N_n) (C := R_N) (T := T_N) (N := 24) hx hb hts in_N hown hK hP 0 rfl rfl 1 (by decide) (hts _ kw_445) (fun _ h9 => h9) rfl d_N_operate_18 ?_
      refine lv_icmp_ge hx hb d_N_operate_21 rfl (fun hc => ?_) (fun hc => ?_)
      · rw [if_pos hc] at hr
        refine lv_iinc (k := 6) (v := (v6 + (1 : Int32))) (lv' := [(6, .int (v6 + (1 : Int32))), (0, .ref (qN 0)), (1, .int a1), (2, .int a2), (3, .int a3), (4, .int a4), (5, .int a5), (7, .int v7)]) hx hb d_N_operate_220 hl rfl (congrArg (fun z => v6 + z) (by decide : Int32.ofInt 1 = (1 : Int32))) (by decide) rfl (fun ls hl => ?_)
        refine lv_goto hx hb d_N_operate_223 rfl ?_
        exact hk3 (v6 + (1 : Int32)) N_table _ _ _ (lv_sub hl [1, 2, 3, 4, 5, 6, 0] rfl) hP hD hS hr
      · rw [if_neg hc] at hr
        refine lv_iconst (v := (0 : Int32)) hx hb d_N_operate_24 (by decide) ?_
        refine lv_istore (lv' := [(8, .int (0 : Int32)), (0, .ref (qN 0)), (1, .int a1), (2, .int a2), (3, .int a3), (4, .int a4), (5, .int a5), (6, .int v6), (7, .int v7)]) hx hb d_N_operate_25 hl (by decide) rfl (fun ls hl => ?_)
        refine lv_iload_n hx hb d_N_operate_27 rfl (lv_at hl 2 rfl) ?_
        refine lv_if_ne hx hb d_N_operate_28 rfl (fun hc => ?_) (fun hc => ?_)
        · rw [if_neg hc] at hr
          exact hB43 v6 v7 (0 : Int32) N_table _ ih _ _ _ (lv_sub hl [1, 2, 3, 4, 5, 6, 7, 8, 0] rfl) hP hD hS hr
        · rw [if_pos hc] at hr
          refine lv_aload_n hx hb d_N_operate_31 rfl (lv_at hl 1 rfl) ?_
          refine lv_iload hx hb d_N_operate_32 (lv_at hl 5 rfl) ?_
          refine lv_iload hx hb d_N_operate_34 (lv_at hl 7 rfl) ?_
          refine lv_iload hx hb d_N_operate_36 (lv_at hl 8 rfl) ?_
          obtain ⟨r15, hr15, hr⟩ := ob hr
          refine z_ci (ws := (W_N kI kZ qN N_p N_n N_words N_hasDirect N_compiled N_size N_outcome N_done N_values N_word N_table N_direct N_op N_a N_b N_x N_there N_vOp N_vA N_vB N_vX N_needed N_valueOf N_place)) (wc := (W_N kI kZ qN N_p N_n N_words N_hasDirect N_compiled N_size N_outcome N_done N_values N_word N_table N_direct N_op N_a N_b N_x N_there N_vOp N_vA N_vB N_vX N_needed N_valueOf N_place)) (wr := ([] : va_W)) (w1 := (W_N kI kZ qN N_p N_n N_words N_hasDirect N_compiled N_size N_outcome N_done N_values N_word N_table N_direct N_op N_a N_b N_x N_there N_vOp N_vA N_vB N_vX N_needed N_valueOf N_place)) (w2 := (W_N kI kZ qN N_p N_n N_words N_hasDirect N_compiled N_size N_outcome N_done N_values N_word N_table N_direct N_op N_a N_b N_x N_there N_vOp N_vA N_vB N_vX N_needed N_valueOf N_place)) (va_runV (As := [.int a4, .int v6, .int v7]) (rest := []) ⟨hx, hb, hml, hown, hts⟩ (c_N_get l D kI kZ qN N_p N_n N_words N_hasDirect N_compiled N_size N_outcome N_done N_values N_word N_table N_direct N_op N_a N_b N_x N_there N_vOp N_vA N_vB N_vX N_needed N_valueOf N_place a4 v6 v7 r15 hr15 H.size) (z_cwV hts mw_N_get kw_569 ⟨by rw [hR]; exact Nat.le_of_ble_eq_true rfl, by rw [hR]; exact Nat.le_of_ble_eq_true rfl⟩) (z_preV (ci := 6) hK hP hD hN rfl (he := (rfl : _[0]? = _)) [0, 1, 2, 3, 4, 5, 6, 7, 8, 9, 10, 11, 12, 13, 14, 15] (by decide) rfl) rfl rfl hl.1 rfl (lv_room (Nat.le_of_ble_eq_true rfl)) d_N_operate_38 ⟨Nat.zero_le _, Nat.zero_le _⟩) hP hD hS hA [0, 1, 2, 3, 4, 5, 6, 7, 8, 9, 10, 11, 12, 13, 14, 15] [] [0, 1, 2, 3, 4, 5, 6, 7, 8, 9, 10, 11, 12, 13, 14, 15] rfl rfl (by decide) (by decide) rfl (by decide) (fun H locs hP hD hS => ?_)
          refine lv_istore (lv' := [(8, .int r15), (0, .ref (qN 0)), (1, .int a1), (2, .int a2), (3, .int a3), (4, .int a4), (5, .int a5), (6, .int v6), (7, .int v7)]) hx hb d_N_operate_41 hl (by decide) rfl (fun ls hl => ?_)
          exact hB43 v6 v7 r15 N_table _ ih _ _ _ (lv_sub hl [1, 2, 3, 4, 5, 6, 7, 8, 0] rfl) hP hD hS hr
  have hB3 : ∀ (fu : Nat) (v6 : Int32) (N_table : Nat → Int32) (H : Heap) (locs : List Loc) (ls : Array Slot), lv_has ls 10 [(0, .ref (qN 0)), (1, .int a1), (2, .int a2), (3, .int a3), (4, .int a4), (5, .int a5), (6, .int v6)] → va_P D zCl (W_N kI kZ qN N_p N_n N_words N_hasDirect N_compiled N_size N_outcome N_done N_values N_word N_table N_direct N_op N_a N_b N_x N_there N_vOp N_vA N_vB N_vX N_needed N_valueOf N_place) H → va_D A (W_N kI kZ qN N_p N_n N_words N_hasDirect N_compiled N_size N_outcome N_done N_values N_word N_table N_direct N_op N_a N_b N_x N_there N_vOp N_vA N_vB N_vX N_needed N_valueOf N_place) → va_S A s.heap H locs → f_N_operate_3 N_p N_n a1 a2 a3 a4 a5 fu v6 N_table = some res → W p l e R s m args below meth c H locs 0 0 Q (F0 m 3 ls []) := by
    intro  fu
    induction fu with
    | zero => intro v6 N_table H locs ls hl hP hD hS hr; exact absurd hr (by rw [f_N_operate_3]; exact fun h => by cases h)
    | succ fu ih =>
      intro v6 N_table H locs ls hl hP hD hS hr
      rw [f_N_operate_3] at hr
      refine lv_iload hx hb d_N_operate_3 (lv_at hl 6 rfl) ?_
      refine lv_aload_n hx hb d_N_operate_5 rfl (lv_at hl 0 rfl) ?_
      refine va_get (D := D) (ci := 6) (v := .int N_n) (C := R_N) (T := T_N) (N := 24) hx hb hts in_N hown hK hP 0 rfl rfl 1 (by decide) (hts _ kw_445) (fun _ h9 => h9) rfl d_N_operate_6 ?_
      refine lv_icmp_ge hx hb d_N_operate_9 rfl (fun hc => ?_) (fun hc => ?_)
      · rw [if_pos hc] at hr
        refine lv_aload_n hx hb d_N_operate_226 rfl (lv_at hl 0 rfl) ?_
        refine lv_bipush (v := (29 : Int32)) hx hb d_N_operate_227 (by decide) ?_
        refine lv_iload hx hb d_N_operate_229 (lv_at hl 5 rfl) ?_
        obtain ⟨r16, hr16, hr⟩ := ob hr
        refine z_cv (ws := (W_N kI kZ qN N_p N_n N_words N_hasDirect N_compiled N_size N_outcome N_done N_values N_word N_table N_direct N_op N_a N_b N_x N_there N_vOp N_vA N_vB N_vX N_needed N_valueOf N_place)) (wc := (W_N kI kZ qN N_p N_n N_words N_hasDirect N_compiled N_size N_outcome N_done N_values N_word N_table N_direct N_op N_a N_b N_x N_there N_vOp N_vA N_vB N_vX N_needed N_valueOf N_place)) (wr := ([] : va_W)) (w1 := (W_N kI kZ qN N_p N_n N_words N_hasDirect N_compiled N_size N_outcome N_done N_values N_word r16 N_direct N_op N_a N_b N_x N_there N_vOp N_vA N_vB N_vX N_needed N_valueOf N_place)) (w2 := (W_N kI kZ qN N_p N_n N_words N_hasDirect N_compiled N_size N_outcome N_done N_values N_word r16 N_direct N_op N_a N_b N_x N_there N_vOp N_vA N_vB N_vX N_needed N_valueOf N_place)) (va_runV (As := [.int (29 : Int32), .int a5]) (rest := []) ⟨hx, hb, hml, hown, hts⟩ (c_N_copy l D kI kZ qN N_p N_n N_words N_hasDirect N_compiled N_size N_outcome N_done N_values N_word N_table N_direct N_op N_a N_b N_x N_there N_vOp N_vA N_vB N_vX N_needed N_valueOf N_place (29 : Int32) a5 r16 hr16 H.size) (z_cwV hts mw_N_copy kw_561 ⟨by rw [hR]; exact Nat.le_of_ble_eq_true rfl, by rw [hR]; exact Nat.le_of_ble_eq_true rfl⟩) (z_preV (ci := 6) hK hP hD hN rfl (he := (rfl : _[0]? = _)) [0, 1, 2, 3, 4, 5, 6, 7, 8, 9, 10, 11, 12, 13, 14, 15] (by decide) rfl) rfl rfl hl.1 rfl (lv_room (Nat.le_of_ble_eq_true rfl)) d_N_operate_231 ⟨Nat.zero_le _, Nat.zero_le _⟩) hP hD hS hA [0, 1, 2, 3, 4, 5, 6, 7, 8, 9, 10, 11, 12, 13, 14, 15] [] [0, 1, 2, 3, 4, 5, 6, 7, 8, 9, 10, 11, 12, 13, 14, 15] rfl rfl (by decide) (by decide) rfl (by decide) (fun H locs hP hD hS => ?_)
        obtain rfl := Option.some.inj hr
        exact hQ _ _ _ _ d_N_operate_234 hP hD hS
      · rw [if_neg hc] at hr
        refine lv_iconst (v := (0 : Int32)) hx hb d_N_operate_12 (by decide) ?_
        refine lv_istore (lv' := [(7, .int (0 : Int32)), (0, .ref (qN 0)), (1, .int a1), (2, .int a2), (3, .int a3), (4, .int a4), (5, .int a5), (6, .int v6)]) hx hb d_N_operate_13 hl (by decide) rfl (fun ls hl => ?_)
        exact hB15 v6 _ ih zFU (0 : Int32) N_table _ _ _ (lv_sub hl [1, 2, 3, 4, 5, 6, 7, 0] rfl) hP hD hS hr
  intro ls H hl hP hD hS
  have hl : lv_has ls 10 [(0, .ref (qN 0)), (1, .int a1), (2, .int a2), (3, .int a3), (4, .int a4), (5, .int a5)] := hl
  rw [f_N_operate] at hr
  refine lv_iconst (v := (0 : Int32)) hx hb d_N_operate_0 (by decide) ?_
  refine lv_istore (lv' := [(6, .int (0 : Int32)), (0, .ref (qN 0)), (1, .int a1), (2, .int a2), (3, .int a3), (4, .int a4), (5, .int a5)]) hx hb d_N_operate_1 hl (by decide) rfl (fun ls hl => ?_)
  exact hB3 zFU (0 : Int32) N_table _ _ _ (lv_sub hl [1, 2, 3, 4, 5, 6, 0] rfl) hP hD hS hr
