set_option maxHeartbeats 4000000 in
set_option maxRecDepth 100000 in
theorem c_N_out (l : Launch) (D : va_G) (kI kZ : ClassId) (qN : Nat → Nat) (N_p N_n N_words N_hasDirect N_compiled N_size N_outcome N_done N_values : Int32) (N_word N_table N_direct N_op N_a N_b N_x N_there N_vOp N_vA N_vB N_vX N_needed N_valueOf N_place : Nat → Int32) (a1 a2 : Int32) (res : Int32) (hr : f_N_out N_n N_table N_compiled N_size N_outcome N_done a1 a2 = some res) : zMi l D kI kZ y_N_out prog_8_method_32_code 3 ((some .int)) 2 44 [.ref (qN 0), .int a1, .int a2] (W_N kI kZ qN N_p N_n N_words N_hasDirect N_compiled N_size N_outcome N_done N_values N_word N_table N_direct N_op N_a N_b N_x N_there N_vOp N_vA N_vB N_vX N_needed N_valueOf N_place) (W_N kI kZ qN N_p N_n N_words N_hasDirect N_compiled N_size N_outcome N_done N_values N_word N_table N_direct N_op N_a N_b N_x N_there N_vOp N_vA N_vB N_vX N_needed N_valueOf N_place) res := by
  refine zMi.of (by decide +kernel) (Nat.le_of_ble_eq_true rfl) ?_
  intro p e R s m args below meth c Q A hR hx hb hml hts hown hA hK hN hQ
  have hown : s.vm.findClass "SquareCodeModel" = some m.cls := hown
  intro ls H hl hP hD hS
  have hl : lv_has ls 3 [(0, .ref (qN 0)), (1, .int a1), (2, .int a2)] := hl
  rw [f_N_out] at hr
  refine lv_aload_n hx hb d_N_out_0 rfl (lv_at hl 0 rfl) ?_
  refine va_get (D := D) (ci := 6) (v := .int N_compiled) (C := R_N) (T := T_N) (N := 24) hx hb hts in_N hown hK hP 0 rfl rfl 7 (by decide) (hts _ kw_451) (fun _ h9 => h9) rfl d_N_out_1 ?_
  refine lv_if_eq hx hb d_N_out_4 rfl (fun hc => ?_) (fun hc => ?_)
  · rw [if_pos hc] at hr
    refine lv_iconst (v := (-1 : Int32)) hx hb d_N_out_43 (by decide) ?_
    obtain rfl := Option.some.inj hr
    exact hQ _ _ _ _ _ d_N_out_44 rfl rfl hP hD hS
  · rw [if_neg hc] at hr
    refine lv_aload_n hx hb d_N_out_7 rfl (lv_at hl 0 rfl) ?_
    refine va_get (D := D) (ci := 6) (v := .int N_done) (C := R_N) (T := T_N) (N := 24) hx hb hts in_N hown hK hP 0 rfl rfl 14 (by decide) (hts _ kw_458) (fun _ h9 => h9) rfl d_N_out_8 ?_
    refine lv_aload_n hx hb d_N_out_11 rfl (lv_at hl 0 rfl) ?_
    refine va_get (D := D) (ci := 6) (v := .int N_size) (C := R_N) (T := T_N) (N := 24) hx hb hts in_N hown hK hP 0 rfl rfl 8 (by decide) (hts _ kw_452) (fun _ h9 => h9) rfl d_N_out_12 ?_
    refine lv_icmp_ne hx hb d_N_out_15 rfl (fun hc => ?_) (fun hc => ?_)
    · rw [if_neg hc] at hr
      refine lv_iconst (v := (-1 : Int32)) hx hb d_N_out_43 (by decide) ?_
      obtain rfl := Option.some.inj hr
      exact hQ _ _ _ _ _ d_N_out_44 rfl rfl hP hD hS
    · rw [if_pos hc] at hr
      refine lv_aload_n hx hb d_N_out_18 rfl (lv_at hl 0 rfl) ?_
      refine lv_iload_n hx hb d_N_out_19 rfl (lv_at hl 1 rfl) ?_
      refine lv_iload_n hx hb d_N_out_20 rfl (lv_at hl 2 rfl) ?_
      obtain ⟨r1, hr1, hr⟩ := ob hr
      refine z_ci (ws := (W_N kI kZ qN N_p N_n N_words N_hasDirect N_compiled N_size N_outcome N_done N_values N_word N_table N_direct N_op N_a N_b N_x N_there N_vOp N_vA N_vB N_vX N_needed N_valueOf N_place)) (wc := (W_N kI kZ qN N_p N_n N_words N_hasDirect N_compiled N_size N_outcome N_done N_values N_word N_table N_direct N_op N_a N_b N_x N_there N_vOp N_vA N_vB N_vX N_needed N_valueOf N_place)) (wr := ([] : va_W)) (w1 := (W_N kI kZ qN N_p N_n N_words N_hasDirect N_compiled N_size N_outcome N_done N_values N_word N_table N_direct N_op N_a N_b N_x N_there N_vOp N_vA N_vB N_vX N_needed N_valueOf N_place)) (w2 := (W_N kI kZ qN N_p N_n N_words N_hasDirect N_compiled N_size N_outcome N_done N_values N_word N_table N_direct N_op N_a N_b N_x N_there N_vOp N_vA N_vB N_vX N_needed N_valueOf N_place)) (va_runV (As := [.int a1, .int a2]) (rest := []) ⟨hx, hb, hml, hown, hts⟩ (c_N_isPlace l D kI kZ qN N_p N_n N_words N_hasDirect N_compiled N_size N_outcome N_done N_values N_word N_table N_direct N_op N_a N_b N_x N_there N_vOp N_vA N_vB N_vX N_needed N_valueOf N_place a1 a2 r1 hr1 H.size) (z_cwV hts mw_N_isPlace kw_528 ⟨by rw [hR]; exact Nat.le_of_ble_eq_true rfl, by rw [hR]; exact Nat.le_of_ble_eq_true rfl⟩) (z_preV (ci := 6) hK hP hD hN rfl (he := (rfl : _[0]? = _)) [0, 1, 2, 3, 4, 5, 6, 7, 8, 9, 10, 11, 12, 13, 14, 15] (by decide) rfl) rfl rfl hl.1 rfl (lv_room (Nat.le_of_ble_eq_true rfl)) d_N_out_21 ⟨Nat.zero_le _, Nat.zero_le _⟩) hP hD hS hA [0, 1, 2, 3, 4, 5, 6, 7, 8, 9, 10, 11, 12, 13, 14, 15] [] [0, 1, 2, 3, 4, 5, 6, 7, 8, 9, 10, 11, 12, 13, 14, 15] rfl rfl (by decide) (by decide) rfl (by decide) (fun H locs hP hD hS => ?_)
      refine lv_if_eq hx hb d_N_out_24 rfl (fun hc => ?_) (fun hc => ?_)
      · rw [if_pos hc] at hr
        refine lv_iconst (v := (-1 : Int32)) hx hb d_N_out_43 (by decide) ?_
        obtain rfl := Option.some.inj hr
        exact hQ _ _ _ _ _ d_N_out_44 rfl rfl hP hD hS
      · rw [if_neg hc] at hr
        refine lv_aload_n hx hb d_N_out_27 rfl (lv_at hl 0 rfl) ?_
        refine lv_bipush (v := (31 : Int32)) hx hb d_N_out_28 (by decide) ?_
        refine lv_aload_n hx hb d_N_out_30 rfl (lv_at hl 0 rfl) ?_
        refine va_get (D := D) (ci := 6) (v := .int N_outcome) (C := R_N) (T := T_N) (N := 24) hx hb hts in_N hown hK hP 0 rfl rfl 13 (by decide) (hts _ kw_457) (fun _ h9 => h9) rfl d_N_out_31 ?_
        refine lv_iadd hx hb d_N_out_34 ?_
        refine lv_iload_n hx hb d_N_out_35 rfl (lv_at hl 1 rfl) ?_
        refine lv_iload_n hx hb d_N_out_36 rfl (lv_at hl 2 rfl) ?_
        obtain ⟨r2, hr2, hr⟩ := ob hr
        refine z_ci (ws := (W_N kI kZ qN N_p N_n N_words N_hasDirect N_compiled N_size N_outcome N_done N_values N_word N_table N_direct N_op N_a N_b N_x N_there N_vOp N_vA N_vB N_vX N_needed N_valueOf N_place)) (wc := (W_N kI kZ qN N_p N_n N_words N_hasDirect N_compiled N_size N_outcome N_done N_values N_word N_table N_direct N_op N_a N_b N_x N_there N_vOp N_vA N_vB N_vX N_needed N_valueOf N_place)) (wr := ([] : va_W)) (w1 := (W_N kI kZ qN N_p N_n N_words N_hasDirect N_compiled N_size N_outcome N_done N_values N_word N_table N_direct N_op N_a N_b N_x N_there N_vOp N_vA N_vB N_vX N_needed N_valueOf N_place)) (w2 := (W_N kI kZ qN N_p N_n N_words N_hasDirect N_compiled N_size N_outcome N_done N_values N_word N_table N_direct N_op N_a N_b N_x N_there N_vOp N_vA N_vB N_vX N_needed N_valueOf N_place)) (va_runV (As := [.int ((31 : Int32) + N_outcome), .int a1, .int a2]) (rest := []) ⟨hx, hb, hml, hown, hts⟩ (c_N_get l D kI kZ qN N_p N_n N_words N_hasDirect N_compiled N_size N_outcome N_done N_values N_word N_table N_direct N_op N_a N_b N_x N_there N_vOp N_vA N_vB N_vX N_needed N_valueOf N_place ((31 : Int32) + N_outcome) a1 a2 r2 hr2 H.size) (z_cwV hts mw_N_get kw_569 ⟨by rw [hR]; exact Nat.le_of_ble_eq_true rfl, by rw [hR]; exact Nat.le_of_ble_eq_true rfl⟩) (z_preV (ci := 6) hK hP hD hN rfl (he := (rfl : _[0]? = _)) [0, 1, 2, 3, 4, 5, 6, 7, 8, 9, 10, 11, 12, 13, 14, 15] (by decide) rfl) rfl rfl hl.1 rfl (lv_room (Nat.le_of_ble_eq_true rfl)) d_N_out_37 ⟨Nat.zero_le _, Nat.zero_le _⟩) hP hD hS hA [0, 1, 2, 3, 4, 5, 6, 7, 8, 9, 10, 11, 12, 13, 14, 15] [] [0, 1, 2, 3, 4, 5, 6, 7, 8, 9, 10, 11, 12, 13, 14, 15] rfl rfl (by decide) (by decide) rfl (by decide) (fun H locs hP hD hS => ?_)
        refine lv_goto hx hb d_N_out_40 rfl ?_
        obtain rfl := Option.some.inj hr
        exact hQ _ _ _ _ _ d_N_out_44 rfl rfl hP hD hS
set_option maxHeartbeats 4000000 in
set_option maxRecDepth 100000 in
theorem c_N_outDirect (l : Launch) (D : va_G) (kI kZ : ClassId) (qN : Nat → Nat) (N_p N_n N_words N_hasDirect N_compiled N_size N_outcome N_done N_values : Int32) (N_word N_table N_direct N_op N_a N_b N_x N_there N_vOp N_vA N_vB N_vX N_needed N_valueOf N_place : Nat → Int32) (a1 a2 : Int32) (res : Int32) (hr : f_N_outDirect N_n N_direct N_hasDirect a1 a2 = some res) : zMi l D kI kZ y_N_outDirect prog_8_method_33_code 3 ((some .int)) 2 44 [.ref (qN 0), .int a1, .int a2] (W_N kI kZ qN N_p N_n N_words N_hasDirect N_compiled N_size N_outcome N_done N_values N_word N_table N_direct N_op N_a N_b N_x N_there N_vOp N_vA N_vB N_vX N_needed N_valueOf N_place) (W_N kI kZ qN N_p N_n N_words N_hasDirect N_compiled N_size N_outcome N_done N_values N_word N_table N_direct N_op N_a N_b N_x N_there N_vOp N_vA N_vB N_vX N_needed N_valueOf N_place) res := by
  refine zMi.of (by decide +kernel) (Nat.le_of_ble_eq_true rfl) ?_
  intro p e R s m args below meth c Q A hR hx hb hml hts hown hA hK hN hQ
  have hown : s.vm.findClass "SquareCodeModel" = some m.cls := hown
  intro ls H hl hP hD hS
  have hl : lv_has ls 3 [(0, .ref (qN 0)), (1, .int a1), (2, .int a2)] := hl
  rw [f_N_outDirect] at hr
  refine lv_aload_n hx hb d_N_outDirect_0 rfl (lv_at hl 0 rfl) ?_
  refine va_get (D := D) (ci := 6) (v := .int N_hasDirect) (C := R_N) (T := T_N) (N := 24) hx hb hts in_N hown hK hP 0 rfl rfl 6 (by decide) (hts _ kw_450) (fun _ h9 => h9) rfl d_N_outDirect_1 ?_
  refine lv_if_eq hx hb d_N_outDirect_4 rfl (fun hc => ?_) (fun hc => ?_)
  · rw [if_pos hc] at hr
    refine lv_iconst (v := (-1 : Int32)) hx hb d_N_outDirect_29 (by decide) ?_
    obtain rfl := Option.some.inj hr
    exact hQ _ _ _ _ _ d_N_outDirect_30 rfl rfl hP hD hS
  · rw [if_neg hc] at hr
    refine lv_aload_n hx hb d_N_outDirect_7 rfl (lv_at hl 0 rfl) ?_
    refine lv_iload_n hx hb d_N_outDirect_8 rfl (lv_at hl 1 rfl) ?_
    refine lv_iload_n hx hb d_N_outDirect_9 rfl (lv_at hl 2 rfl) ?_
    obtain ⟨r1, hr1, hr⟩ := ob hr
    refine z_ci (ws := (W_N kI kZ qN N_p N_n N_words N_hasDirect N_compiled N_size N_outcome N_done N_values N_word N_table N_direct N_op N_a N_b N_x N_there N_vOp N_vA N_vB N_vX N_needed N_valueOf N_place)) (wc := (W_N kI kZ qN N_p N_n N_words N_hasDirect N_compiled N_size N_outcome N_done N_values N_word N_table N_direct N_op N_a N_b N_x N_there N_vOp N_vA N_vB N_vX N_needed N_valueOf N_place)) (wr := ([] : va_W)) (w1 := (W_N kI kZ qN N_p N_n N_words N_hasDirect N_compiled N_size N_outcome N_done N_values N_word N_table N_direct N_op N_a N_b N_x N_there N_vOp N_vA N_vB N_vX N_needed N_valueOf N_place)) (w2 := (W_N kI kZ qN N_p N_n N_words N_hasDirect N_compiled N_size N_outcome N_done N_values N_word N_table N_direct N_op N_a N_b N_x N_there N_vOp N_vA N_vB N_vX N_needed N_valueOf N_place)) (va_runV (As := [.int a1, .int a2]) (rest := []) ⟨hx, hb, hml, hown, hts⟩ (c_N_isPlace l D kI kZ qN N_p N_n N_words N_hasDirect N_compiled N_size N_outcome N_done N_values N_word N_table N_direct N_op N_a N_b N_x N_there N_vOp N_vA N_vB N_vX N_needed N_valueOf N_place a1 a2 r1 hr1 H.size) (z_cwV hts mw_N_isPlace kw_528 ⟨by rw [hR]; exact Nat.le_of_ble_eq_true rfl, by rw [hR]; exact Nat.le_of_ble_eq_true rfl⟩) (z_preV (ci := 6) hK hP hD hN rfl (he := (rfl : _[0]? = _)) [0, 1, 2, 3, 4, 5, 6, 7, 8, 9, 10, 11, 12, 13, 14, 15] (by decide) rfl) rfl rfl hl.1 rfl (lv_room (Nat.le_of_ble_eq_true rfl)) d_N_outDirect_10 ⟨Nat.zero_le _, Nat.zero_le _⟩) hP hD hS hA [0, 1, 2, 3, 4, 5, 6, 7, 8, 9, 10, 11, 12, 13, 14, 15] [] [0, 1, 2, 3, 4, 5, 6, 7, 8, 9, 10, 11, 12, 13, 14, 15] rfl rfl (by decide) (by decide) rfl (by decide) (fun H locs hP hD hS => ?_)
    refine lv_if_eq hx hb d_N_outDirect_13 rfl (fun hc => ?_) (fun hc => ?_)
    · rw [if_pos hc] at hr
      refine lv_iconst (v := (-1 : Int32)) hx hb d_N_outDirect_29 (by decide) ?_
      obtain rfl := Option.some.inj hr
      exact hQ _ _ _ _ _ d_N_outDirect_30 rfl rfl hP hD hS
    · rw [if_neg hc] at hr
      refine lv_aload_n hx hb d_N_outDirect_16 rfl (lv_at hl 0 rfl) ?_
      refine va_get (D := D) (ci := 6) (v := .ref (qN 3)) (C := R_N) (T := T_N) (N := 24) hx hb hts in_N hown hK hP 0 rfl rfl 5 (by decide) (hts _ kw_449) (fun _ h9 => h9) rfl d_N_outDirect_17 ?_
      refine lv_iconst (v := (4 : Int32)) hx hb d_N_outDirect_20 (by decide) ?_
      refine lv_iload_n hx hb d_N_outDirect_21 rfl (lv_at hl 1 rfl) ?_
      refine lv_imul hx hb d_N_outDirect_22 ?_
      refine lv_iload_n hx hb d_N_outDirect_23 rfl (lv_at hl 2 rfl) ?_
      refine lv_iadd hx hb d_N_outDirect_24 ?_
      obtain ⟨hi, hr⟩ := gd_some hr
      refine va_iald hx hb hK hP 3 0 rfl rfl hi d_N_outDirect_25 ?_
      refine lv_goto hx hb d_N_outDirect_26 rfl ?_
      obtain rfl := Option.some.inj hr
      exact hQ _ _ _ _ _ d_N_outDirect_30 rfl rfl hP hD hS
set_option maxHeartbeats 4000000 in
set_option maxRecDepth 100000 in
theorem c_N_codeAt (l : Launch) (D : va_G) (kI kZ : ClassId) (qN : Nat → Nat) (N_p N_n N_words N_hasDirect N_compiled N_size N_outcome N_done N_values : Int32) (N_word N_table N_direct N_op N_a N_b N_x N_there N_vOp N_vA N_vB N_vX N_needed N_valueOf N_place : Nat → Int32) (a1 : Int32) (res : Int32) (hr : f_N_codeAt N_compiled N_size N_op N_a N_b N_x a1 = some res) : zMi l D kI kZ y_N_codeAt prog_8_method_34_code 3 ((some .int)) 2 42 [.ref (qN 0), .int a1] (W_N kI kZ qN N_p N_n N_words N_hasDirect N_compiled N_size N_outcome N_done N_values N_word N_table N_direct N_op N_a N_b N_x N_there N_vOp N_vA N_vB N_vX N_needed N_valueOf N_place) (W_N kI kZ qN N_p N_n N_words N_hasDirect N_compiled N_size N_outcome N_done N_values N_word N_table N_direct N_op N_a N_b N_x N_there N_vOp N_vA N_vB N_vX N_needed N_valueOf N_place) res := by
  refine zMi.of (by decide +kernel) (Nat.le_of_ble_eq_true rfl) ?_
  intro p e R s m args below meth c Q A hR hx hb hml hts hown hA hK hN hQ
  have hown : s.vm.findClass "SquareCodeModel" = some m.cls := hown
  have hB126 : ∀ (t0 : Int32)   (H : Heap) (locs : List Loc) (ls : Array Slot), lv_has ls 3 [(0, .ref (qN 0)), (1, .int a1)] → va_P D zCl (W_N kI kZ qN N_p N_n N_words N_hasDirect N_compiled N_size N_outcome N_done N_values N_word N_table N_direct N_op N_a N_b N_x N_there N_vOp N_vA N_vB N_vX N_needed N_valueOf N_place) H → va_D A (W_N kI kZ qN N_p N_n N_words N_hasDirect N_compiled N_size N_outcome N_done N_values N_word N_table N_direct N_op N_a N_b N_x N_there N_vOp N_vA N_vB N_vX N_needed N_valueOf N_place) → va_S A s.heap H locs → f_N_codeAt_126 N_op a1 t0 = some res → W p l e R s m args below meth c H locs 0 0 Q (F0 m 126 ls [.int t0]) := by
    intro t0 H locs ls hl hP hD hS hr
    rw [f_N_codeAt_126] at hr
    refine lv_istore_n (lv' := [(2, .int t0), (0, .ref (qN 0)), (1, .int a1)]) hx hb d_N_codeAt_126 rfl hl (by decide) rfl (fun ls hl => ?_)
    refine lv_sipush (v := (10000 : Int32)) hx hb d_N_codeAt_127 (by decide) ?_
    refine lv_aload_n hx hb d_N_codeAt_130 rfl (lv_at hl 1 rfl) ?_
    refine va_get (D := D) (ci := 6) (v := .ref (qN 4)) (C := R_N) (T := T_N) (N := 24) hx hb hts in_N hown hK hP 0 rfl rfl 9 (by decide) (hts _ kw_453) (fun _ h9 => h9) rfl d_N_codeAt_131 ?_
    refine lv_iload_n hx hb d_N_codeAt_134 rfl (lv_at hl 2 rfl) ?_
    obtain ⟨hi, hr⟩ := gd_some hr
    refine va_iald hx hb hK hP 4 0 rfl rfl hi d_N_codeAt_135 ?_
    refine lv_imul hx hb d_N_codeAt_136 ?_
    refine lv_iload_n hx hb d_N_codeAt_137 rfl (lv_at hl 0 rfl) ?_
    refine lv_iadd hx hb d_N_codeAt_138 ?_
    obtain rfl := Option.some.inj hr
    exact hQ _ _ _ _ _ d_N_codeAt_139 rfl rfl hP hD hS
  intro ls H hl hP hD hS
  have hl : lv_has ls 3 [(0, .ref (qN 0)), (1, .int a1)] := hl
  rw [f_N_codeAt] at hr
  refine lv_aload_n hx hb d_N_codeAt_0 rfl (lv_at hl 0 rfl) ?_
  refine va_get (D := D) (ci := 6) (v := .int N_compiled) (C := R_N) (T := T_N) (N := 24) hx hb hts in_N hown hK hP 0 rfl rfl 7 (by decide) (hts _ kw_451) (fun _ h9 => h9) rfl d_N_codeAt_1 ?_
  refine lv_if_eq hx hb d_N_codeAt_4 rfl (fun hc => ?_) (fun hc => ?_)
  · rw [if_pos hc] at hr
    refine lv_iconst (v := (-1 : Int32)) hx hb d_N_codeAt_21 (by decide) ?_
    obtain rfl := Option.some.inj hr
    exact hQ _ _ _ _ _ d_N_codeAt_22 rfl rfl hP hD hS
  · rw [if_neg hc] at hr
    refine lv_iload_n hx hb d_N_codeAt_7 rfl (lv_at hl 1 rfl) ?_
    refine lv_iconst (v := (0 : Int32)) hx hb d_N_codeAt_8 (by decide) ?_
    refine lv_aload_n hx hb d_N_codeAt_9 rfl (lv_at hl 0 rfl) ?_
    refine va_get (D := D) (ci := 6) (v := .int N_size) (C := R_N) (T := T_N) (N := 24) hx hb hts in_N hown hK hP 0 rfl rfl 8 (by decide) (hts _ kw_452) (fun _ h9 => h9) rfl d_N_codeAt_10 ?_
    refine lv_iconst (v := (1 : Int32)) hx hb d_N_codeAt_13 (by decide) ?_
    refine lv_isub hx hb d_N_codeAt_14 ?_
    obtain ⟨r1, hr1, hr⟩ := ob hr
    refine z_ci (ws := (W_N kI kZ qN N_p N_n N_words N_hasDirect N_compiled N_size N_outcome N_done N_values N_word N_table N_direct N_op N_a N_b N_x N_there N_vOp N_vA N_vB N_vX N_needed N_valueOf N_place)) (wc := ([] : va_W)) (wr := (W_N kI kZ qN N_p N_n N_words N_hasDirect N_compiled N_size N_outcome N_done N_values N_word N_table N_direct N_op N_a N_b N_x N_there N_vOp N_vA N_vB N_vX N_needed N_valueOf N_place)) (w1 := ([] : va_W)) (w2 := (W_N kI kZ qN N_p N_n N_words N_hasDirect N_compiled N_size N_outcome N_done N_values N_word N_table N_direct N_op N_a N_b N_x N_there N_vOp N_vA N_vB N_vX N_needed N_valueOf N_place)) (va_runS (As := [.int a1, .int (0 : Int32), .int (N_size - (1 : Int32))]) (rest := []) ⟨hx, hb, hml, hown, hts⟩ (c_N_in l D kI kZ a1 (0 : Int32) (N_size - (1 : Int32)) r1 hr1 H.size) (z_cwS hts mw_N_in kw_525 ⟨by rw [hR]; exact Nat.le_of_ble_eq_true rfl, by rw [hR]; exact Nat.le_of_ble_eq_true rfl⟩) (z_pre hK hP hD hN [] (by decide) rfl) rfl rfl hl.1 rfl (lv_room (Nat.le_of_ble_eq_true rfl)) d_N_codeAt_15 ⟨Nat.zero_le _, Nat.zero_le _⟩) hP hD hS hA [] [0, 1, 2, 3, 4, 5, 6, 7, 8, 9, 10, 11, 12, 13, 14, 15] [0, 1, 2, 3, 4, 5, 6, 7, 8, 9, 10, 11, 12, 13, 14, 15] rfl rfl (by decide) (by decide) rfl (by decide) (fun H locs hP hD hS => ?_)
    refine lv_if_ne hx hb d_N_codeAt_18 rfl (fun hc => ?_) (fun hc => ?_)
    · rw [if_neg hc] at hr
      refine lv_aload_n hx hb d_N_codeAt_23 rfl (lv_at hl 0 rfl) ?_
      refine va_get (D := D) (ci := 6) (v := .ref (qN 4)) (C := R_N) (T := T_N) (N := 24) hx hb hts in_N hown hK hP 0 rfl rfl 9 (by decide) (hts _ kw_453) (fun _ h9 => h9) rfl d_N_codeAt_24 ?_
      refine lv_iload_n hx hb d_N_codeAt_27 rfl (lv_at hl 1 rfl) ?_
      obtain ⟨hi, hr⟩ := gd_some hr
      refine va_iald hx hb hK hP 4 0 rfl rfl hi d_N_codeAt_28 ?_
      refine lv_if_ne hx hb d_N_codeAt_29 rfl (fun hc => ?_) (fun hc => ?_)
      · rw [if_neg hc] at hr
        refine lv_aload_n hx hb d_N_codeAt_41 rfl (lv_at hl 0 rfl) ?_
        refine va_get (D := D) (ci := 6) (v := .ref (qN 4)) (C := R_N) (T := T_N) (N := 24) hx hb hts in_N hown hK hP 0 rfl rfl 9 (by decide) (hts _ kw_453) (fun _ h9 => h9) rfl d_N_codeAt_42 ?_
        refine lv_iload_n hx hb d_N_codeAt_45 rfl (lv_at hl 1 rfl) ?_
        obtain ⟨hi, hr⟩ := gd_some hr
        refine va_iald hx hb hK hP 4 0 rfl rfl hi d_N_codeAt_46 ?_
        refine lv_bipush (v := (7 : Int32)) hx hb d_N_codeAt_47 (by decide) ?_
        refine lv_icmp_ne hx hb d_N_codeAt_49 rfl (fun hc => ?_) (fun hc => ?_)
        · rw [if_neg hc] at hr
          refine lv_aload_n hx hb d_N_codeAt_71 rfl (lv_at hl 0 rfl) ?_
          refine va_get (D := D) (ci := 6) (v := .ref (qN 4)) (C := R_N) (T := T_N) (N := 24) hx hb hts in_N hown hK hP 0 rfl rfl 9 (by decide) (hts _ kw_453) (fun _ h9 => h9) rfl d_N_codeAt_72 ?_
          refine lv_iload_n hx hb d_N_codeAt_75 rfl (lv_at hl 1 rfl) ?_
          obtain ⟨hi, hr⟩ := gd_some hr
          refine va_iald hx hb hK hP 4 0 rfl rfl hi d_N_codeAt_76 ?_
          obtain ⟨r2, hr2, hr⟩ := ob hr
          refine z_ci (ws := (W_N kI kZ qN N_p N_n N_words N_hasDirect N_compiled N_size N_outcome N_done N_values N_word N_table N_direct N_op N_a N_b N_x N_there N_vOp N_vA N_vB N_vX N_needed N_valueOf N_place)) (wc := ([] : va_W)) (wr := (W_N kI kZ qN N_p N_n N_words N_hasDirect N_compiled N_size N_outcome N_done N_values N_word N_table N_direct N_op N_a N_b N_x N_there N_vOp N_vA N_vB N_vX N_needed N_valueOf N_place)) (w1 := ([] : va_W)) (w2 := (W_N kI kZ qN N_p N_n N_words N_hasDirect N_compiled N_size N_outcome N_done N_values N_word N_table N_direct N_op N_a N_b N_x N_there N_vOp N_vA N_vB N_vX N_needed N_valueOf N_place)) (va_runS (As := [.int (N_op a1.toNatClampNeg)]) (rest := []) ⟨hx, hb, hml, hown, hts⟩ (c_N_isTwo l D kI kZ (N_op a1.toNatClampNeg) r2 hr2 H.size) (z_cwS hts mw_N_isTwo kw_551 ⟨by rw [hR]; exact Nat.le_of_ble_eq_true rfl, by rw [hR]; exact Nat.le_of_ble_eq_true rfl⟩) (z_pre hK hP hD hN [] (by decide) rfl) rfl rfl hl.1 rfl (lv_room (Nat.le_of_ble_eq_true rfl)) d_N_codeAt_77 ⟨Nat.zero_le _, Nat.zero_le _⟩) hP hD hS hA [] [0, 1, 2, 3, 4, 5, 6, 7, 8, 9, 10, 11, 12, 13, 14, 15] [0, 1, 2, 3, 4, 5, 6, 7, 8, 9, 10, 11, 12, 13, 14, 15] rfl rfl (by decide) (by decide) rfl (by decide) (fun H locs hP hD hS => ?_)
          refine lv_if_eq hx hb d_N_codeAt_80 rfl (fun hc => ?_) (fun hc => ?_)
          · rw [if_pos hc] at hr
            refine lv_aload_n hx hb d_N_codeAt_102 rfl (lv_at hl 0 rfl) ?_
            refine va_get (D := D) (ci := 6) (v := .ref (qN 4)) (C := R_N) (T := T_N) (N := 24) hx hb hts in_N hown hK hP 0 rfl rfl 9 (by decide) (hts _ kw_453) (fun _ h9 => h9) rfl d_N_codeAt_103 ?_
            refine lv_iload_n hx hb d_N_codeAt_106 rfl (lv_at hl 1 rfl) ?_
            obtain ⟨hi, hr⟩ := gd_some hr
            refine va_iald hx hb hK hP 4 0 rfl rfl hi d_N_codeAt_107 ?_
            refine lv_bipush (v := (6 : Int32)) hx hb d_N_codeAt_108 (by decide) ?_
            refine lv_icmp_ne hx hb d_N_codeAt_110 rfl (fun hc => ?_) (fun hc => ?_)
            · rw [if_neg hc] at hr
              refine lv_iconst (v := (0 : Int32)) hx hb d_N_codeAt_125 (by decide) ?_
              exact hB126 (0 : Int32) _ _ _ hl hP hD hS hr
            · rw [if_pos hc] at hr
              refine lv_bipush (v := (100 : Int32)) hx hb d_N_codeAt_113 (by decide) ?_
              refine lv_aload_n hx hb d_N_codeAt_115 rfl (lv_at hl 0 rfl) ?_
              refine va_get (D := D) (ci := 6) (v := .ref (qN 5)) (C := R_N) (T := T_N) (N := 24) hx hb hts in_N hown hK hP 0 rfl rfl 10 (by decide) (hts _ kw_454) (fun _ h9 => h9) rfl d_N_codeAt_116 ?_
              refine lv_iload_n hx hb d_N_codeAt_119 rfl (lv_at hl 1 rfl) ?_
              obtain ⟨hi, hr⟩ := gd_some hr
              refine va_iald hx hb hK hP 5 0 rfl rfl hi d_N_codeAt_120 ?_
              refine lv_imul hx hb d_N_codeAt_121 ?_
              refine lv_goto hx hb d_N_codeAt_122 rfl ?_
              exact hB126 ((100 : Int32) * (N_a a1.toNatClampNeg)) _ _ _ hl hP hD hS hr
          · rw [if_neg hc] at hr
            refine lv_bipush (v := (100 : Int32)) hx hb d_N_codeAt_83 (by decide) ?_
            refine lv_aload_n hx hb d_N_codeAt_85 rfl (lv_at hl 0 rfl) ?_
            refine va_get (D := D) (ci := 6) (v := .ref (qN 5)) (C := R_N) (T := T_N) (N := 24) hx hb hts in_N hown hK hP 0 rfl rfl 10 (by decide) (hts _ kw_454) (fun _ h9 => h9) rfl d_N_codeAt_86 ?_
            refine lv_iload_n hx hb d_N_codeAt_89 rfl (lv_at hl 1 rfl) ?_
            obtain ⟨hi, hr⟩ := gd_some hr
            refine va_iald hx hb hK hP 5 0 rfl rfl hi d_N_codeAt_90 ?_
            refine lv_imul hx hb d_N_codeAt_91 ?_
            refine lv_aload_n hx hb d_N_codeAt_92 rfl (lv_at hl 0 rfl) ?_
            refine va_get (D := D) (ci := 6) (v := .ref (qN 6)) (C := R_N) (T := T_N) (N := 24) hx hb hts in_N hown hK hP 0 rfl rfl 11 (by decide) (hts _ kw_455) (fun _ h9 => h9) rfl d_N_codeAt_93 ?_
            refine lv_iload_n hx hb d_N_codeAt_96 rfl (lv_at hl 1 rfl) ?_
            obtain ⟨hi, hr⟩ := gd_some hr
            refine va_iald hx hb hK hP 6 0 rfl rfl hi d_N_codeAt_97 ?_
            refine lv_iadd hx hb d_N_codeAt_98 ?_
            refine lv_goto hx hb d_N_codeAt_99 rfl ?_
            exact hB126 (((100 : Int32) * (N_a a1.toNatClampNeg)) + (N_b a1.toNatClampNeg)) _ _ _ hl hP hD hS hr
        · rw [if_pos hc] at hr
          refine lv_bipush (v := (100 : Int32)) hx hb d_N_codeAt_52 (by decide) ?_
          refine lv_aload_n hx hb d_N_codeAt_54 rfl (lv_at hl 0 rfl) ?_
          refine va_get (D := D) (ci := 6) (v := .ref (qN 5)) (C := R_N) (T := T_N) (N := 24) hx hb hts in_N hown hK hP 0 rfl rfl 10 (by decide) (hts _ kw_454) (fun _ h9 => h9) rfl d_N_codeAt_55 ?_
          refine lv_iload_n hx hb d_N_codeAt_58 rfl (lv_at hl 1 rfl) ?_
          obtain ⟨hi, hr⟩ := gd_some hr
          refine va_iald hx hb hK hP 5 0 rfl rfl hi d_N_codeAt_59 ?_
          refine lv_imul hx hb d_N_codeAt_60 ?_
          refine lv_aload_n hx hb d_N_codeAt_61 rfl (lv_at hl 0 rfl) ?_
          refine va_get (D := D) (ci := 6) (v := .ref (qN 7)) (C := R_N) (T := T_N) (N := 24) hx hb hts in_N hown hK hP 0 rfl rfl 12 (by decide) (hts _ kw_456) (fun _ h9 => h9) rfl d_N_codeAt_62 ?_
          refine lv_iload_n hx hb d_N_codeAt_65 rfl (lv_at hl 1 rfl) ?_
          obtain ⟨hi, hr⟩ := gd_some hr
          refine va_iald hx hb hK hP 7 0 rfl rfl hi d_N_codeAt_66 ?_
          refine lv_iadd hx hb d_N_codeAt_67 ?_
          refine lv_goto hx hb d_N_codeAt_68 rfl ?_
          exact hB126 (((100 : Int32) * (N_a a1.toNatClampNeg)) + (N_x a1.toNatClampNeg)) _ _ _ hl hP hD hS hr
      · rw [if_pos hc] at hr
        refine lv_aload_n hx hb d_N_codeAt_32 rfl (lv_at hl 0 rfl) ?_
        refine va_get (D := D) (ci := 6) (v := .ref (qN 7)) (C := R_N) (T := T_N) (N := 24) hx hb hts in_N hown hK hP 0 rfl rfl 12 (by decide) (hts _ kw_456) (fun _ h9 => h9) rfl d_N_codeAt_33 ?_
        refine lv_iload_n hx hb d_N_codeAt_36 rfl (lv_at hl 1 rfl) ?_
        obtain ⟨hi, hr⟩ := gd_some hr
        refine va_iald hx hb hK hP 7 0 rfl rfl hi d_N_codeAt_37 ?_
        refine lv_goto hx hb d_N_codeAt_38 rfl ?_
        exact hB126 (N_x a1.toNatClampNeg) _ _ _ hl hP hD hS hr
    · rw [if_pos hc] at hr
      refine lv_iconst (v := (-1 : Int32)) hx hb d_N_codeAt_21 (by decide) ?_
      obtain rfl := Option.some.inj hr
      exact hQ _ _ _ _ _ d_N_codeAt_22 rfl rfl hP hD hS
set_option maxHeartbeats 4000000 in
set_option maxRecDepth 100000 in
theorem c_N_codeSize (l : Launch) (D : va_G) (kI kZ : ClassId) (qN : Nat → Nat) (N_p N_n N_words N_hasDirect N_compiled N_size N_outcome N_done N_values : Int32) (N_word N_table N_direct N_op N_a N_b N_x N_there N_vOp N_vA N_vB N_vX N_needed N_valueOf N_place : Nat → Int32)  (res : Int32) (hr : f_N_codeSize N_compiled N_size = some res) : zMi l D kI kZ y_N_codeSize prog_8_method_35_code 1 ((some .int)) 0 0 [.ref (qN 0)] (W_N kI kZ qN N_p N_n N_words N_hasDirect N_compiled N_size N_outcome N_done N_values N_word N_table N_direct N_op N_a N_b N_x N_there N_vOp N_vA N_vB N_vX N_needed N_valueOf N_place) (W_N kI kZ qN N_p N_n N_words N_hasDirect N_compiled N_size N_outcome N_done N_values N_word N_table N_direct N_op N_a N_b N_x N_there N_vOp N_vA N_vB N_vX N_needed N_valueOf N_place) res := by
  refine zMi.of (by decide +kernel) (Nat.le_of_ble_eq_true rfl) ?_
  intro p e R s m args below meth c Q A hR hx hb hml hts hown hA hK hN hQ
  have hown : s.vm.findClass "SquareCodeModel" = some m.cls := hown
  intro ls H hl hP hD hS
  have hl : lv_has ls 1 [(0, .ref (qN 0))] := hl
  rw [f_N_codeSize] at hr
  refine lv_aload_n hx hb d_N_codeSize_0 rfl (lv_at hl 0 rfl) ?_
  refine va_get (D := D) (ci := 6) (v := .int N_compiled) (C := R_N) (T := T_N) (N := 24) hx hb hts in_N hown hK hP 0 rfl rfl 7 (by decide) (hts _ kw_451) (fun _ h9 => h9) rfl d_N_codeSize_1 ?_
  refine lv_if_eq hx hb d_N_codeSize_4 rfl (fun hc => ?_) (fun hc => ?_)
  · rw [if_pos hc] at hr
    refine lv_iconst (v := (-1 : Int32)) hx hb d_N_codeSize_14 (by decide) ?_
    obtain rfl := Option.some.inj hr
    exact hQ _ _ _ _ _ d_N_codeSize_15 rfl rfl hP hD hS
  · rw [if_neg hc] at hr
    refine lv_aload_n hx hb d_N_codeSize_7 rfl (lv_at hl 0 rfl) ?_
    refine va_get (D := D) (ci := 6) (v := .int N_size) (C := R_N) (T := T_N) (N := 24) hx hb hts in_N hown hK hP 0 rfl rfl 8 (by decide) (hts _ kw_452) (fun _ h9 => h9) rfl d_N_codeSize_8 ?_
    refine lv_goto hx hb d_N_codeSize_11 rfl ?_
    obtain rfl := Option.some.inj hr
    exact hQ _ _ _ _ _ d_N_codeSize_15 rfl rfl hP hD hS
set_option maxHeartbeats 4000000 in
set_option maxRecDepth 100000 in
theorem c_N_products (l : Launch) (D : va_G) (kI kZ : ClassId) (qN : Nat → Nat) (N_p N_n N_words N_hasDirect N_compiled N_size N_outcome N_done N_values : Int32) (N_word N_table N_direct N_op N_a N_b N_x N_there N_vOp N_vA N_vB N_vX N_needed N_valueOf N_place : Nat → Int32)  (res : Int32) (hr : f_N_products N_compiled N_size N_op = some res) : zMi l D kI kZ y_N_products prog_8_method_36_code 3 ((some .int)) 0 0 [.ref (qN 0)] (W_N kI kZ qN N_p N_n N_words N_hasDirect N_compiled N_size N_outcome N_done N_values N_word N_table N_direct N_op N_a N_b N_x N_there N_vOp N_vA N_vB N_vX N_needed N_valueOf N_place) (W_N kI kZ qN N_p N_n N_words N_hasDirect N_compiled N_size N_outcome N_done N_values N_word N_table N_direct N_op N_a N_b N_x N_there N_vOp N_vA N_vB N_vX N_needed N_valueOf N_place) res := by
  refine zMi.of (by decide +kernel) (Nat.le_of_ble_eq_true rfl) ?_
  intro p e R s m args below meth c Q A hR hx hb hml hts hown hA hK hN hQ
  have hown : s.vm.findClass "SquareCodeModel" = some m.cls := hown
  have hB4 : ∀ (fu : Nat) (v1 v2 : Int32) (H : Heap) (locs : List Loc) (ls : Array Slot), lv_has ls 3 [(0, .ref (qN 0)), (1, .int v1), (2, .int v2)] → va_P D zCl (W_N kI kZ qN N_p N_n N_words N_hasDirect N_compiled N_size N_outcome N_done N_values N_word N_table N_direct N_op N_a N_b N_x N_there N_vOp N_vA N_vB N_vX N_needed N_valueOf N_place) H → va_D A (W_N kI kZ qN N_p N_n N_words N_hasDirect N_compiled N_size N_outcome N_done N_values N_word N_table N_direct N_op N_a N_b N_x N_there N_vOp N_vA N_vB N_vX N_needed N_valueOf N_place) → va_S A s.heap H locs → f_N_products_4 N_compiled N_size N_op fu v1 v2 = some res → W p l e R s m args below meth c H locs 0 0 Q (F0 m 4 ls []) := by
    intro  fu
    induction fu with
    | zero => intro v1 v2 H locs ls hl hP hD hS hr; exact absurd hr (by rw [f_N_products_4]; exact fun h => by cases h)
    | succ fu ih =>
      intro v1 v2 H locs ls hl hP hD hS hr
      rw [f_N_products_4] at hr
      refine lv_iload_n hx hb d_N_products_4 rfl (lv_at hl 2 rfl) ?_
      refine lv_aload_n hx hb d_N_products_5 rfl (lv_at hl 0 rfl) ?_
      refine va_get (D := D) (ci := 6) (v := .int N_size) (C := R_N) (T := T_N) (N := 24) hx hb hts in_N hown hK hP 0 rfl rfl 8 (by decide) (hts _ kw_452) (fun _ h9 => h9) rfl d_N_products_6 ?_
      refine lv_icmp_ge hx hb d_N_products_9 rfl (fun hc => ?_) (fun hc => ?_)
      · rw [if_pos hc] at hr
        refine lv_aload_n hx hb d_N_products_36 rfl (lv_at hl 0 rfl) ?_
        refine va_get (D := D) (ci := 6) (v := .int N_compiled) (C := R_N) (T := T_N) (N := 24) hx hb hts in_N hown hK hP 0 rfl rfl 7 (by decide) (hts _ kw_451) (fun _ h9 => h9) rfl d_N_products_37 ?_
        refine lv_if_eq hx hb d_N_products_40 rfl (fun hc => ?_) (fun hc => ?_)
        · rw [if_pos hc] at hr
          refine lv_iconst (v := (-1 : Int32)) hx hb d_N_products_47 (by decide) ?_
          obtain rfl := Option.some.inj hr
          exact hQ _ _ _ _ _ d_N_products_48 rfl rfl hP hD hS
        · rw [if_neg hc] at hr
          refine lv_iload_n hx hb d_N_products_43 rfl (lv_at hl 1 rfl) ?_
          refine lv_goto hx hb d_N_products_44 rfl ?_
          obtain rfl := Option.some.inj hr
          exact hQ _ _ _ _ _ d_N_products_48 rfl rfl hP hD hS
      · rw [if_neg hc] at hr
        refine lv_aload_n hx hb d_N_products_12 rfl (lv_at hl 0 rfl) ?_
        refine va_get (D := D) (ci := 6) (v := .ref (qN 4)) (C := R_N) (T := T_N) (N := 24) hx hb hts in_N hown hK hP 0 rfl rfl 9 (by decide) (hts _ kw_453) (fun _ h9 => h9) rfl d_N_products_13 ?_
        refine lv_iload_n hx hb d_N_products_16 rfl (lv_at hl 2 rfl) ?_
        obtain ⟨hi, hr⟩ := gd_some hr
        refine va_iald hx hb hK hP 4 0 rfl rfl hi d_N_products_17 ?_
        refine lv_iconst (v := (5 : Int32)) hx hb d_N_products_18 (by decide) ?_
        refine lv_icmp_ne hx hb d_N_products_19 rfl (fun hc => ?_) (fun hc => ?_)
        · rw [if_neg hc] at hr
          refine lv_iload_n hx hb d_N_products_28 rfl (lv_at hl 1 rfl) ?_
          refine lv_istore_n (lv' := [(1, .int v1), (0, .ref (qN 0)), (2, .int v2)]) hx hb d_N_products_29 rfl hl (by decide) rfl (fun ls hl => ?_)
          refine lv_iinc (k := 2) (v := (v2 + (1 : Int32))) (lv' := [(2, .int (v2 + (1 : Int32))), (1, .int v1), (0, .ref (qN 0))]) hx hb d_N_products_30 hl rfl (congrArg (fun z => v2 + z) (by decide : Int32.ofInt 1 = (1 : Int32))) (by decide) rfl (fun ls hl => ?_)
          refine lv_goto hx hb d_N_products_33 rfl ?_
          exact ih v1 (v2 + (1 : Int32)) _ _ _ (lv_sub hl [2, 1, 0] rfl) hP hD hS hr
        · rw [if_pos hc] at hr
          refine lv_iload_n hx hb d_N_products_22 rfl (lv_at hl 1 rfl) ?_
          refine lv_iconst (v := (1 : Int32)) hx hb d_N_products_23 (by decide) ?_
          refine lv_iadd hx hb d_N_products_24 ?_
          refine lv_goto hx hb d_N_products_25 rfl ?_
          obtain ⟨v1_1, ev1_1, hr⟩ := nm_some hr
          refine z_top ev1_1 ?_
          refine lv_istore_n (lv' := [(1, .int v1_1), (0, .ref (qN 0)), (2, .int v2)]) hx hb d_N_products_29 rfl hl (by decide) rfl (fun ls hl => ?_)
          refine lv_iinc (k := 2) (v := (v2 + (1 : Int32))) (lv' := [(2, .int (v2 + (1 : Int32))), (1, .int v1_1), (0, .ref (qN 0))]) hx hb d_N_products_30 hl rfl (congrArg (fun z => v2 + z) (by decide : Int32.ofInt 1 = (1 : Int32))) (by decide) rfl (fun ls hl => ?_)
          refine lv_goto hx hb d_N_products_33 rfl ?_
          exact ih v1_1 (v2 + (1 : Int32)) _ _ _ (lv_sub hl [2, 1, 0] rfl) hP hD hS hr
  intro ls H hl hP hD hS
  have hl : lv_has ls 3 [(0, .ref (qN 0))] := hl
  rw [f_N_products] at hr
  refine lv_iconst (v := (0 : Int32)) hx hb d_N_products_0 (by decide) ?_
  refine lv_istore_n (lv' := [(1, .int (0 : Int32)), (0, .ref (qN 0))]) hx hb d_N_products_1 rfl hl (by decide) rfl (fun ls hl => ?_)
  refine lv_iconst (v := (0 : Int32)) hx hb d_N_products_2 (by decide) ?_
  refine lv_istore_n (lv' := [(2, .int (0 : Int32)), (1, .int (0 : Int32)), (0, .ref (qN 0))]) hx hb d_N_products_3 rfl hl (by decide) rfl (fun ls hl => ?_)
  exact hB4 zFU (0 : Int32) (0 : Int32) _ _ _ (lv_sub hl [2, 1, 0] rfl) hP hD hS hr
