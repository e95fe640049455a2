set_option maxHeartbeats 4000000 in
set_option maxRecDepth 100000 in
theorem c_N_turned (l : Launch) (D : va_G) (kI kZ : ClassId) (qN : Nat → Nat) (N_p N_n N_words N_hasDirect N_compiled N_size N_outcome N_done N_values : Int32) (N_word N_table N_direct N_op N_a N_b N_x N_there N_vOp N_vA N_vB N_vX N_needed N_valueOf N_place : Nat → Int32) (a1 : Int32) (res : Int32 × Int32 × (Nat → Int32) × (Nat → Int32) × (Nat → Int32) × (Nat → Int32) × (Nat → Int32)) (hr : f_N_turned N_values N_vOp N_vA N_vB N_vX N_needed a1 = some res) : zMi l D kI kZ y_N_turned prog_8_method_27_code 2 ((some .int)) 1 25 [.ref (qN 0), .int a1] (W_N kI kZ qN N_p N_n N_words N_hasDirect N_compiled N_size N_outcome N_done N_values N_word N_table N_direct N_op N_a N_b N_x N_there N_vOp N_vA N_vB N_vX N_needed N_valueOf N_place) (W_N kI kZ qN N_p N_n N_words N_hasDirect N_compiled N_size N_outcome N_done (res.2.1) N_word N_table N_direct N_op N_a N_b N_x N_there (res.2.2.1) (res.2.2.2.1) (res.2.2.2.2.1) (res.2.2.2.2.2.1) (res.2.2.2.2.2.2) N_valueOf N_place) (res.1) := by
  refine zMi.of (by decide +kernel) (Nat.le_of_ble_eq_true rfl) ?_
  intro p e R s m args below meth c Q A hR hx hb hml hts hown hA hK hN hQ
  have hown : s.vm.findClass "SquareCodeModel" = some m.cls := hown
  intro ls H hl hP hD hS
  have hl : lv_has ls 2 [(0, .ref (qN 0)), (1, .int a1)] := hl
  rw [f_N_turned] at hr
  refine lv_aload_n hx hb d_N_turned_0 rfl (lv_at hl 0 rfl) ?_
  refine va_get (D := D) (ci := 6) (v := .ref (qN 9)) (C := R_N) (T := T_N) (N := 24) hx hb hts in_N hown hK hP 0 rfl rfl 17 (by decide) (hts _ kw_461) (fun _ h9 => h9) rfl d_N_turned_1 ?_
  refine lv_iload_n hx hb d_N_turned_4 rfl (lv_at hl 1 rfl) ?_
  obtain ⟨hi, hr⟩ := gd_some hr
  refine va_iald hx hb hK hP 9 0 rfl rfl hi d_N_turned_5 ?_
  refine lv_iconst (v := (1 : Int32)) hx hb d_N_turned_6 (by decide) ?_
  refine lv_icmp_eq hx hb d_N_turned_7 rfl (fun hc => ?_) (fun hc => ?_)
  · rw [if_pos hc] at hr
    refine lv_iload_n hx hb d_N_turned_20 rfl (lv_at hl 1 rfl) ?_
    obtain rfl := Option.some.inj hr
    exact hQ _ _ _ _ _ d_N_turned_21 rfl rfl hP hD hS
  · rw [if_neg hc] at hr
    refine lv_aload_n hx hb d_N_turned_10 rfl (lv_at hl 0 rfl) ?_
    refine va_get (D := D) (ci := 6) (v := .ref (qN 9)) (C := R_N) (T := T_N) (N := 24) hx hb hts in_N hown hK hP 0 rfl rfl 17 (by decide) (hts _ kw_461) (fun _ h9 => h9) rfl d_N_turned_11 ?_
    refine lv_iload_n hx hb d_N_turned_14 rfl (lv_at hl 1 rfl) ?_
    obtain ⟨hi, hr⟩ := gd_some hr
    refine va_iald hx hb hK hP 9 0 rfl rfl hi d_N_turned_15 ?_
    refine lv_iconst (v := (2 : Int32)) hx hb d_N_turned_16 (by decide) ?_
    refine lv_icmp_ne hx hb d_N_turned_17 rfl (fun hc => ?_) (fun hc => ?_)
    · rw [if_neg hc] at hr
      refine lv_aload_n hx hb d_N_turned_22 rfl (lv_at hl 0 rfl) ?_
      refine va_get (D := D) (ci := 6) (v := .ref (qN 9)) (C := R_N) (T := T_N) (N := 24) hx hb hts in_N hown hK hP 0 rfl rfl 17 (by decide) (hts _ kw_461) (fun _ h9 => h9) rfl d_N_turned_23 ?_
      refine lv_iload_n hx hb d_N_turned_26 rfl (lv_at hl 1 rfl) ?_
      obtain ⟨hi, hr⟩ := gd_some hr
      refine va_iald hx hb hK hP 9 0 rfl rfl hi d_N_turned_27 ?_
      refine lv_bipush (v := (6 : Int32)) hx hb d_N_turned_28 (by decide) ?_
      refine lv_icmp_ne hx hb d_N_turned_30 rfl (fun hc => ?_) (fun hc => ?_)
      · rw [if_neg hc] at hr
        refine lv_aload_n hx hb d_N_turned_42 rfl (lv_at hl 0 rfl) ?_
        refine lv_bipush (v := (6 : Int32)) hx hb d_N_turned_43 (by decide) ?_
        refine lv_iload_n hx hb d_N_turned_45 rfl (lv_at hl 1 rfl) ?_
        refine lv_iconst (v := (-1 : Int32)) hx hb d_N_turned_46 (by decide) ?_
        refine lv_iconst (v := (0 : Int32)) hx hb d_N_turned_47 (by decide) ?_
        obtain ⟨r1, hr1, hr⟩ := ob hr
        refine z_ci (ws := (W_N kI kZ qN N_p N_n N_words N_hasDirect N_compiled N_size N_outcome N_done N_values N_word N_table N_direct N_op N_a N_b N_x N_there N_vOp N_vA N_vB N_vX N_needed N_valueOf N_place)) (wc := (W_N kI kZ qN N_p N_n N_words N_hasDirect N_compiled N_size N_outcome N_done N_values N_word N_table N_direct N_op N_a N_b N_x N_there N_vOp N_vA N_vB N_vX N_needed N_valueOf N_place)) (wr := ([] : va_W)) (w1 := (W_N kI kZ qN N_p N_n N_words N_hasDirect N_compiled N_size N_outcome N_done r1.2.1 N_word N_table N_direct N_op N_a N_b N_x N_there r1.2.2.1 r1.2.2.2.1 r1.2.2.2.2.1 r1.2.2.2.2.2.1 r1.2.2.2.2.2.2 N_valueOf N_place)) (w2 := (W_N kI kZ qN N_p N_n N_words N_hasDirect N_compiled N_size N_outcome N_done r1.2.1 N_word N_table N_direct N_op N_a N_b N_x N_there r1.2.2.1 r1.2.2.2.1 r1.2.2.2.2.1 r1.2.2.2.2.2.1 r1.2.2.2.2.2.2 N_valueOf N_place)) (va_runV (As := [.int (6 : Int32), .int a1, .int (-1 : Int32), .int (0 : Int32)]) (rest := []) ⟨hx, hb, hml, hown, hts⟩ (c_N_value l D kI kZ qN N_p N_n N_words N_hasDirect N_compiled N_size N_outcome N_done N_values N_word N_table N_direct N_op N_a N_b N_x N_there N_vOp N_vA N_vB N_vX N_needed N_valueOf N_place (6 : Int32) a1 (-1 : Int32) (0 : Int32) r1 hr1 H.size) (z_cwV hts mw_N_value kw_603 ⟨by rw [hR]; exact Nat.le_of_ble_eq_true rfl, by rw [hR]; exact Nat.le_of_ble_eq_true rfl⟩) (z_preV (ci := 6) hK hP hD hN rfl (he := (rfl : _[0]? = _)) [0, 1, 2, 3, 4, 5, 6, 7, 8, 9, 10, 11, 12, 13, 14, 15] (by decide) rfl) rfl rfl hl.1 rfl (lv_room (Nat.le_of_ble_eq_true rfl)) d_N_turned_48 ⟨Nat.zero_le _, Nat.zero_le _⟩) hP hD hS hA [0, 1, 2, 3, 4, 5, 6, 7, 8, 9, 10, 11, 12, 13, 14, 15] [] [0, 1, 2, 3, 4, 5, 6, 7, 8, 9, 10, 11, 12, 13, 14, 15] rfl rfl (by decide) (by decide) rfl (by decide) (fun H locs hP hD hS => ?_)
        obtain rfl := Option.some.inj hr
        exact hQ _ _ _ _ _ d_N_turned_51 rfl rfl hP hD hS
      · rw [if_pos hc] at hr
        refine lv_aload_n hx hb d_N_turned_33 rfl (lv_at hl 0 rfl) ?_
        refine va_get (D := D) (ci := 6) (v := .ref (qN 10)) (C := R_N) (T := T_N) (N := 24) hx hb hts in_N hown hK hP 0 rfl rfl 18 (by decide) (hts _ kw_462) (fun _ h9 => h9) rfl d_N_turned_34 ?_
        refine lv_iload_n hx hb d_N_turned_37 rfl (lv_at hl 1 rfl) ?_
        obtain ⟨hi, hr⟩ := gd_some hr
        refine va_iald hx hb hK hP 10 0 rfl rfl hi d_N_turned_38 ?_
        refine lv_goto hx hb d_N_turned_39 rfl ?_
        obtain rfl := Option.some.inj hr
        exact hQ _ _ _ _ _ d_N_turned_51 rfl rfl hP hD hS
    · rw [if_pos hc] at hr
      refine lv_iload_n hx hb d_N_turned_20 rfl (lv_at hl 1 rfl) ?_
      obtain rfl := Option.some.inj hr
      exact hQ _ _ _ _ _ d_N_turned_21 rfl rfl hP hD hS
set_option maxHeartbeats 4000000 in
set_option maxRecDepth 100000 in
theorem c_N_scaled (l : Launch) (D : va_G) (kI kZ : ClassId) (qN : Nat → Nat) (N_p N_n N_words N_hasDirect N_compiled N_size N_outcome N_done N_values : Int32) (N_word N_table N_direct N_op N_a N_b N_x N_there N_vOp N_vA N_vB N_vX N_needed N_valueOf N_place : Nat → Int32) (a1 a2 : Int32) (res : Int32 × Int32 × (Nat → Int32) × (Nat → Int32) × (Nat → Int32) × (Nat → Int32) × (Nat → Int32)) (hr : f_N_scaled N_p N_values N_vOp N_vA N_vB N_vX N_needed a1 a2 = some res) : zMi l D kI kZ y_N_scaled prog_8_method_28_code 5 ((some .int)) 2 45 [.ref (qN 0), .int a1, .int a2] (W_N kI kZ qN N_p N_n N_words N_hasDirect N_compiled N_size N_outcome N_done N_values N_word N_table N_direct N_op N_a N_b N_x N_there N_vOp N_vA N_vB N_vX N_needed N_valueOf N_place) (W_N kI kZ qN N_p N_n N_words N_hasDirect N_compiled N_size N_outcome N_done (res.2.1) N_word N_table N_direct N_op N_a N_b N_x N_there (res.2.2.1) (res.2.2.2.1) (res.2.2.2.2.1) (res.2.2.2.2.2.1) (res.2.2.2.2.2.2) N_valueOf N_place) (res.1) := by
  refine zMi.of (by decide +kernel) (Nat.le_of_ble_eq_true rfl) ?_
  intro p e R s m args below meth c Q A hR hx hb hml hts hown hA hK hN hQ
  have hown : s.vm.findClass "SquareCodeModel" = some m.cls := hown
  have hB21 : ∀ (N_values : Int32) (N_vOp N_vA N_vB N_vX N_needed : Nat → Int32)   (H : Heap) (locs : List Loc) (ls : Array Slot), lv_has ls 5 [(0, .ref (qN 0))] → va_P D zCl (W_N kI kZ qN N_p N_n N_words N_hasDirect N_compiled N_size N_outcome N_done N_values N_word N_table N_direct N_op N_a N_b N_x N_there N_vOp N_vA N_vB N_vX N_needed N_valueOf N_place) H → va_D A (W_N kI kZ qN N_p N_n N_words N_hasDirect N_compiled N_size N_outcome N_done N_values N_word N_table N_direct N_op N_a N_b N_x N_there N_vOp N_vA N_vB N_vX N_needed N_valueOf N_place) → va_S A s.heap H locs → f_N_scaled_21 N_values N_vOp N_vA N_vB N_vX N_needed = some res → W p l e R s m args below meth c H locs 0 0 Q (F0 m 21 ls []) := by
    intro N_values N_vOp N_vA N_vB N_vX N_needed H locs ls hl hP hD hS hr
    rw [f_N_scaled_21] at hr
    refine lv_aload_n hx hb d_N_scaled_21 rfl (lv_at hl 0 rfl) ?_
    obtain ⟨r1, hr1, hr⟩ := ob hr
    refine z_ci (ws := (W_N kI kZ qN N_p N_n N_words N_hasDirect N_compiled N_size N_outcome N_done N_values N_word N_table N_direct N_op N_a N_b N_x N_there N_vOp N_vA N_vB N_vX N_needed N_valueOf N_place)) (wc := (W_N kI kZ qN N_p N_n N_words N_hasDirect N_compiled N_size N_outcome N_done N_values N_word N_table N_direct N_op N_a N_b N_x N_there N_vOp N_vA N_vB N_vX N_needed N_valueOf N_place)) (wr := ([] : va_W)) (w1 := (W_N kI kZ qN N_p N_n N_words N_hasDirect N_compiled N_size N_outcome N_done r1.2.1 N_word N_table N_direct N_op N_a N_b N_x N_there r1.2.2.1 r1.2.2.2.1 r1.2.2.2.2.1 r1.2.2.2.2.2.1 r1.2.2.2.2.2.2 N_valueOf N_place)) (w2 := (W_N kI kZ qN N_p N_n N_words N_hasDirect N_compiled N_size N_outcome N_done r1.2.1 N_word N_table N_direct N_op N_a N_b N_x N_there r1.2.2.1 r1.2.2.2.1 r1.2.2.2.2.1 r1.2.2.2.2.2.1 r1.2.2.2.2.2.2 N_valueOf N_place)) (va_runV (As := []) (rest := []) ⟨hx, hb, hml, hown, hts⟩ (c_N_noughts l D kI kZ qN N_p N_n N_words N_hasDirect N_compiled N_size N_outcome N_done N_values N_word N_table N_direct N_op N_a N_b N_x N_there N_vOp N_vA N_vB N_vX N_needed N_valueOf N_place r1 hr1 H.size) (z_cwV hts mw_N_noughts kw_611 ⟨by rw [hR]; exact Nat.le_of_ble_eq_true rfl, by rw [hR]; exact Nat.le_of_ble_eq_true rfl⟩) (z_preV (ci := 6) hK hP hD hN rfl (he := (rfl : _[0]? = _)) [0, 1, 2, 3, 4, 5, 6, 7, 8, 9, 10, 11, 12, 13, 14, 15] (by decide) rfl) rfl rfl hl.1 rfl (lv_room (Nat.le_of_ble_eq_true rfl)) d_N_scaled_22 ⟨Nat.zero_le _, Nat.zero_le _⟩) hP hD hS hA [0, 1, 2, 3, 4, 5, 6, 7, 8, 9, 10, 11, 12, 13, 14, 15] [] [0, 1, 2, 3, 4, 5, 6, 7, 8, 9, 10, 11, 12, 13, 14, 15] rfl rfl (by decide) (by decide) rfl (by decide) (fun H locs hP hD hS => ?_)
    obtain rfl := Option.some.inj hr
    exact hQ _ _ _ _ _ d_N_scaled_25 rfl rfl hP hD hS
  intro ls H hl hP hD hS
  have hl : lv_has ls 5 [(0, .ref (qN 0)), (1, .int a1), (2, .int a2)] := hl
  rw [f_N_scaled] at hr
  refine lv_iload_n hx hb d_N_scaled_0 rfl (lv_at hl 2 rfl) ?_
  refine lv_aload_n hx hb d_N_scaled_1 rfl (lv_at hl 0 rfl) ?_
  refine va_get (D := D) (ci := 6) (v := .int N_p) (C := R_N) (T := T_N) (N := 24) hx hb hts in_N hown hK hP 0 rfl rfl 0 (by decide) (hts _ kw_444) (fun _ h9 => h9) rfl d_N_scaled_2 ?_
  obtain ⟨hz, hr⟩ := nz_some hr
  refine z_irem hx hb d_N_scaled_5 hz ?_
  obtain ⟨v3_2, ev3_2, hr⟩ := nm_some hr
  refine z_top ev3_2 ?_
  refine lv_istore_n (lv' := [(3, .int v3_2), (0, .ref (qN 0)), (1, .int a1), (2, .int a2)]) hx hb d_N_scaled_6 rfl hl (by decide) rfl (fun ls hl => ?_)
  refine lv_iload_n hx hb d_N_scaled_7 rfl (lv_at hl 0 rfl) ?_
  refine lv_if_eq hx hb d_N_scaled_8 rfl (fun hc => ?_) (fun hc => ?_)
  · rw [if_pos hc] at hr
    exact hB21 N_values N_vOp N_vA N_vB N_vX N_needed _ _ _ (lv_sub hl [1] rfl) hP hD hS hr
  · rw [if_neg hc] at hr
    refine lv_aload_n hx hb d_N_scaled_11 rfl (lv_at hl 1 rfl) ?_
    refine va_get (D := D) (ci := 6) (v := .ref (qN 9)) (C := R_N) (T := T_N) (N := 24) hx hb hts in_N hown hK hP 0 rfl rfl 17 (by decide) (hts _ kw_461) (fun _ h9 => h9) rfl d_N_scaled_12 ?_
    refine lv_iload_n hx hb d_N_scaled_15 rfl (lv_at hl 2 rfl) ?_
    obtain ⟨hi, hr⟩ := gd_some hr
    refine va_iald hx hb hK hP 9 0 rfl rfl hi d_N_scaled_16 ?_
    refine lv_iconst (v := (2 : Int32)) hx hb d_N_scaled_17 (by decide) ?_
    refine lv_icmp_ne hx hb d_N_scaled_18 rfl (fun hc => ?_) (fun hc => ?_)
    · rw [if_neg hc] at hr
      refine lv_iload_n hx hb d_N_scaled_26 rfl (lv_at hl 0 rfl) ?_
      refine lv_iconst (v := (1 : Int32)) hx hb d_N_scaled_27 (by decide) ?_
      refine lv_icmp_ne hx hb d_N_scaled_28 rfl (fun hc => ?_) (fun hc => ?_)
      · rw [if_neg hc] at hr
        refine lv_aload_n hx hb d_N_scaled_33 rfl (lv_at hl 1 rfl) ?_
        refine va_get (D := D) (ci := 6) (v := .ref (qN 9)) (C := R_N) (T := T_N) (N := 24) hx hb hts in_N hown hK hP 0 rfl rfl 17 (by decide) (hts _ kw_461) (fun _ h9 => h9) rfl d_N_scaled_34 ?_
        refine lv_iload_n hx hb d_N_scaled_37 rfl (lv_at hl 2 rfl) ?_
        obtain ⟨hi, hr⟩ := gd_some hr
        refine va_iald hx hb hK hP 9 0 rfl rfl hi d_N_scaled_38 ?_
        refine lv_bipush (v := (7 : Int32)) hx hb d_N_scaled_39 (by decide) ?_
        refine lv_icmp_eq hx hb d_N_scaled_41 rfl (fun hc => ?_) (fun hc => ?_)
        · rw [if_pos hc] at hr
          refine lv_aload_n hx hb d_N_scaled_54 rfl (lv_at hl 1 rfl) ?_
          refine va_get (D := D) (ci := 6) (v := .ref (qN 12)) (C := R_N) (T := T_N) (N := 24) hx hb hts in_N hown hK hP 0 rfl rfl 20 (by decide) (hts _ kw_464) (fun _ h9 => h9) rfl d_N_scaled_55 ?_
          refine lv_iload_n hx hb d_N_scaled_58 rfl (lv_at hl 2 rfl) ?_
          obtain ⟨hi, hr⟩ := gd_some hr
          refine va_iald hx hb hK hP 12 0 rfl rfl hi d_N_scaled_59 ?_
          refine lv_iload_n hx hb d_N_scaled_60 rfl (lv_at hl 0 rfl) ?_
          refine lv_imul hx hb d_N_scaled_61 ?_
          refine lv_aload_n hx hb d_N_scaled_62 rfl (lv_at hl 1 rfl) ?_
          refine va_get (D := D) (ci := 6) (v := .int N_p) (C := R_N) (T := T_N) (N := 24) hx hb hts in_N hown hK hP 0 rfl rfl 0 (by decide) (hts _ kw_444) (fun _ h9 => h9) rfl d_N_scaled_63 ?_
          obtain ⟨hz, hr⟩ := nz_some hr
          refine z_irem hx hb d_N_scaled_66 hz ?_
          obtain ⟨v4_3, ev4_3, hr⟩ := nm_some hr
          refine z_top ev4_3 ?_
          refine lv_istore (lv' := [(4, .int v4_3), (3, .int v3_2), (0, .ref (qN 0)), (1, .int a1), (2, .int a2)]) hx hb d_N_scaled_67 hl (by decide) rfl (fun ls hl => ?_)
          refine lv_iload hx hb d_N_scaled_69 (lv_at hl 0 rfl) ?_
          refine lv_if_ne hx hb d_N_scaled_71 rfl (fun hc => ?_) (fun hc => ?_)
          · rw [if_neg hc] at hr
            refine lv_iload hx hb d_N_scaled_81 (lv_at hl 0 rfl) ?_
            refine lv_iconst (v := (1 : Int32)) hx hb d_N_scaled_83 (by decide) ?_
            refine lv_icmp_ne hx hb d_N_scaled_84 rfl (fun hc => ?_) (fun hc => ?_)
            · rw [if_neg hc] at hr
              refine lv_aload_n hx hb d_N_scaled_96 rfl (lv_at hl 2 rfl) ?_
              refine lv_bipush (v := (7 : Int32)) hx hb d_N_scaled_97 (by decide) ?_
              refine lv_aload_n hx hb d_N_scaled_99 rfl (lv_at hl 2 rfl) ?_
              refine va_get (D := D) (ci := 6) (v := .ref (qN 10)) (C := R_N) (T := T_N) (N := 24) hx hb hts in_N hown hK hP 0 rfl rfl 18 (by decide) (hts _ kw_462) (fun _ h9 => h9) rfl d_N_scaled_100 ?_
              refine lv_iload_n hx hb d_N_scaled_103 rfl (lv_at hl 3 rfl) ?_
              obtain ⟨hi, hr⟩ := gd_some hr
              refine va_iald hx hb hK hP 10 0 rfl rfl hi d_N_scaled_104 ?_
              refine lv_iconst (v := (-1 : Int32)) hx hb d_N_scaled_105 (by decide) ?_
              refine lv_iload hx hb d_N_scaled_106 (lv_at hl 0 rfl) ?_
              obtain ⟨r4, hr4, hr⟩ := ob hr
              refine z_ci (ws := (W_N kI kZ qN N_p N_n N_words N_hasDirect N_compiled N_size N_outcome N_done N_values N_word N_table N_direct N_op N_a N_b N_x N_there N_vOp N_vA N_vB N_vX N_needed N_valueOf N_place)) (wc := (W_N kI kZ qN N_p N_n N_words N_hasDirect N_compiled N_size N_outcome N_done N_values N_word N_table N_direct N_op N_a N_b N_x N_there N_vOp N_vA N_vB N_vX N_needed N_valueOf N_place)) (wr := ([] : va_W)) (w1 := (W_N kI kZ qN N_p N_n N_words N_hasDirect N_compiled N_size N_outcome N_done r4.2.1 N_word N_table N_direct N_op N_a N_b N_x N_there r4.2.2.1 r4.2.2.2.1 r4.2.2.2.2.1 r4.2.2.2.2.2.1 r4.2.2.2.2.2.2 N_valueOf N_place)) (w2 := (W_N kI kZ qN N_p N_n N_words N_hasDirect N_compiled N_size N_outcome N_done r4.2.1 N_word N_table N_direct N_op N_a N_b N_x N_there r4.2.2.1 r4.2.2.2.1 r4.2.2.2.2.1 r4.2.2.2.2.2.1 r4.2.2.2.2.2.2 N_valueOf N_place)) (va_runV (As := [.int (7 : Int32), .int (N_vA a1.toNatClampNeg), .int (-1 : Int32), .int v4_3]) (rest := []) ⟨hx, hb, hml, hown, hts⟩ (c_N_value l D kI kZ qN N_p N_n N_words N_hasDirect N_compiled N_size N_outcome N_done N_values N_word N_table N_direct N_op N_a N_b N_x N_there N_vOp N_vA N_vB N_vX N_needed N_valueOf N_place (7 : Int32) (N_vA a1.toNatClampNeg) (-1 : Int32) v4_3 r4 hr4 H.size) (z_cwV hts mw_N_value kw_603 ⟨by rw [hR]; exact Nat.le_of_ble_eq_true rfl, by rw [hR]; exact Nat.le_of_ble_eq_true rfl⟩) (z_preV (ci := 6) hK hP hD hN rfl (he := (rfl : _[0]? = _)) [0, 1, 2, 3, 4, 5, 6, 7, 8, 9, 10, 11, 12, 13, 14, 15] (by decide) rfl) rfl rfl hl.1 rfl (lv_room (Nat.le_of_ble_eq_true rfl)) d_N_scaled_108 ⟨Nat.zero_le _, Nat.zero_le _⟩) hP hD hS hA [0, 1, 2, 3, 4, 5, 6, 7, 8, 9, 10, 11, 12, 13, 14, 15] [] [0, 1, 2, 3, 4, 5, 6, 7, 8, 9, 10, 11, 12, 13, 14, 15] rfl rfl (by decide) (by decide) rfl (by decide) (fun H locs hP hD hS => ?_)
              obtain rfl := Option.some.inj hr
              exact hQ _ _ _ _ _ d_N_scaled_111 rfl rfl hP hD hS
            · rw [if_pos hc] at hr
              refine lv_aload_n hx hb d_N_scaled_87 rfl (lv_at hl 2 rfl) ?_
              refine va_get (D := D) (ci := 6) (v := .ref (qN 10)) (C := R_N) (T := T_N) (N := 24) hx hb hts in_N hown hK hP 0 rfl rfl 18 (by decide) (hts _ kw_462) (fun _ h9 => h9) rfl d_N_scaled_88 ?_
              refine lv_iload_n hx hb d_N_scaled_91 rfl (lv_at hl 3 rfl) ?_
              obtain ⟨hi, hr⟩ := gd_some hr
              refine va_iald hx hb hK hP 10 0 rfl rfl hi d_N_scaled_92 ?_
              refine lv_goto hx hb d_N_scaled_93 rfl ?_
              obtain rfl := Option.some.inj hr
              exact hQ _ _ _ _ _ d_N_scaled_111 rfl rfl hP hD hS
          · rw [if_pos hc] at hr
            refine lv_aload_n hx hb d_N_scaled_74 rfl (lv_at hl 2 rfl) ?_
            obtain ⟨r5, hr5, hr⟩ := ob hr
            refine z_ci (ws := (W_N kI kZ qN N_p N_n N_words N_hasDirect N_compiled N_size N_outcome N_done N_values N_word N_table N_direct N_op N_a N_b N_x N_there N_vOp N_vA N_vB N_vX N_needed N_valueOf N_place)) (wc := (W_N kI kZ qN N_p N_n N_words N_hasDirect N_compiled N_size N_outcome N_done N_values N_word N_table N_direct N_op N_a N_b N_x N_there N_vOp N_vA N_vB N_vX N_needed N_valueOf N_place)) (wr := ([] : va_W)) (w1 := (W_N kI kZ qN N_p N_n N_words N_hasDirect N_compiled N_size N_outcome N_done r5.2.1 N_word N_table N_direct N_op N_a N_b N_x N_there r5.2.2.1 r5.2.2.2.1 r5.2.2.2.2.1 r5.2.2.2.2.2.1 r5.2.2.2.2.2.2 N_valueOf N_place)) (w2 := (W_N kI kZ qN N_p N_n N_words N_hasDirect N_compiled N_size N_outcome N_done r5.2.1 N_word N_table N_direct N_op N_a N_b N_x N_there r5.2.2.1 r5.2.2.2.1 r5.2.2.2.2.1 r5.2.2.2.2.2.1 r5.2.2.2.2.2.2 N_valueOf N_place)) (va_runV (As := []) (rest := []) ⟨hx, hb, hml, hown, hts⟩ (c_N_noughts l D kI kZ qN N_p N_n N_words N_hasDirect N_compiled N_size N_outcome N_done N_values N_word N_table N_direct N_op N_a N_b N_x N_there N_vOp N_vA N_vB N_vX N_needed N_valueOf N_place r5 hr5 H.size) (z_cwV hts mw_N_noughts kw_611 ⟨by rw [hR]; exact Nat.le_of_ble_eq_true rfl, by rw [hR]; exact Nat.le_of_ble_eq_true rfl⟩) (z_preV (ci := 6) hK hP hD hN rfl (he := (rfl : _[0]? = _)) [0, 1, 2, 3, 4, 5, 6, 7, 8, 9, 10, 11, 12, 13, 14, 15] (by decide) rfl) rfl rfl hl.1 rfl (lv_room (Nat.le_of_ble_eq_true rfl)) d_N_scaled_75 ⟨Nat.zero_le _, Nat.zero_le _⟩) hP hD hS hA [0, 1, 2, 3, 4, 5, 6, 7, 8, 9, 10, 11, 12, 13, 14, 15] [] [0, 1, 2, 3, 4, 5, 6, 7, 8, 9, 10, 11, 12, 13, 14, 15] rfl rfl (by decide) (by decide) rfl (by decide) (fun H locs hP hD hS => ?_)
            refine lv_goto hx hb d_N_scaled_78 rfl ?_
            obtain rfl := Option.some.inj hr
            exact hQ _ _ _ _ _ d_N_scaled_111 rfl rfl hP hD hS
        · rw [if_neg hc] at hr
          refine lv_aload_n hx hb d_N_scaled_44 rfl (lv_at hl 1 rfl) ?_
          refine lv_bipush (v := (7 : Int32)) hx hb d_N_scaled_45 (by decide) ?_
          refine lv_iload_n hx hb d_N_scaled_47 rfl (lv_at hl 2 rfl) ?_
          refine lv_iconst (v := (-1 : Int32)) hx hb d_N_scaled_48 (by decide) ?_
          refine lv_iload_n hx hb d_N_scaled_49 rfl (lv_at hl 0 rfl) ?_
          obtain ⟨r6, hr6, hr⟩ := ob hr
          refine z_ci (ws := (W_N kI kZ qN N_p N_n N_words N_hasDirect N_compiled N_size N_outcome N_done N_values N_word N_table N_direct N_op N_a N_b N_x N_there N_vOp N_vA N_vB N_vX N_needed N_valueOf N_place)) (wc := (W_N kI kZ qN N_p N_n N_words N_hasDirect N_compiled N_size N_outcome N_done N_values N_word N_table N_direct N_op N_a N_b N_x N_there N_vOp N_vA N_vB N_vX N_needed N_valueOf N_place)) (wr := ([] : va_W)) (w1 := (W_N kI kZ qN N_p N_n N_words N_hasDirect N_compiled N_size N_outcome N_done r6.2.1 N_word N_table N_direct N_op N_a N_b N_x N_there r6.2.2.1 r6.2.2.2.1 r6.2.2.2.2.1 r6.2.2.2.2.2.1 r6.2.2.2.2.2.2 N_valueOf N_place)) (w2 := (W_N kI kZ qN N_p N_n N_words N_hasDirect N_compiled N_size N_outcome N_done r6.2.1 N_word N_table N_direct N_op N_a N_b N_x N_there r6.2.2.1 r6.2.2.2.1 r6.2.2.2.2.1 r6.2.2.2.2.2.1 r6.2.2.2.2.2.2 N_valueOf N_place)) (va_runV (As := [.int (7 : Int32), .int a1, .int (-1 : Int32), .int v3_2]) (rest := []) ⟨hx, hb, hml, hown, hts⟩ (c_N_value l D kI kZ qN N_p N_n N_words N_hasDirect N_compiled N_size N_outcome N_done N_values N_word N_table N_direct N_op N_a N_b N_x N_there N_vOp N_vA N_vB N_vX N_needed N_valueOf N_place (7 : Int32) a1 (-1 : Int32) v3_2 r6 hr6 H.size) (z_cwV hts mw_N_value kw_603 ⟨by rw [hR]; exact Nat.le_of_ble_eq_true rfl, by rw [hR]; exact Nat.le_of_ble_eq_true rfl⟩) (z_preV (ci := 6) hK hP hD hN rfl (he := (rfl : _[0]? = _)) [0, 1, 2, 3, 4, 5, 6, 7, 8, 9, 10, 11, 12, 13, 14, 15] (by decide) rfl) rfl rfl hl.1 rfl (lv_room (Nat.le_of_ble_eq_true rfl)) d_N_scaled_50 ⟨Nat.zero_le _, Nat.zero_le _⟩) hP hD hS hA [0, 1, 2, 3, 4, 5, 6, 7, 8, 9, 10, 11, 12, 13, 14, 15] [] [0, 1, 2, 3, 4, 5, 6, 7, 8, 9, 10, 11, 12, 13, 14, 15] rfl rfl (by decide) (by decide) rfl (by decide) (fun H locs hP hD hS => ?_)
          obtain rfl := Option.some.inj hr
          exact hQ _ _ _ _ _ d_N_scaled_53 rfl rfl hP hD hS
      · rw [if_pos hc] at hr
        refine lv_iload_n hx hb d_N_scaled_31 rfl (lv_at hl 2 rfl) ?_
        obtain rfl := Option.some.inj hr
        exact hQ _ _ _ _ _ d_N_scaled_32 rfl rfl hP hD hS
    · rw [if_pos hc] at hr
      exact hB21 N_values N_vOp N_vA N_vB N_vX N_needed _ _ _ (lv_sub hl [1] rfl) hP hD hS hr
set_option maxHeartbeats 4000000 in
set_option maxRecDepth 100000 in
theorem c_N_valueOfInstruction (l : Launch) (D : va_G) (kI kZ : ClassId) (qN : Nat → Nat) (N_p N_n N_words N_hasDirect N_compiled N_size N_outcome N_done N_values : Int32) (N_word N_table N_direct N_op N_a N_b N_x N_there N_vOp N_vA N_vB N_vX N_needed N_valueOf N_place : Nat → Int32) (a1 : Int32) (res : Int32 × Int32 × (Nat → Int32) × (Nat → Int32) × (Nat → Int32) × (Nat → Int32) × (Nat → Int32)) (hr : f_N_valueOfInstruction N_p N_op N_a N_b N_x N_values N_vOp N_vA N_vB N_vX N_needed N_valueOf a1 = some res) : zMi l D kI kZ y_N_valueOfInstruction prog_8_method_29_code 4 ((some .int)) 3 69 [.ref (qN 0), .int a1] (W_N kI kZ qN N_p N_n N_words N_hasDirect N_compiled N_size N_outcome N_done N_values N_word N_table N_direct N_op N_a N_b N_x N_there N_vOp N_vA N_vB N_vX N_needed N_valueOf N_place) (W_N kI kZ qN N_p N_n N_words N_hasDirect N_compiled N_size N_outcome N_done (res.2.1) N_word N_table N_direct N_op N_a N_b N_x N_there (res.2.2.1) (res.2.2.2.1) (res.2.2.2.2.1) (res.2.2.2.2.2.1) (res.2.2.2.2.2.2) N_valueOf N_place) (res.1) := by
  refine zMi.of (by decide +kernel) (Nat.le_of_ble_eq_true rfl) ?_
  intro p e R s m args below meth c Q A hR hx hb hml hts hown hA hK hN hQ
  have hown : s.vm.findClass "SquareCodeModel" = some m.cls := hown
  intro ls H hl hP hD hS
  have hl : lv_has ls 4 [(0, .ref (qN 0)), (1, .int a1)] := hl
  rw [f_N_valueOfInstruction] at hr
  refine lv_aload_n hx hb d_N_valueOfInstruction_0 rfl (lv_at hl 0 rfl) ?_
  refine va_get (D := D) (ci := 6) (v := .ref (qN 14)) (C := R_N) (T := T_N) (N := 24) hx hb hts in_N hown hK hP 0 rfl rfl 22 (by decide) (hts _ kw_466) (fun _ h9 => h9) rfl d_N_valueOfInstruction_1 ?_
  refine lv_aload_n hx hb d_N_valueOfInstruction_4 rfl (lv_at hl 0 rfl) ?_
  refine va_get (D := D) (ci := 6) (v := .ref (qN 5)) (C := R_N) (T := T_N) (N := 24) hx hb hts in_N hown hK hP 0 rfl rfl 10 (by decide) (hts _ kw_454) (fun _ h9 => h9) rfl d_N_valueOfInstruction_5 ?_
  refine lv_iload_n hx hb d_N_valueOfInstruction_8 rfl (lv_at hl 1 rfl) ?_
  obtain ⟨hi, hr⟩ := gd_some hr
  refine va_iald hx hb hK hP 5 0 rfl rfl hi d_N_valueOfInstruction_9 ?_
  obtain ⟨hi, hr⟩ := gd_some hr
  refine va_iald hx hb hK hP 14 0 rfl rfl hi d_N_valueOfInstruction_10 ?_
  obtain ⟨v2_1, ev2_1, hr⟩ := nm_some hr
  refine z_top ev2_1 ?_
  refine lv_istore_n (lv' := [(2, .int v2_1), (0, .ref (qN 0)), (1, .int a1)]) hx hb d_N_valueOfInstruction_11 rfl hl (by decide) rfl (fun ls hl => ?_)
  refine lv_aload_n hx hb d_N_valueOfInstruction_12 rfl (lv_at hl 1 rfl) ?_
  refine va_get (D := D) (ci := 6) (v := .ref (qN 14)) (C := R_N) (T := T_N) (N := 24) hx hb hts in_N hown hK hP 0 rfl rfl 22 (by decide) (hts _ kw_466) (fun _ h9 => h9) rfl d_N_valueOfInstruction_13 ?_
  refine lv_aload_n hx hb d_N_valueOfInstruction_16 rfl (lv_at hl 1 rfl) ?_
  refine va_get (D := D) (ci := 6) (v := .ref (qN 6)) (C := R_N) (T := T_N) (N := 24) hx hb hts in_N hown hK hP 0 rfl rfl 11 (by decide) (hts _ kw_455) (fun _ h9 => h9) rfl d_N_valueOfInstruction_17 ?_
  refine lv_iload_n hx hb d_N_valueOfInstruction_20 rfl (lv_at hl 2 rfl) ?_
  obtain ⟨hi, hr⟩ := gd_some hr
  refine va_iald hx hb hK hP 6 0 rfl rfl hi d_N_valueOfInstruction_21 ?_
  obtain ⟨hi, hr⟩ := gd_some hr
  refine va_iald hx hb hK hP 14 0 rfl rfl hi d_N_valueOfInstruction_22 ?_
  obtain ⟨v3_2, ev3_2, hr⟩ := nm_some hr
  refine z_top ev3_2 ?_
  refine lv_istore_n (lv' := [(3, .int v3_2), (2, .int v2_1), (0, .ref (qN 0)), (1, .int a1)]) hx hb d_N_valueOfInstruction_23 rfl hl (by decide) rfl (fun ls hl => ?_)
  refine lv_aload_n hx hb d_N_valueOfInstruction_24 rfl (lv_at hl 2 rfl) ?_
  refine va_get (D := D) (ci := 6) (v := .ref (qN 4)) (C := R_N) (T := T_N) (N := 24) hx hb hts in_N hown hK hP 0 rfl rfl 9 (by decide) (hts _ kw_453) (fun _ h9 => h9) rfl d_N_valueOfInstruction_25 ?_
  refine lv_iload_n hx hb d_N_valueOfInstruction_28 rfl (lv_at hl 3 rfl) ?_
  obtain ⟨hi, hr⟩ := gd_some hr
  refine va_iald hx hb hK hP 4 0 rfl rfl hi d_N_valueOfInstruction_29 ?_
  refine lv_iconst (v := (3 : Int32)) hx hb d_N_valueOfInstruction_30 (by decide) ?_
  refine lv_icmp_ne hx hb d_N_valueOfInstruction_31 rfl (fun hc => ?_) (fun hc => ?_)
  · rw [if_neg hc] at hr
    refine lv_aload_n hx hb d_N_valueOfInstruction_41 rfl (lv_at hl 2 rfl) ?_
    refine va_get (D := D) (ci := 6) (v := .ref (qN 4)) (C := R_N) (T := T_N) (N := 24) hx hb hts in_N hown hK hP 0 rfl rfl 9 (by decide) (hts _ kw_453) (fun _ h9 => h9) rfl d_N_valueOfInstruction_42 ?_
    refine lv_iload_n hx hb d_N_valueOfInstruction_45 rfl (lv_at hl 3 rfl) ?_
    obtain ⟨hi, hr⟩ := gd_some hr
    refine va_iald hx hb hK hP 4 0 rfl rfl hi d_N_valueOfInstruction_46 ?_
    refine lv_iconst (v := (4 : Int32)) hx hb d_N_valueOfInstruction_47 (by decide) ?_
    refine lv_icmp_ne hx hb d_N_valueOfInstruction_48 rfl (fun hc => ?_) (fun hc => ?_)
    · rw [if_neg hc] at hr
      refine lv_aload_n hx hb d_N_valueOfInstruction_58 rfl (lv_at hl 2 rfl) ?_
      refine va_get (D := D) (ci := 6) (v := .ref (qN 4)) (C := R_N) (T := T_N) (N := 24) hx hb hts in_N hown hK hP 0 rfl rfl 9 (by decide) (hts _ kw_453) (fun _ h9 => h9) rfl d_N_valueOfInstruction_59 ?_
      refine lv_iload_n hx hb d_N_valueOfInstruction_62 rfl (lv_at hl 3 rfl) ?_
      obtain ⟨hi, hr⟩ := gd_some hr
      refine va_iald hx hb hK hP 4 0 rfl rfl hi d_N_valueOfInstruction_63 ?_
      refine lv_iconst (v := (5 : Int32)) hx hb d_N_valueOfInstruction_64 (by decide) ?_
      refine lv_icmp_ne hx hb d_N_valueOfInstruction_65 rfl (fun hc => ?_) (fun hc => ?_)
      · rw [if_neg hc] at hr
        refine lv_aload_n hx hb d_N_valueOfInstruction_75 rfl (lv_at hl 2 rfl) ?_
        refine va_get (D := D) (ci := 6) (v := .ref (qN 4)) (C := R_N) (T := T_N) (N := 24) hx hb hts in_N hown hK hP 0 rfl rfl 9 (by decide) (hts _ kw_453) (fun _ h9 => h9) rfl d_N_valueOfInstruction_76 ?_
        refine lv_iload_n hx hb d_N_valueOfInstruction_79 rfl (lv_at hl 3 rfl) ?_
        obtain ⟨hi, hr⟩ := gd_some hr
        refine va_iald hx hb hK hP 4 0 rfl rfl hi d_N_valueOfInstruction_80 ?_
        refine lv_bipush (v := (6 : Int32)) hx hb d_N_valueOfInstruction_81 (by decide) ?_
        refine lv_icmp_ne hx hb d_N_valueOfInstruction_83 rfl (fun hc => ?_) (fun hc => ?_)
        · rw [if_neg hc] at hr
          refine lv_aload_n hx hb d_N_valueOfInstruction_92 rfl (lv_at hl 2 rfl) ?_
          refine va_get (D := D) (ci := 6) (v := .ref (qN 4)) (C := R_N) (T := T_N) (N := 24) hx hb hts in_N hown hK hP 0 rfl rfl 9 (by decide) (hts _ kw_453) (fun _ h9 => h9) rfl d_N_valueOfInstruction_93 ?_
          refine lv_iload_n hx hb d_N_valueOfInstruction_96 rfl (lv_at hl 3 rfl) ?_
          obtain ⟨hi, hr⟩ := gd_some hr
          refine va_iald hx hb hK hP 4 0 rfl rfl hi d_N_valueOfInstruction_97 ?_
          refine lv_bipush (v := (7 : Int32)) hx hb d_N_valueOfInstruction_98 (by decide) ?_
          refine lv_icmp_ne hx hb d_N_valueOfInstruction_100 rfl (fun hc => ?_) (fun hc => ?_)
          · rw [if_neg hc] at hr
            refine lv_aload_n hx hb d_N_valueOfInstruction_117 rfl (lv_at hl 2 rfl) ?_
            refine lv_aload_n hx hb d_N_valueOfInstruction_118 rfl (lv_at hl 2 rfl) ?_
            refine va_get (D := D) (ci := 6) (v := .ref (qN 4)) (C := R_N) (T := T_N) (N := 24) hx hb hts in_N hown hK hP 0 rfl rfl 9 (by decide) (hts _ kw_453) (fun _ h9 => h9) rfl d_N_valueOfInstruction_119 ?_
            refine lv_iload_n hx hb d_N_valueOfInstruction_122 rfl (lv_at hl 3 rfl) ?_
            obtain ⟨hi, hr⟩ := gd_some hr
            refine va_iald hx hb hK hP 4 0 rfl rfl hi d_N_valueOfInstruction_123 ?_
            refine lv_iconst (v := (-1 : Int32)) hx hb d_N_valueOfInstruction_124 (by decide) ?_
            refine lv_iconst (v := (-1 : Int32)) hx hb d_N_valueOfInstruction_125 (by decide) ?_
            refine lv_aload_n hx hb d_N_valueOfInstruction_126 rfl (lv_at hl 2 rfl) ?_
            refine va_get (D := D) (ci := 6) (v := .ref (qN 7)) (C := R_N) (T := T_N) (N := 24) hx hb hts in_N hown hK hP 0 rfl rfl 12 (by decide) (hts _ kw_456) (fun _ h9 => h9) rfl d_N_valueOfInstruction_127 ?_
            refine lv_iload_n hx hb d_N_valueOfInstruction_130 rfl (lv_at hl 3 rfl) ?_
            obtain ⟨hi, hr⟩ := gd_some hr
            refine va_iald hx hb hK hP 7 0 rfl rfl hi d_N_valueOfInstruction_131 ?_
            obtain ⟨r3, hr3, hr⟩ := ob hr
            refine z_ci (ws := (W_N kI kZ qN N_p N_n N_words N_hasDirect N_compiled N_size N_outcome N_done N_values N_word N_table N_direct N_op N_a N_b N_x N_there N_vOp N_vA N_vB N_vX N_needed N_valueOf N_place)) (wc := (W_N kI kZ qN N_p N_n N_words N_hasDirect N_compiled N_size N_outcome N_done N_values N_word N_table N_direct N_op N_a N_b N_x N_there N_vOp N_vA N_vB N_vX N_needed N_valueOf N_place)) (wr := ([] : va_W)) (w1 := (W_N kI kZ qN N_p N_n N_words N_hasDirect N_compiled N_size N_outcome N_done r3.2.1 N_word N_table N_direct N_op N_a N_b N_x N_there r3.2.2.1 r3.2.2.2.1 r3.2.2.2.2.1 r3.2.2.2.2.2.1 r3.2.2.2.2.2.2 N_valueOf N_place)) (w2 := (W_N kI kZ qN N_p N_n N_words N_hasDirect N_compiled N_size N_outcome N_done r3.2.1 N_word N_table N_direct N_op N_a N_b N_x N_there r3.2.2.1 r3.2.2.2.1 r3.2.2.2.2.1 r3.2.2.2.2.2.1 r3.2.2.2.2.2.2 N_valueOf N_place)) (va_runV (As := [.int (N_op a1.toNatClampNeg), .int (-1 : Int32), .int (-1 : Int32), .int (N_x a1.toNatClampNeg)]) (rest := []) ⟨hx, hb, hml, hown, hts⟩ (c_N_value l D kI kZ qN N_p N_n N_words N_hasDirect N_compiled N_size N_outcome N_done N_values N_word N_table N_direct N_op N_a N_b N_x N_there N_vOp N_vA N_vB N_vX N_needed N_valueOf N_place (N_op a1.toNatClampNeg) (-1 : Int32) (-1 : Int32) (N_x a1.toNatClampNeg) r3 hr3 H.size) (z_cwV hts mw_N_value kw_603 ⟨by rw [hR]; exact Nat.le_of_ble_eq_true rfl, by rw [hR]; exact Nat.le_of_ble_eq_true rfl⟩) (z_preV (ci := 6) hK hP hD hN rfl (he := (rfl : _[0]? = _)) [0, 1, 2, 3, 4, 5, 6, 7, 8, 9, 10, 11, 12, 13, 14, 15] (by decide) rfl) rfl rfl hl.1 rfl (lv_room (Nat.le_of_ble_eq_true rfl)) d_N_valueOfInstruction_132 ⟨Nat.zero_le _, Nat.zero_le _⟩) hP hD hS hA [0, 1, 2, 3, 4, 5, 6, 7, 8, 9, 10, 11, 12, 13, 14, 15] [] [0, 1, 2, 3, 4, 5, 6, 7, 8, 9, 10, 11, 12, 13, 14, 15] rfl rfl (by decide) (by decide) rfl (by decide) (fun H locs hP hD hS => ?_)
            obtain rfl := Option.some.inj hr
            exact hQ _ _ _ _ _ d_N_valueOfInstruction_135 rfl rfl hP hD hS
          · rw [if_pos hc] at hr
            refine lv_aload_n hx hb d_N_valueOfInstruction_103 rfl (lv_at hl 2 rfl) ?_
            refine lv_iload_n hx hb d_N_valueOfInstruction_104 rfl (lv_at hl 1 rfl) ?_
            refine lv_aload_n hx hb d_N_valueOfInstruction_105 rfl (lv_at hl 2 rfl) ?_
            refine va_get (D := D) (ci := 6) (v := .ref (qN 7)) (C := R_N) (T := T_N) (N := 24) hx hb hts in_N hown hK hP 0 rfl rfl 12 (by decide) (hts _ kw_456) (fun _ h9 => h9) rfl d_N_valueOfInstruction_106 ?_
            refine lv_iload_n hx hb d_N_valueOfInstruction_109 rfl (lv_at hl 3 rfl) ?_
            obtain ⟨hi, hr⟩ := gd_some hr
            refine va_iald hx hb hK hP 7 0 rfl rfl hi d_N_valueOfInstruction_110 ?_
            obtain ⟨r4, hr4, hr⟩ := ob hr
            refine z_ci (ws := (W_N kI kZ qN N_p N_n N_words N_hasDirect N_compiled N_size N_outcome N_done N_values N_word N_table N_direct N_op N_a N_b N_x N_there N_vOp N_vA N_vB N_vX N_needed N_valueOf N_place)) (wc := (W_N kI kZ qN N_p N_n N_words N_hasDirect N_compiled N_size N_outcome N_done N_values N_word N_table N_direct N_op N_a N_b N_x N_there N_vOp N_vA N_vB N_vX N_needed N_valueOf N_place)) (wr := ([] : va_W)) (w1 := (W_N kI kZ qN N_p N_n N_words N_hasDirect N_compiled N_size N_outcome N_done r4.2.1 N_word N_table N_direct N_op N_a N_b N_x N_there r4.2.2.1 r4.2.2.2.1 r4.2.2.2.2.1 r4.2.2.2.2.2.1 r4.2.2.2.2.2.2 N_valueOf N_place)) (w2 := (W_N kI kZ qN N_p N_n N_words N_hasDirect N_compiled N_size N_outcome N_done r4.2.1 N_word N_table N_direct N_op N_a N_b N_x N_there r4.2.2.1 r4.2.2.2.1 r4.2.2.2.2.1 r4.2.2.2.2.2.1 r4.2.2.2.2.2.2 N_valueOf N_place)) (va_runV (As := [.int v2_1, .int (N_x a1.toNatClampNeg)]) (rest := []) ⟨hx, hb, hml, hown, hts⟩ (c_N_scaled l D kI kZ qN N_p N_n N_words N_hasDirect N_compiled N_size N_outcome N_done N_values N_word N_table N_direct N_op N_a N_b N_x N_there N_vOp N_vA N_vB N_vX N_needed N_valueOf N_place v2_1 (N_x a1.toNatClampNeg) r4 hr4 H.size) (z_cwV hts mw_N_scaled kw_623 ⟨by rw [hR]; exact Nat.le_of_ble_eq_true rfl, by rw [hR]; exact Nat.le_of_ble_eq_true rfl⟩) (z_preV (ci := 6) hK hP hD hN rfl (he := (rfl : _[0]? = _)) [0, 1, 2, 3, 4, 5, 6, 7, 8, 9, 10, 11, 12, 13, 14, 15] (by decide) rfl) rfl rfl hl.1 rfl (lv_room (Nat.le_of_ble_eq_true rfl)) d_N_valueOfInstruction_111 ⟨Nat.zero_le _, Nat.zero_le _⟩) hP hD hS hA [0, 1, 2, 3, 4, 5, 6, 7, 8, 9, 10, 11, 12, 13, 14, 15] [] [0, 1, 2, 3, 4, 5, 6, 7, 8, 9, 10, 11, 12, 13, 14, 15] rfl rfl (by decide) (by decide) rfl (by decide) (fun H locs hP hD hS => ?_)
            refine lv_goto hx hb d_N_valueOfInstruction_114 rfl ?_
            obtain rfl := Option.some.inj hr
            exact hQ _ _ _ _ _ d_N_valueOfInstruction_135 rfl rfl hP hD hS
        · rw [if_pos hc] at hr
          refine lv_aload_n hx hb d_N_valueOfInstruction_86 rfl (lv_at hl 2 rfl) ?_
          refine lv_iload_n hx hb d_N_valueOfInstruction_87 rfl (lv_at hl 1 rfl) ?_
          obtain ⟨r5, hr5, hr⟩ := ob hr
          refine z_ci (ws := (W_N kI kZ qN N_p N_n N_words N_hasDirect N_compiled N_size N_outcome N_done N_values N_word N_table N_direct N_op N_a N_b N_x N_there N_vOp N_vA N_vB N_vX N_needed N_valueOf N_place)) (wc := (W_N kI kZ qN N_p N_n N_words N_hasDirect N_compiled N_size N_outcome N_done N_values N_word N_table N_direct N_op N_a N_b N_x N_there N_vOp N_vA N_vB N_vX N_needed N_valueOf N_place)) (wr := ([] : va_W)) (w1 := (W_N kI kZ qN N_p N_n N_words N_hasDirect N_compiled N_size N_outcome N_done r5.2.1 N_word N_table N_direct N_op N_a N_b N_x N_there r5.2.2.1 r5.2.2.2.1 r5.2.2.2.2.1 r5.2.2.2.2.2.1 r5.2.2.2.2.2.2 N_valueOf N_place)) (w2 := (W_N kI kZ qN N_p N_n N_words N_hasDirect N_compiled N_size N_outcome N_done r5.2.1 N_word N_table N_direct N_op N_a N_b N_x N_there r5.2.2.1 r5.2.2.2.1 r5.2.2.2.2.1 r5.2.2.2.2.2.1 r5.2.2.2.2.2.2 N_valueOf N_place)) (va_runV (As := [.int v2_1]) (rest := []) ⟨hx, hb, hml, hown, hts⟩ (c_N_turned l D kI kZ qN N_p N_n N_words N_hasDirect N_compiled N_size N_outcome N_done N_values N_word N_table N_direct N_op N_a N_b N_x N_there N_vOp N_vA N_vB N_vX N_needed N_valueOf N_place v2_1 r5 hr5 H.size) (z_cwV hts mw_N_turned kw_619 ⟨by rw [hR]; exact Nat.le_of_ble_eq_true rfl, by rw [hR]; exact Nat.le_of_ble_eq_true rfl⟩) (z_preV (ci := 6) hK hP hD hN rfl (he := (rfl : _[0]? = _)) [0, 1, 2, 3, 4, 5, 6, 7, 8, 9, 10, 11, 12, 13, 14, 15] (by decide) rfl) rfl rfl hl.1 rfl (lv_room (Nat.le_of_ble_eq_true rfl)) d_N_valueOfInstruction_88 ⟨Nat.zero_le _, Nat.zero_le _⟩) hP hD hS hA [0, 1, 2, 3, 4, 5, 6, 7, 8, 9, 10, 11, 12, 13, 14, 15] [] [0, 1, 2, 3, 4, 5, 6, 7, 8, 9, 10, 11, 12, 13, 14, 15] rfl rfl (by decide) (by decide) rfl (by decide) (fun H locs hP hD hS => ?_)
          obtain rfl := Option.some.inj hr
          exact hQ _ _ _ _ _ d_N_valueOfInstruction_91 rfl rfl hP hD hS
      · rw [if_pos hc] at hr
        refine lv_aload_n hx hb d_N_valueOfInstruction_68 rfl (lv_at hl 2 rfl) ?_
        refine lv_iload_n hx hb d_N_valueOfInstruction_69 rfl (lv_at hl 1 rfl) ?_
        refine lv_iload_n hx hb d_N_valueOfInstruction_70 rfl (lv_at hl 0 rfl) ?_
        obtain ⟨r6, hr6, hr⟩ := ob hr
        refine z_ci (ws := (W_N kI kZ qN N_p N_n N_words N_hasDirect N_compiled N_size N_outcome N_done N_values N_word N_table N_direct N_op N_a N_b N_x N_there N_vOp N_vA N_vB N_vX N_needed N_valueOf N_place)) (wc := (W_N kI kZ qN N_p N_n N_words N_hasDirect N_compiled N_size N_outcome N_done N_values N_word N_table N_direct N_op N_a N_b N_x N_there N_vOp N_vA N_vB N_vX N_needed N_valueOf N_place)) (wr := ([] : va_W)) (w1 := (W_N kI kZ qN N_p N_n N_words N_hasDirect N_compiled N_size N_outcome N_done r6.2.1 N_word N_table N_direct N_op N_a N_b N_x N_there r6.2.2.1 r6.2.2.2.1 r6.2.2.2.2.1 r6.2.2.2.2.2.1 r6.2.2.2.2.2.2 N_valueOf N_place)) (w2 := (W_N kI kZ qN N_p N_n N_words N_hasDirect N_compiled N_size N_outcome N_done r6.2.1 N_word N_table N_direct N_op N_a N_b N_x N_there r6.2.2.1 r6.2.2.2.1 r6.2.2.2.2.1 r6.2.2.2.2.2.1 r6.2.2.2.2.2.2 N_valueOf N_place)) (va_runV (As := [.int v2_1, .int v3_2]) (rest := []) ⟨hx, hb, hml, hown, hts⟩ (c_N_times l D kI kZ qN N_p N_n N_words N_hasDirect N_compiled N_size N_outcome N_done N_values N_word N_table N_direct N_op N_a N_b N_x N_there N_vOp N_vA N_vB N_vX N_needed N_valueOf N_place v2_1 v3_2 r6 hr6 H.size) (z_cwV hts mw_N_times kw_615 ⟨by rw [hR]; exact Nat.le_of_ble_eq_true rfl, by rw [hR]; exact Nat.le_of_ble_eq_true rfl⟩) (z_preV (ci := 6) hK hP hD hN rfl (he := (rfl : _[0]? = _)) [0, 1, 2, 3, 4, 5, 6, 7, 8, 9, 10, 11, 12, 13, 14, 15] (by decide) rfl) rfl rfl hl.1 rfl (lv_room (Nat.le_of_ble_eq_true rfl)) d_N_valueOfInstruction_71 ⟨Nat.zero_le _, Nat.zero_le _⟩) hP hD hS hA [0, 1, 2, 3, 4, 5, 6, 7, 8, 9, 10, 11, 12, 13, 14, 15] [] [0, 1, 2, 3, 4, 5, 6, 7, 8, 9, 10, 11, 12, 13, 14, 15] rfl rfl (by decide) (by decide) rfl (by decide) (fun H locs hP hD hS => ?_)
        obtain rfl := Option.some.inj hr
        exact hQ _ _ _ _ _ d_N_valueOfInstruction_74 rfl rfl hP hD hS
    · rw [if_pos hc] at hr
      refine lv_aload_n hx hb d_N_valueOfInstruction_51 rfl (lv_at hl 2 rfl) ?_
      refine lv_iload_n hx hb d_N_valueOfInstruction_52 rfl (lv_at hl 1 rfl) ?_
      refine lv_iload_n hx hb d_N_valueOfInstruction_53 rfl (lv_at hl 0 rfl) ?_
      obtain ⟨r7, hr7, hr⟩ := ob hr
      refine z_ci (ws := (W_N kI kZ qN N_p N_n N_words N_hasDirect N_compiled N_size N_outcome N_done N_values N_word N_table N_direct N_op N_a N_b N_x N_there N_vOp N_vA N_vB N_vX N_needed N_valueOf N_place)) (wc := (W_N kI kZ qN N_p N_n N_words N_hasDirect N_compiled N_size N_outcome N_done N_values N_word N_table N_direct N_op N_a N_b N_x N_there N_vOp N_vA N_vB N_vX N_needed N_valueOf N_place)) (wr := ([] : va_W)) (w1 := (W_N kI kZ qN N_p N_n N_words N_hasDirect N_compiled N_size N_outcome N_done r7.2.1 N_word N_table N_direct N_op N_a N_b N_x N_there r7.2.2.1 r7.2.2.2.1 r7.2.2.2.2.1 r7.2.2.2.2.2.1 r7.2.2.2.2.2.2 N_valueOf N_place)) (w2 := (W_N kI kZ qN N_p N_n N_words N_hasDirect N_compiled N_size N_outcome N_done r7.2.1 N_word N_table N_direct N_op N_a N_b N_x N_there r7.2.2.1 r7.2.2.2.1 r7.2.2.2.2.1 r7.2.2.2.2.2.1 r7.2.2.2.2.2.2 N_valueOf N_place)) (va_runV (As := [.int v2_1, .int v3_2]) (rest := []) ⟨hx, hb, hml, hown, hts⟩ (c_N_less l D kI kZ qN N_p N_n N_words N_hasDirect N_compiled N_size N_outcome N_done N_values N_word N_table N_direct N_op N_a N_b N_x N_there N_vOp N_vA N_vB N_vX N_needed N_valueOf N_place v2_1 v3_2 r7 hr7 H.size) (z_cwV hts mw_N_less kw_607 ⟨by rw [hR]; exact Nat.le_of_ble_eq_true rfl, by rw [hR]; exact Nat.le_of_ble_eq_true rfl⟩) (z_preV (ci := 6) hK hP hD hN rfl (he := (rfl : _[0]? = _)) [0, 1, 2, 3, 4, 5, 6, 7, 8, 9, 10, 11, 12, 13, 14, 15] (by decide) rfl) rfl rfl hl.1 rfl (lv_room (Nat.le_of_ble_eq_true rfl)) d_N_valueOfInstruction_54 ⟨Nat.zero_le _, Nat.zero_le _⟩) hP hD hS hA [0, 1, 2, 3, 4, 5, 6, 7, 8, 9, 10, 11, 12, 13, 14, 15] [] [0, 1, 2, 3, 4, 5, 6, 7, 8, 9, 10, 11, 12, 13, 14, 15] rfl rfl (by decide) (by decide) rfl (by decide) (fun H locs hP hD hS => ?_)
      obtain rfl := Option.some.inj hr
      exact hQ _ _ _ _ _ d_N_valueOfInstruction_57 rfl rfl hP hD hS
  · rw [if_pos hc] at hr
    refine lv_aload_n hx hb d_N_valueOfInstruction_34 rfl (lv_at hl 2 rfl) ?_
    refine lv_iload_n hx hb d_N_valueOfInstruction_35 rfl (lv_at hl 1 rfl) ?_
    refine lv_iload_n hx hb d_N_valueOfInstruction_36 rfl (lv_at hl 0 rfl) ?_
    obtain ⟨r8, hr8, hr⟩ := ob hr
    refine z_ci (ws := (W_N kI kZ qN N_p N_n N_words N_hasDirect N_compiled N_size N_outcome N_done N_values N_word N_table N_direct N_op N_a N_b N_x N_there N_vOp N_vA N_vB N_vX N_needed N_valueOf N_place)) (wc := (W_N kI kZ qN N_p N_n N_words N_hasDirect N_compiled N_size N_outcome N_done N_values N_word N_table N_direct N_op N_a N_b N_x N_there N_vOp N_vA N_vB N_vX N_needed N_valueOf N_place)) (wr := ([] : va_W)) (w1 := (W_N kI kZ qN N_p N_n N_words N_hasDirect N_compiled N_size N_outcome N_done r8.2.1 N_word N_table N_direct N_op N_a N_b N_x N_there r8.2.2.1 r8.2.2.2.1 r8.2.2.2.2.1 r8.2.2.2.2.2.1 r8.2.2.2.2.2.2 N_valueOf N_place)) (w2 := (W_N kI kZ qN N_p N_n N_words N_hasDirect N_compiled N_size N_outcome N_done r8.2.1 N_word N_table N_direct N_op N_a N_b N_x N_there r8.2.2.1 r8.2.2.2.1 r8.2.2.2.2.1 r8.2.2.2.2.2.1 r8.2.2.2.2.2.2 N_valueOf N_place)) (va_runV (As := [.int v2_1, .int v3_2]) (rest := []) ⟨hx, hb, hml, hown, hts⟩ (c_N_added l D kI kZ qN N_p N_n N_words N_hasDirect N_compiled N_size N_outcome N_done N_values N_word N_table N_direct N_op N_a N_b N_x N_there N_vOp N_vA N_vB N_vX N_needed N_valueOf N_place v2_1 v3_2 r8 hr8 H.size) (z_cwV hts mw_N_added kw_599 ⟨by rw [hR]; exact Nat.le_of_ble_eq_true rfl, by rw [hR]; exact Nat.le_of_ble_eq_true rfl⟩) (z_preV (ci := 6) hK hP hD hN rfl (he := (rfl : _[0]? = _)) [0, 1, 2, 3, 4, 5, 6, 7, 8, 9, 10, 11, 12, 13, 14, 15] (by decide) rfl) rfl rfl hl.1 rfl (lv_room (Nat.le_of_ble_eq_true rfl)) d_N_valueOfInstruction_37 ⟨Nat.zero_le _, Nat.zero_le _⟩) hP hD hS hA [0, 1, 2, 3, 4, 5, 6, 7, 8, 9, 10, 11, 12, 13, 14, 15] [] [0, 1, 2, 3, 4, 5, 6, 7, 8, 9, 10, 11, 12, 13, 14, 15] rfl rfl (by decide) (by decide) rfl (by decide) (fun H locs hP hD hS => ?_)
    obtain rfl := Option.some.inj hr
    exact hQ _ _ _ _ _ d_N_valueOfInstruction_40 rfl rfl hP hD hS
