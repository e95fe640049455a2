set_option maxHeartbeats 4000000 in
set_option maxRecDepth 100000 in
theorem c_N_value (l : Launch) (D : va_G) (kI kZ : ClassId) (qN : Nat → Nat) (N_p N_n N_words N_hasDirect N_compiled N_size N_outcome N_done N_values : Int32) (N_word N_table N_direct N_op N_a N_b N_x N_there N_vOp N_vA N_vB N_vX N_needed N_valueOf N_place : Nat → Int32) (a1 a2 a3 a4 : Int32) (res : Int32 × Int32 × (Nat → Int32) × (Nat → Int32) × (Nat → Int32) × (Nat → Int32) × (Nat → Int32)) (hr : f_N_value N_values N_vOp N_vA N_vB N_vX N_needed a1 a2 a3 a4 = some res) : zMi l D kI kZ y_N_value prog_8_method_22_code 6 ((some .int)) 0 0 [.ref (qN 0), .int a1, .int a2, .int a3, .int a4] (W_N kI kZ qN N_p N_n N_words N_hasDirect N_compiled N_size N_outcome N_done N_values N_word N_table N_direct N_op N_a N_b N_x N_there N_vOp N_vA N_vB N_vX N_needed N_valueOf N_place) (W_N kI kZ qN N_p N_n N_words N_hasDirect N_compiled N_size N_outcome N_done (res.2.1) N_word N_table N_direct N_op N_a N_b N_x N_there (res.2.2.1) (res.2.2.2.1) (res.2.2.2.2.1) (res.2.2.2.2.2.1) (res.2.2.2.2.2.2) N_valueOf N_place) (res.1) := by
  refine zMi.of (by decide +kernel) (Nat.le_of_ble_eq_true rfl) ?_
  intro p e R s m args below meth c Q A hR hx hb hml hts hown hA hK hN hQ
  have hown : s.vm.findClass "SquareCodeModel" = some m.cls := hown
  have hB3 : ∀ (N_values : Int32) (N_vOp N_vA N_vB N_vX N_needed : Nat → Int32)   (fu : Nat) (v5 : Int32) (H : Heap) (locs : List Loc) (ls : Array Slot), lv_has ls 6 [(0, .ref (qN 0)), (1, .int a1), (2, .int a2), (3, .int a3), (4, .int a4), (5, .int v5)] → va_P D zCl (W_N kI kZ qN N_p N_n N_words N_hasDirect N_compiled N_size N_outcome N_done N_values N_word N_table N_direct N_op N_a N_b N_x N_there N_vOp N_vA N_vB N_vX N_needed N_valueOf N_place) H → va_D A (W_N kI kZ qN N_p N_n N_words N_hasDirect N_compiled N_size N_outcome N_done N_values N_word N_table N_direct N_op N_a N_b N_x N_there N_vOp N_vA N_vB N_vX N_needed N_valueOf N_place) → va_S A s.heap H locs → f_N_value_3 a1 a2 a3 a4 N_values N_vOp N_vA N_vB N_vX N_needed fu v5 = some res → W p l e R s m args below meth c H locs 0 0 Q (F0 m 3 ls []) := by
    intro N_values N_vOp N_vA N_vB N_vX N_needed fu
    induction fu with
    | zero => intro v5 H locs ls hl hP hD hS hr; exact absurd hr (by rw [f_N_value_3]; exact fun h => by cases h)
    | succ fu ih =>
      intro v5 H locs ls hl hP hD hS hr
      rw [f_N_value_3] at hr
      refine lv_iload hx hb d_N_value_3 (lv_at hl 5 rfl) ?_
      refine lv_aload_n hx hb d_N_value_5 rfl (lv_at hl 0 rfl) ?_
      refine va_get (D := D) (ci := 6) (v := .int N_values) (C := R_N) (T := T_N) (N := 24) hx hb hts in_N hown hK hP 0 rfl rfl 16 (by decide) (hts _ kw_460) (fun _ h9 => h9) rfl d_N_value_6 ?_
      refine lv_icmp_ge hx hb d_N_value_9 rfl (fun hc => ?_) (fun hc => ?_)
      · rw [if_pos hc] at hr
        refine lv_aload_n hx hb d_N_value_66 rfl (lv_at hl 0 rfl) ?_
        refine va_get (D := D) (ci := 6) (v := .ref (qN 9)) (C := R_N) (T := T_N) (N := 24) hx hb hts in_N hown hK hP 0 rfl rfl 17 (by decide) (hts _ kw_461) (fun _ h9 => h9) rfl d_N_value_67 ?_
        refine lv_aload_n hx hb d_N_value_70 rfl (lv_at hl 0 rfl) ?_
        refine va_get (D := D) (ci := 6) (v := .int N_values) (C := R_N) (T := T_N) (N := 24) hx hb hts in_N hown hK hP 0 rfl rfl 16 (by decide) (hts _ kw_460) (fun _ h9 => h9) rfl d_N_value_71 ?_
        refine lv_iload_n hx hb d_N_value_74 rfl (lv_at hl 1 rfl) ?_
        obtain ⟨hi, hr⟩ := gd_some hr
        refine va_iast hx hb hK hP hD hS 9 0 rfl rfl hi d_N_value_75 (fun H locs hP hD hS => ?_)
        have hP : va_P D zCl (W_N kI kZ qN N_p N_n N_words N_hasDirect N_compiled N_size N_outcome N_done N_values N_word N_table N_direct N_op N_a N_b N_x N_there (upd N_vOp N_values.toNatClampNeg a1) N_vA N_vB N_vX N_needed N_valueOf N_place) H := hP
        have hD : va_D A (W_N kI kZ qN N_p N_n N_words N_hasDirect N_compiled N_size N_outcome N_done N_values N_word N_table N_direct N_op N_a N_b N_x N_there (upd N_vOp N_values.toNatClampNeg a1) N_vA N_vB N_vX N_needed N_valueOf N_place) := hD
        refine lv_aload_n hx hb d_N_value_76 rfl (lv_at hl 0 rfl) ?_
        refine va_get (D := D) (ci := 6) (v := .ref (qN 10)) (C := R_N) (T := T_N) (N := 24) hx hb hts in_N hown hK hP 0 rfl rfl 18 (by decide) (hts _ kw_462) (fun _ h9 => h9) rfl d_N_value_77 ?_
        refine lv_aload_n hx hb d_N_value_80 rfl (lv_at hl 0 rfl) ?_
        refine va_get (D := D) (ci := 6) (v := .int N_values) (C := R_N) (T := T_N) (N := 24) hx hb hts in_N hown hK hP 0 rfl rfl 16 (by decide) (hts _ kw_460) (fun _ h9 => h9) rfl d_N_value_81 ?_
        refine lv_iload_n hx hb d_N_value_84 rfl (lv_at hl 2 rfl) ?_
        obtain ⟨hi, hr⟩ := gd_some hr
        refine va_iast hx hb hK hP hD hS 10 0 rfl rfl hi d_N_value_85 (fun H locs hP hD hS => ?_)
        have hP : va_P D zCl (W_N kI kZ qN N_p N_n N_words N_hasDirect N_compiled N_size N_outcome N_done N_values N_word N_table N_direct N_op N_a N_b N_x N_there (upd N_vOp N_values.toNatClampNeg a1) (upd N_vA N_values.toNatClampNeg a2) N_vB N_vX N_needed N_valueOf N_place) H := hP
        have hD : va_D A (W_N kI kZ qN N_p N_n N_words N_hasDirect N_compiled N_size N_outcome N_done N_values N_word N_table N_direct N_op N_a N_b N_x N_there (upd N_vOp N_values.toNatClampNeg a1) (upd N_vA N_values.toNatClampNeg a2) N_vB N_vX N_needed N_valueOf N_place) := hD
        refine lv_aload_n hx hb d_N_value_86 rfl (lv_at hl 0 rfl) ?_
        refine va_get (D := D) (ci := 6) (v := .ref (qN 11)) (C := R_N) (T := T_N) (N := 24) hx hb hts in_N hown hK hP 0 rfl rfl 19 (by decide) (hts _ kw_463) (fun _ h9 => h9) rfl d_N_value_87 ?_
        refine lv_aload_n hx hb d_N_value_90 rfl (lv_at hl 0 rfl) ?_
        refine va_get (D := D) (ci := 6) (v := .int N_values) (C := R_N) (T := T_N) (N := 24) hx hb hts in_N hown hK hP 0 rfl rfl 16 (by decide) (hts _ kw_460) (fun _ h9 => h9) rfl d_N_value_91 ?_
        refine lv_iload_n hx hb d_N_value_94 rfl (lv_at hl 3 rfl) ?_
        obtain ⟨hi, hr⟩ := gd_some hr
        refine va_iast hx hb hK hP hD hS 11 0 rfl rfl hi d_N_value_95 (fun H locs hP hD hS => ?_)
        have hP : va_P D zCl (W_N kI kZ qN N_p N_n N_words N_hasDirect N_compiled N_size N_outcome N_done N_values N_word N_table N_direct N_op N_a N_b N_x N_there (upd N_vOp N_values.toNatClampNeg a1) (upd N_vA N_values.toNatClampNeg a2) (upd N_vB N_values.toNatClampNeg a3) N_vX N_needed N_valueOf N_place) H := hP
        have hD : va_D A (W_N kI kZ qN N_p N_n N_words N_hasDirect N_compiled N_size N_outcome N_done N_values N_word N_table N_direct N_op N_a N_b N_x N_there (upd N_vOp N_values.toNatClampNeg a1) (upd N_vA N_values.toNatClampNeg a2) (upd N_vB N_values.toNatClampNeg a3) N_vX N_needed N_valueOf N_place) := hD
        refine lv_aload_n hx hb d_N_value_96 rfl (lv_at hl 0 rfl) ?_
        refine va_get (D := D) (ci := 6) (v := .ref (qN 12)) (C := R_N) (T := T_N) (N := 24) hx hb hts in_N hown hK hP 0 rfl rfl 20 (by decide) (hts _ kw_464) (fun _ h9 => h9) rfl d_N_value_97 ?_
        refine lv_aload_n hx hb d_N_value_100 rfl (lv_at hl 0 rfl) ?_
        refine va_get (D := D) (ci := 6) (v := .int N_values) (C := R_N) (T := T_N) (N := 24) hx hb hts in_N hown hK hP 0 rfl rfl 16 (by decide) (hts _ kw_460) (fun _ h9 => h9) rfl d_N_value_101 ?_
        refine lv_iload hx hb d_N_value_104 (lv_at hl 4 rfl) ?_
        obtain ⟨hi, hr⟩ := gd_some hr
        refine va_iast hx hb hK hP hD hS 12 0 rfl rfl hi d_N_value_106 (fun H locs hP hD hS => ?_)
        have hP : va_P D zCl (W_N kI kZ qN N_p N_n N_words N_hasDirect N_compiled N_size N_outcome N_done N_values N_word N_table N_direct N_op N_a N_b N_x N_there (upd N_vOp N_values.toNatClampNeg a1) (upd N_vA N_values.toNatClampNeg a2) (upd N_vB N_values.toNatClampNeg a3) (upd N_vX N_values.toNatClampNeg a4) N_needed N_valueOf N_place) H := hP
        have hD : va_D A (W_N kI kZ qN N_p N_n N_words N_hasDirect N_compiled N_size N_outcome N_done N_values N_word N_table N_direct N_op N_a N_b N_x N_there (upd N_vOp N_values.toNatClampNeg a1) (upd N_vA N_values.toNatClampNeg a2) (upd N_vB N_values.toNatClampNeg a3) (upd N_vX N_values.toNatClampNeg a4) N_needed N_valueOf N_place) := hD
        refine lv_aload_n hx hb d_N_value_107 rfl (lv_at hl 0 rfl) ?_
        refine va_get (D := D) (ci := 6) (v := .ref (qN 13)) (C := R_N) (T := T_N) (N := 24) hx hb hts in_N hown hK hP 0 rfl rfl 21 (by decide) (hts _ kw_465) (fun _ h9 => h9) rfl d_N_value_108 ?_
        refine lv_aload_n hx hb d_N_value_111 rfl (lv_at hl 0 rfl) ?_
        refine va_get (D := D) (ci := 6) (v := .int N_values) (C := R_N) (T := T_N) (N := 24) hx hb hts in_N hown hK hP 0 rfl rfl 16 (by decide) (hts _ kw_460) (fun _ h9 => h9) rfl d_N_value_112 ?_
        refine lv_iconst (v := (0 : Int32)) hx hb d_N_value_115 (by decide) ?_
        obtain ⟨hi, hr⟩ := gd_some hr
        refine va_zast hx hb hK hP hD hS 13 1 rfl rfl hi d_N_value_116 (fun H locs hP hD hS => ?_)
        have hP : va_P D zCl (W_N kI kZ qN N_p N_n N_words N_hasDirect N_compiled N_size N_outcome N_done N_values N_word N_table N_direct N_op N_a N_b N_x N_there (upd N_vOp N_values.toNatClampNeg a1) (upd N_vA N_values.toNatClampNeg a2) (upd N_vB N_values.toNatClampNeg a3) (upd N_vX N_values.toNatClampNeg a4) (upd N_needed N_values.toNatClampNeg (vp_nar .boolean (0 : Int32))) N_valueOf N_place) H := hP
        have hD : va_D A (W_N kI kZ qN N_p N_n N_words N_hasDirect N_compiled N_size N_outcome N_done N_values N_word N_table N_direct N_op N_a N_b N_x N_there (upd N_vOp N_values.toNatClampNeg a1) (upd N_vA N_values.toNatClampNeg a2) (upd N_vB N_values.toNatClampNeg a3) (upd N_vX N_values.toNatClampNeg a4) (upd N_needed N_values.toNatClampNeg (vp_nar .boolean (0 : Int32))) N_valueOf N_place) := hD
        refine lv_aload_n hx hb d_N_value_117 rfl (lv_at hl 0 rfl) ?_
        refine lv_aload_n hx hb d_N_value_118 rfl (lv_at hl 0 rfl) ?_
        refine va_get (D := D) (ci := 6) (v := .int N_values) (C := R_N) (T := T_N) (N := 24) hx hb hts in_N hown hK hP 0 rfl rfl 16 (by decide) (hts _ kw_460) (fun _ h9 => h9) rfl d_N_value_119 ?_
        refine lv_iconst (v := (1 : Int32)) hx hb d_N_value_122 (by decide) ?_
        refine lv_iadd hx hb d_N_value_123 ?_
        refine va_put (D := D) (ci := 6) (v := .int (N_values + (1 : Int32))) (ty := .int) (C := R_N) (T := T_N) (N := 24) hx hb hts in_N ty_N tyo_N nm_N hown hK hP hD hS 0 rfl rfl 16 (by decide) (hts _ kw_460) (fun _ h9 => h9) rfl (by decide +kernel) rfl rfl (Nat.le_of_ble_eq_true rfl) d_N_value_124 (fun H locs hP hD hS => ?_)
        have hP : va_P D zCl (W_N kI kZ qN N_p N_n N_words N_hasDirect N_compiled N_size N_outcome N_done (N_values + (1 : Int32)) N_word N_table N_direct N_op N_a N_b N_x N_there (upd N_vOp N_values.toNatClampNeg a1) (upd N_vA N_values.toNatClampNeg a2) (upd N_vB N_values.toNatClampNeg a3) (upd N_vX N_values.toNatClampNeg a4) (upd N_needed N_values.toNatClampNeg (vp_nar .boolean (0 : Int32))) N_valueOf N_place) H := hP
        have hD : va_D A (W_N kI kZ qN N_p N_n N_words N_hasDirect N_compiled N_size N_outcome N_done (N_values + (1 : Int32)) N_word N_table N_direct N_op N_a N_b N_x N_there (upd N_vOp N_values.toNatClampNeg a1) (upd N_vA N_values.toNatClampNeg a2) (upd N_vB N_values.toNatClampNeg a3) (upd N_vX N_values.toNatClampNeg a4) (upd N_needed N_values.toNatClampNeg (vp_nar .boolean (0 : Int32))) N_valueOf N_place) := hD
        refine lv_aload_n hx hb d_N_value_127 rfl (lv_at hl 0 rfl) ?_
        refine va_get (D := D) (ci := 6) (v := .int (N_values + (1 : Int32))) (C := R_N) (T := T_N) (N := 24) hx hb hts in_N hown hK hP 0 rfl rfl 16 (by decide) (hts _ kw_460) (fun _ h9 => h9) rfl d_N_value_128 ?_
        refine lv_iconst (v := (1 : Int32)) hx hb d_N_value_131 (by decide) ?_
        refine lv_isub hx hb d_N_value_132 ?_
        obtain rfl := Option.some.inj hr
        exact hQ _ _ _ _ _ d_N_value_133 rfl rfl hP hD hS
      · rw [if_neg hc] at hr
        refine lv_aload_n hx hb d_N_value_12 rfl (lv_at hl 0 rfl) ?_
        refine va_get (D := D) (ci := 6) (v := .ref (qN 9)) (C := R_N) (T := T_N) (N := 24) hx hb hts in_N hown hK hP 0 rfl rfl 17 (by decide) (hts _ kw_461) (fun _ h9 => h9) rfl d_N_value_13 ?_
        refine lv_iload hx hb d_N_value_16 (lv_at hl 5 rfl) ?_
        obtain ⟨hi, hr⟩ := gd_some hr
        refine va_iald hx hb hK hP 9 0 rfl rfl hi d_N_value_18 ?_
        refine lv_iload_n hx hb d_N_value_19 rfl (lv_at hl 1 rfl) ?_
        refine lv_icmp_ne hx hb d_N_value_20 rfl (fun hc => ?_) (fun hc => ?_)
        · rw [if_neg hc] at hr
          refine lv_iinc (k := 5) (v := (v5 + (1 : Int32))) (lv' := [(5, .int (v5 + (1 : Int32))), (0, .ref (qN 0)), (1, .int a1), (2, .int a2), (3, .int a3), (4, .int a4)]) hx hb d_N_value_60 hl rfl (congrArg (fun z => v5 + z) (by decide : Int32.ofInt 1 = (1 : Int32))) (by decide) rfl (fun ls hl => ?_)
          refine lv_goto hx hb d_N_value_63 rfl ?_
          exact ih (v5 + (1 : Int32)) _ _ _ (lv_sub hl [1, 2, 3, 4, 5, 0] rfl) hP hD hS hr
        · rw [if_pos hc] at hr
          refine lv_aload_n hx hb d_N_value_23 rfl (lv_at hl 0 rfl) ?_
          refine va_get (D := D) (ci := 6) (v := .ref (qN 10)) (C := R_N) (T := T_N) (N := 24) hx hb hts in_N hown hK hP 0 rfl rfl 18 (by decide) (hts _ kw_462) (fun _ h9 => h9) rfl d_N_value_24 ?_
          refine lv_iload hx hb d_N_value_27 (lv_at hl 5 rfl) ?_
          obtain ⟨hi, hr⟩ := gd_some hr
          refine va_iald hx hb hK hP 10 0 rfl rfl hi d_N_value_29 ?_
          refine lv_iload_n hx hb d_N_value_30 rfl (lv_at hl 2 rfl) ?_
          refine lv_icmp_ne hx hb d_N_value_31 rfl (fun hc => ?_) (fun hc => ?_)
          · rw [if_neg hc] at hr
            refine lv_iinc (k := 5) (v := (v5 + (1 : Int32))) (lv' := [(5, .int (v5 + (1 : Int32))), (0, .ref (qN 0)), (1, .int a1), (2, .int a2), (3, .int a3), (4, .int a4)]) hx hb d_N_value_60 hl rfl (congrArg (fun z => v5 + z) (by decide : Int32.ofInt 1 = (1 : Int32))) (by decide) rfl (fun ls hl => ?_)
            refine lv_goto hx hb d_N_value_63 rfl ?_
            exact ih (v5 + (1 : Int32)) _ _ _ (lv_sub hl [1, 2, 3, 4, 5, 0] rfl) hP hD hS hr
          · rw [if_pos hc] at hr
            refine lv_aload_n hx hb d_N_value_34 rfl (lv_at hl 0 rfl) ?_
            refine va_get (D := D) (ci := 6) (v := .ref (qN 11)) (C := R_N) (T := T_N) (N := 24) hx hb hts in_N hown hK hP 0 rfl rfl 19 (by decide) (hts _ kw_463) (fun _ h9 => h9) rfl d_N_value_35 ?_
            refine lv_iload hx hb d_N_value_38 (lv_at hl 5 rfl) ?_
            obtain ⟨hi, hr⟩ := gd_some hr
            refine va_iald hx hb hK hP 11 0 rfl rfl hi d_N_value_40 ?_
            refine lv_iload_n hx hb d_N_value_41 rfl (lv_at hl 3 rfl) ?_
            refine lv_icmp_ne hx hb d_N_value_42 rfl (fun hc => ?_) (fun hc => ?_)
            · rw [if_neg hc] at hr
              refine lv_iinc (k := 5) (v := (v5 + (1 : Int32))) (lv' := [(5, .int (v5 + (1 : Int32))), (0, .ref (qN 0)), (1, .int a1), (2, .int a2), (3, .int a3), (4, .int a4)]) hx hb d_N_value_60 hl rfl (congrArg (fun z => v5 + z) (by decide : Int32.ofInt 1 = (1 : Int32))) (by decide) rfl (fun ls hl => ?_)
              refine lv_goto hx hb d_N_value_63 rfl ?_
              exact ih (v5 + (1 : Int32)) _ _ _ (lv_sub hl [1, 2, 3, 4, 5, 0] rfl) hP hD hS hr
            · rw [if_pos hc] at hr
              refine lv_aload_n hx hb d_N_value_45 rfl (lv_at hl 0 rfl) ?_
              refine va_get (D := D) (ci := 6) (v := .ref (qN 12)) (C := R_N) (T := T_N) (N := 24) hx hb hts in_N hown hK hP 0 rfl rfl 20 (by decide) (hts _ kw_464) (fun _ h9 => h9) rfl d_N_value_46 ?_
              refine lv_iload hx hb d_N_value_49 (lv_at hl 5 rfl) ?_
              obtain ⟨hi, hr⟩ := gd_some hr
              refine va_iald hx hb hK hP 12 0 rfl rfl hi d_N_value_51 ?_
              refine lv_iload hx hb d_N_value_52 (lv_at hl 4 rfl) ?_
              refine lv_icmp_ne hx hb d_N_value_54 rfl (fun hc => ?_) (fun hc => ?_)
              · rw [if_neg hc] at hr
                refine lv_iinc (k := 5) (v := (v5 + (1 : Int32))) (lv' := [(5, .int (v5 + (1 : Int32))), (0, .ref (qN 0)), (1, .int a1), (2, .int a2), (3, .int a3), (4, .int a4)]) hx hb d_N_value_60 hl rfl (congrArg (fun z => v5 + z) (by decide : Int32.ofInt 1 = (1 : Int32))) (by decide) rfl (fun ls hl => ?_)
                refine lv_goto hx hb d_N_value_63 rfl ?_
                exact ih (v5 + (1 : Int32)) _ _ _ (lv_sub hl [1, 2, 3, 4, 5, 0] rfl) hP hD hS hr
              · rw [if_pos hc] at hr
                refine lv_iload hx hb d_N_value_57 (lv_at hl 5 rfl) ?_
                obtain rfl := Option.some.inj hr
                exact hQ _ _ _ _ _ d_N_value_59 rfl rfl hP hD hS
  intro ls H hl hP hD hS
  have hl : lv_has ls 6 [(0, .ref (qN 0)), (1, .int a1), (2, .int a2), (3, .int a3), (4, .int a4)] := hl
  rw [f_N_value] at hr
  refine lv_iconst (v := (0 : Int32)) hx hb d_N_value_0 (by decide) ?_
  refine lv_istore (lv' := [(5, .int (0 : Int32)), (0, .ref (qN 0)), (1, .int a1), (2, .int a2), (3, .int a3), (4, .int a4)]) hx hb d_N_value_1 hl (by decide) rfl (fun ls hl => ?_)
  exact hB3 N_values N_vOp N_vA N_vB N_vX N_needed zFU (0 : Int32) _ _ _ (lv_sub hl [1, 2, 3, 4, 5, 0] rfl) hP hD hS hr
set_option maxHeartbeats 4000000 in
set_option maxRecDepth 100000 in
theorem c_N_noughts (l : Launch) (D : va_G) (kI kZ : ClassId) (qN : Nat → Nat) (N_p N_n N_words N_hasDirect N_compiled N_size N_outcome N_done N_values : Int32) (N_word N_table N_direct N_op N_a N_b N_x N_there N_vOp N_vA N_vB N_vX N_needed N_valueOf N_place : Nat → Int32)  (res : Int32 × Int32 × (Nat → Int32) × (Nat → Int32) × (Nat → Int32) × (Nat → Int32) × (Nat → Int32)) (hr : f_N_noughts N_values N_vOp N_vA N_vB N_vX N_needed = some res) : zMi l D kI kZ y_N_noughts prog_8_method_23_code 1 ((some .int)) 1 25 [.ref (qN 0)] (W_N kI kZ qN N_p N_n N_words N_hasDirect N_compiled N_size N_outcome N_done N_values N_word N_table N_direct N_op N_a N_b N_x N_there N_vOp N_vA N_vB N_vX N_needed N_valueOf N_place) (W_N kI kZ qN N_p N_n N_words N_hasDirect N_compiled N_size N_outcome N_done (res.2.1) N_word N_table N_direct N_op N_a N_b N_x N_there (res.2.2.1) (res.2.2.2.1) (res.2.2.2.2.1) (res.2.2.2.2.2.1) (res.2.2.2.2.2.2) N_valueOf N_place) (res.1) := by
  refine zMi.of (by decide +kernel) (Nat.le_of_ble_eq_true rfl) ?_
  intro p e R s m args below meth c Q A hR hx hb hml hts hown hA hK hN hQ
  have hown : s.vm.findClass "SquareCodeModel" = some m.cls := hown
  intro ls H hl hP hD hS
  have hl : lv_has ls 1 [(0, .ref (qN 0))] := hl
  rw [f_N_noughts] at hr
  refine lv_aload_n hx hb d_N_noughts_0 rfl (lv_at hl 0 rfl) ?_
  refine lv_iconst (v := (2 : Int32)) hx hb d_N_noughts_1 (by decide) ?_
  refine lv_iconst (v := (-1 : Int32)) hx hb d_N_noughts_2 (by decide) ?_
  refine lv_iconst (v := (-1 : Int32)) hx hb d_N_noughts_3 (by decide) ?_
  refine lv_iconst (v := (0 : Int32)) hx hb d_N_noughts_4 (by decide) ?_
  obtain ⟨r1, hr1, hr⟩ := ob hr
  refine z_ci (ws := (W_N kI kZ qN N_p N_n N_words N_hasDirect N_compiled N_size N_outcome N_done N_values N_word N_table N_direct N_op N_a N_b N_x N_there N_vOp N_vA N_vB N_vX N_needed N_valueOf N_place)) (wc := (W_N kI kZ qN N_p N_n N_words N_hasDirect N_compiled N_size N_outcome N_done N_values N_word N_table N_direct N_op N_a N_b N_x N_there N_vOp N_vA N_vB N_vX N_needed N_valueOf N_place)) (wr := ([] : va_W)) (w1 := (W_N kI kZ qN N_p N_n N_words N_hasDirect N_compiled N_size N_outcome N_done r1.2.1 N_word N_table N_direct N_op N_a N_b N_x N_there r1.2.2.1 r1.2.2.2.1 r1.2.2.2.2.1 r1.2.2.2.2.2.1 r1.2.2.2.2.2.2 N_valueOf N_place)) (w2 := (W_N kI kZ qN N_p N_n N_words N_hasDirect N_compiled N_size N_outcome N_done r1.2.1 N_word N_table N_direct N_op N_a N_b N_x N_there r1.2.2.1 r1.2.2.2.1 r1.2.2.2.2.1 r1.2.2.2.2.2.1 r1.2.2.2.2.2.2 N_valueOf N_place)) (va_runV (As := [.int (2 : Int32), .int (-1 : Int32), .int (-1 : Int32), .int (0 : Int32)]) (rest := []) ⟨hx, hb, hml, hown, hts⟩ (c_N_value l D kI kZ qN N_p N_n N_words N_hasDirect N_compiled N_size N_outcome N_done N_values N_word N_table N_direct N_op N_a N_b N_x N_there N_vOp N_vA N_vB N_vX N_needed N_valueOf N_place (2 : Int32) (-1 : Int32) (-1 : Int32) (0 : Int32) r1 hr1 H.size) (z_cwV hts mw_N_value kw_603 ⟨by rw [hR]; exact Nat.le_of_ble_eq_true rfl, by rw [hR]; exact Nat.le_of_ble_eq_true rfl⟩) (z_preV (ci := 6) hK hP hD hN rfl (he := (rfl : _[0]? = _)) [0, 1, 2, 3, 4, 5, 6, 7, 8, 9, 10, 11, 12, 13, 14, 15] (by decide) rfl) rfl rfl hl.1 rfl (lv_room (Nat.le_of_ble_eq_true rfl)) d_N_noughts_5 ⟨Nat.zero_le _, Nat.zero_le _⟩) hP hD hS hA [0, 1, 2, 3, 4, 5, 6, 7, 8, 9, 10, 11, 12, 13, 14, 15] [] [0, 1, 2, 3, 4, 5, 6, 7, 8, 9, 10, 11, 12, 13, 14, 15] rfl rfl (by decide) (by decide) rfl (by decide) (fun H locs hP hD hS => ?_)
  obtain rfl := Option.some.inj hr
  exact hQ _ _ _ _ _ d_N_noughts_8 rfl rfl hP hD hS
set_option maxHeartbeats 4000000 in
set_option maxRecDepth 100000 in
theorem c_N_added (l : Launch) (D : va_G) (kI kZ : ClassId) (qN : Nat → Nat) (N_p N_n N_words N_hasDirect N_compiled N_size N_outcome N_done N_values : Int32) (N_word N_table N_direct N_op N_a N_b N_x N_there N_vOp N_vA N_vB N_vX N_needed N_valueOf N_place : Nat → Int32) (a1 a2 : Int32) (res : Int32 × Int32 × (Nat → Int32) × (Nat → Int32) × (Nat → Int32) × (Nat → Int32) × (Nat → Int32)) (hr : f_N_added N_values N_vOp N_vA N_vB N_vX N_needed a1 a2 = some res) : zMi l D kI kZ y_N_added prog_8_method_24_code 3 ((some .int)) 1 25 [.ref (qN 0), .int a1, .int a2] (W_N kI kZ qN N_p N_n N_words N_hasDirect N_compiled N_size N_outcome N_done N_values N_word N_table N_direct N_op N_a N_b N_x N_there N_vOp N_vA N_vB N_vX N_needed N_valueOf N_place) (W_N kI kZ qN N_p N_n N_words N_hasDirect N_compiled N_size N_outcome N_done (res.2.1) N_word N_table N_direct N_op N_a N_b N_x N_there (res.2.2.1) (res.2.2.2.1) (res.2.2.2.2.1) (res.2.2.2.2.2.1) (res.2.2.2.2.2.2) N_valueOf N_place) (res.1) := by
  refine zMi.of (by decide +kernel) (Nat.le_of_ble_eq_true rfl) ?_
  intro p e R s m args below meth c Q A hR hx hb hml hts hown hA hK hN hQ
  have hown : s.vm.findClass "SquareCodeModel" = some m.cls := hown
  intro ls H hl hP hD hS
  have hl : lv_has ls 3 [(0, .ref (qN 0)), (1, .int a1), (2, .int a2)] := hl
  rw [f_N_added] at hr
  refine lv_aload_n hx hb d_N_added_0 rfl (lv_at hl 0 rfl) ?_
  refine va_get (D := D) (ci := 6) (v := .ref (qN 9)) (C := R_N) (T := T_N) (N := 24) hx hb hts in_N hown hK hP 0 rfl rfl 17 (by decide) (hts _ kw_461) (fun _ h9 => h9) rfl d_N_added_1 ?_
  refine lv_iload_n hx hb d_N_added_4 rfl (lv_at hl 2 rfl) ?_
  obtain ⟨hi, hr⟩ := gd_some hr
  refine va_iald hx hb hK hP 9 0 rfl rfl hi d_N_added_5 ?_
  refine lv_iconst (v := (2 : Int32)) hx hb d_N_added_6 (by decide) ?_
  refine lv_icmp_ne hx hb d_N_added_7 rfl (fun hc => ?_) (fun hc => ?_)
  · rw [if_neg hc] at hr
    refine lv_aload_n hx hb d_N_added_12 rfl (lv_at hl 0 rfl) ?_
    refine va_get (D := D) (ci := 6) (v := .ref (qN 9)) (C := R_N) (T := T_N) (N := 24) hx hb hts in_N hown hK hP 0 rfl rfl 17 (by decide) (hts _ kw_461) (fun _ h9 => h9) rfl d_N_added_13 ?_
    refine lv_iload_n hx hb d_N_added_16 rfl (lv_at hl 1 rfl) ?_
    obtain ⟨hi, hr⟩ := gd_some hr
    refine va_iald hx hb hK hP 9 0 rfl rfl hi d_N_added_17 ?_
    refine lv_iconst (v := (2 : Int32)) hx hb d_N_added_18 (by decide) ?_
    refine lv_icmp_ne hx hb d_N_added_19 rfl (fun hc => ?_) (fun hc => ?_)
    · rw [if_neg hc] at hr
      refine lv_iload_n hx hb d_N_added_24 rfl (lv_at hl 1 rfl) ?_
      refine lv_iload_n hx hb d_N_added_25 rfl (lv_at hl 2 rfl) ?_
      refine lv_icmp_ge hx hb d_N_added_26 rfl (fun hc => ?_) (fun hc => ?_)
      · rw [if_pos hc] at hr
        refine lv_aload_n hx hb d_N_added_40 rfl (lv_at hl 0 rfl) ?_
        refine lv_iconst (v := (3 : Int32)) hx hb d_N_added_41 (by decide) ?_
        refine lv_iload_n hx hb d_N_added_42 rfl (lv_at hl 2 rfl) ?_
        refine lv_iload_n hx hb d_N_added_43 rfl (lv_at hl 1 rfl) ?_
        refine lv_iconst (v := (0 : Int32)) hx hb d_N_added_44 (by decide) ?_
        obtain ⟨r1, hr1, hr⟩ := ob hr
        refine z_ci (ws := (W_N kI kZ qN N_p N_n N_words N_hasDirect N_compiled N_size N_outcome N_done N_values N_word N_table N_direct N_op N_a N_b N_x N_there N_vOp N_vA N_vB N_vX N_needed N_valueOf N_place)) (wc := (W_N kI kZ qN N_p N_n N_words N_hasDirect N_compiled N_size N_outcome N_done N_values N_word N_table N_direct N_op N_a N_b N_x N_there N_vOp N_vA N_vB N_vX N_needed N_valueOf N_place)) (wr := ([] : va_W)) (w1 := (W_N kI kZ qN N_p N_n N_words N_hasDirect N_compiled N_size N_outcome N_done r1.2.1 N_word N_table N_direct N_op N_a N_b N_x N_there r1.2.2.1 r1.2.2.2.1 r1.2.2.2.2.1 r1.2.2.2.2.2.1 r1.2.2.2.2.2.2 N_valueOf N_place)) (w2 := (W_N kI kZ qN N_p N_n N_words N_hasDirect N_compiled N_size N_outcome N_done r1.2.1 N_word N_table N_direct N_op N_a N_b N_x N_there r1.2.2.1 r1.2.2.2.1 r1.2.2.2.2.1 r1.2.2.2.2.2.1 r1.2.2.2.2.2.2 N_valueOf N_place)) (va_runV (As := [.int (3 : Int32), .int a2, .int a1, .int (0 : Int32)]) (rest := []) ⟨hx, hb, hml, hown, hts⟩ (c_N_value l D kI kZ qN N_p N_n N_words N_hasDirect N_compiled N_size N_outcome N_done N_values N_word N_table N_direct N_op N_a N_b N_x N_there N_vOp N_vA N_vB N_vX N_needed N_valueOf N_place (3 : Int32) a2 a1 (0 : Int32) r1 hr1 H.size) (z_cwV hts mw_N_value kw_603 ⟨by rw [hR]; exact Nat.le_of_ble_eq_true rfl, by rw [hR]; exact Nat.le_of_ble_eq_true rfl⟩) (z_preV (ci := 6) hK hP hD hN rfl (he := (rfl : _[0]? = _)) [0, 1, 2, 3, 4, 5, 6, 7, 8, 9, 10, 11, 12, 13, 14, 15] (by decide) rfl) rfl rfl hl.1 rfl (lv_room (Nat.le_of_ble_eq_true rfl)) d_N_added_45 ⟨Nat.zero_le _, Nat.zero_le _⟩) hP hD hS hA [0, 1, 2, 3, 4, 5, 6, 7, 8, 9, 10, 11, 12, 13, 14, 15] [] [0, 1, 2, 3, 4, 5, 6, 7, 8, 9, 10, 11, 12, 13, 14, 15] rfl rfl (by decide) (by decide) rfl (by decide) (fun H locs hP hD hS => ?_)
        obtain rfl := Option.some.inj hr
        exact hQ _ _ _ _ _ d_N_added_48 rfl rfl hP hD hS
      · rw [if_neg hc] at hr
        refine lv_aload_n hx hb d_N_added_29 rfl (lv_at hl 0 rfl) ?_
        refine lv_iconst (v := (3 : Int32)) hx hb d_N_added_30 (by decide) ?_
        refine lv_iload_n hx hb d_N_added_31 rfl (lv_at hl 1 rfl) ?_
        refine lv_iload_n hx hb d_N_added_32 rfl (lv_at hl 2 rfl) ?_
        refine lv_iconst (v := (0 : Int32)) hx hb d_N_added_33 (by decide) ?_
        obtain ⟨r2, hr2, hr⟩ := ob hr
        refine z_ci (ws := (W_N kI kZ qN N_p N_n N_words N_hasDirect N_compiled N_size N_outcome N_done N_values N_word N_table N_direct N_op N_a N_b N_x N_there N_vOp N_vA N_vB N_vX N_needed N_valueOf N_place)) (wc := (W_N kI kZ qN N_p N_n N_words N_hasDirect N_compiled N_size N_outcome N_done N_values N_word N_table N_direct N_op N_a N_b N_x N_there N_vOp N_vA N_vB N_vX N_needed N_valueOf N_place)) (wr := ([] : va_W)) (w1 := (W_N kI kZ qN N_p N_n N_words N_hasDirect N_compiled N_size N_outcome N_done r2.2.1 N_word N_table N_direct N_op N_a N_b N_x N_there r2.2.2.1 r2.2.2.2.1 r2.2.2.2.2.1 r2.2.2.2.2.2.1 r2.2.2.2.2.2.2 N_valueOf N_place)) (w2 := (W_N kI kZ qN N_p N_n N_words N_hasDirect N_compiled N_size N_outcome N_done r2.2.1 N_word N_table N_direct N_op N_a N_b N_x N_there r2.2.2.1 r2.2.2.2.1 r2.2.2.2.2.1 r2.2.2.2.2.2.1 r2.2.2.2.2.2.2 N_valueOf N_place)) (va_runV (As := [.int (3 : Int32), .int a1, .int a2, .int (0 : Int32)]) (rest := []) ⟨hx, hb, hml, hown, hts⟩ (c_N_value l D kI kZ qN N_p N_n N_words N_hasDirect N_compiled N_size N_outcome N_done N_values N_word N_table N_direct N_op N_a N_b N_x N_there N_vOp N_vA N_vB N_vX N_needed N_valueOf N_place (3 : Int32) a1 a2 (0 : Int32) r2 hr2 H.size) (z_cwV hts mw_N_value kw_603 ⟨by rw [hR]; exact Nat.le_of_ble_eq_true rfl, by rw [hR]; exact Nat.le_of_ble_eq_true rfl⟩) (z_preV (ci := 6) hK hP hD hN rfl (he := (rfl : _[0]? = _)) [0, 1, 2, 3, 4, 5, 6, 7, 8, 9, 10, 11, 12, 13, 14, 15] (by decide) rfl) rfl rfl hl.1 rfl (lv_room (Nat.le_of_ble_eq_true rfl)) d_N_added_34 ⟨Nat.zero_le _, Nat.zero_le _⟩) hP hD hS hA [0, 1, 2, 3, 4, 5, 6, 7, 8, 9, 10, 11, 12, 13, 14, 15] [] [0, 1, 2, 3, 4, 5, 6, 7, 8, 9, 10, 11, 12, 13, 14, 15] rfl rfl (by decide) (by decide) rfl (by decide) (fun H locs hP hD hS => ?_)
        refine lv_goto hx hb d_N_added_37 rfl ?_
        obtain rfl := Option.some.inj hr
        exact hQ _ _ _ _ _ d_N_added_48 rfl rfl hP hD hS
    · rw [if_pos hc] at hr
      refine lv_iload_n hx hb d_N_added_22 rfl (lv_at hl 2 rfl) ?_
      obtain rfl := Option.some.inj hr
      exact hQ _ _ _ _ _ d_N_added_23 rfl rfl hP hD hS
  · rw [if_pos hc] at hr
    refine lv_iload_n hx hb d_N_added_10 rfl (lv_at hl 1 rfl) ?_
    obtain rfl := Option.some.inj hr
    exact hQ _ _ _ _ _ d_N_added_11 rfl rfl hP hD hS
set_option maxHeartbeats 4000000 in
set_option maxRecDepth 100000 in
theorem c_N_less (l : Launch) (D : va_G) (kI kZ : ClassId) (qN : Nat → Nat) (N_p N_n N_words N_hasDirect N_compiled N_size N_outcome N_done N_values : Int32) (N_word N_table N_direct N_op N_a N_b N_x N_there N_vOp N_vA N_vB N_vX N_needed N_valueOf N_place : Nat → Int32) (a1 a2 : Int32) (res : Int32 × Int32 × (Nat → Int32) × (Nat → Int32) × (Nat → Int32) × (Nat → Int32) × (Nat → Int32)) (hr : f_N_less N_values N_vOp N_vA N_vB N_vX N_needed a1 a2 = some res) : zMi l D kI kZ y_N_less prog_8_method_25_code 3 ((some .int)) 2 45 [.ref (qN 0), .int a1, .int a2] (W_N kI kZ qN N_p N_n N_words N_hasDirect N_compiled N_size N_outcome N_done N_values N_word N_table N_direct N_op N_a N_b N_x N_there N_vOp N_vA N_vB N_vX N_needed N_valueOf N_place) (W_N kI kZ qN N_p N_n N_words N_hasDirect N_compiled N_size N_outcome N_done (res.2.1) N_word N_table N_direct N_op N_a N_b N_x N_there (res.2.2.1) (res.2.2.2.1) (res.2.2.2.2.1) (res.2.2.2.2.2.1) (res.2.2.2.2.2.2) N_valueOf N_place) (res.1) := by
  refine zMi.of (by decide +kernel) (Nat.le_of_ble_eq_true rfl) ?_
  intro p e R s m args below meth c Q A hR hx hb hml hts hown hA hK hN hQ
  have hown : s.vm.findClass "SquareCodeModel" = some m.cls := hown
  intro ls H hl hP hD hS
  have hl : lv_has ls 3 [(0, .ref (qN 0)), (1, .int a1), (2, .int a2)] := hl
  rw [f_N_less] at hr
  refine lv_aload_n hx hb d_N_less_0 rfl (lv_at hl 0 rfl) ?_
  refine va_get (D := D) (ci := 6) (v := .ref (qN 9)) (C := R_N) (T := T_N) (N := 24) hx hb hts in_N hown hK hP 0 rfl rfl 17 (by decide) (hts _ kw_461) (fun _ h9 => h9) rfl d_N_less_1 ?_
  refine lv_iload_n hx hb d_N_less_4 rfl (lv_at hl 2 rfl) ?_
  obtain ⟨hi, hr⟩ := gd_some hr
  refine va_iald hx hb hK hP 9 0 rfl rfl hi d_N_less_5 ?_
  refine lv_iconst (v := (2 : Int32)) hx hb d_N_less_6 (by decide) ?_
  refine lv_icmp_ne hx hb d_N_less_7 rfl (fun hc => ?_) (fun hc => ?_)
  · rw [if_neg hc] at hr
    refine lv_iload_n hx hb d_N_less_12 rfl (lv_at hl 1 rfl) ?_
    refine lv_iload_n hx hb d_N_less_13 rfl (lv_at hl 2 rfl) ?_
    refine lv_icmp_ne hx hb d_N_less_14 rfl (fun hc => ?_) (fun hc => ?_)
    · rw [if_neg hc] at hr
      refine lv_aload_n hx hb d_N_less_24 rfl (lv_at hl 0 rfl) ?_
      refine lv_iconst (v := (4 : Int32)) hx hb d_N_less_25 (by decide) ?_
      refine lv_iload_n hx hb d_N_less_26 rfl (lv_at hl 1 rfl) ?_
      refine lv_iload_n hx hb d_N_less_27 rfl (lv_at hl 2 rfl) ?_
      refine lv_iconst (v := (0 : Int32)) hx hb d_N_less_28 (by decide) ?_
      obtain ⟨r1, hr1, hr⟩ := ob hr
      refine z_ci (ws := (W_N kI kZ qN N_p N_n N_words N_hasDirect N_compiled N_size N_outcome N_done N_values N_word N_table N_direct N_op N_a N_b N_x N_there N_vOp N_vA N_vB N_vX N_needed N_valueOf N_place)) (wc := (W_N kI kZ qN N_p N_n N_words N_hasDirect N_compiled N_size N_outcome N_done N_values N_word N_table N_direct N_op N_a N_b N_x N_there N_vOp N_vA N_vB N_vX N_needed N_valueOf N_place)) (wr := ([] : va_W)) (w1 := (W_N kI kZ qN N_p N_n N_words N_hasDirect N_compiled N_size N_outcome N_done r1.2.1 N_word N_table N_direct N_op N_a N_b N_x N_there r1.2.2.1 r1.2.2.2.1 r1.2.2.2.2.1 r1.2.2.2.2.2.1 r1.2.2.2.2.2.2 N_valueOf N_place)) (w2 := (W_N kI kZ qN N_p N_n N_words N_hasDirect N_compiled N_size N_outcome N_done r1.2.1 N_word N_table N_direct N_op N_a N_b N_x N_there r1.2.2.1 r1.2.2.2.1 r1.2.2.2.2.1 r1.2.2.2.2.2.1 r1.2.2.2.2.2.2 N_valueOf N_place)) (va_runV (As := [.int (4 : Int32), .int a1, .int a2, .int (0 : Int32)]) (rest := []) ⟨hx, hb, hml, hown, hts⟩ (c_N_value l D kI kZ qN N_p N_n N_words N_hasDirect N_compiled N_size N_outcome N_done N_values N_word N_table N_direct N_op N_a N_b N_x N_there N_vOp N_vA N_vB N_vX N_needed N_valueOf N_place (4 : Int32) a1 a2 (0 : Int32) r1 hr1 H.size) (z_cwV hts mw_N_value kw_603 ⟨by rw [hR]; exact Nat.le_of_ble_eq_true rfl, by rw [hR]; exact Nat.le_of_ble_eq_true rfl⟩) (z_preV (ci := 6) hK hP hD hN rfl (he := (rfl : _[0]? = _)) [0, 1, 2, 3, 4, 5, 6, 7, 8, 9, 10, 11, 12, 13, 14, 15] (by decide) rfl) rfl rfl hl.1 rfl (lv_room (Nat.le_of_ble_eq_true rfl)) d_N_less_29 ⟨Nat.zero_le _, Nat.zero_le _⟩) hP hD hS hA [0, 1, 2, 3, 4, 5, 6, 7, 8, 9, 10, 11, 12, 13, 14, 15] [] [0, 1, 2, 3, 4, 5, 6, 7, 8, 9, 10, 11, 12, 13, 14, 15] rfl rfl (by decide) (by decide) rfl (by decide) (fun H locs hP hD hS => ?_)
      obtain rfl := Option.some.inj hr
      exact hQ _ _ _ _ _ d_N_less_32 rfl rfl hP hD hS
    · rw [if_pos hc] at hr
      refine lv_aload_n hx hb d_N_less_17 rfl (lv_at hl 0 rfl) ?_
      obtain ⟨r2, hr2, hr⟩ := ob hr
      refine z_ci (ws := (W_N kI kZ qN N_p N_n N_words N_hasDirect N_compiled N_size N_outcome N_done N_values N_word N_table N_direct N_op N_a N_b N_x N_there N_vOp N_vA N_vB N_vX N_needed N_valueOf N_place)) (wc := (W_N kI kZ qN N_p N_n N_words N_hasDirect N_compiled N_size N_outcome N_done N_values N_word N_table N_direct N_op N_a N_b N_x N_there N_vOp N_vA N_vB N_vX N_needed N_valueOf N_place)) (wr := ([] : va_W)) (w1 := (W_N kI kZ qN N_p N_n N_words N_hasDirect N_compiled N_size N_outcome N_done r2.2.1 N_word N_table N_direct N_op N_a N_b N_x N_there r2.2.2.1 r2.2.2.2.1 r2.2.2.2.2.1 r2.2.2.2.2.2.1 r2.2.2.2.2.2.2 N_valueOf N_place)) (w2 := (W_N kI kZ qN N_p N_n N_words N_hasDirect N_compiled N_size N_outcome N_done r2.2.1 N_word N_table N_direct N_op N_a N_b N_x N_there r2.2.2.1 r2.2.2.2.1 r2.2.2.2.2.1 r2.2.2.2.2.2.1 r2.2.2.2.2.2.2 N_valueOf N_place)) (va_runV (As := []) (rest := []) ⟨hx, hb, hml, hown, hts⟩ (c_N_noughts l D kI kZ qN N_p N_n N_words N_hasDirect N_compiled N_size N_outcome N_done N_values N_word N_table N_direct N_op N_a N_b N_x N_there N_vOp N_vA N_vB N_vX N_needed N_valueOf N_place r2 hr2 H.size) (z_cwV hts mw_N_noughts kw_611 ⟨by rw [hR]; exact Nat.le_of_ble_eq_true rfl, by rw [hR]; exact Nat.le_of_ble_eq_true rfl⟩) (z_preV (ci := 6) hK hP hD hN rfl (he := (rfl : _[0]? = _)) [0, 1, 2, 3, 4, 5, 6, 7, 8, 9, 10, 11, 12, 13, 14, 15] (by decide) rfl) rfl rfl hl.1 rfl (lv_room (Nat.le_of_ble_eq_true rfl)) d_N_less_18 ⟨Nat.zero_le _, Nat.zero_le _⟩) hP hD hS hA [0, 1, 2, 3, 4, 5, 6, 7, 8, 9, 10, 11, 12, 13, 14, 15] [] [0, 1, 2, 3, 4, 5, 6, 7, 8, 9, 10, 11, 12, 13, 14, 15] rfl rfl (by decide) (by decide) rfl (by decide) (fun H locs hP hD hS => ?_)
      refine lv_goto hx hb d_N_less_21 rfl ?_
      obtain rfl := Option.some.inj hr
      exact hQ _ _ _ _ _ d_N_less_32 rfl rfl hP hD hS
  · rw [if_pos hc] at hr
    refine lv_iload_n hx hb d_N_less_10 rfl (lv_at hl 1 rfl) ?_
    obtain rfl := Option.some.inj hr
    exact hQ _ _ _ _ _ d_N_less_11 rfl rfl hP hD hS
set_option maxHeartbeats 4000000 in
set_option maxRecDepth 100000 in
theorem c_N_times (l : Launch) (D : va_G) (kI kZ : ClassId) (qN : Nat → Nat) (N_p N_n N_words N_hasDirect N_compiled N_size N_outcome N_done N_values : Int32) (N_word N_table N_direct N_op N_a N_b N_x N_there N_vOp N_vA N_vB N_vX N_needed N_valueOf N_place : Nat → Int32) (a1 a2 : Int32) (res : Int32 × Int32 × (Nat → Int32) × (Nat → Int32) × (Nat → Int32) × (Nat → Int32) × (Nat → Int32)) (hr : f_N_times N_values N_vOp N_vA N_vB N_vX N_needed a1 a2 = some res) : zMi l D kI kZ y_N_times prog_8_method_26_code 3 ((some .int)) 2 45 [.ref (qN 0), .int a1, .int a2] (W_N kI kZ qN N_p N_n N_words N_hasDirect N_compiled N_size N_outcome N_done N_values N_word N_table N_direct N_op N_a N_b N_x N_there N_vOp N_vA N_vB N_vX N_needed N_valueOf N_place) (W_N kI kZ qN N_p N_n N_words N_hasDirect N_compiled N_size N_outcome N_done (res.2.1) N_word N_table N_direct N_op N_a N_b N_x N_there (res.2.2.1) (res.2.2.2.1) (res.2.2.2.2.1) (res.2.2.2.2.2.1) (res.2.2.2.2.2.2) N_valueOf N_place) (res.1) := by
  refine zMi.of (by decide +kernel) (Nat.le_of_ble_eq_true rfl) ?_
  intro p e R s m args below meth c Q A hR hx hb hml hts hown hA hK hN hQ
  have hown : s.vm.findClass "SquareCodeModel" = some m.cls := hown
  have hB20 : ∀ (N_values : Int32) (N_vOp N_vA N_vB N_vX N_needed : Nat → Int32)   (H : Heap) (locs : List Loc) (ls : Array Slot), lv_has ls 3 [(0, .ref (qN 0))] → va_P D zCl (W_N kI kZ qN N_p N_n N_words N_hasDirect N_compiled N_size N_outcome N_done N_values N_word N_table N_direct N_op N_a N_b N_x N_there N_vOp N_vA N_vB N_vX N_needed N_valueOf N_place) H → va_D A (W_N kI kZ qN N_p N_n N_words N_hasDirect N_compiled N_size N_outcome N_done N_values N_word N_table N_direct N_op N_a N_b N_x N_there N_vOp N_vA N_vB N_vX N_needed N_valueOf N_place) → va_S A s.heap H locs → f_N_times_20 N_values N_vOp N_vA N_vB N_vX N_needed = some res → W p l e R s m args below meth c H locs 0 0 Q (F0 m 20 ls []) := by
    intro N_values N_vOp N_vA N_vB N_vX N_needed H locs ls hl hP hD hS hr
    rw [f_N_times_20] at hr
    refine lv_aload_n hx hb d_N_times_20 rfl (lv_at hl 0 rfl) ?_
    obtain ⟨r1, hr1, hr⟩ := ob hr
    refine z_ci (ws := (W_N kI kZ qN N_p N_n N_words N_hasDirect N_compiled N_size N_outcome N_done N_values N_word N_table N_direct N_op N_a N_b N_x N_there N_vOp N_vA N_vB N_vX N_needed N_valueOf N_place)) (wc := (W_N kI kZ qN N_p N_n N_words N_hasDirect N_compiled N_size N_outcome N_done N_values N_word N_table N_direct N_op N_a N_b N_x N_there N_vOp N_vA N_vB N_vX N_needed N_valueOf N_place)) (wr := ([] : va_W)) (w1 := (W_N kI kZ qN N_p N_n N_words N_hasDirect N_compiled N_size N_outcome N_done r1.2.1 N_word N_table N_direct N_op N_a N_b N_x N_there r1.2.2.1 r1.2.2.2.1 r1.2.2.2.2.1 r1.2.2.2.2.2.1 r1.2.2.2.2.2.2 N_valueOf N_place)) (w2 := (W_N kI kZ qN N_p N_n N_words N_hasDirect N_compiled N_size N_outcome N_done r1.2.1 N_word N_table N_direct N_op N_a N_b N_x N_there r1.2.2.1 r1.2.2.2.1 r1.2.2.2.2.1 r1.2.2.2.2.2.1 r1.2.2.2.2.2.2 N_valueOf N_place)) (va_runV (As := []) (rest := []) ⟨hx, hb, hml, hown, hts⟩ (c_N_noughts l D kI kZ qN N_p N_n N_words N_hasDirect N_compiled N_size N_outcome N_done N_values N_word N_table N_direct N_op N_a N_b N_x N_there N_vOp N_vA N_vB N_vX N_needed N_valueOf N_place r1 hr1 H.size) (z_cwV hts mw_N_noughts kw_611 ⟨by rw [hR]; exact Nat.le_of_ble_eq_true rfl, by rw [hR]; exact Nat.le_of_ble_eq_true rfl⟩) (z_preV (ci := 6) hK hP hD hN rfl (he := (rfl : _[0]? = _)) [0, 1, 2, 3, 4, 5, 6, 7, 8, 9, 10, 11, 12, 13, 14, 15] (by decide) rfl) rfl rfl hl.1 rfl (lv_room (Nat.le_of_ble_eq_true rfl)) d_N_times_21 ⟨Nat.zero_le _, Nat.zero_le _⟩) hP hD hS hA [0, 1, 2, 3, 4, 5, 6, 7, 8, 9, 10, 11, 12, 13, 14, 15] [] [0, 1, 2, 3, 4, 5, 6, 7, 8, 9, 10, 11, 12, 13, 14, 15] rfl rfl (by decide) (by decide) rfl (by decide) (fun H locs hP hD hS => ?_)
    obtain rfl := Option.some.inj hr
    exact hQ _ _ _ _ _ d_N_times_24 rfl rfl hP hD hS
  intro ls H hl hP hD hS
  have hl : lv_has ls 3 [(0, .ref (qN 0)), (1, .int a1), (2, .int a2)] := hl
  rw [f_N_times] at hr
  refine lv_aload_n hx hb d_N_times_0 rfl (lv_at hl 0 rfl) ?_
  refine va_get (D := D) (ci := 6) (v := .ref (qN 9)) (C := R_N) (T := T_N) (N := 24) hx hb hts in_N hown hK hP 0 rfl rfl 17 (by decide) (hts _ kw_461) (fun _ h9 => h9) rfl d_N_times_1 ?_
  refine lv_iload_n hx hb d_N_times_4 rfl (lv_at hl 1 rfl) ?_
  obtain ⟨hi, hr⟩ := gd_some hr
  refine va_iald hx hb hK hP 9 0 rfl rfl hi d_N_times_5 ?_
  refine lv_iconst (v := (2 : Int32)) hx hb d_N_times_6 (by decide) ?_
  refine lv_icmp_eq hx hb d_N_times_7 rfl (fun hc => ?_) (fun hc => ?_)
  · rw [if_pos hc] at hr
    exact hB20 N_values N_vOp N_vA N_vB N_vX N_needed _ _ _ (lv_sub hl [0] rfl) hP hD hS hr
  · rw [if_neg hc] at hr
    refine lv_aload_n hx hb d_N_times_10 rfl (lv_at hl 0 rfl) ?_
    refine va_get (D := D) (ci := 6) (v := .ref (qN 9)) (C := R_N) (T := T_N) (N := 24) hx hb hts in_N hown hK hP 0 rfl rfl 17 (by decide) (hts _ kw_461) (fun _ h9 => h9) rfl d_N_times_11 ?_
    refine lv_iload_n hx hb d_N_times_14 rfl (lv_at hl 2 rfl) ?_
    obtain ⟨hi, hr⟩ := gd_some hr
    refine va_iald hx hb hK hP 9 0 rfl rfl hi d_N_times_15 ?_
    refine lv_iconst (v := (2 : Int32)) hx hb d_N_times_16 (by decide) ?_
    refine lv_icmp_ne hx hb d_N_times_17 rfl (fun hc => ?_) (fun hc => ?_)
    · rw [if_neg hc] at hr
      refine lv_aload_n hx hb d_N_times_25 rfl (lv_at hl 0 rfl) ?_
      refine va_get (D := D) (ci := 6) (v := .ref (qN 9)) (C := R_N) (T := T_N) (N := 24) hx hb hts in_N hown hK hP 0 rfl rfl 17 (by decide) (hts _ kw_461) (fun _ h9 => h9) rfl d_N_times_26 ?_
      refine lv_iload_n hx hb d_N_times_29 rfl (lv_at hl 2 rfl) ?_
      obtain ⟨hi, hr⟩ := gd_some hr
      refine va_iald hx hb hK hP 9 0 rfl rfl hi d_N_times_30 ?_
      refine lv_iconst (v := (1 : Int32)) hx hb d_N_times_31 (by decide) ?_
      refine lv_icmp_ne hx hb d_N_times_32 rfl (fun hc => ?_) (fun hc => ?_)
      · rw [if_neg hc] at hr
        refine lv_aload_n hx hb d_N_times_37 rfl (lv_at hl 0 rfl) ?_
        refine va_get (D := D) (ci := 6) (v := .ref (qN 9)) (C := R_N) (T := T_N) (N := 24) hx hb hts in_N hown hK hP 0 rfl rfl 17 (by decide) (hts _ kw_461) (fun _ h9 => h9) rfl d_N_times_38 ?_
        refine lv_iload_n hx hb d_N_times_41 rfl (lv_at hl 1 rfl) ?_
        obtain ⟨hi, hr⟩ := gd_some hr
        refine va_iald hx hb hK hP 9 0 rfl rfl hi d_N_times_42 ?_
        refine lv_iconst (v := (1 : Int32)) hx hb d_N_times_43 (by decide) ?_
        refine lv_icmp_ne hx hb d_N_times_44 rfl (fun hc => ?_) (fun hc => ?_)
        · rw [if_neg hc] at hr
          refine lv_aload_n hx hb d_N_times_51 rfl (lv_at hl 0 rfl) ?_
          refine lv_iconst (v := (5 : Int32)) hx hb d_N_times_52 (by decide) ?_
          refine lv_iload_n hx hb d_N_times_53 rfl (lv_at hl 1 rfl) ?_
          refine lv_iload_n hx hb d_N_times_54 rfl (lv_at hl 2 rfl) ?_
          refine lv_iconst (v := (0 : Int32)) hx hb d_N_times_55 (by decide) ?_
          obtain ⟨r2, hr2, hr⟩ := ob hr
          refine z_ci (ws := (W_N kI kZ qN N_p N_n N_words N_hasDirect N_compiled N_size N_outcome N_done N_values N_word N_table N_direct N_op N_a N_b N_x N_there N_vOp N_vA N_vB N_vX N_needed N_valueOf N_place)) (wc := (W_N kI kZ qN N_p N_n N_words N_hasDirect N_compiled N_size N_outcome N_done N_values N_word N_table N_direct N_op N_a N_b N_x N_there N_vOp N_vA N_vB N_vX N_needed N_valueOf N_place)) (wr := ([] : va_W)) (w1 := (W_N kI kZ qN N_p N_n N_words N_hasDirect N_compiled N_size N_outcome N_done r2.2.1 N_word N_table N_direct N_op N_a N_b N_x N_there r2.2.2.1 r2.2.2.2.1 r2.2.2.2.2.1 r2.2.2.2.2.2.1 r2.2.2.2.2.2.2 N_valueOf N_place)) (w2 := (W_N kI kZ qN N_p N_n N_words N_hasDirect N_compiled N_size N_outcome N_done r2.2.1 N_word N_table N_direct N_op N_a N_b N_x N_there r2.2.2.1 r2.2.2.2.1 r2.2.2.2.2.1 r2.2.2.2.2.2.1 r2.2.2.2.2.2.2 N_valueOf N_place)) (va_runV (As := [.int (5 : Int32), .int a1, .int a2, .int (0 : Int32)]) (rest := []) ⟨hx, hb, hml, hown, hts⟩ (c_N_value l D kI kZ qN N_p N_n N_words N_hasDirect N_compiled N_size N_outcome N_done N_values N_word N_table N_direct N_op N_a N_b N_x N_there N_vOp N_vA N_vB N_vX N_needed N_valueOf N_place (5 : Int32) a1 a2 (0 : Int32) r2 hr2 H.size) (z_cwV hts mw_N_value kw_603 ⟨by rw [hR]; exact Nat.le_of_ble_eq_true rfl, by rw [hR]; exact Nat.le_of_ble_eq_true rfl⟩) (z_preV (ci := 6) hK hP hD hN rfl (he := (rfl : _[0]? = _)) [0, 1, 2, 3, 4, 5, 6, 7, 8, 9, 10, 11, 12, 13, 14, 15] (by decide) rfl) rfl rfl hl.1 rfl (lv_room (Nat.le_of_ble_eq_true rfl)) d_N_times_56 ⟨Nat.zero_le _, Nat.zero_le _⟩) hP hD hS hA [0, 1, 2, 3, 4, 5, 6, 7, 8, 9, 10, 11, 12, 13, 14, 15] [] [0, 1, 2, 3, 4, 5, 6, 7, 8, 9, 10, 11, 12, 13, 14, 15] rfl rfl (by decide) (by decide) rfl (by decide) (fun H locs hP hD hS => ?_)
          obtain rfl := Option.some.inj hr
          exact hQ _ _ _ _ _ d_N_times_59 rfl rfl hP hD hS
        · rw [if_pos hc] at hr
          refine lv_iload_n hx hb d_N_times_47 rfl (lv_at hl 2 rfl) ?_
          refine lv_goto hx hb d_N_times_48 rfl ?_
          obtain rfl := Option.some.inj hr
          exact hQ _ _ _ _ _ d_N_times_59 rfl rfl hP hD hS
      · rw [if_pos hc] at hr
        refine lv_iload_n hx hb d_N_times_35 rfl (lv_at hl 1 rfl) ?_
        obtain rfl := Option.some.inj hr
        exact hQ _ _ _ _ _ d_N_times_36 rfl rfl hP hD hS
    · rw [if_pos hc] at hr
      exact hB20 N_values N_vOp N_vA N_vB N_vX N_needed _ _ _ (lv_sub hl [0] rfl) hP hD hS hr
