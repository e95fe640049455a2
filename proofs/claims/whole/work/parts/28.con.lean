set_option maxHeartbeats 4000000 in
set_option maxRecDepth 100000 in
theorem c_N_reset (l : Launch) (D : va_G) (kI kZ : ClassId) (qN : Nat → Nat) (N_p N_n N_words N_hasDirect N_compiled N_size N_outcome N_done N_values : Int32) (N_word N_table N_direct N_op N_a N_b N_x N_there N_vOp N_vA N_vB N_vX N_needed N_valueOf N_place : Nat → Int32)  (res : Int32 × (Nat → Int32) × Int32 × Int32 × Int32 × Int32) (hr : f_N_reset N_words N_table N_hasDirect N_compiled N_size N_done = some res) : zMv l D kI kZ y_N_reset prog_8_method_37_code 2 none 0 0 [.ref (qN 0)] (W_N kI kZ qN N_p N_n N_words N_hasDirect N_compiled N_size N_outcome N_done N_values N_word N_table N_direct N_op N_a N_b N_x N_there N_vOp N_vA N_vB N_vX N_needed N_valueOf N_place) (W_N kI kZ qN N_p N_n (res.1) (res.2.2.1) (res.2.2.2.1) (res.2.2.2.2.1) N_outcome (res.2.2.2.2.2) N_values N_word (res.2.1) N_direct N_op N_a N_b N_x N_there N_vOp N_vA N_vB N_vX N_needed N_valueOf N_place) := by
  refine zMv.of (by decide +kernel) (Nat.le_of_ble_eq_true rfl) ?_
  intro p e R s m args below meth c Q A hR hx hb hml hts hown hA hK hN hQ
  have hown : s.vm.findClass "SquareCodeModel" = some m.cls := hown
  have hB27 : ∀ (N_words N_hasDirect N_compiled N_size N_done : Int32)   (fu : Nat) (v1 : Int32) (N_table : Nat → Int32) (H : Heap) (locs : List Loc) (ls : Array Slot), lv_has ls 2 [(0, .ref (qN 0)), (1, .int v1)] → va_P D zCl (W_N kI kZ qN N_p N_n N_words N_hasDirect N_compiled N_size N_outcome N_done N_values N_word N_table N_direct N_op N_a N_b N_x N_there N_vOp N_vA N_vB N_vX N_needed N_valueOf N_place) H → va_D A (W_N kI kZ qN N_p N_n N_words N_hasDirect N_compiled N_size N_outcome N_done N_values N_word N_table N_direct N_op N_a N_b N_x N_there N_vOp N_vA N_vB N_vX N_needed N_valueOf N_place) → va_S A s.heap H locs → f_N_reset_27 N_words N_hasDirect N_compiled N_size N_done fu v1 N_table = some res → W p l e R s m args below meth c H locs 0 0 Q (F0 m 27 ls []) := by
    intro N_words N_hasDirect N_compiled N_size N_done fu
    induction fu with
    | zero => intro v1 N_table H locs ls hl hP hD hS hr; exact absurd hr (by rw [f_N_reset_27]; exact fun h => by cases h)
    | succ fu ih =>
      intro v1 N_table H locs ls hl hP hD hS hr
      rw [f_N_reset_27] at hr
      refine lv_iload_n hx hb d_N_reset_27 rfl (lv_at hl 1 rfl) ?_
      refine lv_bipush (v := (64 : Int32)) hx hb d_N_reset_28 (by decide) ?_
      refine lv_icmp_ge hx hb d_N_reset_30 rfl (fun hc => ?_) (fun hc => ?_)
      · rw [if_pos hc] at hr
        obtain rfl := Option.some.inj hr
        exact hQ _ _ _ _ d_N_reset_46 hP hD hS
      · rw [if_neg hc] at hr
        refine lv_aload_n hx hb d_N_reset_33 rfl (lv_at hl 0 rfl) ?_
        refine va_get (D := D) (ci := 6) (v := .ref (qN 2)) (C := R_N) (T := T_N) (N := 24) hx hb hts in_N hown hK hP 0 rfl rfl 4 (by decide) (hts _ kw_448) (fun _ h9 => h9) rfl d_N_reset_34 ?_
        refine lv_iload_n hx hb d_N_reset_37 rfl (lv_at hl 1 rfl) ?_
        refine lv_iconst (v := (0 : Int32)) hx hb d_N_reset_38 (by decide) ?_
        obtain ⟨hi, hr⟩ := gd_some hr
        refine va_iast hx hb hK hP hD hS 2 0 rfl rfl hi d_N_reset_39 (fun H locs hP hD hS => ?_)
        have hP : va_P D zCl (W_N kI kZ qN N_p N_n N_words N_hasDirect N_compiled N_size N_outcome N_done N_values N_word (upd N_table v1.toNatClampNeg (0 : Int32)) N_direct N_op N_a N_b N_x N_there N_vOp N_vA N_vB N_vX N_needed N_valueOf N_place) H := hP
        have hD : va_D A (W_N kI kZ qN N_p N_n N_words N_hasDirect N_compiled N_size N_outcome N_done N_values N_word (upd N_table v1.toNatClampNeg (0 : Int32)) N_direct N_op N_a N_b N_x N_there N_vOp N_vA N_vB N_vX N_needed N_valueOf N_place) := hD
        refine lv_iinc (k := 1) (v := (v1 + (1 : Int32))) (lv' := [(1, .int (v1 + (1 : Int32))), (0, .ref (qN 0))]) hx hb d_N_reset_40 hl rfl (congrArg (fun z => v1 + z) (by decide : Int32.ofInt 1 = (1 : Int32))) (by decide) rfl (fun ls hl => ?_)
        refine lv_goto hx hb d_N_reset_43 rfl ?_
        exact ih (v1 + (1 : Int32)) (upd N_table v1.toNatClampNeg (0 : Int32)) _ _ _ (lv_sub hl [1, 0] rfl) hP hD hS hr
  intro ls H hl hP hD hS
  have hl : lv_has ls 2 [(0, .ref (qN 0))] := hl
  rw [f_N_reset] at hr
  refine lv_aload_n hx hb d_N_reset_0 rfl (lv_at hl 0 rfl) ?_
  refine lv_iconst (v := (0 : Int32)) hx hb d_N_reset_1 (by decide) ?_
  refine va_put (D := D) (ci := 6) (v := .int (0 : Int32)) (ty := .int) (C := R_N) (T := T_N) (N := 24) hx hb hts in_N ty_N tyo_N nm_N hown hK hP hD hS 0 rfl rfl 2 (by decide) (hts _ kw_446) (fun _ h9 => h9) rfl (by decide +kernel) rfl rfl (Nat.le_of_ble_eq_true rfl) d_N_reset_2 (fun H locs hP hD hS => ?_)
  have hP : va_P D zCl (W_N kI kZ qN N_p N_n (0 : Int32) N_hasDirect N_compiled N_size N_outcome N_done N_values N_word N_table N_direct N_op N_a N_b N_x N_there N_vOp N_vA N_vB N_vX N_needed N_valueOf N_place) H := hP
  have hD : va_D A (W_N kI kZ qN N_p N_n (0 : Int32) N_hasDirect N_compiled N_size N_outcome N_done N_values N_word N_table N_direct N_op N_a N_b N_x N_there N_vOp N_vA N_vB N_vX N_needed N_valueOf N_place) := hD
  refine lv_aload_n hx hb d_N_reset_5 rfl (lv_at hl 0 rfl) ?_
  refine lv_iconst (v := (0 : Int32)) hx hb d_N_reset_6 (by decide) ?_
  refine va_put (D := D) (ci := 6) (v := .int (0 : Int32)) (ty := .boolean) (C := R_N) (T := T_N) (N := 24) hx hb hts in_N ty_N tyo_N nm_N hown hK hP hD hS 0 rfl rfl 7 (by decide) (hts _ kw_451) (fun _ h9 => h9) rfl (by decide +kernel) rfl rfl (Nat.le_of_ble_eq_true rfl) d_N_reset_7 (fun H locs hP hD hS => ?_)
  have hP : va_P D zCl (W_N kI kZ qN N_p N_n (0 : Int32) N_hasDirect (0 : Int32) N_size N_outcome N_done N_values N_word N_table N_direct N_op N_a N_b N_x N_there N_vOp N_vA N_vB N_vX N_needed N_valueOf N_place) H := hP
  have hD : va_D A (W_N kI kZ qN N_p N_n (0 : Int32) N_hasDirect (0 : Int32) N_size N_outcome N_done N_values N_word N_table N_direct N_op N_a N_b N_x N_there N_vOp N_vA N_vB N_vX N_needed N_valueOf N_place) := hD
  refine lv_aload_n hx hb d_N_reset_10 rfl (lv_at hl 0 rfl) ?_
  refine lv_iconst (v := (0 : Int32)) hx hb d_N_reset_11 (by decide) ?_
  refine va_put (D := D) (ci := 6) (v := .int (0 : Int32)) (ty := .boolean) (C := R_N) (T := T_N) (N := 24) hx hb hts in_N ty_N tyo_N nm_N hown hK hP hD hS 0 rfl rfl 6 (by decide) (hts _ kw_450) (fun _ h9 => h9) rfl (by decide +kernel) rfl rfl (Nat.le_of_ble_eq_true rfl) d_N_reset_12 (fun H locs hP hD hS => ?_)
  have hP : va_P D zCl (W_N kI kZ qN N_p N_n (0 : Int32) (0 : Int32) (0 : Int32) N_size N_outcome N_done N_values N_word N_table N_direct N_op N_a N_b N_x N_there N_vOp N_vA N_vB N_vX N_needed N_valueOf N_place) H := hP
  have hD : va_D A (W_N kI kZ qN N_p N_n (0 : Int32) (0 : Int32) (0 : Int32) N_size N_outcome N_done N_values N_word N_table N_direct N_op N_a N_b N_x N_there N_vOp N_vA N_vB N_vX N_needed N_valueOf N_place) := hD
  refine lv_aload_n hx hb d_N_reset_15 rfl (lv_at hl 0 rfl) ?_
  refine lv_iconst (v := (0 : Int32)) hx hb d_N_reset_16 (by decide) ?_
  refine va_put (D := D) (ci := 6) (v := .int (0 : Int32)) (ty := .int) (C := R_N) (T := T_N) (N := 24) hx hb hts in_N ty_N tyo_N nm_N hown hK hP hD hS 0 rfl rfl 8 (by decide) (hts _ kw_452) (fun _ h9 => h9) rfl (by decide +kernel) rfl rfl (Nat.le_of_ble_eq_true rfl) d_N_reset_17 (fun H locs hP hD hS => ?_)
  have hP : va_P D zCl (W_N kI kZ qN N_p N_n (0 : Int32) (0 : Int32) (0 : Int32) (0 : Int32) N_outcome N_done N_values N_word N_table N_direct N_op N_a N_b N_x N_there N_vOp N_vA N_vB N_vX N_needed N_valueOf N_place) H := hP
  have hD : va_D A (W_N kI kZ qN N_p N_n (0 : Int32) (0 : Int32) (0 : Int32) (0 : Int32) N_outcome N_done N_values N_word N_table N_direct N_op N_a N_b N_x N_there N_vOp N_vA N_vB N_vX N_needed N_valueOf N_place) := hD
  refine lv_aload_n hx hb d_N_reset_20 rfl (lv_at hl 0 rfl) ?_
  refine lv_iconst (v := (0 : Int32)) hx hb d_N_reset_21 (by decide) ?_
  refine va_put (D := D) (ci := 6) (v := .int (0 : Int32)) (ty := .int) (C := R_N) (T := T_N) (N := 24) hx hb hts in_N ty_N tyo_N nm_N hown hK hP hD hS 0 rfl rfl 14 (by decide) (hts _ kw_458) (fun _ h9 => h9) rfl (by decide +kernel) rfl rfl (Nat.le_of_ble_eq_true rfl) d_N_reset_22 (fun H locs hP hD hS => ?_)
  have hP : va_P D zCl (W_N kI kZ qN N_p N_n (0 : Int32) (0 : Int32) (0 : Int32) (0 : Int32) N_outcome (0 : Int32) N_values N_word N_table N_direct N_op N_a N_b N_x N_there N_vOp N_vA N_vB N_vX N_needed N_valueOf N_place) H := hP
  have hD : va_D A (W_N kI kZ qN N_p N_n (0 : Int32) (0 : Int32) (0 : Int32) (0 : Int32) N_outcome (0 : Int32) N_values N_word N_table N_direct N_op N_a N_b N_x N_there N_vOp N_vA N_vB N_vX N_needed N_valueOf N_place) := hD
  refine lv_iconst (v := (0 : Int32)) hx hb d_N_reset_25 (by decide) ?_
  refine lv_istore_n (lv' := [(1, .int (0 : Int32)), (0, .ref (qN 0))]) hx hb d_N_reset_26 rfl hl (by decide) rfl (fun ls hl => ?_)
  exact hB27 (0 : Int32) (0 : Int32) (0 : Int32) (0 : Int32) (0 : Int32) zFU (0 : Int32) N_table _ _ _ (lv_sub hl [1, 0] rfl) hP hD hS hr
