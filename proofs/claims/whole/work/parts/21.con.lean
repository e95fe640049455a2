set_option maxHeartbeats 4000000 in
set_option maxRecDepth 100000 in
theorem c_N_raise (l : Launch) (D : va_G) (kI kZ : ClassId) (qN : Nat → Nat) (N_p N_n N_words N_hasDirect N_compiled N_size N_outcome N_done N_values : Int32) (N_word N_table N_direct N_op N_a N_b N_x N_there N_vOp N_vA N_vB N_vX N_needed N_valueOf N_place : Nat → Int32) (a1 a2 : Int32) (res : (Nat → Int32)) (hr : f_N_raise N_p N_n N_table a1 a2 = some res) : zMv l D kI kZ y_N_raise prog_8_method_9_code 4 none 2 53 [.ref (qN 0), .int a1, .int a2] (W_N kI kZ qN N_p N_n N_words N_hasDirect N_compiled N_size N_outcome N_done N_values N_word N_table N_direct N_op N_a N_b N_x N_there N_vOp N_vA N_vB N_vX N_needed N_valueOf N_place) (W_N kI kZ qN N_p N_n N_words N_hasDirect N_compiled N_size N_outcome N_done N_values N_word res N_direct N_op N_a N_b N_x N_there N_vOp N_vA N_vB N_vX N_needed N_valueOf N_place) := by
  refine zMv.of (by decide +kernel) (Nat.le_of_ble_eq_true rfl) ?_
  intro p e R s m args below meth c Q A hR hx hb hml hts hown hA hK hN hQ
  have hown : s.vm.findClass "SquareCodeModel" = some m.cls := hown
  have hB39 : ∀ (v3 : Int32) (N_table : Nat → Int32) (k18 : Int32 → (Nat → Int32) → Option ((Nat → Int32))) (hk18 : ∀ (v3 : Int32) (N_table : Nat → Int32) (H : Heap) (locs : List Loc) (ls : Array Slot), lv_has ls 4 [(0, .ref (qN 0)), (1, .int a1), (3, .int v3)] → va_P D zCl (W_N kI kZ qN N_p N_n N_words N_hasDirect N_compiled N_size N_outcome N_done N_values N_word N_table N_direct N_op N_a N_b N_x N_there N_vOp N_vA N_vB N_vX N_needed N_valueOf N_place) H → va_D A (W_N kI kZ qN N_p N_n N_words N_hasDirect N_compiled N_size N_outcome N_done N_values N_word N_table N_direct N_op N_a N_b N_x N_there N_vOp N_vA N_vB N_vX N_needed N_valueOf N_place) → va_S A s.heap H locs → k18 v3 N_table = some res → W p l e R s m args below meth c H locs 0 0 Q (F0 m 18 ls [])) (H : Heap) (locs : List Loc) (ls : Array Slot), lv_has ls 4 [(0, .ref (qN 0)), (1, .int a1), (3, .int v3)] → va_P D zCl (W_N kI kZ qN N_p N_n N_words N_hasDirect N_compiled N_size N_outcome N_done N_values N_word N_table N_direct N_op N_a N_b N_x N_there N_vOp N_vA N_vB N_vX N_needed N_valueOf N_place) H → va_D A (W_N kI kZ qN N_p N_n N_words N_hasDirect N_compiled N_size N_outcome N_done N_values N_word N_table N_direct N_op N_a N_b N_x N_there N_vOp N_vA N_vB N_vX N_needed N_valueOf N_place) → va_S A s.heap H locs → f_N_raise_39 N_p N_n k18 v3 N_table = some res → W p l e R s m args below meth c H locs 0 0 Q (F0 m 39 ls []) := by
    intro v3 N_table k18 hk18 H locs ls hl hP hD hS hr
    rw [f_N_raise_39] at hr
    refine lv_aload_n hx hb d_N_raise_39 rfl (lv_at hl 0 rfl) ?_
    refine lv_iconst (v := (5 : Int32)) hx hb d_N_raise_40 (by decide) ?_
    refine lv_bipush (v := (30 : Int32)) hx hb d_N_raise_41 (by decide) ?_
    refine lv_bipush (v := (30 : Int32)) hx hb d_N_raise_43 (by decide) ?_
    refine lv_iconst (v := (0 : Int32)) hx hb d_N_raise_45 (by decide) ?_
    refine lv_bipush (v := (30 : Int32)) hx hb d_N_raise_46 (by decide) ?_
    obtain ⟨r1, hr1, hr⟩ := ob hr
    refine z_cv (ws := (W_N kI kZ qN N_p N_n N_words N_hasDirect N_compiled N_size N_outcome N_done N_values N_word N_table N_direct N_op N_a N_b N_x N_there N_vOp N_vA N_vB N_vX N_needed N_valueOf N_place)) (wc := (W_N kI kZ qN N_p N_n N_words N_hasDirect N_compiled N_size N_outcome N_done N_values N_word N_table N_direct N_op N_a N_b N_x N_there N_vOp N_vA N_vB N_vX N_needed N_valueOf N_place)) (wr := ([] : va_W)) (w1 := (W_N kI kZ qN N_p N_n N_words N_hasDirect N_compiled N_size N_outcome N_done N_values N_word r1 N_direct N_op N_a N_b N_x N_there N_vOp N_vA N_vB N_vX N_needed N_valueOf N_place)) (w2 := (W_N kI kZ qN N_p N_n N_words N_hasDirect N_compiled N_size N_outcome N_done N_values N_word r1 N_direct N_op N_a N_b N_x N_there N_vOp N_vA N_vB N_vX N_needed N_valueOf N_place)) (va_runV (As := [.int (5 : Int32), .int (30 : Int32), .int (30 : Int32), .int (0 : Int32), .int (30 : Int32)]) (rest := []) ⟨hx, hb, hml, hown, hts⟩ (c_N_operate l D kI kZ qN N_p N_n N_words N_hasDirect N_compiled N_size N_outcome N_done N_values N_word N_table N_direct N_op N_a N_b N_x N_there N_vOp N_vA N_vB N_vX N_needed N_valueOf N_place (5 : Int32) (30 : Int32) (30 : Int32) (0 : Int32) (30 : Int32) r1 hr1 H.size) (z_cwV hts mw_N_operate kw_565 ⟨by rw [hR]; exact Nat.le_of_ble_eq_true rfl, by rw [hR]; exact Nat.le_of_ble_eq_true rfl⟩) (z_preV (ci := 6) hK hP hD hN rfl (he := (rfl : _[0]? = _)) [0, 1, 2, 3, 4, 5, 6, 7, 8, 9, 10, 11, 12, 13, 14, 15] (by decide) rfl) rfl rfl hl.1 rfl (lv_room (Nat.le_of_ble_eq_true rfl)) d_N_raise_48 ⟨Nat.zero_le _, Nat.zero_le _⟩) hP hD hS hA [0, 1, 2, 3, 4, 5, 6, 7, 8, 9, 10, 11, 12, 13, 14, 15] [] [0, 1, 2, 3, 4, 5, 6, 7, 8, 9, 10, 11, 12, 13, 14, 15] rfl rfl (by decide) (by decide) rfl (by decide) (fun H locs hP hD hS => ?_)
    refine lv_iload_n hx hb d_N_raise_51 rfl (lv_at hl 2 rfl) ?_
    refine lv_iconst (v := (2 : Int32)) hx hb d_N_raise_52 (by decide) ?_
    refine lv_idiv hx hb d_N_raise_53 (by decide) ?_
    obtain ⟨v3_2, ev3_2, hr⟩ := nm_some hr
    refine z_top ev3_2 ?_
    refine lv_istore_n (lv' := [(3, .int v3_2), (0, .ref (qN 0)), (1, .int a1)]) hx hb d_N_raise_54 rfl hl (by decide) rfl (fun ls hl => ?_)
    refine lv_goto hx hb d_N_raise_55 rfl ?_
    exact hk18 v3_2 r1 _ _ _ (lv_sub hl [1, 2, 0] rfl) hP hD hS hr
  have hB18 : ∀ (fu : Nat) (v3 : Int32) (N_table : Nat → Int32) (H : Heap) (locs : List Loc) (ls : Array Slot), lv_has ls 4 [(0, .ref (qN 0)), (1, .int a1), (3, .int v3)] → va_P D zCl (W_N kI kZ qN N_p N_n N_words N_hasDirect N_compiled N_size N_outcome N_done N_values N_word N_table N_direct N_op N_a N_b N_x N_there N_vOp N_vA N_vB N_vX N_needed N_valueOf N_place) H → va_D A (W_N kI kZ qN N_p N_n N_words N_hasDirect N_compiled N_size N_outcome N_done N_values N_word N_table N_direct N_op N_a N_b N_x N_there N_vOp N_vA N_vB N_vX N_needed N_valueOf N_place) → va_S A s.heap H locs → f_N_raise_18 N_p N_n a1 fu v3 N_table = some res → W p l e R s m args below meth c H locs 0 0 Q (F0 m 18 ls []) := by
    intro  fu
    induction fu with
    | zero => intro v3 N_table H locs ls hl hP hD hS hr; exact absurd hr (by rw [f_N_raise_18]; exact fun h => by cases h)
    | succ fu ih =>
      intro v3 N_table H locs ls hl hP hD hS hr
      rw [f_N_raise_18] at hr
      refine lv_iload_n hx hb d_N_raise_18 rfl (lv_at hl 2 rfl) ?_
      refine lv_if_le hx hb d_N_raise_19 rfl (fun hc => ?_) (fun hc => ?_)
      · rw [if_pos hc] at hr
        obtain rfl := Option.some.inj hr
        exact hQ _ _ _ _ d_N_raise_58 hP hD hS
      · rw [if_neg hc] at hr
        refine lv_iload_n hx hb d_N_raise_22 rfl (lv_at hl 2 rfl) ?_
        refine lv_iconst (v := (2 : Int32)) hx hb d_N_raise_23 (by decide) ?_
        refine z_irem hx hb d_N_raise_24 (by decide) ?_
        refine lv_iconst (v := (1 : Int32)) hx hb d_N_raise_25 (by decide) ?_
        refine lv_icmp_ne hx hb d_N_raise_26 rfl (fun hc => ?_) (fun hc => ?_)
        · rw [if_neg hc] at hr
          exact hB39 v3 N_table _ ih _ _ _ hl hP hD hS hr
        · rw [if_pos hc] at hr
          refine lv_aload_n hx hb d_N_raise_29 rfl (lv_at hl 0 rfl) ?_
          refine lv_iconst (v := (5 : Int32)) hx hb d_N_raise_30 (by decide) ?_
          refine lv_iload_n hx hb d_N_raise_31 rfl (lv_at hl 1 rfl) ?_
          refine lv_bipush (v := (30 : Int32)) hx hb d_N_raise_32 (by decide) ?_
          refine lv_iconst (v := (0 : Int32)) hx hb d_N_raise_34 (by decide) ?_
          refine lv_iload_n hx hb d_N_raise_35 rfl (lv_at hl 1 rfl) ?_
          obtain ⟨r3, hr3, hr⟩ := ob hr
          refine z_cv (ws := (W_N kI kZ qN N_p N_n N_words N_hasDirect N_compiled N_size N_outcome N_done N_values N_word N_table N_direct N_op N_a N_b N_x N_there N_vOp N_vA N_vB N_vX N_needed N_valueOf N_place)) (wc := (W_N kI kZ qN N_p N_n N_words N_hasDirect N_compiled N_size N_outcome N_done N_values N_word N_table N_direct N_op N_a N_b N_x N_there N_vOp N_vA N_vB N_vX N_needed N_valueOf N_place)) (wr := ([] : va_W)) (w1 := (W_N kI kZ qN N_p N_n N_words N_hasDirect N_compiled N_size N_outcome N_done N_values N_word r3 N_direct N_op N_a N_b N_x N_there N_vOp N_vA N_vB N_vX N_needed N_valueOf N_place)) (w2 := (W_N kI kZ qN N_p N_n N_words N_hasDirect N_compiled N_size N_outcome N_done N_values N_word r3 N_direct N_op N_a N_b N_x N_there N_vOp N_vA N_vB N_vX N_needed N_valueOf N_place)) (va_runV (As := [.int (5 : Int32), .int a1, .int (30 : Int32), .int (0 : Int32), .int a1]) (rest := []) ⟨hx, hb, hml, hown, hts⟩ (c_N_operate l D kI kZ qN N_p N_n N_words N_hasDirect N_compiled N_size N_outcome N_done N_values N_word N_table N_direct N_op N_a N_b N_x N_there N_vOp N_vA N_vB N_vX N_needed N_valueOf N_place (5 : Int32) a1 (30 : Int32) (0 : Int32) a1 r3 hr3 H.size) (z_cwV hts mw_N_operate kw_565 ⟨by rw [hR]; exact Nat.le_of_ble_eq_true rfl, by rw [hR]; exact Nat.le_of_ble_eq_true rfl⟩) (z_preV (ci := 6) hK hP hD hN rfl (he := (rfl : _[0]? = _)) [0, 1, 2, 3, 4, 5, 6, 7, 8, 9, 10, 11, 12, 13, 14, 15] (by decide) rfl) rfl rfl hl.1 rfl (lv_room (Nat.le_of_ble_eq_true rfl)) d_N_raise_36 ⟨Nat.zero_le _, Nat.zero_le _⟩) hP hD hS hA [0, 1, 2, 3, 4, 5, 6, 7, 8, 9, 10, 11, 12, 13, 14, 15] [] [0, 1, 2, 3, 4, 5, 6, 7, 8, 9, 10, 11, 12, 13, 14, 15] rfl rfl (by decide) (by decide) rfl (by decide) (fun H locs hP hD hS => ?_)
          exact hB39 v3 r3 _ ih _ _ _ hl hP hD hS hr
  intro ls H hl hP hD hS
  have hl : lv_has ls 4 [(0, .ref (qN 0)), (1, .int a1), (2, .int a2)] := hl
  rw [f_N_raise] at hr
  refine lv_aload_n hx hb d_N_raise_0 rfl (lv_at hl 0 rfl) ?_
  refine lv_iload_n hx hb d_N_raise_1 rfl (lv_at hl 1 rfl) ?_
  refine lv_bipush (v := (30 : Int32)) hx hb d_N_raise_2 (by decide) ?_
  obtain ⟨r4, hr4, hr⟩ := ob hr
  refine z_cv (ws := (W_N kI kZ qN N_p N_n N_words N_hasDirect N_compiled N_size N_outcome N_done N_values N_word N_table N_direct N_op N_a N_b N_x N_there N_vOp N_vA N_vB N_vX N_needed N_valueOf N_place)) (wc := (W_N kI kZ qN N_p N_n N_words N_hasDirect N_compiled N_size N_outcome N_done N_values N_word N_table N_direct N_op N_a N_b N_x N_there N_vOp N_vA N_vB N_vX N_needed N_valueOf N_place)) (wr := ([] : va_W)) (w1 := (W_N kI kZ qN N_p N_n N_words N_hasDirect N_compiled N_size N_outcome N_done N_values N_word r4 N_direct N_op N_a N_b N_x N_there N_vOp N_vA N_vB N_vX N_needed N_valueOf N_place)) (w2 := (W_N kI kZ qN N_p N_n N_words N_hasDirect N_compiled N_size N_outcome N_done N_values N_word r4 N_direct N_op N_a N_b N_x N_there N_vOp N_vA N_vB N_vX N_needed N_valueOf N_place)) (va_runV (As := [.int a1, .int (30 : Int32)]) (rest := []) ⟨hx, hb, hml, hown, hts⟩ (c_N_copy l D kI kZ qN N_p N_n N_words N_hasDirect N_compiled N_size N_outcome N_done N_values N_word N_table N_direct N_op N_a N_b N_x N_there N_vOp N_vA N_vB N_vX N_needed N_valueOf N_place a1 (30 : Int32) r4 hr4 H.size) (z_cwV hts mw_N_copy kw_561 ⟨by rw [hR]; exact Nat.le_of_ble_eq_true rfl, by rw [hR]; exact Nat.le_of_ble_eq_true rfl⟩) (z_preV (ci := 6) hK hP hD hN rfl (he := (rfl : _[0]? = _)) [0, 1, 2, 3, 4, 5, 6, 7, 8, 9, 10, 11, 12, 13, 14, 15] (by decide) rfl) rfl rfl hl.1 rfl (lv_room (Nat.le_of_ble_eq_true rfl)) d_N_raise_4 ⟨Nat.zero_le _, Nat.zero_le _⟩) hP hD hS hA [0, 1, 2, 3, 4, 5, 6, 7, 8, 9, 10, 11, 12, 13, 14, 15] [] [0, 1, 2, 3, 4, 5, 6, 7, 8, 9, 10, 11, 12, 13, 14, 15] rfl rfl (by decide) (by decide) rfl (by decide) (fun H locs hP hD hS => ?_)
  refine lv_aload_n hx hb d_N_raise_7 rfl (lv_at hl 0 rfl) ?_
  refine lv_iconst (v := (1 : Int32)) hx hb d_N_raise_8 (by decide) ?_
  refine lv_iconst (v := (0 : Int32)) hx hb d_N_raise_9 (by decide) ?_
  refine lv_iconst (v := (0 : Int32)) hx hb d_N_raise_10 (by decide) ?_
  refine lv_iconst (v := (0 : Int32)) hx hb d_N_raise_11 (by decide) ?_
  refine lv_iload_n hx hb d_N_raise_12 rfl (lv_at hl 1 rfl) ?_
  obtain ⟨r5, hr5, hr⟩ := ob hr
  refine z_cv (ws := (W_N kI kZ qN N_p N_n N_words N_hasDirect N_compiled N_size N_outcome N_done N_values N_word r4 N_direct N_op N_a N_b N_x N_there N_vOp N_vA N_vB N_vX N_needed N_valueOf N_place)) (wc := (W_N kI kZ qN N_p N_n N_words N_hasDirect N_compiled N_size N_outcome N_done N_values N_word r4 N_direct N_op N_a N_b N_x N_there N_vOp N_vA N_vB N_vX N_needed N_valueOf N_place)) (wr := ([] : va_W)) (w1 := (W_N kI kZ qN N_p N_n N_words N_hasDirect N_compiled N_size N_outcome N_done N_values N_word r5 N_direct N_op N_a N_b N_x N_there N_vOp N_vA N_vB N_vX N_needed N_valueOf N_place)) (w2 := (W_N kI kZ qN N_p N_n N_words N_hasDirect N_compiled N_size N_outcome N_done N_values N_word r5 N_direct N_op N_a N_b N_x N_there N_vOp N_vA N_vB N_vX N_needed N_valueOf N_place)) (va_runV (As := [.int (1 : Int32), .int (0 : Int32), .int (0 : Int32), .int (0 : Int32), .int a1]) (rest := []) ⟨hx, hb, hml, hown, hts⟩ (c_N_operate l D kI kZ qN N_p N_n N_words N_hasDirect N_compiled N_size N_outcome N_done N_values N_word r4 N_direct N_op N_a N_b N_x N_there N_vOp N_vA N_vB N_vX N_needed N_valueOf N_place (1 : Int32) (0 : Int32) (0 : Int32) (0 : Int32) a1 r5 hr5 H.size) (z_cwV hts mw_N_operate kw_565 ⟨by rw [hR]; exact Nat.le_of_ble_eq_true rfl, by rw [hR]; exact Nat.le_of_ble_eq_true rfl⟩) (z_preV (ci := 6) hK hP hD hN rfl (he := (rfl : _[0]? = _)) [0, 1, 2, 3, 4, 5, 6, 7, 8, 9, 10, 11, 12, 13, 14, 15] (by decide) rfl) rfl rfl hl.1 rfl (lv_room (Nat.le_of_ble_eq_true rfl)) d_N_raise_13 ⟨Nat.zero_le _, Nat.zero_le _⟩) hP hD hS hA [0, 1, 2, 3, 4, 5, 6, 7, 8, 9, 10, 11, 12, 13, 14, 15] [] [0, 1, 2, 3, 4, 5, 6, 7, 8, 9, 10, 11, 12, 13, 14, 15] rfl rfl (by decide) (by decide) rfl (by decide) (fun H locs hP hD hS => ?_)
  refine lv_iload_n hx hb d_N_raise_16 rfl (lv_at hl 2 rfl) ?_
  refine lv_istore_n (lv' := [(3, .int a2), (0, .ref (qN 0)), (1, .int a1), (2, .int a2)]) hx hb d_N_raise_17 rfl hl (by decide) rfl (fun ls hl => ?_)
  exact hB18 zFU a2 r5 _ _ _ (lv_sub hl [1, 2, 0] rfl) hP hD hS hr
set_option maxHeartbeats 4000000 in
set_option maxRecDepth 100000 in
theorem c_N_feed (l : Launch) (D : va_G) (kI kZ : ClassId) (qN : Nat → Nat) (N_p N_n N_words N_hasDirect N_compiled N_size N_outcome N_done N_values : Int32) (N_word N_table N_direct N_op N_a N_b N_x N_there N_vOp N_vA N_vB N_vX N_needed N_valueOf N_place : Nat → Int32) (a1 : Int32) (res : Int32 × Int32 × (Nat → Int32)) (hr : f_N_feed N_words N_word N_compiled a1 = some res) : zMi l D kI kZ y_N_feed prog_8_method_10_code 2 ((some .int)) 0 0 [.ref (qN 0), .int a1] (W_N kI kZ qN N_p N_n N_words N_hasDirect N_compiled N_size N_outcome N_done N_values N_word N_table N_direct N_op N_a N_b N_x N_there N_vOp N_vA N_vB N_vX N_needed N_valueOf N_place) (W_N kI kZ qN N_p N_n (res.2.1) N_hasDirect N_compiled N_size N_outcome N_done N_values (res.2.2) N_table N_direct N_op N_a N_b N_x N_there N_vOp N_vA N_vB N_vX N_needed N_valueOf N_place) (res.1) := by
  refine zMi.of (by decide +kernel) (Nat.le_of_ble_eq_true rfl) ?_
  intro p e R s m args below meth c Q A hR hx hb hml hts hown hA hK hN hQ
  have hown : s.vm.findClass "SquareCodeModel" = some m.cls := hown
  intro ls H hl hP hD hS
  have hl : lv_has ls 2 [(0, .ref (qN 0)), (1, .int a1)] := hl
  rw [f_N_feed] at hr
  refine lv_aload_n hx hb d_N_feed_0 rfl (lv_at hl 0 rfl) ?_
  refine va_get (D := D) (ci := 6) (v := .int N_words) (C := R_N) (T := T_N) (N := 24) hx hb hts in_N hown hK hP 0 rfl rfl 2 (by decide) (hts _ kw_446) (fun _ h9 => h9) rfl d_N_feed_1 ?_
  refine lv_bipush (v := (24 : Int32)) hx hb d_N_feed_4 (by decide) ?_
  refine lv_icmp_ge hx hb d_N_feed_6 rfl (fun hc => ?_) (fun hc => ?_)
  · rw [if_pos hc] at hr
    refine lv_iconst (v := (1 : Int32)) hx hb d_N_feed_16 (by decide) ?_
    obtain rfl := Option.some.inj hr
    exact hQ _ _ _ _ _ d_N_feed_17 rfl rfl hP hD hS
  · rw [if_neg hc] at hr
    refine lv_aload_n hx hb d_N_feed_9 rfl (lv_at hl 0 rfl) ?_
    refine va_get (D := D) (ci := 6) (v := .int N_compiled) (C := R_N) (T := T_N) (N := 24) hx hb hts in_N hown hK hP 0 rfl rfl 7 (by decide) (hts _ kw_451) (fun _ h9 => h9) rfl d_N_feed_10 ?_
    refine lv_if_eq hx hb d_N_feed_13 rfl (fun hc => ?_) (fun hc => ?_)
    · rw [if_pos hc] at hr
      refine lv_aload_n hx hb d_N_feed_18 rfl (lv_at hl 0 rfl) ?_
      refine va_get (D := D) (ci := 6) (v := .ref (qN 1)) (C := R_N) (T := T_N) (N := 24) hx hb hts in_N hown hK hP 0 rfl rfl 3 (by decide) (hts _ kw_447) (fun _ h9 => h9) rfl d_N_feed_19 ?_
      refine lv_aload_n hx hb d_N_feed_22 rfl (lv_at hl 0 rfl) ?_
      refine va_get (D := D) (ci := 6) (v := .int N_words) (C := R_N) (T := T_N) (N := 24) hx hb hts in_N hown hK hP 0 rfl rfl 2 (by decide) (hts _ kw_446) (fun _ h9 => h9) rfl d_N_feed_23 ?_
      refine lv_iload_n hx hb d_N_feed_26 rfl (lv_at hl 1 rfl) ?_
      obtain ⟨hi, hr⟩ := gd_some hr
      refine va_iast hx hb hK hP hD hS 1 0 rfl rfl hi d_N_feed_27 (fun H locs hP hD hS => ?_)
      have hP : va_P D zCl (W_N kI kZ qN N_p N_n N_words N_hasDirect N_compiled N_size N_outcome N_done N_values (upd N_word N_words.toNatClampNeg a1) N_table N_direct N_op N_a N_b N_x N_there N_vOp N_vA N_vB N_vX N_needed N_valueOf N_place) H := hP
      have hD : va_D A (W_N kI kZ qN N_p N_n N_words N_hasDirect N_compiled N_size N_outcome N_done N_values (upd N_word N_words.toNatClampNeg a1) N_table N_direct N_op N_a N_b N_x N_there N_vOp N_vA N_vB N_vX N_needed N_valueOf N_place) := hD
      refine lv_aload_n hx hb d_N_feed_28 rfl (lv_at hl 0 rfl) ?_
      refine lv_aload_n hx hb d_N_feed_29 rfl (lv_at hl 0 rfl) ?_
      refine va_get (D := D) (ci := 6) (v := .int N_words) (C := R_N) (T := T_N) (N := 24) hx hb hts in_N hown hK hP 0 rfl rfl 2 (by decide) (hts _ kw_446) (fun _ h9 => h9) rfl d_N_feed_30 ?_
      refine lv_iconst (v := (1 : Int32)) hx hb d_N_feed_33 (by decide) ?_
      refine lv_iadd hx hb d_N_feed_34 ?_
      refine va_put (D := D) (ci := 6) (v := .int (N_words + (1 : Int32))) (ty := .int) (C := R_N) (T := T_N) (N := 24) hx hb hts in_N ty_N tyo_N nm_N hown hK hP hD hS 0 rfl rfl 2 (by decide) (hts _ kw_446) (fun _ h9 => h9) rfl (by decide +kernel) rfl rfl (Nat.le_of_ble_eq_true rfl) d_N_feed_35 (fun H locs hP hD hS => ?_)
      have hP : va_P D zCl (W_N kI kZ qN N_p N_n (N_words + (1 : Int32)) N_hasDirect N_compiled N_size N_outcome N_done N_values (upd N_word N_words.toNatClampNeg a1) N_table N_direct N_op N_a N_b N_x N_there N_vOp N_vA N_vB N_vX N_needed N_valueOf N_place) H := hP
      have hD : va_D A (W_N kI kZ qN N_p N_n (N_words + (1 : Int32)) N_hasDirect N_compiled N_size N_outcome N_done N_values (upd N_word N_words.toNatClampNeg a1) N_table N_direct N_op N_a N_b N_x N_there N_vOp N_vA N_vB N_vX N_needed N_valueOf N_place) := hD
      refine lv_iconst (v := (0 : Int32)) hx hb d_N_feed_38 (by decide) ?_
      obtain rfl := Option.some.inj hr
      exact hQ _ _ _ _ _ d_N_feed_39 rfl rfl hP hD hS
    · rw [if_neg hc] at hr
      refine lv_iconst (v := (1 : Int32)) hx hb d_N_feed_16 (by decide) ?_
      obtain rfl := Option.some.inj hr
      exact hQ _ _ _ _ _ d_N_feed_17 rfl rfl hP hD hS
set_option maxHeartbeats 4000000 in
set_option maxRecDepth 100000 in
theorem c_N_setInput (l : Launch) (D : va_G) (kI kZ : ClassId) (qN : Nat → Nat) (N_p N_n N_words N_hasDirect N_compiled N_size N_outcome N_done N_values : Int32) (N_word N_table N_direct N_op N_a N_b N_x N_there N_vOp N_vA N_vB N_vX N_needed N_valueOf N_place : Nat → Int32) (a1 a2 a3 a4 : Int32) (res : Int32 × (Nat → Int32) × Int32) (hr : f_N_setInput N_p N_n N_table N_done a1 a2 a3 a4 = some res) : zMi l D kI kZ y_N_setInput prog_8_method_11_code 5 ((some .int)) 2 44 [.ref (qN 0), .int a1, .int a2, .int a3, .int a4] (W_N kI kZ qN N_p N_n N_words N_hasDirect N_compiled N_size N_outcome N_done N_values N_word N_table N_direct N_op N_a N_b N_x N_there N_vOp N_vA N_vB N_vX N_needed N_valueOf N_place) (W_N kI kZ qN N_p N_n N_words N_hasDirect N_compiled N_size N_outcome (res.2.2) N_values N_word (res.2.1) N_direct N_op N_a N_b N_x N_there N_vOp N_vA N_vB N_vX N_needed N_valueOf N_place) (res.1) := by
  refine zMi.of (by decide +kernel) (Nat.le_of_ble_eq_true rfl) ?_
  intro p e R s m args below meth c Q A hR hx hb hml hts hown hA hK hN hQ
  have hown : s.vm.findClass "SquareCodeModel" = some m.cls := hown
  intro ls H hl hP hD hS
  have hl : lv_has ls 5 [(0, .ref (qN 0)), (1, .int a1), (2, .int a2), (3, .int a3), (4, .int a4)] := hl
  rw [f_N_setInput] at hr
  refine lv_iload_n hx hb d_N_setInput_0 rfl (lv_at hl 1 rfl) ?_
  refine lv_iconst (v := (0 : Int32)) hx hb d_N_setInput_1 (by decide) ?_
  refine lv_iconst (v := (3 : Int32)) hx hb d_N_setInput_2 (by decide) ?_
  obtain ⟨r1, hr1, hr⟩ := ob hr
  refine z_ci (ws := (W_N kI kZ qN N_p N_n N_words N_hasDirect N_compiled N_size N_outcome N_done N_values N_word N_table N_direct N_op N_a N_b N_x N_there N_vOp N_vA N_vB N_vX N_needed N_valueOf N_place)) (wc := ([] : va_W)) (wr := (W_N kI kZ qN N_p N_n N_words N_hasDirect N_compiled N_size N_outcome N_done N_values N_word N_table N_direct N_op N_a N_b N_x N_there N_vOp N_vA N_vB N_vX N_needed N_valueOf N_place)) (w1 := ([] : va_W)) (w2 := (W_N kI kZ qN N_p N_n N_words N_hasDirect N_compiled N_size N_outcome N_done N_values N_word N_table N_direct N_op N_a N_b N_x N_there N_vOp N_vA N_vB N_vX N_needed N_valueOf N_place)) (va_runS (As := [.int a1, .int (0 : Int32), .int (3 : Int32)]) (rest := []) ⟨hx, hb, hml, hown, hts⟩ (c_N_in l D kI kZ a1 (0 : Int32) (3 : Int32) r1 hr1 H.size) (z_cwS hts mw_N_in kw_525 ⟨by rw [hR]; exact Nat.le_of_ble_eq_true rfl, by rw [hR]; exact Nat.le_of_ble_eq_true rfl⟩) (z_pre hK hP hD hN [] (by decide) rfl) rfl rfl hl.1 rfl (lv_room (Nat.le_of_ble_eq_true rfl)) d_N_setInput_3 ⟨Nat.zero_le _, Nat.zero_le _⟩) hP hD hS hA [] [0, 1, 2, 3, 4, 5, 6, 7, 8, 9, 10, 11, 12, 13, 14, 15] [0, 1, 2, 3, 4, 5, 6, 7, 8, 9, 10, 11, 12, 13, 14, 15] rfl rfl (by decide) (by decide) rfl (by decide) (fun H locs hP hD hS => ?_)
  refine lv_if_eq hx hb d_N_setInput_6 rfl (fun hc => ?_) (fun hc => ?_)
  · rw [if_pos hc] at hr
    refine lv_iconst (v := (2 : Int32)) hx hb d_N_setInput_18 (by decide) ?_
    obtain rfl := Option.some.inj hr
    exact hQ _ _ _ _ _ d_N_setInput_19 rfl rfl hP hD hS
  · rw [if_neg hc] at hr
    refine lv_aload_n hx hb d_N_setInput_9 rfl (lv_at hl 0 rfl) ?_
    refine lv_iload_n hx hb d_N_setInput_10 rfl (lv_at hl 2 rfl) ?_
    refine lv_iload_n hx hb d_N_setInput_11 rfl (lv_at hl 3 rfl) ?_
    obtain ⟨r2, hr2, hr⟩ := ob hr
    refine z_ci (ws := (W_N kI kZ qN N_p N_n N_words N_hasDirect N_compiled N_size N_outcome N_done N_values N_word N_table N_direct N_op N_a N_b N_x N_there N_vOp N_vA N_vB N_vX N_needed N_valueOf N_place)) (wc := (W_N kI kZ qN N_p N_n N_words N_hasDirect N_compiled N_size N_outcome N_done N_values N_word N_table N_direct N_op N_a N_b N_x N_there N_vOp N_vA N_vB N_vX N_needed N_valueOf N_place)) (wr := ([] : va_W)) (w1 := (W_N kI kZ qN N_p N_n N_words N_hasDirect N_compiled N_size N_outcome N_done N_values N_word N_table N_direct N_op N_a N_b N_x N_there N_vOp N_vA N_vB N_vX N_needed N_valueOf N_place)) (w2 := (W_N kI kZ qN N_p N_n N_words N_hasDirect N_compiled N_size N_outcome N_done N_values N_word N_table N_direct N_op N_a N_b N_x N_there N_vOp N_vA N_vB N_vX N_needed N_valueOf N_place)) (va_runV (As := [.int a2, .int a3]) (rest := []) ⟨hx, hb, hml, hown, hts⟩ (c_N_isPlace l D kI kZ qN N_p N_n N_words N_hasDirect N_compiled N_size N_outcome N_done N_values N_word N_table N_direct N_op N_a N_b N_x N_there N_vOp N_vA N_vB N_vX N_needed N_valueOf N_place a2 a3 r2 hr2 H.size) (z_cwV hts mw_N_isPlace kw_528 ⟨by rw [hR]; exact Nat.le_of_ble_eq_true rfl, by rw [hR]; exact Nat.le_of_ble_eq_true rfl⟩) (z_preV (ci := 6) hK hP hD hN rfl (he := (rfl : _[0]? = _)) [0, 1, 2, 3, 4, 5, 6, 7, 8, 9, 10, 11, 12, 13, 14, 15] (by decide) rfl) rfl rfl hl.1 rfl (lv_room (Nat.le_of_ble_eq_true rfl)) d_N_setInput_12 ⟨Nat.zero_le _, Nat.zero_le _⟩) hP hD hS hA [0, 1, 2, 3, 4, 5, 6, 7, 8, 9, 10, 11, 12, 13, 14, 15] [] [0, 1, 2, 3, 4, 5, 6, 7, 8, 9, 10, 11, 12, 13, 14, 15] rfl rfl (by decide) (by decide) rfl (by decide) (fun H locs hP hD hS => ?_)
    refine lv_if_ne hx hb d_N_setInput_15 rfl (fun hc => ?_) (fun hc => ?_)
    · rw [if_neg hc] at hr
      refine lv_aload_n hx hb d_N_setInput_20 rfl (lv_at hl 0 rfl) ?_
      refine lv_iload_n hx hb d_N_setInput_21 rfl (lv_at hl 1 rfl) ?_
      refine lv_iload_n hx hb d_N_setInput_22 rfl (lv_at hl 2 rfl) ?_
      refine lv_iload_n hx hb d_N_setInput_23 rfl (lv_at hl 3 rfl) ?_
      refine lv_aload_n hx hb d_N_setInput_24 rfl (lv_at hl 0 rfl) ?_
      refine lv_iload hx hb d_N_setInput_25 (lv_at hl 4 rfl) ?_
      obtain ⟨r3, hr3, hr⟩ := ob hr
      refine z_ci (ws := (W_N kI kZ qN N_p N_n N_words N_hasDirect N_compiled N_size N_outcome N_done N_values N_word N_table N_direct N_op N_a N_b N_x N_there N_vOp N_vA N_vB N_vX N_needed N_valueOf N_place)) (wc := (W_N kI kZ qN N_p N_n N_words N_hasDirect N_compiled N_size N_outcome N_done N_values N_word N_table N_direct N_op N_a N_b N_x N_there N_vOp N_vA N_vB N_vX N_needed N_valueOf N_place)) (wr := ([] : va_W)) (w1 := (W_N kI kZ qN N_p N_n N_words N_hasDirect N_compiled N_size N_outcome N_done N_values N_word N_table N_direct N_op N_a N_b N_x N_there N_vOp N_vA N_vB N_vX N_needed N_valueOf N_place)) (w2 := (W_N kI kZ qN N_p N_n N_words N_hasDirect N_compiled N_size N_outcome N_done N_values N_word N_table N_direct N_op N_a N_b N_x N_there N_vOp N_vA N_vB N_vX N_needed N_valueOf N_place)) (va_runV (As := [.int a4]) (rest := [.int a3, .int a2, .int a1, .ref (qN 0)]) ⟨hx, hb, hml, hown, hts⟩ (c_N_mod l D kI kZ qN N_p N_n N_words N_hasDirect N_compiled N_size N_outcome N_done N_values N_word N_table N_direct N_op N_a N_b N_x N_there N_vOp N_vA N_vB N_vX N_needed N_valueOf N_place a4 r3 hr3 H.size) (z_cwV hts mw_N_mod kw_532 ⟨by rw [hR]; exact Nat.le_of_ble_eq_true rfl, by rw [hR]; exact Nat.le_of_ble_eq_true rfl⟩) (z_preV (ci := 6) hK hP hD hN rfl (he := (rfl : _[0]? = _)) [0, 1, 2, 3, 4, 5, 6, 7, 8, 9, 10, 11, 12, 13, 14, 15] (by decide) rfl) rfl rfl hl.1 rfl (lv_room (Nat.le_of_ble_eq_true rfl)) d_N_setInput_27 ⟨Nat.zero_le _, Nat.zero_le _⟩) hP hD hS hA [0, 1, 2, 3, 4, 5, 6, 7, 8, 9, 10, 11, 12, 13, 14, 15] [] [0, 1, 2, 3, 4, 5, 6, 7, 8, 9, 10, 11, 12, 13, 14, 15] rfl rfl (by decide) (by decide) rfl (by decide) (fun H locs hP hD hS => ?_)
      obtain ⟨r4, hr4, hr⟩ := ob hr
      refine z_cv (ws := (W_N kI kZ qN N_p N_n N_words N_hasDirect N_compiled N_size N_outcome N_done N_values N_word N_table N_direct N_op N_a N_b N_x N_there N_vOp N_vA N_vB N_vX N_needed N_valueOf N_place)) (wc := (W_N kI kZ qN N_p N_n N_words N_hasDirect N_compiled N_size N_outcome N_done N_values N_word N_table N_direct N_op N_a N_b N_x N_there N_vOp N_vA N_vB N_vX N_needed N_valueOf N_place)) (wr := ([] : va_W)) (w1 := (W_N kI kZ qN N_p N_n N_words N_hasDirect N_compiled N_size N_outcome N_done N_values N_word r4 N_direct N_op N_a N_b N_x N_there N_vOp N_vA N_vB N_vX N_needed N_valueOf N_place)) (w2 := (W_N kI kZ qN N_p N_n N_words N_hasDirect N_compiled N_size N_outcome N_done N_values N_word r4 N_direct N_op N_a N_b N_x N_there N_vOp N_vA N_vB N_vX N_needed N_valueOf N_place)) (va_runV (As := [.int a1, .int a2, .int a3, .int r3]) (rest := []) ⟨hx, hb, hml, hown, hts⟩ (c_N_put l D kI kZ qN N_p N_n N_words N_hasDirect N_compiled N_size N_outcome N_done N_values N_word N_table N_direct N_op N_a N_b N_x N_there N_vOp N_vA N_vB N_vX N_needed N_valueOf N_place a1 a2 a3 r3 r4 hr4 H.size) (z_cwV hts mw_N_put kw_536 ⟨by rw [hR]; exact Nat.le_of_ble_eq_true rfl, by rw [hR]; exact Nat.le_of_ble_eq_true rfl⟩) (z_preV (ci := 6) hK hP hD hN rfl (he := (rfl : _[0]? = _)) [0, 1, 2, 3, 4, 5, 6, 7, 8, 9, 10, 11, 12, 13, 14, 15] (by decide) rfl) rfl rfl hl.1 rfl (lv_room (Nat.le_of_ble_eq_true rfl)) d_N_setInput_30 ⟨Nat.zero_le _, Nat.zero_le _⟩) hP hD hS hA [0, 1, 2, 3, 4, 5, 6, 7, 8, 9, 10, 11, 12, 13, 14, 15] [] [0, 1, 2, 3, 4, 5, 6, 7, 8, 9, 10, 11, 12, 13, 14, 15] rfl rfl (by decide) (by decide) rfl (by decide) (fun H locs hP hD hS => ?_)
      refine lv_aload_n hx hb d_N_setInput_33 rfl (lv_at hl 0 rfl) ?_
      refine lv_iconst (v := (0 : Int32)) hx hb d_N_setInput_34 (by decide) ?_
      refine va_put (D := D) (ci := 6) (v := .int (0 : Int32)) (ty := .int) (C := R_N) (T := T_N) (N := 24) hx hb hts in_N ty_N tyo_N nm_N hown hK hP hD hS 0 rfl rfl 14 (by decide) (hts _ kw_458) (fun _ h9 => h9) rfl (by decide +kernel) rfl rfl (Nat.le_of_ble_eq_true rfl) d_N_setInput_35 (fun H locs hP hD hS => ?_)
      have hP : va_P D zCl (W_N kI kZ qN N_p N_n N_words N_hasDirect N_compiled N_size N_outcome (0 : Int32) N_values N_word r4 N_direct N_op N_a N_b N_x N_there N_vOp N_vA N_vB N_vX N_needed N_valueOf N_place) H := hP
      have hD : va_D A (W_N kI kZ qN N_p N_n N_words N_hasDirect N_compiled N_size N_outcome (0 : Int32) N_values N_word r4 N_direct N_op N_a N_b N_x N_there N_vOp N_vA N_vB N_vX N_needed N_valueOf N_place) := hD
      refine lv_iconst (v := (0 : Int32)) hx hb d_N_setInput_38 (by decide) ?_
      obtain rfl := Option.some.inj hr
      exact hQ _ _ _ _ _ d_N_setInput_39 rfl rfl hP hD hS
    · rw [if_pos hc] at hr
      refine lv_iconst (v := (2 : Int32)) hx hb d_N_setInput_18 (by decide) ?_
      obtain rfl := Option.some.inj hr
      exact hQ _ _ _ _ _ d_N_setInput_19 rfl rfl hP hD hS
set_option maxHeartbeats 4000000 in
set_option maxRecDepth 100000 in
theorem c_N_isTwo (l : Launch) (D : va_G) (kI kZ : ClassId)  (a0 : Int32) (res : Int32) (hr : f_N_isTwo a0 = some res) : zMi l D kI kZ y_N_isTwo prog_8_method_12_code 1 ((some .boolean)) 1 22 [.int a0] ([] : va_W) ([] : va_W) res := by
  refine zMi.of (by decide +kernel) (Nat.le_of_ble_eq_true rfl) ?_
  intro p e R s m args below meth c Q A hR hx hb hml hts hown hA hK hN hQ
  have hown : s.vm.findClass "SquareCodeModel" = some m.cls := hown
  intro ls H hl hP hD hS
  have hl : lv_has ls 1 [(0, .int a0)] := hl
  rw [f_N_isTwo] at hr
  refine lv_iload_n hx hb d_N_isTwo_0 rfl (lv_at hl 0 rfl) ?_
  refine lv_iconst (v := (3 : Int32)) hx hb d_N_isTwo_1 (by decide) ?_
  refine lv_iconst (v := (5 : Int32)) hx hb d_N_isTwo_2 (by decide) ?_
  obtain ⟨r1, hr1, hr⟩ := ob hr
  refine z_ci (ws := ([] : va_W)) (wc := ([] : va_W)) (wr := ([] : va_W)) (w1 := ([] : va_W)) (w2 := ([] : va_W)) (va_runS (As := [.int a0, .int (3 : Int32), .int (5 : Int32)]) (rest := []) ⟨hx, hb, hml, hown, hts⟩ (c_N_in l D kI kZ a0 (3 : Int32) (5 : Int32) r1 hr1 H.size) (z_cwS hts mw_N_in kw_525 ⟨by rw [hR]; exact Nat.le_of_ble_eq_true rfl, by rw [hR]; exact Nat.le_of_ble_eq_true rfl⟩) (z_pre hK hP hD hN [] (by decide) rfl) rfl rfl hl.1 rfl (lv_room (Nat.le_of_ble_eq_true rfl)) d_N_isTwo_3 ⟨Nat.zero_le _, Nat.zero_le _⟩) hP hD hS hA [] [] [] rfl rfl (by decide) (by decide) rfl (by decide) (fun H locs hP hD hS => ?_)
  obtain ⟨hz, hr⟩ := bz_some hr
  obtain rfl := Option.some.inj hr
  exact hQ _ _ _ _ _ d_N_isTwo_6 (bz_nar hz) rfl hP hD hS
set_option maxHeartbeats 4000000 in
set_option maxRecDepth 100000 in
theorem c_N_isOne (l : Launch) (D : va_G) (kI kZ : ClassId)  (a0 : Int32) (res : Int32) (hr : f_N_isOne a0 = some res) : zMi l D kI kZ y_N_isOne prog_8_method_13_code 1 ((some .boolean)) 1 22 [.int a0] ([] : va_W) ([] : va_W) res := by
  refine zMi.of (by decide +kernel) (Nat.le_of_ble_eq_true rfl) ?_
  intro p e R s m args below meth c Q A hR hx hb hml hts hown hA hK hN hQ
  have hown : s.vm.findClass "SquareCodeModel" = some m.cls := hown
  intro ls H hl hP hD hS
  have hl : lv_has ls 1 [(0, .int a0)] := hl
  rw [f_N_isOne] at hr
  refine lv_iload_n hx hb d_N_isOne_0 rfl (lv_at hl 0 rfl) ?_
  refine lv_bipush (v := (6 : Int32)) hx hb d_N_isOne_1 (by decide) ?_
  refine lv_bipush (v := (8 : Int32)) hx hb d_N_isOne_3 (by decide) ?_
  obtain ⟨r1, hr1, hr⟩ := ob hr
  refine z_ci (ws := ([] : va_W)) (wc := ([] : va_W)) (wr := ([] : va_W)) (w1 := ([] : va_W)) (w2 := ([] : va_W)) (va_runS (As := [.int a0, .int (6 : Int32), .int (8 : Int32)]) (rest := []) ⟨hx, hb, hml, hown, hts⟩ (c_N_in l D kI kZ a0 (6 : Int32) (8 : Int32) r1 hr1 H.size) (z_cwS hts mw_N_in kw_525 ⟨by rw [hR]; exact Nat.le_of_ble_eq_true rfl, by rw [hR]; exact Nat.le_of_ble_eq_true rfl⟩) (z_pre hK hP hD hN [] (by decide) rfl) rfl rfl hl.1 rfl (lv_room (Nat.le_of_ble_eq_true rfl)) d_N_isOne_5 ⟨Nat.zero_le _, Nat.zero_le _⟩) hP hD hS hA [] [] [] rfl rfl (by decide) (by decide) rfl (by decide) (fun H locs hP hD hS => ?_)
  obtain ⟨hz, hr⟩ := bz_some hr
  obtain rfl := Option.some.inj hr
  exact hQ _ _ _ _ _ d_N_isOne_8 (bz_nar hz) rfl hP hD hS
set_option maxHeartbeats 4000000 in
set_option maxRecDepth 100000 in
theorem c_N_isWord (l : Launch) (D : va_G) (kI kZ : ClassId)  (a0 : Int32) (res : Int32) (hr : f_N_isWord a0 = some res) : zMi l D kI kZ y_N_isWord prog_8_method_14_code 3 ((some .boolean)) 1 22 [.int a0] ([] : va_W) ([] : va_W) res := by
  refine zMi.of (by decide +kernel) (Nat.le_of_ble_eq_true rfl) ?_
  intro p e R s m args below meth c Q A hR hx hb hml hts hown hA hK hN hQ
  have hown : s.vm.findClass "SquareCodeModel" = some m.cls := hown
  intro ls H hl hP hD hS
  have hl : lv_has ls 3 [(0, .int a0)] := hl
  rw [f_N_isWord] at hr
  refine lv_iload_n hx hb d_N_isWord_0 rfl (lv_at hl 0 rfl) ?_
  refine lv_bipush (v := (100 : Int32)) hx hb d_N_isWord_1 (by decide) ?_
  refine lv_idiv hx hb d_N_isWord_3 (by decide) ?_
  obtain ⟨v1_1, ev1_1, hr⟩ := nm_some hr
  refine z_top ev1_1 ?_
  refine lv_istore_n (lv' := [(1, .int v1_1), (0, .int a0)]) hx hb d_N_isWord_4 rfl hl (by decide) rfl (fun ls hl => ?_)
  refine lv_iload_n hx hb d_N_isWord_5 rfl (lv_at hl 1 rfl) ?_
  refine lv_bipush (v := (100 : Int32)) hx hb d_N_isWord_6 (by decide) ?_
  refine z_irem hx hb d_N_isWord_8 (by decide) ?_
  obtain ⟨v2_2, ev2_2, hr⟩ := nm_some hr
  refine z_top ev2_2 ?_
  refine lv_istore_n (lv' := [(2, .int v2_2), (1, .int v1_1), (0, .int a0)]) hx hb d_N_isWord_9 rfl hl (by decide) rfl (fun ls hl => ?_)
  refine lv_iload_n hx hb d_N_isWord_10 rfl (lv_at hl 2 rfl) ?_
  refine lv_iconst (v := (0 : Int32)) hx hb d_N_isWord_11 (by decide) ?_
  refine lv_sipush (v := (899 : Int32)) hx hb d_N_isWord_12 (by decide) ?_
  obtain ⟨r3, hr3, hr⟩ := ob hr
  refine z_ci (ws := ([] : va_W)) (wc := ([] : va_W)) (wr := ([] : va_W)) (w1 := ([] : va_W)) (w2 := ([] : va_W)) (va_runS (As := [.int a0, .int (0 : Int32), .int (899 : Int32)]) (rest := []) ⟨hx, hb, hml, hown, hts⟩ (c_N_in l D kI kZ a0 (0 : Int32) (899 : Int32) r3 hr3 H.size) (z_cwS hts mw_N_in kw_525 ⟨by rw [hR]; exact Nat.le_of_ble_eq_true rfl, by rw [hR]; exact Nat.le_of_ble_eq_true rfl⟩) (z_pre hK hP hD hN [] (by decide) rfl) rfl rfl hl.1 rfl (lv_room (Nat.le_of_ble_eq_true rfl)) d_N_isWord_15 ⟨Nat.zero_le _, Nat.zero_le _⟩) hP hD hS hA [] [] [] rfl rfl (by decide) (by decide) rfl (by decide) (fun H locs hP hD hS => ?_)
  refine lv_if_eq hx hb d_N_isWord_18 rfl (fun hc => ?_) (fun hc => ?_)
  · rw [if_pos hc] at hr
    refine lv_iconst (v := (0 : Int32)) hx hb d_N_isWord_53 (by decide) ?_
    obtain rfl := Option.some.inj hr
    exact hQ _ _ _ _ _ d_N_isWord_54 (by decide +kernel) rfl hP hD hS
  · rw [if_neg hc] at hr
    refine lv_iload_n hx hb d_N_isWord_21 rfl (lv_at hl 1 rfl) ?_
    refine lv_bipush (v := (7 : Int32)) hx hb d_N_isWord_22 (by decide) ?_
    refine lv_icmp_eq hx hb d_N_isWord_24 rfl (fun hc => ?_) (fun hc => ?_)
    · rw [if_pos hc] at hr
      refine lv_iconst (v := (1 : Int32)) hx hb d_N_isWord_49 (by decide) ?_
      refine lv_goto hx hb d_N_isWord_50 rfl ?_
      obtain rfl := Option.some.inj hr
      exact hQ _ _ _ _ _ d_N_isWord_54 (by decide +kernel) rfl hP hD hS
    · rw [if_neg hc] at hr
      refine lv_iload_n hx hb d_N_isWord_27 rfl (lv_at hl 1 rfl) ?_
      refine lv_bipush (v := (8 : Int32)) hx hb d_N_isWord_28 (by decide) ?_
      refine lv_icmp_eq hx hb d_N_isWord_30 rfl (fun hc => ?_) (fun hc => ?_)
      · rw [if_pos hc] at hr
        refine lv_iconst (v := (1 : Int32)) hx hb d_N_isWord_49 (by decide) ?_
        refine lv_goto hx hb d_N_isWord_50 rfl ?_
        obtain rfl := Option.some.inj hr
        exact hQ _ _ _ _ _ d_N_isWord_54 (by decide +kernel) rfl hP hD hS
      · rw [if_neg hc] at hr
        refine lv_iload_n hx hb d_N_isWord_33 rfl (lv_at hl 1 rfl) ?_
        refine lv_if_ne hx hb d_N_isWord_34 rfl (fun hc => ?_) (fun hc => ?_)
        · rw [if_neg hc] at hr
          refine lv_iload_n hx hb d_N_isWord_45 rfl (lv_at hl 0 rfl) ?_
          refine lv_if_ne hx hb d_N_isWord_46 rfl (fun hc => ?_) (fun hc => ?_)
          · rw [if_neg hc] at hr
            refine lv_iconst (v := (0 : Int32)) hx hb d_N_isWord_53 (by decide) ?_
            obtain rfl := Option.some.inj hr
            exact hQ _ _ _ _ _ d_N_isWord_54 (by decide +kernel) rfl hP hD hS
          · rw [if_pos hc] at hr
            refine lv_iconst (v := (1 : Int32)) hx hb d_N_isWord_49 (by decide) ?_
            refine lv_goto hx hb d_N_isWord_50 rfl ?_
            obtain rfl := Option.some.inj hr
            exact hQ _ _ _ _ _ d_N_isWord_54 (by decide +kernel) rfl hP hD hS
        · rw [if_pos hc] at hr
          refine lv_iload_n hx hb d_N_isWord_37 rfl (lv_at hl 0 rfl) ?_
          refine lv_iconst (v := (4 : Int32)) hx hb d_N_isWord_38 (by decide) ?_
          refine lv_icmp_ge hx hb d_N_isWord_39 rfl (fun hc => ?_) (fun hc => ?_)
          · rw [if_pos hc] at hr
            refine lv_iconst (v := (0 : Int32)) hx hb d_N_isWord_53 (by decide) ?_
            obtain rfl := Option.some.inj hr
            exact hQ _ _ _ _ _ d_N_isWord_54 (by decide +kernel) rfl hP hD hS
          · rw [if_neg hc] at hr
            refine lv_goto hx hb d_N_isWord_42 rfl ?_
            refine lv_iconst (v := (1 : Int32)) hx hb d_N_isWord_49 (by decide) ?_
            refine lv_goto hx hb d_N_isWord_50 rfl ?_
            obtain rfl := Option.some.inj hr
            exact hQ _ _ _ _ _ d_N_isWord_54 (by decide +kernel) rfl hP hD hS
set_option maxHeartbeats 4000000 in
set_option maxRecDepth 100000 in
theorem c_N_fault (l : Launch) (D : va_G) (kI kZ : ClassId) (qN : Nat → Nat) (N_p N_n N_words N_hasDirect N_compiled N_size N_outcome N_done N_values : Int32) (N_word N_table N_direct N_op N_a N_b N_x N_there N_vOp N_vA N_vB N_vX N_needed N_valueOf N_place : Nat → Int32)  (res : Int32) (hr : f_N_fault N_words N_word = some res) : zMi l D kI kZ y_N_fault prog_8_method_15_code 5 ((some .int)) 2 44 [.ref (qN 0)] (W_N kI kZ qN N_p N_n N_words N_hasDirect N_compiled N_size N_outcome N_done N_values N_word N_table N_direct N_op N_a N_b N_x N_there N_vOp N_vA N_vB N_vX N_needed N_valueOf N_place) (W_N kI kZ qN N_p N_n N_words N_hasDirect N_compiled N_size N_outcome N_done N_values N_word N_table N_direct N_op N_a N_b N_x N_there N_vOp N_vA N_vB N_vX N_needed N_valueOf N_place) res := by
  refine zMi.of (by decide +kernel) (Nat.le_of_ble_eq_true rfl) ?_
  intro p e R s m args below meth c Q A hR hx hb hml hts hown hA hK hN hQ
  have hown : s.vm.findClass "SquareCodeModel" = some m.cls := hown
  have hB59 : ∀ (v1 v2 t0 : Int32) (k4 : Int32 → Int32 → Option (Int32)) (hk4 : ∀ (v1 v2 : Int32) (H : Heap) (locs : List Loc) (ls : Array Slot), lv_has ls 5 [(0, .ref (qN 0)), (1, .int v1), (2, .int v2)] → va_P D zCl (W_N kI kZ qN N_p N_n N_words N_hasDirect N_compiled N_size N_outcome N_done N_values N_word N_table N_direct N_op N_a N_b N_x N_there N_vOp N_vA N_vB N_vX N_needed N_valueOf N_place) H → va_D A (W_N kI kZ qN N_p N_n N_words N_hasDirect N_compiled N_size N_outcome N_done N_values N_word N_table N_direct N_op N_a N_b N_x N_there N_vOp N_vA N_vB N_vX N_needed N_valueOf N_place) → va_S A s.heap H locs → k4 v1 v2 = some res → W p l e R s m args below meth c H locs 0 0 Q (F0 m 4 ls [])) (H : Heap) (locs : List Loc) (ls : Array Slot), lv_has ls 5 [(0, .ref (qN 0)), (1, .int v1), (2, .int v2)] → va_P D zCl (W_N kI kZ qN N_p N_n N_words N_hasDirect N_compiled N_size N_outcome N_done N_values N_word N_table N_direct N_op N_a N_b N_x N_there N_vOp N_vA N_vB N_vX N_needed N_valueOf N_place) H → va_D A (W_N kI kZ qN N_p N_n N_words N_hasDirect N_compiled N_size N_outcome N_done N_values N_word N_table N_direct N_op N_a N_b N_x N_there N_vOp N_vA N_vB N_vX N_needed N_valueOf N_place) → va_S A s.heap H locs → f_N_fault_59 k4 v1 v2 t0 = some res → W p l e R s m args below meth c H locs 0 0 Q (F0 m 59 ls [.int t0]) := by
    intro v1 v2 t0 k4 hk4 H locs ls hl hP hD hS hr
    rw [f_N_fault_59] at hr
    refine lv_istore (lv' := [(4, .int t0), (0, .ref (qN 0)), (1, .int v1), (2, .int v2)]) hx hb d_N_fault_59 hl (by decide) rfl (fun ls hl => ?_)
    refine lv_iload_n hx hb d_N_fault_61 rfl (lv_at hl 2 rfl) ?_
    refine lv_iload hx hb d_N_fault_62 (lv_at hl 0 rfl) ?_
    refine lv_icmp_ge hx hb d_N_fault_64 rfl (fun hc => ?_) (fun hc => ?_)
    · rw [if_pos hc] at hr
      refine lv_iload_n hx hb d_N_fault_69 rfl (lv_at hl 2 rfl) ?_
      refine lv_iload hx hb d_N_fault_70 (lv_at hl 0 rfl) ?_
      refine lv_isub hx hb d_N_fault_72 ?_
      refine lv_iconst (v := (1 : Int32)) hx hb d_N_fault_73 (by decide) ?_
      refine lv_iadd hx hb d_N_fault_74 ?_
      obtain ⟨v1_1, ev1_1, hr⟩ := nm_some hr
      refine z_top ev1_1 ?_
      refine lv_istore_n (lv' := [(1, .int v1_1), (4, .int t0), (0, .ref (qN 0)), (2, .int v2)]) hx hb d_N_fault_75 rfl hl (by decide) rfl (fun ls hl => ?_)
      refine lv_iinc (k := 3) (v := (v2 + (1 : Int32))) (lv' := [(2, .int (v2 + (1 : Int32))), (1, .int v1_1), (4, .int t0), (0, .ref (qN 0))]) hx hb d_N_fault_76 hl rfl (congrArg (fun z => v2 + z) (by decide : Int32.ofInt 1 = (1 : Int32))) (by decide) rfl (fun ls hl => ?_)
      refine lv_goto hx hb d_N_fault_79 rfl ?_
      exact hk4 v1_1 (v2 + (1 : Int32)) _ _ _ (lv_sub hl [3, 1, 0] rfl) hP hD hS hr
    · rw [if_neg hc] at hr
      refine lv_iconst (v := (4 : Int32)) hx hb d_N_fault_67 (by decide) ?_
      obtain rfl := Option.some.inj hr
      exact hQ _ _ _ _ _ d_N_fault_68 rfl rfl hP hD hS
  have hB4 : ∀ (fu : Nat) (v1 v2 : Int32) (H : Heap) (locs : List Loc) (ls : Array Slot), lv_has ls 5 [(0, .ref (qN 0)), (1, .int v1), (2, .int v2)] → va_P D zCl (W_N kI kZ qN N_p N_n N_words N_hasDirect N_compiled N_size N_outcome N_done N_values N_word N_table N_direct N_op N_a N_b N_x N_there N_vOp N_vA N_vB N_vX N_needed N_valueOf N_place) H → va_D A (W_N kI kZ qN N_p N_n N_words N_hasDirect N_compiled N_size N_outcome N_done N_values N_word N_table N_direct N_op N_a N_b N_x N_there N_vOp N_vA N_vB N_vX N_needed N_valueOf N_place) → va_S A s.heap H locs → f_N_fault_4 N_words N_word fu v1 v2 = some res → W p l e R s m args below meth c H locs 0 0 Q (F0 m 4 ls []) := by
    intro  fu
    induction fu with
    | zero => intro v1 v2 H locs ls hl hP hD hS hr; exact absurd hr (by rw [f_N_fault_4]; exact fun h => by cases h)
    | succ fu ih =>
      intro v1 v2 H locs ls hl hP hD hS hr
      rw [f_N_fault_4] at hr
      refine lv_iload_n hx hb d_N_fault_4 rfl (lv_at hl 2 rfl) ?_
      refine lv_aload_n hx hb d_N_fault_5 rfl (lv_at hl 0 rfl) ?_
      refine va_get (D := D) (ci := 6) (v := .int N_words) (C := R_N) (T := T_N) (N := 24) hx hb hts in_N hown hK hP 0 rfl rfl 2 (by decide) (hts _ kw_446) (fun _ h9 => h9) rfl d_N_fault_6 ?_
      refine lv_icmp_ge hx hb d_N_fault_9 rfl (fun hc => ?_) (fun hc => ?_)
      · rw [if_pos hc] at hr
        refine lv_iload_n hx hb d_N_fault_82 rfl (lv_at hl 1 rfl) ?_
        refine lv_iconst (v := (1 : Int32)) hx hb d_N_fault_83 (by decide) ?_
        refine lv_icmp_ne hx hb d_N_fault_84 rfl (fun hc => ?_) (fun hc => ?_)
        · rw [if_neg hc] at hr
          refine lv_iconst (v := (5 : Int32)) hx hb d_N_fault_91 (by decide) ?_
          obtain rfl := Option.some.inj hr
          exact hQ _ _ _ _ _ d_N_fault_92 rfl rfl hP hD hS
        · rw [if_pos hc] at hr
          refine lv_iconst (v := (0 : Int32)) hx hb d_N_fault_87 (by decide) ?_
          refine lv_goto hx hb d_N_fault_88 rfl ?_
          obtain rfl := Option.some.inj hr
          exact hQ _ _ _ _ _ d_N_fault_92 rfl rfl hP hD hS
      · rw [if_neg hc] at hr
        refine lv_aload_n hx hb d_N_fault_12 rfl (lv_at hl 0 rfl) ?_
        refine va_get (D := D) (ci := 6) (v := .ref (qN 1)) (C := R_N) (T := T_N) (N := 24) hx hb hts in_N hown hK hP 0 rfl rfl 3 (by decide) (hts _ kw_447) (fun _ h9 => h9) rfl d_N_fault_13 ?_
        refine lv_iload_n hx hb d_N_fault_16 rfl (lv_at hl 2 rfl) ?_
        obtain ⟨hi, hr⟩ := gd_some hr
        refine va_iald hx hb hK hP 1 0 rfl rfl hi d_N_fault_17 ?_
        obtain ⟨r2, hr2, hr⟩ := ob hr
        refine z_ci (ws := (W_N kI kZ qN N_p N_n N_words N_hasDirect N_compiled N_size N_outcome N_done N_values N_word N_table N_direct N_op N_a N_b N_x N_there N_vOp N_vA N_vB N_vX N_needed N_valueOf N_place)) (wc := ([] : va_W)) (wr := (W_N kI kZ qN N_p N_n N_words N_hasDirect N_compiled N_size N_outcome N_done N_values N_word N_table N_direct N_op N_a N_b N_x N_there N_vOp N_vA N_vB N_vX N_needed N_valueOf N_place)) (w1 := ([] : va_W)) (w2 := (W_N kI kZ qN N_p N_n N_words N_hasDirect N_compiled N_size N_outcome N_done N_values N_word N_table N_direct N_op N_a N_b N_x N_there N_vOp N_vA N_vB N_vX N_needed N_valueOf N_place)) (va_runS (As := [.int (N_word v2.toNatClampNeg)]) (rest := []) ⟨hx, hb, hml, hown, hts⟩ (c_N_isWord l D kI kZ (N_word v2.toNatClampNeg) r2 hr2 H.size) (z_cwS hts mw_N_isWord kw_548 ⟨by rw [hR]; exact Nat.le_of_ble_eq_true rfl, by rw [hR]; exact Nat.le_of_ble_eq_true rfl⟩) (z_pre hK hP hD hN [] (by decide) rfl) rfl rfl hl.1 rfl (lv_room (Nat.le_of_ble_eq_true rfl)) d_N_fault_18 ⟨Nat.zero_le _, Nat.zero_le _⟩) hP hD hS hA [] [0, 1, 2, 3, 4, 5, 6, 7, 8, 9, 10, 11, 12, 13, 14, 15] [0, 1, 2, 3, 4, 5, 6, 7, 8, 9, 10, 11, 12, 13, 14, 15] rfl rfl (by decide) (by decide) rfl (by decide) (fun H locs hP hD hS => ?_)
        refine lv_if_ne hx hb d_N_fault_21 rfl (fun hc => ?_) (fun hc => ?_)
        · rw [if_neg hc] at hr
          refine lv_aload_n hx hb d_N_fault_26 rfl (lv_at hl 0 rfl) ?_
          refine va_get (D := D) (ci := 6) (v := .ref (qN 1)) (C := R_N) (T := T_N) (N := 24) hx hb hts in_N hown hK hP 0 rfl rfl 3 (by decide) (hts _ kw_447) (fun _ h9 => h9) rfl d_N_fault_27 ?_
          refine lv_iload_n hx hb d_N_fault_30 rfl (lv_at hl 2 rfl) ?_
          obtain ⟨hi, hr⟩ := gd_some hr
          refine va_iald hx hb hK hP 1 0 rfl rfl hi d_N_fault_31 ?_
          refine lv_bipush (v := (100 : Int32)) hx hb d_N_fault_32 (by decide) ?_
          refine lv_idiv hx hb d_N_fault_34 (by decide) ?_
          obtain ⟨v3_3, ev3_3, hr⟩ := nm_some hr
          refine z_top ev3_3 ?_
          refine lv_istore_n (lv' := [(3, .int v3_3), (0, .ref (qN 0)), (1, .int v1), (2, .int v2)]) hx hb d_N_fault_35 rfl hl (by decide) rfl (fun ls hl => ?_)
          refine lv_iload_n hx hb d_N_fault_36 rfl (lv_at hl 0 rfl) ?_
          obtain ⟨r4, hr4, hr⟩ := ob hr
          refine z_ci (ws := (W_N kI kZ qN N_p N_n N_words N_hasDirect N_compiled N_size N_outcome N_done N_values N_word N_table N_direct N_op N_a N_b N_x N_there N_vOp N_vA N_vB N_vX N_needed N_valueOf N_place)) (wc := ([] : va_W)) (wr := (W_N kI kZ qN N_p N_n N_words N_hasDirect N_compiled N_size N_outcome N_done N_values N_word N_table N_direct N_op N_a N_b N_x N_there N_vOp N_vA N_vB N_vX N_needed N_valueOf N_place)) (w1 := ([] : va_W)) (w2 := (W_N kI kZ qN N_p N_n N_words N_hasDirect N_compiled N_size N_outcome N_done N_values N_word N_table N_direct N_op N_a N_b N_x N_there N_vOp N_vA N_vB N_vX N_needed N_valueOf N_place)) (va_runS (As := [.int v3_3]) (rest := []) ⟨hx, hb, hml, hown, hts⟩ (c_N_isTwo l D kI kZ v3_3 r4 hr4 H.size) (z_cwS hts mw_N_isTwo kw_551 ⟨by rw [hR]; exact Nat.le_of_ble_eq_true rfl, by rw [hR]; exact Nat.le_of_ble_eq_true rfl⟩) (z_pre hK hP hD hN [] (by decide) rfl) rfl rfl hl.1 rfl (lv_room (Nat.le_of_ble_eq_true rfl)) d_N_fault_37 ⟨Nat.zero_le _, Nat.zero_le _⟩) hP hD hS hA [] [0, 1, 2, 3, 4, 5, 6, 7, 8, 9, 10, 11, 12, 13, 14, 15] [0, 1, 2, 3, 4, 5, 6, 7, 8, 9, 10, 11, 12, 13, 14, 15] rfl rfl (by decide) (by decide) rfl (by decide) (fun H locs hP hD hS => ?_)
          refine lv_if_eq hx hb d_N_fault_40 rfl (fun hc => ?_) (fun hc => ?_)
          · rw [if_pos hc] at hr
            refine lv_iload_n hx hb d_N_fault_47 rfl (lv_at hl 0 rfl) ?_
            obtain ⟨r5, hr5, hr⟩ := ob hr
            refine z_ci (ws := (W_N kI kZ qN N_p N_n N_words N_hasDirect N_compiled N_size N_outcome N_done N_values N_word N_table N_direct N_op N_a N_b N_x N_there N_vOp N_vA N_vB N_vX N_needed N_valueOf N_place)) (wc := ([] : va_W)) (wr := (W_N kI kZ qN N_p N_n N_words N_hasDirect N_compiled N_size N_outcome N_done N_values N_word N_table N_direct N_op N_a N_b N_x N_there N_vOp N_vA N_vB N_vX N_needed N_valueOf N_place)) (w1 := ([] : va_W)) (w2 := (W_N kI kZ qN N_p N_n N_words N_hasDirect N_compiled N_size N_outcome N_done N_values N_word N_table N_direct N_op N_a N_b N_x N_there N_vOp N_vA N_vB N_vX N_needed N_valueOf N_place)) (va_runS (As := [.int v3_3]) (rest := []) ⟨hx, hb, hml, hown, hts⟩ (c_N_isOne l D kI kZ v3_3 r5 hr5 H.size) (z_cwS hts mw_N_isOne kw_554 ⟨by rw [hR]; exact Nat.le_of_ble_eq_true rfl, by rw [hR]; exact Nat.le_of_ble_eq_true rfl⟩) (z_pre hK hP hD hN [] (by decide) rfl) rfl rfl hl.1 rfl (lv_room (Nat.le_of_ble_eq_true rfl)) d_N_fault_48 ⟨Nat.zero_le _, Nat.zero_le _⟩) hP hD hS hA [] [0, 1, 2, 3, 4, 5, 6, 7, 8, 9, 10, 11, 12, 13, 14, 15] [0, 1, 2, 3, 4, 5, 6, 7, 8, 9, 10, 11, 12, 13, 14, 15] rfl rfl (by decide) (by decide) rfl (by decide) (fun H locs hP hD hS => ?_)
            refine lv_if_eq hx hb d_N_fault_51 rfl (fun hc => ?_) (fun hc => ?_)
            · rw [if_pos hc] at hr
              refine lv_iconst (v := (0 : Int32)) hx hb d_N_fault_58 (by decide) ?_
              exact hB59 v1 v2 (0 : Int32) _ ih _ _ _ (lv_sub hl [1, 2, 3] rfl) hP hD hS hr
            · rw [if_neg hc] at hr
              refine lv_iconst (v := (1 : Int32)) hx hb d_N_fault_54 (by decide) ?_
              refine lv_goto hx hb d_N_fault_55 rfl ?_
              exact hB59 v1 v2 (1 : Int32) _ ih _ _ _ (lv_sub hl [1, 2, 3] rfl) hP hD hS hr
          · rw [if_neg hc] at hr
            refine lv_iconst (v := (2 : Int32)) hx hb d_N_fault_43 (by decide) ?_
            refine lv_goto hx hb d_N_fault_44 rfl ?_
            exact hB59 v1 v2 (2 : Int32) _ ih _ _ _ (lv_sub hl [1, 2, 3] rfl) hP hD hS hr
        · rw [if_pos hc] at hr
          refine lv_iconst (v := (3 : Int32)) hx hb d_N_fault_24 (by decide) ?_
          obtain rfl := Option.some.inj hr
          exact hQ _ _ _ _ _ d_N_fault_25 rfl rfl hP hD hS
  intro ls H hl hP hD hS
  have hl : lv_has ls 5 [(0, .ref (qN 0))] := hl
  rw [f_N_fault] at hr
  refine lv_iconst (v := (0 : Int32)) hx hb d_N_fault_0 (by decide) ?_
  refine lv_istore_n (lv' := [(1, .int (0 : Int32)), (0, .ref (qN 0))]) hx hb d_N_fault_1 rfl hl (by decide) rfl (fun ls hl => ?_)
  refine lv_iconst (v := (0 : Int32)) hx hb d_N_fault_2 (by decide) ?_
  refine lv_istore_n (lv' := [(2, .int (0 : Int32)), (1, .int (0 : Int32)), (0, .ref (qN 0))]) hx hb d_N_fault_3 rfl hl (by decide) rfl (fun ls hl => ?_)
  exact hB4 zFU (0 : Int32) (0 : Int32) _ _ _ (lv_sub hl [2, 1, 0] rfl) hP hD hS hr
