set_option maxHeartbeats 4000000 in
set_option maxRecDepth 100000 in
theorem c_N_writePower (l : Launch) (D : va_G) (kI kZ : ClassId) (qN : Nat → Nat) (N_p N_n N_words N_hasDirect N_compiled N_size N_outcome N_done N_values : Int32) (N_word N_table N_direct N_op N_a N_b N_x N_there N_vOp N_vA N_vB N_vX N_needed N_valueOf N_place : Nat → Int32) (a1 a2 : Int32) (res : Int32 × Int32 × (Nat → Int32) × (Nat → Int32) × (Nat → Int32) × (Nat → Int32)) (hr : f_N_writePower N_size N_op N_a N_b N_x a1 a2 = some res) : zMi l D kI kZ y_N_writePower prog_8_method_20_code 5 ((some .int)) 1 24 [.ref (qN 0), .int a1, .int a2] (W_N kI kZ qN N_p N_n N_words N_hasDirect N_compiled N_size N_outcome N_done N_values N_word N_table N_direct N_op N_a N_b N_x N_there N_vOp N_vA N_vB N_vX N_needed N_valueOf N_place) (W_N kI kZ qN N_p N_n N_words N_hasDirect N_compiled (res.2.1) N_outcome N_done N_values N_word N_table N_direct (res.2.2.1) (res.2.2.2.1) (res.2.2.2.2.1) (res.2.2.2.2.2) N_there N_vOp N_vA N_vB N_vX N_needed N_valueOf N_place) (res.1) := by
  refine zMi.of (by decide +kernel) (Nat.le_of_ble_eq_true rfl) ?_
  intro p e R s m args below meth c Q A hR hx hb hml hts hown hA hK hN hQ
  have hown : s.vm.findClass "SquareCodeModel" = some m.cls := hown
  have hB23 : ∀ (fu : Nat) (v3 v4 N_size : Int32) (N_op N_a N_b N_x : Nat → Int32) (H : Heap) (locs : List Loc) (ls : Array Slot), lv_has ls 5 [(0, .ref (qN 0)), (1, .int a1), (2, .int a2), (3, .int v3), (4, .int v4)] → va_P D zCl (W_N kI kZ qN N_p N_n N_words N_hasDirect N_compiled N_size N_outcome N_done N_values N_word N_table N_direct N_op N_a N_b N_x N_there N_vOp N_vA N_vB N_vX N_needed N_valueOf N_place) H → va_D A (W_N kI kZ qN N_p N_n N_words N_hasDirect N_compiled N_size N_outcome N_done N_values N_word N_table N_direct N_op N_a N_b N_x N_there N_vOp N_vA N_vB N_vX N_needed N_valueOf N_place) → va_S A s.heap H locs → f_N_writePower_23 a1 a2 fu v3 v4 N_size N_op N_a N_b N_x = some res → W p l e R s m args below meth c H locs 0 0 Q (F0 m 23 ls []) := by
    intro  fu
    induction fu with
    | zero => intro v3 v4 N_size N_op N_a N_b N_x H locs ls hl hP hD hS hr; exact absurd hr (by rw [f_N_writePower_23]; exact fun h => by cases h)
    | succ fu ih =>
      intro v3 v4 N_size N_op N_a N_b N_x H locs ls hl hP hD hS hr
      rw [f_N_writePower_23] at hr
      refine lv_iload hx hb d_N_writePower_23 (lv_at hl 4 rfl) ?_
      refine lv_if_le hx hb d_N_writePower_25 rfl (fun hc => ?_) (fun hc => ?_)
      · rw [if_pos hc] at hr
        refine lv_iload_n hx hb d_N_writePower_62 rfl (lv_at hl 3 rfl) ?_
        obtain rfl := Option.some.inj hr
        exact hQ _ _ _ _ _ d_N_writePower_63 rfl rfl hP hD hS
      · rw [if_neg hc] at hr
        refine lv_aload_n hx hb d_N_writePower_28 rfl (lv_at hl 0 rfl) ?_
        refine lv_iconst (v := (5 : Int32)) hx hb d_N_writePower_29 (by decide) ?_
        refine lv_iload_n hx hb d_N_writePower_30 rfl (lv_at hl 3 rfl) ?_
        refine lv_iload_n hx hb d_N_writePower_31 rfl (lv_at hl 3 rfl) ?_
        refine lv_iconst (v := (0 : Int32)) hx hb d_N_writePower_32 (by decide) ?_
        obtain ⟨r1, hr1, hr⟩ := ob hr
        refine z_ci (ws := (W_N kI kZ qN N_p N_n N_words N_hasDirect N_compiled N_size N_outcome N_done N_values N_word N_table N_direct N_op N_a N_b N_x N_there N_vOp N_vA N_vB N_vX N_needed N_valueOf N_place)) (wc := (W_N kI kZ qN N_p N_n N_words N_hasDirect N_compiled N_size N_outcome N_done N_values N_word N_table N_direct N_op N_a N_b N_x N_there N_vOp N_vA N_vB N_vX N_needed N_valueOf N_place)) (wr := ([] : va_W)) (w1 := (W_N kI kZ qN N_p N_n N_words N_hasDirect N_compiled r1.2.1 N_outcome N_done N_values N_word N_table N_direct r1.2.2.1 r1.2.2.2.1 r1.2.2.2.2.1 r1.2.2.2.2.2 N_there N_vOp N_vA N_vB N_vX N_needed N_valueOf N_place)) (w2 := (W_N kI kZ qN N_p N_n N_words N_hasDirect N_compiled r1.2.1 N_outcome N_done N_values N_word N_table N_direct r1.2.2.1 r1.2.2.2.1 r1.2.2.2.2.1 r1.2.2.2.2.2 N_there N_vOp N_vA N_vB N_vX N_needed N_valueOf N_place)) (va_runV (As := [.int (5 : Int32), .int v3, .int v3, .int (0 : Int32)]) (rest := []) ⟨hx, hb, hml, hown, hts⟩ (c_N_write l D kI kZ qN N_p N_n N_words N_hasDirect N_compiled N_size N_outcome N_done N_values N_word N_table N_direct N_op N_a N_b N_x N_there N_vOp N_vA N_vB N_vX N_needed N_valueOf N_place (5 : Int32) v3 v3 (0 : Int32) r1 hr1 H.size) (z_cwV hts mw_N_write kw_587 ⟨by rw [hR]; exact Nat.le_of_ble_eq_true rfl, by rw [hR]; exact Nat.le_of_ble_eq_true rfl⟩) (z_preV (ci := 6) hK hP hD hN rfl (he := (rfl : _[0]? = _)) [0, 1, 2, 3, 4, 5, 6, 7, 8, 9, 10, 11, 12, 13, 14, 15] (by decide) rfl) rfl rfl hl.1 rfl (lv_room (Nat.le_of_ble_eq_true rfl)) d_N_writePower_33 ⟨Nat.zero_le _, Nat.zero_le _⟩) hP hD hS hA [0, 1, 2, 3, 4, 5, 6, 7, 8, 9, 10, 11, 12, 13, 14, 15] [] [0, 1, 2, 3, 4, 5, 6, 7, 8, 9, 10, 11, 12, 13, 14, 15] rfl rfl (by decide) (by decide) rfl (by decide) (fun H locs hP hD hS => ?_)
        refine lv_istore_n (lv' := [(3, .int r1.1), (0, .ref (qN 0)), (1, .int a1), (2, .int a2), (4, .int v4)]) hx hb d_N_writePower_36 rfl hl (by decide) rfl (fun ls hl => ?_)
        refine lv_iload_n hx hb d_N_writePower_37 rfl (lv_at hl 3 rfl) ?_
        refine lv_iload hx hb d_N_writePower_38 (lv_at hl 4 rfl) ?_
        refine lv_iand hx hb d_N_writePower_40 ?_
        refine lv_if_eq hx hb d_N_writePower_41 rfl (fun hc => ?_) (fun hc => ?_)
        · rw [if_pos hc] at hr
          refine lv_iload hx hb d_N_writePower_53 (lv_at hl 4 rfl) ?_
          refine lv_iconst (v := (2 : Int32)) hx hb d_N_writePower_55 (by decide) ?_
          refine lv_idiv hx hb d_N_writePower_56 (by decide) ?_
          obtain ⟨v4_2, ev4_2, hr⟩ := nm_some hr
          refine z_top ev4_2 ?_
          refine lv_istore (lv' := [(4, .int v4_2), (3, .int r1.1), (0, .ref (qN 0)), (1, .int a1), (2, .int a2)]) hx hb d_N_writePower_57 hl (by decide) rfl (fun ls hl => ?_)
          refine lv_goto hx hb d_N_writePower_59 rfl ?_
          exact ih r1.1 v4_2 r1.2.1 r1.2.2.1 r1.2.2.2.1 r1.2.2.2.2.1 r1.2.2.2.2.2 _ _ _ (lv_sub hl [2, 3, 4, 1, 0] rfl) hP hD hS hr
        · rw [if_neg hc] at hr
          refine lv_aload_n hx hb d_N_writePower_44 rfl (lv_at hl 1 rfl) ?_
          refine lv_iconst (v := (5 : Int32)) hx hb d_N_writePower_45 (by decide) ?_
          refine lv_iload_n hx hb d_N_writePower_46 rfl (lv_at hl 0 rfl) ?_
          refine lv_iload_n hx hb d_N_writePower_47 rfl (lv_at hl 2 rfl) ?_
          refine lv_iconst (v := (0 : Int32)) hx hb d_N_writePower_48 (by decide) ?_
          obtain ⟨r3, hr3, hr⟩ := ob hr
          refine z_ci (ws := (W_N kI kZ qN N_p N_n N_words N_hasDirect N_compiled r1.2.1 N_outcome N_done N_values N_word N_table N_direct r1.2.2.1 r1.2.2.2.1 r1.2.2.2.2.1 r1.2.2.2.2.2 N_there N_vOp N_vA N_vB N_vX N_needed N_valueOf N_place)) (wc := (W_N kI kZ qN N_p N_n N_words N_hasDirect N_compiled r1.2.1 N_outcome N_done N_values N_word N_table N_direct r1.2.2.1 r1.2.2.2.1 r1.2.2.2.2.1 r1.2.2.2.2.2 N_there N_vOp N_vA N_vB N_vX N_needed N_valueOf N_place)) (wr := ([] : va_W)) (w1 := (W_N kI kZ qN N_p N_n N_words N_hasDirect N_compiled r3.2.1 N_outcome N_done N_values N_word N_table N_direct r3.2.2.1 r3.2.2.2.1 r3.2.2.2.2.1 r3.2.2.2.2.2 N_there N_vOp N_vA N_vB N_vX N_needed N_valueOf N_place)) (w2 := (W_N kI kZ qN N_p N_n N_words N_hasDirect N_compiled r3.2.1 N_outcome N_done N_values N_word N_table N_direct r3.2.2.1 r3.2.2.2.1 r3.2.2.2.2.1 r3.2.2.2.2.2 N_there N_vOp N_vA N_vB N_vX N_needed N_valueOf N_place)) (va_runV (As := [.int (5 : Int32), .int r1.1, .int a1, .int (0 : Int32)]) (rest := []) ⟨hx, hb, hml, hown, hts⟩ (c_N_write l D kI kZ qN N_p N_n N_words N_hasDirect N_compiled r1.2.1 N_outcome N_done N_values N_word N_table N_direct r1.2.2.1 r1.2.2.2.1 r1.2.2.2.2.1 r1.2.2.2.2.2 N_there N_vOp N_vA N_vB N_vX N_needed N_valueOf N_place (5 : Int32) r1.1 a1 (0 : Int32) r3 hr3 H.size) (z_cwV hts mw_N_write kw_587 ⟨by rw [hR]; exact Nat.le_of_ble_eq_true rfl, by rw [hR]; exact Nat.le_of_ble_eq_true rfl⟩) (z_preV (ci := 6) hK hP hD hN rfl (he := (rfl : _[0]? = _)) [0, 1, 2, 3, 4, 5, 6, 7, 8, 9, 10, 11, 12, 13, 14, 15] (by decide) rfl) rfl rfl hl.1 rfl (lv_room (Nat.le_of_ble_eq_true rfl)) d_N_writePower_49 ⟨Nat.zero_le _, Nat.zero_le _⟩) hP hD hS hA [0, 1, 2, 3, 4, 5, 6, 7, 8, 9, 10, 11, 12, 13, 14, 15] [] [0, 1, 2, 3, 4, 5, 6, 7, 8, 9, 10, 11, 12, 13, 14, 15] rfl rfl (by decide) (by decide) rfl (by decide) (fun H locs hP hD hS => ?_)
          refine lv_istore_n (lv' := [(3, .int r3.1), (0, .ref (qN 0)), (1, .int a1), (2, .int a2), (4, .int v4)]) hx hb d_N_writePower_52 rfl hl (by decide) rfl (fun ls hl => ?_)
          refine lv_iload hx hb d_N_writePower_53 (lv_at hl 4 rfl) ?_
          refine lv_iconst (v := (2 : Int32)) hx hb d_N_writePower_55 (by decide) ?_
          refine lv_idiv hx hb d_N_writePower_56 (by decide) ?_
          obtain ⟨v4_4, ev4_4, hr⟩ := nm_some hr
          refine z_top ev4_4 ?_
          refine lv_istore (lv' := [(4, .int v4_4), (3, .int r3.1), (0, .ref (qN 0)), (1, .int a1), (2, .int a2)]) hx hb d_N_writePower_57 hl (by decide) rfl (fun ls hl => ?_)
          refine lv_goto hx hb d_N_writePower_59 rfl ?_
          exact ih r3.1 v4_4 r3.2.1 r3.2.2.1 r3.2.2.2.1 r3.2.2.2.2.1 r3.2.2.2.2.2 _ _ _ (lv_sub hl [2, 3, 4, 1, 0] rfl) hP hD hS hr
  intro ls H hl hP hD hS
  have hl : lv_has ls 5 [(0, .ref (qN 0)), (1, .int a1), (2, .int a2)] := hl
  rw [f_N_writePower] at hr
  refine lv_iload_n hx hb d_N_writePower_0 rfl (lv_at hl 2 rfl) ?_
  refine lv_if_ne hx hb d_N_writePower_1 rfl (fun hc => ?_) (fun hc => ?_)
  · rw [if_neg hc] at hr
    refine lv_iload_n hx hb d_N_writePower_13 rfl (lv_at hl 1 rfl) ?_
    refine lv_istore_n (lv' := [(3, .int a1), (0, .ref (qN 0)), (1, .int a1), (2, .int a2)]) hx hb d_N_writePower_14 rfl hl (by decide) rfl (fun ls hl => ?_)
    refine lv_iload_n hx hb d_N_writePower_15 rfl (lv_at hl 3 rfl) ?_
    obtain ⟨r5, hr5, hr⟩ := ob hr
    refine z_ci (ws := (W_N kI kZ qN N_p N_n N_words N_hasDirect N_compiled N_size N_outcome N_done N_values N_word N_table N_direct N_op N_a N_b N_x N_there N_vOp N_vA N_vB N_vX N_needed N_valueOf N_place)) (wc := ([] : va_W)) (wr := (W_N kI kZ qN N_p N_n N_words N_hasDirect N_compiled N_size N_outcome N_done N_values N_word N_table N_direct N_op N_a N_b N_x N_there N_vOp N_vA N_vB N_vX N_needed N_valueOf N_place)) (w1 := ([] : va_W)) (w2 := (W_N kI kZ qN N_p N_n N_words N_hasDirect N_compiled N_size N_outcome N_done N_values N_word N_table N_direct N_op N_a N_b N_x N_there N_vOp N_vA N_vB N_vX N_needed N_valueOf N_place)) (va_runS (As := [.int a2]) (rest := []) ⟨hx, hb, hml, hown, hts⟩ (c_N_highest l D kI kZ a2 r5 hr5 H.size) (z_cwS hts mw_N_highest kw_580 ⟨by rw [hR]; exact Nat.le_of_ble_eq_true rfl, by rw [hR]; exact Nat.le_of_ble_eq_true rfl⟩) (z_pre hK hP hD hN [] (by decide) rfl) rfl rfl hl.1 rfl (lv_room (Nat.le_of_ble_eq_true rfl)) d_N_writePower_16 ⟨Nat.zero_le _, Nat.zero_le _⟩) hP hD hS hA [] [0, 1, 2, 3, 4, 5, 6, 7, 8, 9, 10, 11, 12, 13, 14, 15] [0, 1, 2, 3, 4, 5, 6, 7, 8, 9, 10, 11, 12, 13, 14, 15] rfl rfl (by decide) (by decide) rfl (by decide) (fun H locs hP hD hS => ?_)
    refine lv_iconst (v := (2 : Int32)) hx hb d_N_writePower_19 (by decide) ?_
    refine lv_idiv hx hb d_N_writePower_20 (by decide) ?_
    obtain ⟨v4_6, ev4_6, hr⟩ := nm_some hr
    refine z_top ev4_6 ?_
    refine lv_istore (lv' := [(4, .int v4_6), (3, .int a1), (0, .ref (qN 0)), (1, .int a1), (2, .int a2)]) hx hb d_N_writePower_21 hl (by decide) rfl (fun ls hl => ?_)
    exact hB23 zFU a1 v4_6 N_size N_op N_a N_b N_x _ _ _ (lv_sub hl [2, 3, 4, 1, 0] rfl) hP hD hS hr
  · rw [if_pos hc] at hr
    refine lv_aload_n hx hb d_N_writePower_4 rfl (lv_at hl 0 rfl) ?_
    refine lv_iconst (v := (1 : Int32)) hx hb d_N_writePower_5 (by decide) ?_
    refine lv_iconst (v := (0 : Int32)) hx hb d_N_writePower_6 (by decide) ?_
    refine lv_iconst (v := (0 : Int32)) hx hb d_N_writePower_7 (by decide) ?_
    refine lv_iconst (v := (0 : Int32)) hx hb d_N_writePower_8 (by decide) ?_
    obtain ⟨r7, hr7, hr⟩ := ob hr
    refine z_ci (ws := (W_N kI kZ qN N_p N_n N_words N_hasDirect N_compiled N_size N_outcome N_done N_values N_word N_table N_direct N_op N_a N_b N_x N_there N_vOp N_vA N_vB N_vX N_needed N_valueOf N_place)) (wc := (W_N kI kZ qN N_p N_n N_words N_hasDirect N_compiled N_size N_outcome N_done N_values N_word N_table N_direct N_op N_a N_b N_x N_there N_vOp N_vA N_vB N_vX N_needed N_valueOf N_place)) (wr := ([] : va_W)) (w1 := (W_N kI kZ qN N_p N_n N_words N_hasDirect N_compiled r7.2.1 N_outcome N_done N_values N_word N_table N_direct r7.2.2.1 r7.2.2.2.1 r7.2.2.2.2.1 r7.2.2.2.2.2 N_there N_vOp N_vA N_vB N_vX N_needed N_valueOf N_place)) (w2 := (W_N kI kZ qN N_p N_n N_words N_hasDirect N_compiled r7.2.1 N_outcome N_done N_values N_word N_table N_direct r7.2.2.1 r7.2.2.2.1 r7.2.2.2.2.1 r7.2.2.2.2.2 N_there N_vOp N_vA N_vB N_vX N_needed N_valueOf N_place)) (va_runV (As := [.int (1 : Int32), .int (0 : Int32), .int (0 : Int32), .int (0 : Int32)]) (rest := []) ⟨hx, hb, hml, hown, hts⟩ (c_N_write l D kI kZ qN N_p N_n N_words N_hasDirect N_compiled N_size N_outcome N_done N_values N_word N_table N_direct N_op N_a N_b N_x N_there N_vOp N_vA N_vB N_vX N_needed N_valueOf N_place (1 : Int32) (0 : Int32) (0 : Int32) (0 : Int32) r7 hr7 H.size) (z_cwV hts mw_N_write kw_587 ⟨by rw [hR]; exact Nat.le_of_ble_eq_true rfl, by rw [hR]; exact Nat.le_of_ble_eq_true rfl⟩) (z_preV (ci := 6) hK hP hD hN rfl (he := (rfl : _[0]? = _)) [0, 1, 2, 3, 4, 5, 6, 7, 8, 9, 10, 11, 12, 13, 14, 15] (by decide) rfl) rfl rfl hl.1 rfl (lv_room (Nat.le_of_ble_eq_true rfl)) d_N_writePower_9 ⟨Nat.zero_le _, Nat.zero_le _⟩) hP hD hS hA [0, 1, 2, 3, 4, 5, 6, 7, 8, 9, 10, 11, 12, 13, 14, 15] [] [0, 1, 2, 3, 4, 5, 6, 7, 8, 9, 10, 11, 12, 13, 14, 15] rfl rfl (by decide) (by decide) rfl (by decide) (fun H locs hP hD hS => ?_)
    obtain rfl := Option.some.inj hr
    exact hQ _ _ _ _ _ d_N_writePower_12 rfl rfl hP hD hS
set_option maxHeartbeats 4000000 in
set_option maxRecDepth 100000 in
theorem c_N_compile (l : Launch) (D : va_G) (kI kZ : ClassId) (qN : Nat → Nat) (N_p N_n N_words N_hasDirect N_compiled N_size N_outcome N_done N_values : Int32) (N_word N_table N_direct N_op N_a N_b N_x N_there N_vOp N_vA N_vB N_vX N_needed N_valueOf N_place : Nat → Int32)  (res : Int32 × Int32 × Int32 × (Nat → Int32) × (Nat → Int32) × (Nat → Int32) × (Nat → Int32) × Int32 × Int32 × (Nat → Int32)) (hr : f_N_compile N_words N_word N_compiled N_size N_op N_a N_b N_x N_outcome N_done N_there = some res) : zMi l D kI kZ y_N_compile prog_8_method_21_code 7 ((some .int)) 3 68 [.ref (qN 0)] (W_N kI kZ qN N_p N_n N_words N_hasDirect N_compiled N_size N_outcome N_done N_values N_word N_table N_direct N_op N_a N_b N_x N_there N_vOp N_vA N_vB N_vX N_needed N_valueOf N_place) (W_N kI kZ qN N_p N_n N_words N_hasDirect (res.2.1) (res.2.2.1) (res.2.2.2.2.2.2.2.1) (res.2.2.2.2.2.2.2.2.1) N_values N_word N_table N_direct (res.2.2.2.1) (res.2.2.2.2.1) (res.2.2.2.2.2.1) (res.2.2.2.2.2.2.1) (res.2.2.2.2.2.2.2.2.2) N_vOp N_vA N_vB N_vX N_needed N_valueOf N_place) (res.1) := by
  refine zMi.of (by decide +kernel) (Nat.le_of_ble_eq_true rfl) ?_
  intro p e R s m args below meth c Q A hR hx hb hml hts hown hA hK hN hQ
  have hown : s.vm.findClass "SquareCodeModel" = some m.cls := hown
  have hB49 : ∀ (v1 N_compiled N_size : Int32) (N_op N_a N_b N_x : Nat → Int32) (N_outcome N_done : Int32) (N_there : Nat → Int32)   (H : Heap) (locs : List Loc) (ls : Array Slot), lv_has ls 7 [(1, .int v1)] → va_P D zCl (W_N kI kZ qN N_p N_n N_words N_hasDirect N_compiled N_size N_outcome N_done N_values N_word N_table N_direct N_op N_a N_b N_x N_there N_vOp N_vA N_vB N_vX N_needed N_valueOf N_place) H → va_D A (W_N kI kZ qN N_p N_n N_words N_hasDirect N_compiled N_size N_outcome N_done N_values N_word N_table N_direct N_op N_a N_b N_x N_there N_vOp N_vA N_vB N_vX N_needed N_valueOf N_place) → va_S A s.heap H locs → f_N_compile_49 v1 N_compiled N_size N_op N_a N_b N_x N_outcome N_done N_there = some res → W p l e R s m args below meth c H locs 0 0 Q (F0 m 49 ls []) := by
    intro v1 N_compiled N_size N_op N_a N_b N_x N_outcome N_done N_there H locs ls hl hP hD hS hr
    rw [f_N_compile_49] at hr
    refine lv_iload_n hx hb d_N_compile_49 rfl (lv_at hl 0 rfl) ?_
    refine lv_if_le hx hb d_N_compile_50 rfl (fun hc => ?_) (fun hc => ?_)
    · rw [if_pos hc] at hr
      refine lv_bipush (v := (6 : Int32)) hx hb d_N_compile_57 (by decide) ?_
      obtain rfl := Option.some.inj hr
      exact hQ _ _ _ _ _ d_N_compile_59 rfl rfl hP hD hS
    · rw [if_neg hc] at hr
      refine lv_iload_n hx hb d_N_compile_53 rfl (lv_at hl 0 rfl) ?_
      refine lv_goto hx hb d_N_compile_54 rfl ?_
      obtain rfl := Option.some.inj hr
      exact hQ _ _ _ _ _ d_N_compile_59 rfl rfl hP hD hS
  have hB226 : ∀ (v3 v4 t0 t1 N_compiled N_size : Int32) (N_op N_a N_b N_x : Nat → Int32) (N_outcome N_done : Int32) (N_there : Nat → Int32) (k70 : Int32 → Int32 → Int32 → (Nat → Int32) → (Nat → Int32) → (Nat → Int32) → (Nat → Int32) → (Nat → Int32) → Option (Int32 × Int32 × Int32 × (Nat → Int32) × (Nat → Int32) × (Nat → Int32) × (Nat → Int32) × Int32 × Int32 × (Nat → Int32))) (hk70 : ∀ (v3 v4 N_size : Int32) (N_op N_a N_b N_x N_there : Nat → Int32) (H : Heap) (locs : List Loc) (ls : Array Slot), lv_has ls 7 [(0, .ref (qN 0)), (3, .int v3), (4, .int v4)] → va_P D zCl (W_N kI kZ qN N_p N_n N_words N_hasDirect N_compiled N_size N_outcome N_done N_values N_word N_table N_direct N_op N_a N_b N_x N_there N_vOp N_vA N_vB N_vX N_needed N_valueOf N_place) H → va_D A (W_N kI kZ qN N_p N_n N_words N_hasDirect N_compiled N_size N_outcome N_done N_values N_word N_table N_direct N_op N_a N_b N_x N_there N_vOp N_vA N_vB N_vX N_needed N_valueOf N_place) → va_S A s.heap H locs → k70 v3 v4 N_size N_op N_a N_b N_x N_there = some res → W p l e R s m args below meth c H locs 0 0 Q (F0 m 70 ls [])) (H : Heap) (locs : List Loc) (ls : Array Slot), lv_has ls 7 [(0, .ref (qN 0)), (3, .int v3), (4, .int v4)] → va_P D zCl (W_N kI kZ qN N_p N_n N_words N_hasDirect N_compiled N_size N_outcome N_done N_values N_word N_table N_direct N_op N_a N_b N_x N_there N_vOp N_vA N_vB N_vX N_needed N_valueOf N_place) H → va_D A (W_N kI kZ qN N_p N_n N_words N_hasDirect N_compiled N_size N_outcome N_done N_values N_word N_table N_direct N_op N_a N_b N_x N_there N_vOp N_vA N_vB N_vX N_needed N_valueOf N_place) → va_S A s.heap H locs → f_N_compile_226 k70 v3 v4 t0 t1 N_compiled N_size N_op N_a N_b N_x N_outcome N_done N_there = some res → W p l e R s m args below meth c H locs 0 0 Q (F0 m 226 ls [.int t0, .int t1, .ref (qN 8)]) := by
    intro v3 v4 t0 t1 N_compiled N_size N_op N_a N_b N_x N_outcome N_done N_there k70 hk70 H locs ls hl hP hD hS hr
    rw [f_N_compile_226] at hr
    obtain ⟨hi, hr⟩ := gd_some hr
    refine va_iast hx hb hK hP hD hS 8 0 rfl rfl hi d_N_compile_226 (fun H locs hP hD hS => ?_)
    have hP : va_P D zCl (W_N kI kZ qN N_p N_n N_words N_hasDirect N_compiled N_size N_outcome N_done N_values N_word N_table N_direct N_op N_a N_b N_x (upd N_there t1.toNatClampNeg t0) N_vOp N_vA N_vB N_vX N_needed N_valueOf N_place) H := hP
    have hD : va_D A (W_N kI kZ qN N_p N_n N_words N_hasDirect N_compiled N_size N_outcome N_done N_values N_word N_table N_direct N_op N_a N_b N_x (upd N_there t1.toNatClampNeg t0) N_vOp N_vA N_vB N_vX N_needed N_valueOf N_place) := hD
    refine lv_iload_n hx hb d_N_compile_227 rfl (lv_at hl 1 rfl) ?_
    refine lv_iconst (v := (1 : Int32)) hx hb d_N_compile_228 (by decide) ?_
    refine lv_iadd hx hb d_N_compile_229 ?_
    obtain ⟨v3_1, ev3_1, hr⟩ := nm_some hr
    refine z_top ev3_1 ?_
    refine lv_istore_n (lv' := [(3, .int v3_1), (0, .ref (qN 0)), (4, .int v4)]) hx hb d_N_compile_230 rfl hl (by decide) rfl (fun ls hl => ?_)
    refine lv_iinc (k := 2) (v := (v4 + (1 : Int32))) (lv' := [(4, .int (v4 + (1 : Int32))), (3, .int v3_1), (0, .ref (qN 0))]) hx hb d_N_compile_231 hl rfl (congrArg (fun z => v4 + z) (by decide : Int32.ofInt 1 = (1 : Int32))) (by decide) rfl (fun ls hl => ?_)
    refine lv_goto hx hb d_N_compile_234 rfl ?_
    exact hk70 v3_1 (v4 + (1 : Int32)) N_size N_op N_a N_b N_x (upd N_there t1.toNatClampNeg t0) _ _ _ (lv_sub hl [2, 1, 0] rfl) hP hD hS hr
  have hB129 : ∀ (v4 v5 v6 t0 t1 N_compiled N_size : Int32) (N_op N_a N_b N_x : Nat → Int32) (N_outcome N_done : Int32) (N_there : Nat → Int32) (k70 : Int32 → Int32 → Int32 → (Nat → Int32) → (Nat → Int32) → (Nat → Int32) → (Nat → Int32) → (Nat → Int32) → Option (Int32 × Int32 × Int32 × (Nat → Int32) × (Nat → Int32) × (Nat → Int32) × (Nat → Int32) × Int32 × Int32 × (Nat → Int32))) (hk70 : ∀ (v3 v4 N_size : Int32) (N_op N_a N_b N_x N_there : Nat → Int32) (H : Heap) (locs : List Loc) (ls : Array Slot), lv_has ls 7 [(0, .ref (qN 0)), (3, .int v3), (4, .int v4)] → va_P D zCl (W_N kI kZ qN N_p N_n N_words N_hasDirect N_compiled N_size N_outcome N_done N_values N_word N_table N_direct N_op N_a N_b N_x N_there N_vOp N_vA N_vB N_vX N_needed N_valueOf N_place) H → va_D A (W_N kI kZ qN N_p N_n N_words N_hasDirect N_compiled N_size N_outcome N_done N_values N_word N_table N_direct N_op N_a N_b N_x N_there N_vOp N_vA N_vB N_vX N_needed N_valueOf N_place) → va_S A s.heap H locs → k70 v3 v4 N_size N_op N_a N_b N_x N_there = some res → W p l e R s m args below meth c H locs 0 0 Q (F0 m 70 ls [])) (H : Heap) (locs : List Loc) (ls : Array Slot), lv_has ls 7 [(0, .ref (qN 0)), (4, .int v4), (5, .int v5), (6, .int v6)] → va_P D zCl (W_N kI kZ qN N_p N_n N_words N_hasDirect N_compiled N_size N_outcome N_done N_values N_word N_table N_direct N_op N_a N_b N_x N_there N_vOp N_vA N_vB N_vX N_needed N_valueOf N_place) H → va_D A (W_N kI kZ qN N_p N_n N_words N_hasDirect N_compiled N_size N_outcome N_done N_values N_word N_table N_direct N_op N_a N_b N_x N_there N_vOp N_vA N_vB N_vX N_needed N_valueOf N_place) → va_S A s.heap H locs → f_N_compile_129 k70 v4 v5 v6 t0 t1 N_compiled N_size N_op N_a N_b N_x N_outcome N_done N_there = some res → W p l e R s m args below meth c H locs 0 0 Q (F0 m 129 ls [.int t0, .int t1]) := by
    intro v4 v5 v6 t0 t1 N_compiled N_size N_op N_a N_b N_x N_outcome N_done N_there k70 hk70 H locs ls hl hP hD hS hr
    rw [f_N_compile_129] at hr
    refine lv_isub hx hb d_N_compile_129 ?_
    obtain ⟨v3_2, ev3_2, hr⟩ := nm_some hr
    refine z_top ev3_2 ?_
    refine lv_istore_n (lv' := [(3, .int v3_2), (0, .ref (qN 0)), (4, .int v4), (5, .int v5), (6, .int v6)]) hx hb d_N_compile_130 rfl hl (by decide) rfl (fun ls hl => ?_)
    refine lv_aload_n hx hb d_N_compile_131 rfl (lv_at hl 1 rfl) ?_
    refine va_get (D := D) (ci := 6) (v := .ref (qN 8)) (C := R_N) (T := T_N) (N := 24) hx hb hts in_N hown hK hP 0 rfl rfl 15 (by decide) (hts _ kw_459) (fun _ h9 => h9) rfl d_N_compile_132 ?_
    refine lv_iload_n hx hb d_N_compile_135 rfl (lv_at hl 0 rfl) ?_
    refine lv_iload hx hb d_N_compile_136 (lv_at hl 3 rfl) ?_
    refine lv_bipush (v := (8 : Int32)) hx hb d_N_compile_138 (by decide) ?_
    refine lv_icmp_ne hx hb d_N_compile_140 rfl (fun hc => ?_) (fun hc => ?_)
    · rw [if_neg hc] at hr
      refine lv_iload hx hb d_N_compile_158 (lv_at hl 3 rfl) ?_
      obtain ⟨r3, hr3, hr⟩ := ob hr
      refine z_ci (ws := (W_N kI kZ qN N_p N_n N_words N_hasDirect N_compiled N_size N_outcome N_done N_values N_word N_table N_direct N_op N_a N_b N_x N_there N_vOp N_vA N_vB N_vX N_needed N_valueOf N_place)) (wc := ([] : va_W)) (wr := (W_N kI kZ qN N_p N_n N_words N_hasDirect N_compiled N_size N_outcome N_done N_values N_word N_table N_direct N_op N_a N_b N_x N_there N_vOp N_vA N_vB N_vX N_needed N_valueOf N_place)) (w1 := ([] : va_W)) (w2 := (W_N kI kZ qN N_p N_n N_words N_hasDirect N_compiled N_size N_outcome N_done N_values N_word N_table N_direct N_op N_a N_b N_x N_there N_vOp N_vA N_vB N_vX N_needed N_valueOf N_place)) (va_runS (As := [.int v5]) (rest := [.int v3_2, .ref (qN 8)]) ⟨hx, hb, hml, hown, hts⟩ (c_N_isTwo l D kI kZ v5 r3 hr3 H.size) (z_cwS hts mw_N_isTwo kw_551 ⟨by rw [hR]; exact Nat.le_of_ble_eq_true rfl, by rw [hR]; exact Nat.le_of_ble_eq_true rfl⟩) (z_pre hK hP hD hN [] (by decide) rfl) rfl rfl hl.1 rfl (lv_room (Nat.le_of_ble_eq_true rfl)) d_N_compile_160 ⟨Nat.zero_le _, Nat.zero_le _⟩) hP hD hS hA [] [0, 1, 2, 3, 4, 5, 6, 7, 8, 9, 10, 11, 12, 13, 14, 15] [0, 1, 2, 3, 4, 5, 6, 7, 8, 9, 10, 11, 12, 13, 14, 15] rfl rfl (by decide) (by decide) rfl (by decide) (fun H locs hP hD hS => ?_)
      refine lv_if_eq hx hb d_N_compile_163 rfl (fun hc => ?_) (fun hc => ?_)
      · rw [if_pos hc] at hr
        refine lv_iload hx hb d_N_compile_190 (lv_at hl 3 rfl) ?_
        obtain ⟨r4, hr4, hr⟩ := ob hr
        refine z_ci (ws := (W_N kI kZ qN N_p N_n N_words N_hasDirect N_compiled N_size N_outcome N_done N_values N_word N_table N_direct N_op N_a N_b N_x N_there N_vOp N_vA N_vB N_vX N_needed N_valueOf N_place)) (wc := ([] : va_W)) (wr := (W_N kI kZ qN N_p N_n N_words N_hasDirect N_compiled N_size N_outcome N_done N_values N_word N_table N_direct N_op N_a N_b N_x N_there N_vOp N_vA N_vB N_vX N_needed N_valueOf N_place)) (w1 := ([] : va_W)) (w2 := (W_N kI kZ qN N_p N_n N_words N_hasDirect N_compiled N_size N_outcome N_done N_values N_word N_table N_direct N_op N_a N_b N_x N_there N_vOp N_vA N_vB N_vX N_needed N_valueOf N_place)) (va_runS (As := [.int v5]) (rest := [.int v3_2, .ref (qN 8)]) ⟨hx, hb, hml, hown, hts⟩ (c_N_isOne l D kI kZ v5 r4 hr4 H.size) (z_cwS hts mw_N_isOne kw_554 ⟨by rw [hR]; exact Nat.le_of_ble_eq_true rfl, by rw [hR]; exact Nat.le_of_ble_eq_true rfl⟩) (z_pre hK hP hD hN [] (by decide) rfl) rfl rfl hl.1 rfl (lv_room (Nat.le_of_ble_eq_true rfl)) d_N_compile_192 ⟨Nat.zero_le _, Nat.zero_le _⟩) hP hD hS hA [] [0, 1, 2, 3, 4, 5, 6, 7, 8, 9, 10, 11, 12, 13, 14, 15] [0, 1, 2, 3, 4, 5, 6, 7, 8, 9, 10, 11, 12, 13, 14, 15] rfl rfl (by decide) (by decide) rfl (by decide) (fun H locs hP hD hS => ?_)
        refine lv_if_eq hx hb d_N_compile_195 rfl (fun hc => ?_) (fun hc => ?_)
        · rw [if_pos hc] at hr
          refine lv_aload_n hx hb d_N_compile_216 rfl (lv_at hl 1 rfl) ?_
          refine lv_iload hx hb d_N_compile_217 (lv_at hl 3 rfl) ?_
          refine lv_iconst (v := (0 : Int32)) hx hb d_N_compile_219 (by decide) ?_
          refine lv_iconst (v := (0 : Int32)) hx hb d_N_compile_220 (by decide) ?_
          refine lv_iload hx hb d_N_compile_221 (lv_at hl 4 rfl) ?_
          obtain ⟨r5, hr5, hr⟩ := ob hr
          refine z_ci (ws := (W_N kI kZ qN N_p N_n N_words N_hasDirect N_compiled N_size N_outcome N_done N_values N_word N_table N_direct N_op N_a N_b N_x N_there N_vOp N_vA N_vB N_vX N_needed N_valueOf N_place)) (wc := (W_N kI kZ qN N_p N_n N_words N_hasDirect N_compiled N_size N_outcome N_done N_values N_word N_table N_direct N_op N_a N_b N_x N_there N_vOp N_vA N_vB N_vX N_needed N_valueOf N_place)) (wr := ([] : va_W)) (w1 := (W_N kI kZ qN N_p N_n N_words N_hasDirect N_compiled r5.2.1 N_outcome N_done N_values N_word N_table N_direct r5.2.2.1 r5.2.2.2.1 r5.2.2.2.2.1 r5.2.2.2.2.2 N_there N_vOp N_vA N_vB N_vX N_needed N_valueOf N_place)) (w2 := (W_N kI kZ qN N_p N_n N_words N_hasDirect N_compiled r5.2.1 N_outcome N_done N_values N_word N_table N_direct r5.2.2.1 r5.2.2.2.1 r5.2.2.2.2.1 r5.2.2.2.2.2 N_there N_vOp N_vA N_vB N_vX N_needed N_valueOf N_place)) (va_runV (As := [.int v5, .int (0 : Int32), .int (0 : Int32), .int v6]) (rest := [.int v3_2, .ref (qN 8)]) ⟨hx, hb, hml, hown, hts⟩ (c_N_write l D kI kZ qN N_p N_n N_words N_hasDirect N_compiled N_size N_outcome N_done N_values N_word N_table N_direct N_op N_a N_b N_x N_there N_vOp N_vA N_vB N_vX N_needed N_valueOf N_place v5 (0 : Int32) (0 : Int32) v6 r5 hr5 H.size) (z_cwV hts mw_N_write kw_587 ⟨by rw [hR]; exact Nat.le_of_ble_eq_true rfl, by rw [hR]; exact Nat.le_of_ble_eq_true rfl⟩) (z_preV (ci := 6) hK hP hD hN rfl (he := (rfl : _[0]? = _)) [0, 1, 2, 3, 4, 5, 6, 7, 8, 9, 10, 11, 12, 13, 14, 15] (by decide) rfl) rfl rfl hl.1 rfl (lv_room (Nat.le_of_ble_eq_true rfl)) d_N_compile_223 ⟨Nat.zero_le _, Nat.zero_le _⟩) hP hD hS hA [0, 1, 2, 3, 4, 5, 6, 7, 8, 9, 10, 11, 12, 13, 14, 15] [] [0, 1, 2, 3, 4, 5, 6, 7, 8, 9, 10, 11, 12, 13, 14, 15] rfl rfl (by decide) (by decide) rfl (by decide) (fun H locs hP hD hS => ?_)
          exact hB226 v3_2 v4 r5.1 v3_2 N_compiled r5.2.1 r5.2.2.1 r5.2.2.2.1 r5.2.2.2.2.1 r5.2.2.2.2.2 N_outcome N_done N_there _ hk70 _ _ _ (lv_sub hl [1, 0, 2] rfl) hP hD hS hr
        · rw [if_neg hc] at hr
          refine lv_aload_n hx hb d_N_compile_198 rfl (lv_at hl 1 rfl) ?_
          refine lv_iload hx hb d_N_compile_199 (lv_at hl 3 rfl) ?_
          refine lv_aload_n hx hb d_N_compile_201 rfl (lv_at hl 1 rfl) ?_
          refine va_get (D := D) (ci := 6) (v := .ref (qN 8)) (C := R_N) (T := T_N) (N := 24) hx hb hts in_N hown hK hP 0 rfl rfl 15 (by decide) (hts _ kw_459) (fun _ h9 => h9) rfl d_N_compile_202 ?_
          refine lv_iload_n hx hb d_N_compile_205 rfl (lv_at hl 0 rfl) ?_
          obtain ⟨hi, hr⟩ := gd_some hr
          refine va_iald hx hb hK hP 8 0 rfl rfl hi d_N_compile_206 ?_
          refine lv_iconst (v := (0 : Int32)) hx hb d_N_compile_207 (by decide) ?_
          refine lv_iload hx hb d_N_compile_208 (lv_at hl 4 rfl) ?_
          obtain ⟨r6, hr6, hr⟩ := ob hr
          refine z_ci (ws := (W_N kI kZ qN N_p N_n N_words N_hasDirect N_compiled N_size N_outcome N_done N_values N_word N_table N_direct N_op N_a N_b N_x N_there N_vOp N_vA N_vB N_vX N_needed N_valueOf N_place)) (wc := (W_N kI kZ qN N_p N_n N_words N_hasDirect N_compiled N_size N_outcome N_done N_values N_word N_table N_direct N_op N_a N_b N_x N_there N_vOp N_vA N_vB N_vX N_needed N_valueOf N_place)) (wr := ([] : va_W)) (w1 := (W_N kI kZ qN N_p N_n N_words N_hasDirect N_compiled r6.2.1 N_outcome N_done N_values N_word N_table N_direct r6.2.2.1 r6.2.2.2.1 r6.2.2.2.2.1 r6.2.2.2.2.2 N_there N_vOp N_vA N_vB N_vX N_needed N_valueOf N_place)) (w2 := (W_N kI kZ qN N_p N_n N_words N_hasDirect N_compiled r6.2.1 N_outcome N_done N_values N_word N_table N_direct r6.2.2.1 r6.2.2.2.1 r6.2.2.2.2.1 r6.2.2.2.2.2 N_there N_vOp N_vA N_vB N_vX N_needed N_valueOf N_place)) (va_runV (As := [.int v5, .int (N_there v3_2.toNatClampNeg), .int (0 : Int32), .int v6]) (rest := [.int v3_2, .ref (qN 8)]) ⟨hx, hb, hml, hown, hts⟩ (c_N_write l D kI kZ qN N_p N_n N_words N_hasDirect N_compiled N_size N_outcome N_done N_values N_word N_table N_direct N_op N_a N_b N_x N_there N_vOp N_vA N_vB N_vX N_needed N_valueOf N_place v5 (N_there v3_2.toNatClampNeg) (0 : Int32) v6 r6 hr6 H.size) (z_cwV hts mw_N_write kw_587 ⟨by rw [hR]; exact Nat.le_of_ble_eq_true rfl, by rw [hR]; exact Nat.le_of_ble_eq_true rfl⟩) (z_preV (ci := 6) hK hP hD hN rfl (he := (rfl : _[0]? = _)) [0, 1, 2, 3, 4, 5, 6, 7, 8, 9, 10, 11, 12, 13, 14, 15] (by decide) rfl) rfl rfl hl.1 rfl (lv_room (Nat.le_of_ble_eq_true rfl)) d_N_compile_210 ⟨Nat.zero_le _, Nat.zero_le _⟩) hP hD hS hA [0, 1, 2, 3, 4, 5, 6, 7, 8, 9, 10, 11, 12, 13, 14, 15] [] [0, 1, 2, 3, 4, 5, 6, 7, 8, 9, 10, 11, 12, 13, 14, 15] rfl rfl (by decide) (by decide) rfl (by decide) (fun H locs hP hD hS => ?_)
          refine lv_goto hx hb d_N_compile_213 rfl ?_
          exact hB226 v3_2 v4 r6.1 v3_2 N_compiled r6.2.1 r6.2.2.1 r6.2.2.2.1 r6.2.2.2.2.1 r6.2.2.2.2.2 N_outcome N_done N_there _ hk70 _ _ _ (lv_sub hl [1, 0, 2] rfl) hP hD hS hr
      · rw [if_neg hc] at hr
        refine lv_aload_n hx hb d_N_compile_166 rfl (lv_at hl 1 rfl) ?_
        refine lv_iload hx hb d_N_compile_167 (lv_at hl 3 rfl) ?_
        refine lv_aload_n hx hb d_N_compile_169 rfl (lv_at hl 1 rfl) ?_
        refine va_get (D := D) (ci := 6) (v := .ref (qN 8)) (C := R_N) (T := T_N) (N := 24) hx hb hts in_N hown hK hP 0 rfl rfl 15 (by decide) (hts _ kw_459) (fun _ h9 => h9) rfl d_N_compile_170 ?_
        refine lv_iload_n hx hb d_N_compile_173 rfl (lv_at hl 0 rfl) ?_
        obtain ⟨hi, hr⟩ := gd_some hr
        refine va_iald hx hb hK hP 8 0 rfl rfl hi d_N_compile_174 ?_
        refine lv_aload_n hx hb d_N_compile_175 rfl (lv_at hl 1 rfl) ?_
        refine va_get (D := D) (ci := 6) (v := .ref (qN 8)) (C := R_N) (T := T_N) (N := 24) hx hb hts in_N hown hK hP 0 rfl rfl 15 (by decide) (hts _ kw_459) (fun _ h9 => h9) rfl d_N_compile_176 ?_
        refine lv_iload_n hx hb d_N_compile_179 rfl (lv_at hl 0 rfl) ?_
        refine lv_iconst (v := (1 : Int32)) hx hb d_N_compile_180 (by decide) ?_
        refine lv_iadd hx hb d_N_compile_181 ?_
        obtain ⟨hi, hr⟩ := gd_some hr
        refine va_iald hx hb hK hP 8 0 rfl rfl hi d_N_compile_182 ?_
        refine lv_iconst (v := (0 : Int32)) hx hb d_N_compile_183 (by decide) ?_
        obtain ⟨r7, hr7, hr⟩ := ob hr
        refine z_ci (ws := (W_N kI kZ qN N_p N_n N_words N_hasDirect N_compiled N_size N_outcome N_done N_values N_word N_table N_direct N_op N_a N_b N_x N_there N_vOp N_vA N_vB N_vX N_needed N_valueOf N_place)) (wc := (W_N kI kZ qN N_p N_n N_words N_hasDirect N_compiled N_size N_outcome N_done N_values N_word N_table N_direct N_op N_a N_b N_x N_there N_vOp N_vA N_vB N_vX N_needed N_valueOf N_place)) (wr := ([] : va_W)) (w1 := (W_N kI kZ qN N_p N_n N_words N_hasDirect N_compiled r7.2.1 N_outcome N_done N_values N_word N_table N_direct r7.2.2.1 r7.2.2.2.1 r7.2.2.2.2.1 r7.2.2.2.2.2 N_there N_vOp N_vA N_vB N_vX N_needed N_valueOf N_place)) (w2 := (W_N kI kZ qN N_p N_n N_words N_hasDirect N_compiled r7.2.1 N_outcome N_done N_values N_word N_table N_direct r7.2.2.1 r7.2.2.2.1 r7.2.2.2.2.1 r7.2.2.2.2.2 N_there N_vOp N_vA N_vB N_vX N_needed N_valueOf N_place)) (va_runV (As := [.int v5, .int (N_there v3_2.toNatClampNeg), .int (N_there (v3_2 + (1 : Int32)).toNatClampNeg), .int (0 : Int32)]) (rest := [.int v3_2, .ref (qN 8)]) ⟨hx, hb, hml, hown, hts⟩ (c_N_write l D kI kZ qN N_p N_n N_words N_hasDirect N_compiled N_size N_outcome N_done N_values N_word N_table N_direct N_op N_a N_b N_x N_there N_vOp N_vA N_vB N_vX N_needed N_valueOf N_place v5 (N_there v3_2.toNatClampNeg) (N_there (v3_2 + (1 : Int32)).toNatClampNeg) (0 : Int32) r7 hr7 H.size) (z_cwV hts mw_N_write kw_587 ⟨by rw [hR]; exact Nat.le_of_ble_eq_true rfl, by rw [hR]; exact Nat.le_of_ble_eq_true rfl⟩) (z_preV (ci := 6) hK hP hD hN rfl (he := (rfl : _[0]? = _)) [0, 1, 2, 3, 4, 5, 6, 7, 8, 9, 10, 11, 12, 13, 14, 15] (by decide) rfl) rfl rfl hl.1 rfl (lv_room (Nat.le_of_ble_eq_true rfl)) d_N_compile_184 ⟨Nat.zero_le _, Nat.zero_le _⟩) hP hD hS hA [0, 1, 2, 3, 4, 5, 6, 7, 8, 9, 10, 11, 12, 13, 14, 15] [] [0, 1, 2, 3, 4, 5, 6, 7, 8, 9, 10, 11, 12, 13, 14, 15] rfl rfl (by decide) (by decide) rfl (by decide) (fun H locs hP hD hS => ?_)
        refine lv_goto hx hb d_N_compile_187 rfl ?_
        exact hB226 v3_2 v4 r7.1 v3_2 N_compiled r7.2.1 r7.2.2.1 r7.2.2.2.1 r7.2.2.2.2.1 r7.2.2.2.2.2 N_outcome N_done N_there _ hk70 _ _ _ (lv_sub hl [1, 0, 2] rfl) hP hD hS hr
    · rw [if_pos hc] at hr
      refine lv_aload_n hx hb d_N_compile_143 rfl (lv_at hl 1 rfl) ?_
      refine lv_aload_n hx hb d_N_compile_144 rfl (lv_at hl 1 rfl) ?_
      refine va_get (D := D) (ci := 6) (v := .ref (qN 8)) (C := R_N) (T := T_N) (N := 24) hx hb hts in_N hown hK hP 0 rfl rfl 15 (by decide) (hts _ kw_459) (fun _ h9 => h9) rfl d_N_compile_145 ?_
      refine lv_iload_n hx hb d_N_compile_148 rfl (lv_at hl 0 rfl) ?_
      obtain ⟨hi, hr⟩ := gd_some hr
      refine va_iald hx hb hK hP 8 0 rfl rfl hi d_N_compile_149 ?_
      refine lv_iload hx hb d_N_compile_150 (lv_at hl 4 rfl) ?_
      obtain ⟨r8, hr8, hr⟩ := ob hr
      refine z_ci (ws := (W_N kI kZ qN N_p N_n N_words N_hasDirect N_compiled N_size N_outcome N_done N_values N_word N_table N_direct N_op N_a N_b N_x N_there N_vOp N_vA N_vB N_vX N_needed N_valueOf N_place)) (wc := (W_N kI kZ qN N_p N_n N_words N_hasDirect N_compiled N_size N_outcome N_done N_values N_word N_table N_direct N_op N_a N_b N_x N_there N_vOp N_vA N_vB N_vX N_needed N_valueOf N_place)) (wr := ([] : va_W)) (w1 := (W_N kI kZ qN N_p N_n N_words N_hasDirect N_compiled r8.2.1 N_outcome N_done N_values N_word N_table N_direct r8.2.2.1 r8.2.2.2.1 r8.2.2.2.2.1 r8.2.2.2.2.2 N_there N_vOp N_vA N_vB N_vX N_needed N_valueOf N_place)) (w2 := (W_N kI kZ qN N_p N_n N_words N_hasDirect N_compiled r8.2.1 N_outcome N_done N_values N_word N_table N_direct r8.2.2.1 r8.2.2.2.1 r8.2.2.2.2.1 r8.2.2.2.2.2 N_there N_vOp N_vA N_vB N_vX N_needed N_valueOf N_place)) (va_runV (As := [.int (N_there v3_2.toNatClampNeg), .int v6]) (rest := [.int v3_2, .ref (qN 8)]) ⟨hx, hb, hml, hown, hts⟩ (c_N_writePower l D kI kZ qN N_p N_n N_words N_hasDirect N_compiled N_size N_outcome N_done N_values N_word N_table N_direct N_op N_a N_b N_x N_there N_vOp N_vA N_vB N_vX N_needed N_valueOf N_place (N_there v3_2.toNatClampNeg) v6 r8 hr8 H.size) (z_cwV hts mw_N_writePower kw_583 ⟨by rw [hR]; exact Nat.le_of_ble_eq_true rfl, by rw [hR]; exact Nat.le_of_ble_eq_true rfl⟩) (z_preV (ci := 6) hK hP hD hN rfl (he := (rfl : _[0]? = _)) [0, 1, 2, 3, 4, 5, 6, 7, 8, 9, 10, 11, 12, 13, 14, 15] (by decide) rfl) rfl rfl hl.1 rfl (lv_room (Nat.le_of_ble_eq_true rfl)) d_N_compile_152 ⟨Nat.zero_le _, Nat.zero_le _⟩) hP hD hS hA [0, 1, 2, 3, 4, 5, 6, 7, 8, 9, 10, 11, 12, 13, 14, 15] [] [0, 1, 2, 3, 4, 5, 6, 7, 8, 9, 10, 11, 12, 13, 14, 15] rfl rfl (by decide) (by decide) rfl (by decide) (fun H locs hP hD hS => ?_)
      refine lv_goto hx hb d_N_compile_155 rfl ?_
      exact hB226 v3_2 v4 r8.1 v3_2 N_compiled r8.2.1 r8.2.2.1 r8.2.2.2.1 r8.2.2.2.2.1 r8.2.2.2.2.2 N_outcome N_done N_there _ hk70 _ _ _ (lv_sub hl [1, 0, 2] rfl) hP hD hS hr
  have hB70 : ∀ (N_compiled N_outcome N_done : Int32)   (fu : Nat) (v3 v4 N_size : Int32) (N_op N_a N_b N_x N_there : Nat → Int32) (H : Heap) (locs : List Loc) (ls : Array Slot), lv_has ls 7 [(0, .ref (qN 0)), (3, .int v3), (4, .int v4)] → va_P D zCl (W_N kI kZ qN N_p N_n N_words N_hasDirect N_compiled N_size N_outcome N_done N_values N_word N_table N_direct N_op N_a N_b N_x N_there N_vOp N_vA N_vB N_vX N_needed N_valueOf N_place) H → va_D A (W_N kI kZ qN N_p N_n N_words N_hasDirect N_compiled N_size N_outcome N_done N_values N_word N_table N_direct N_op N_a N_b N_x N_there N_vOp N_vA N_vB N_vX N_needed N_valueOf N_place) → va_S A s.heap H locs → f_N_compile_70 N_words N_word N_compiled N_outcome N_done fu v3 v4 N_size N_op N_a N_b N_x N_there = some res → W p l e R s m args below meth c H locs 0 0 Q (F0 m 70 ls []) := by
    intro N_compiled N_outcome N_done fu
    induction fu with
    | zero => intro v3 v4 N_size N_op N_a N_b N_x N_there H locs ls hl hP hD hS hr; exact absurd hr (by rw [f_N_compile_70]; exact fun h => by cases h)
    | succ fu ih =>
      intro v3 v4 N_size N_op N_a N_b N_x N_there H locs ls hl hP hD hS hr
      rw [f_N_compile_70] at hr
      refine lv_iload hx hb d_N_compile_70 (lv_at hl 2 rfl) ?_
      refine lv_aload_n hx hb d_N_compile_72 rfl (lv_at hl 0 rfl) ?_
      refine va_get (D := D) (ci := 6) (v := .int N_words) (C := R_N) (T := T_N) (N := 24) hx hb hts in_N hown hK hP 0 rfl rfl 2 (by decide) (hts _ kw_446) (fun _ h9 => h9) rfl d_N_compile_73 ?_
      refine lv_icmp_ge hx hb d_N_compile_76 rfl (fun hc => ?_) (fun hc => ?_)
      · rw [if_pos hc] at hr
        refine lv_aload_n hx hb d_N_compile_237 rfl (lv_at hl 0 rfl) ?_
        refine lv_aload_n hx hb d_N_compile_238 rfl (lv_at hl 0 rfl) ?_
        refine va_get (D := D) (ci := 6) (v := .ref (qN 8)) (C := R_N) (T := T_N) (N := 24) hx hb hts in_N hown hK hP 0 rfl rfl 15 (by decide) (hts _ kw_459) (fun _ h9 => h9) rfl d_N_compile_239 ?_
        refine lv_iconst (v := (0 : Int32)) hx hb d_N_compile_242 (by decide) ?_
        obtain ⟨hi, hr⟩ := gd_some hr
        refine va_iald hx hb hK hP 8 0 rfl rfl hi d_N_compile_243 ?_
        refine va_put (D := D) (ci := 6) (v := .int (N_there (0 : Int32).toNatClampNeg)) (ty := .int) (C := R_N) (T := T_N) (N := 24) hx hb hts in_N ty_N tyo_N nm_N hown hK hP hD hS 0 rfl rfl 13 (by decide) (hts _ kw_457) (fun _ h9 => h9) rfl (by decide +kernel) rfl rfl (Nat.le_of_ble_eq_true rfl) d_N_compile_244 (fun H locs hP hD hS => ?_)
        have hP : va_P D zCl (W_N kI kZ qN N_p N_n N_words N_hasDirect N_compiled N_size (N_there (0 : Int32).toNatClampNeg) N_done N_values N_word N_table N_direct N_op N_a N_b N_x N_there N_vOp N_vA N_vB N_vX N_needed N_valueOf N_place) H := hP
        have hD : va_D A (W_N kI kZ qN N_p N_n N_words N_hasDirect N_compiled N_size (N_there (0 : Int32).toNatClampNeg) N_done N_values N_word N_table N_direct N_op N_a N_b N_x N_there N_vOp N_vA N_vB N_vX N_needed N_valueOf N_place) := hD
        refine lv_aload_n hx hb d_N_compile_247 rfl (lv_at hl 0 rfl) ?_
        refine lv_iconst (v := (1 : Int32)) hx hb d_N_compile_248 (by decide) ?_
        refine va_put (D := D) (ci := 6) (v := .int (1 : Int32)) (ty := .boolean) (C := R_N) (T := T_N) (N := 24) hx hb hts in_N ty_N tyo_N nm_N hown hK hP hD hS 0 rfl rfl 7 (by decide) (hts _ kw_451) (fun _ h9 => h9) rfl (by decide +kernel) rfl rfl (Nat.le_of_ble_eq_true rfl) d_N_compile_249 (fun H locs hP hD hS => ?_)
        have hP : va_P D zCl (W_N kI kZ qN N_p N_n N_words N_hasDirect (1 : Int32) N_size (N_there (0 : Int32).toNatClampNeg) N_done N_values N_word N_table N_direct N_op N_a N_b N_x N_there N_vOp N_vA N_vB N_vX N_needed N_valueOf N_place) H := hP
        have hD : va_D A (W_N kI kZ qN N_p N_n N_words N_hasDirect (1 : Int32) N_size (N_there (0 : Int32).toNatClampNeg) N_done N_values N_word N_table N_direct N_op N_a N_b N_x N_there N_vOp N_vA N_vB N_vX N_needed N_valueOf N_place) := hD
        refine lv_aload_n hx hb d_N_compile_252 rfl (lv_at hl 0 rfl) ?_
        refine lv_iconst (v := (0 : Int32)) hx hb d_N_compile_253 (by decide) ?_
        refine va_put (D := D) (ci := 6) (v := .int (0 : Int32)) (ty := .int) (C := R_N) (T := T_N) (N := 24) hx hb hts in_N ty_N tyo_N nm_N hown hK hP hD hS 0 rfl rfl 14 (by decide) (hts _ kw_458) (fun _ h9 => h9) rfl (by decide +kernel) rfl rfl (Nat.le_of_ble_eq_true rfl) d_N_compile_254 (fun H locs hP hD hS => ?_)
        have hP : va_P D zCl (W_N kI kZ qN N_p N_n N_words N_hasDirect (1 : Int32) N_size (N_there (0 : Int32).toNatClampNeg) (0 : Int32) N_values N_word N_table N_direct N_op N_a N_b N_x N_there N_vOp N_vA N_vB N_vX N_needed N_valueOf N_place) H := hP
        have hD : va_D A (W_N kI kZ qN N_p N_n N_words N_hasDirect (1 : Int32) N_size (N_there (0 : Int32).toNatClampNeg) (0 : Int32) N_values N_word N_table N_direct N_op N_a N_b N_x N_there N_vOp N_vA N_vB N_vX N_needed N_valueOf N_place) := hD
        refine lv_iconst (v := (0 : Int32)) hx hb d_N_compile_257 (by decide) ?_
        obtain rfl := Option.some.inj hr
        exact hQ _ _ _ _ _ d_N_compile_258 rfl rfl hP hD hS
      · rw [if_neg hc] at hr
        refine lv_aload_n hx hb d_N_compile_79 rfl (lv_at hl 0 rfl) ?_
        refine va_get (D := D) (ci := 6) (v := .ref (qN 1)) (C := R_N) (T := T_N) (N := 24) hx hb hts in_N hown hK hP 0 rfl rfl 3 (by decide) (hts _ kw_447) (fun _ h9 => h9) rfl d_N_compile_80 ?_
        refine lv_iload hx hb d_N_compile_83 (lv_at hl 2 rfl) ?_
        obtain ⟨hi, hr⟩ := gd_some hr
        refine va_iald hx hb hK hP 1 0 rfl rfl hi d_N_compile_85 ?_
        refine lv_bipush (v := (100 : Int32)) hx hb d_N_compile_86 (by decide) ?_
        refine lv_idiv hx hb d_N_compile_88 (by decide) ?_
        obtain ⟨v5_9, ev5_9, hr⟩ := nm_some hr
        refine z_top ev5_9 ?_
        refine lv_istore (lv' := [(5, .int v5_9), (0, .ref (qN 0)), (3, .int v3), (4, .int v4)]) hx hb d_N_compile_89 hl (by decide) rfl (fun ls hl => ?_)
        refine lv_aload_n hx hb d_N_compile_91 rfl (lv_at hl 1 rfl) ?_
        refine va_get (D := D) (ci := 6) (v := .ref (qN 1)) (C := R_N) (T := T_N) (N := 24) hx hb hts in_N hown hK hP 0 rfl rfl 3 (by decide) (hts _ kw_447) (fun _ h9 => h9) rfl d_N_compile_92 ?_
        refine lv_iload hx hb d_N_compile_95 (lv_at hl 3 rfl) ?_
        obtain ⟨hi, hr⟩ := gd_some hr
        refine va_iald hx hb hK hP 1 0 rfl rfl hi d_N_compile_97 ?_
        refine lv_bipush (v := (100 : Int32)) hx hb d_N_compile_98 (by decide) ?_
        refine z_irem hx hb d_N_compile_100 (by decide) ?_
        obtain ⟨v6_10, ev6_10, hr⟩ := nm_some hr
        refine z_top ev6_10 ?_
        refine lv_istore (lv' := [(6, .int v6_10), (5, .int v5_9), (0, .ref (qN 0)), (3, .int v3), (4, .int v4)]) hx hb d_N_compile_101 hl (by decide) rfl (fun ls hl => ?_)
        refine lv_iload_n hx hb d_N_compile_103 rfl (lv_at hl 3 rfl) ?_
        refine lv_iload hx hb d_N_compile_104 (lv_at hl 1 rfl) ?_
        obtain ⟨r11, hr11, hr⟩ := ob hr
        refine z_ci (ws := (W_N kI kZ qN N_p N_n N_words N_hasDirect N_compiled N_size N_outcome N_done N_values N_word N_table N_direct N_op N_a N_b N_x N_there N_vOp N_vA N_vB N_vX N_needed N_valueOf N_place)) (wc := ([] : va_W)) (wr := (W_N kI kZ qN N_p N_n N_words N_hasDirect N_compiled N_size N_outcome N_done N_values N_word N_table N_direct N_op N_a N_b N_x N_there N_vOp N_vA N_vB N_vX N_needed N_valueOf N_place)) (w1 := ([] : va_W)) (w2 := (W_N kI kZ qN N_p N_n N_words N_hasDirect N_compiled N_size N_outcome N_done N_values N_word N_table N_direct N_op N_a N_b N_x N_there N_vOp N_vA N_vB N_vX N_needed N_valueOf N_place)) (va_runS (As := [.int v5_9]) (rest := [.int v3]) ⟨hx, hb, hml, hown, hts⟩ (c_N_isTwo l D kI kZ v5_9 r11 hr11 H.size) (z_cwS hts mw_N_isTwo kw_551 ⟨by rw [hR]; exact Nat.le_of_ble_eq_true rfl, by rw [hR]; exact Nat.le_of_ble_eq_true rfl⟩) (z_pre hK hP hD hN [] (by decide) rfl) rfl rfl hl.1 rfl (lv_room (Nat.le_of_ble_eq_true rfl)) d_N_compile_106 ⟨Nat.zero_le _, Nat.zero_le _⟩) hP hD hS hA [] [0, 1, 2, 3, 4, 5, 6, 7, 8, 9, 10, 11, 12, 13, 14, 15] [0, 1, 2, 3, 4, 5, 6, 7, 8, 9, 10, 11, 12, 13, 14, 15] rfl rfl (by decide) (by decide) rfl (by decide) (fun H locs hP hD hS => ?_)
        refine lv_if_eq hx hb d_N_compile_109 rfl (fun hc => ?_) (fun hc => ?_)
        · rw [if_pos hc] at hr
          refine lv_iload hx hb d_N_compile_116 (lv_at hl 1 rfl) ?_
          obtain ⟨r12, hr12, hr⟩ := ob hr
          refine z_ci (ws := (W_N kI kZ qN N_p N_n N_words N_hasDirect N_compiled N_size N_outcome N_done N_values N_word N_table N_direct N_op N_a N_b N_x N_there N_vOp N_vA N_vB N_vX N_needed N_valueOf N_place)) (wc := ([] : va_W)) (wr := (W_N kI kZ qN N_p N_n N_words N_hasDirect N_compiled N_size N_outcome N_done N_values N_word N_table N_direct N_op N_a N_b N_x N_there N_vOp N_vA N_vB N_vX N_needed N_valueOf N_place)) (w1 := ([] : va_W)) (w2 := (W_N kI kZ qN N_p N_n N_words N_hasDirect N_compiled N_size N_outcome N_done N_values N_word N_table N_direct N_op N_a N_b N_x N_there N_vOp N_vA N_vB N_vX N_needed N_valueOf N_place)) (va_runS (As := [.int v5_9]) (rest := [.int v3]) ⟨hx, hb, hml, hown, hts⟩ (c_N_isOne l D kI kZ v5_9 r12 hr12 H.size) (z_cwS hts mw_N_isOne kw_554 ⟨by rw [hR]; exact Nat.le_of_ble_eq_true rfl, by rw [hR]; exact Nat.le_of_ble_eq_true rfl⟩) (z_pre hK hP hD hN [] (by decide) rfl) rfl rfl hl.1 rfl (lv_room (Nat.le_of_ble_eq_true rfl)) d_N_compile_118 ⟨Nat.zero_le _, Nat.zero_le _⟩) hP hD hS hA [] [0, 1, 2, 3, 4, 5, 6, 7, 8, 9, 10, 11, 12, 13, 14, 15] [0, 1, 2, 3, 4, 5, 6, 7, 8, 9, 10, 11, 12, 13, 14, 15] rfl rfl (by decide) (by decide) rfl (by decide) (fun H locs hP hD hS => ?_)
          refine lv_if_eq hx hb d_N_compile_121 rfl (fun hc => ?_) (fun hc => ?_)
          · rw [if_pos hc] at hr
            refine lv_iconst (v := (0 : Int32)) hx hb d_N_compile_128 (by decide) ?_
            exact hB129 v4 v5_9 v6_10 (0 : Int32) v3 N_compiled N_size N_op N_a N_b N_x N_outcome N_done N_there _ ih _ _ _ (lv_sub hl [2, 4, 1, 0] rfl) hP hD hS hr
          · rw [if_neg hc] at hr
            refine lv_iconst (v := (1 : Int32)) hx hb d_N_compile_124 (by decide) ?_
            refine lv_goto hx hb d_N_compile_125 rfl ?_
            exact hB129 v4 v5_9 v6_10 (1 : Int32) v3 N_compiled N_size N_op N_a N_b N_x N_outcome N_done N_there _ ih _ _ _ (lv_sub hl [2, 4, 1, 0] rfl) hP hD hS hr
        · rw [if_neg hc] at hr
          refine lv_iconst (v := (2 : Int32)) hx hb d_N_compile_112 (by decide) ?_
          refine lv_goto hx hb d_N_compile_113 rfl ?_
          exact hB129 v4 v5_9 v6_10 (2 : Int32) v3 N_compiled N_size N_op N_a N_b N_x N_outcome N_done N_there _ ih _ _ _ (lv_sub hl [2, 4, 1, 0] rfl) hP hD hS hr
  have hB39 : ∀ (v1 v2 N_compiled N_size : Int32) (N_op N_a N_b N_x : Nat → Int32) (N_outcome N_done : Int32) (N_there : Nat → Int32)   (H : Heap) (locs : List Loc) (ls : Array Slot), lv_has ls 7 [(0, .ref (qN 0)), (1, .int v1), (2, .int v2)] → va_P D zCl (W_N kI kZ qN N_p N_n N_words N_hasDirect N_compiled N_size N_outcome N_done N_values N_word N_table N_direct N_op N_a N_b N_x N_there N_vOp N_vA N_vB N_vX N_needed N_valueOf N_place) H → va_D A (W_N kI kZ qN N_p N_n N_words N_hasDirect N_compiled N_size N_outcome N_done N_values N_word N_table N_direct N_op N_a N_b N_x N_there N_vOp N_vA N_vB N_vX N_needed N_valueOf N_place) → va_S A s.heap H locs → f_N_compile_39 N_words N_word v1 v2 N_compiled N_size N_op N_a N_b N_x N_outcome N_done N_there = some res → W p l e R s m args below meth c H locs 0 0 Q (F0 m 39 ls []) := by
    intro v1 v2 N_compiled N_size N_op N_a N_b N_x N_outcome N_done N_there H locs ls hl hP hD hS hr
    rw [f_N_compile_39] at hr
    refine lv_iload_n hx hb d_N_compile_39 rfl (lv_at hl 1 rfl) ?_
    refine lv_if_gt hx hb d_N_compile_40 rfl (fun hc => ?_) (fun hc => ?_)
    · rw [if_pos hc] at hr
      exact hB49 v1 N_compiled N_size N_op N_a N_b N_x N_outcome N_done N_there _ _ _ (lv_sub hl [1] rfl) hP hD hS hr
    · rw [if_neg hc] at hr
      refine lv_iload_n hx hb d_N_compile_43 rfl (lv_at hl 2 rfl) ?_
      refine lv_bipush (v := (40 : Int32)) hx hb d_N_compile_44 (by decide) ?_
      refine lv_icmp_le hx hb d_N_compile_46 rfl (fun hc => ?_) (fun hc => ?_)
      · rw [if_pos hc] at hr
        refine lv_aload_n hx hb d_N_compile_60 rfl (lv_at hl 0 rfl) ?_
        refine lv_iconst (v := (0 : Int32)) hx hb d_N_compile_61 (by decide) ?_
        refine va_put (D := D) (ci := 6) (v := .int (0 : Int32)) (ty := .int) (C := R_N) (T := T_N) (N := 24) hx hb hts in_N ty_N tyo_N nm_N hown hK hP hD hS 0 rfl rfl 8 (by decide) (hts _ kw_452) (fun _ h9 => h9) rfl (by decide +kernel) rfl rfl (Nat.le_of_ble_eq_true rfl) d_N_compile_62 (fun H locs hP hD hS => ?_)
        have hP : va_P D zCl (W_N kI kZ qN N_p N_n N_words N_hasDirect N_compiled (0 : Int32) N_outcome N_done N_values N_word N_table N_direct N_op N_a N_b N_x N_there N_vOp N_vA N_vB N_vX N_needed N_valueOf N_place) H := hP
        have hD : va_D A (W_N kI kZ qN N_p N_n N_words N_hasDirect N_compiled (0 : Int32) N_outcome N_done N_values N_word N_table N_direct N_op N_a N_b N_x N_there N_vOp N_vA N_vB N_vX N_needed N_valueOf N_place) := hD
        refine lv_iconst (v := (0 : Int32)) hx hb d_N_compile_65 (by decide) ?_
        refine lv_istore_n (lv' := [(3, .int (0 : Int32)), (0, .ref (qN 0)), (1, .int v1), (2, .int v2)]) hx hb d_N_compile_66 rfl hl (by decide) rfl (fun ls hl => ?_)
        refine lv_iconst (v := (0 : Int32)) hx hb d_N_compile_67 (by decide) ?_
        refine lv_istore (lv' := [(4, .int (0 : Int32)), (3, .int (0 : Int32)), (0, .ref (qN 0)), (1, .int v1), (2, .int v2)]) hx hb d_N_compile_68 hl (by decide) rfl (fun ls hl => ?_)
        exact hB70 N_compiled N_outcome N_done zFU (0 : Int32) (0 : Int32) (0 : Int32) N_op N_a N_b N_x N_there _ _ _ (lv_sub hl [2, 1, 0] rfl) hP hD hS hr
      · rw [if_neg hc] at hr
        exact hB49 v1 N_compiled N_size N_op N_a N_b N_x N_outcome N_done N_there _ _ _ (lv_sub hl [1] rfl) hP hD hS hr
  have hB9 : ∀ (v1 N_compiled N_size : Int32) (N_op N_a N_b N_x : Nat → Int32) (N_outcome N_done : Int32) (N_there : Nat → Int32)   (fu : Nat) (v2 v3 : Int32) (H : Heap) (locs : List Loc) (ls : Array Slot), lv_has ls 7 [(0, .ref (qN 0)), (1, .int v1), (2, .int v2), (3, .int v3)] → va_P D zCl (W_N kI kZ qN N_p N_n N_words N_hasDirect N_compiled N_size N_outcome N_done N_values N_word N_table N_direct N_op N_a N_b N_x N_there N_vOp N_vA N_vB N_vX N_needed N_valueOf N_place) H → va_D A (W_N kI kZ qN N_p N_n N_words N_hasDirect N_compiled N_size N_outcome N_done N_values N_word N_table N_direct N_op N_a N_b N_x N_there N_vOp N_vA N_vB N_vX N_needed N_valueOf N_place) → va_S A s.heap H locs → f_N_compile_9 N_words N_word v1 N_compiled N_size N_op N_a N_b N_x N_outcome N_done N_there fu v2 v3 = some res → W p l e R s m args below meth c H locs 0 0 Q (F0 m 9 ls []) := by
    intro v1 N_compiled N_size N_op N_a N_b N_x N_outcome N_done N_there fu
    induction fu with
    | zero => intro v2 v3 H locs ls hl hP hD hS hr; exact absurd hr (by rw [f_N_compile_9]; exact fun h => by cases h)
    | succ fu ih =>
      intro v2 v3 H locs ls hl hP hD hS hr
      rw [f_N_compile_9] at hr
      refine lv_iload_n hx hb d_N_compile_9 rfl (lv_at hl 3 rfl) ?_
      refine lv_aload_n hx hb d_N_compile_10 rfl (lv_at hl 0 rfl) ?_
      refine va_get (D := D) (ci := 6) (v := .int N_words) (C := R_N) (T := T_N) (N := 24) hx hb hts in_N hown hK hP 0 rfl rfl 2 (by decide) (hts _ kw_446) (fun _ h9 => h9) rfl d_N_compile_11 ?_
      refine lv_icmp_ge hx hb d_N_compile_14 rfl (fun hc => ?_) (fun hc => ?_)
      · rw [if_pos hc] at hr
        exact hB39 v1 v2 N_compiled N_size N_op N_a N_b N_x N_outcome N_done N_there _ _ _ (lv_sub hl [0, 1, 2] rfl) hP hD hS hr
      · rw [if_neg hc] at hr
        refine lv_iload_n hx hb d_N_compile_17 rfl (lv_at hl 1 rfl) ?_
        refine lv_if_ne hx hb d_N_compile_18 rfl (fun hc => ?_) (fun hc => ?_)
        · rw [if_neg hc] at hr
          exact hB39 v1 v2 N_compiled N_size N_op N_a N_b N_x N_outcome N_done N_there _ _ _ (lv_sub hl [0, 1, 2] rfl) hP hD hS hr
        · rw [if_pos hc] at hr
          refine lv_iload_n hx hb d_N_compile_21 rfl (lv_at hl 2 rfl) ?_
          refine lv_aload_n hx hb d_N_compile_22 rfl (lv_at hl 0 rfl) ?_
          refine va_get (D := D) (ci := 6) (v := .ref (qN 1)) (C := R_N) (T := T_N) (N := 24) hx hb hts in_N hown hK hP 0 rfl rfl 3 (by decide) (hts _ kw_447) (fun _ h9 => h9) rfl d_N_compile_23 ?_
          refine lv_iload_n hx hb d_N_compile_26 rfl (lv_at hl 3 rfl) ?_
          obtain ⟨hi, hr⟩ := gd_some hr
          refine va_iald hx hb hK hP 1 0 rfl rfl hi d_N_compile_27 ?_
          obtain ⟨r13, hr13, hr⟩ := ob hr
          refine z_ci (ws := (W_N kI kZ qN N_p N_n N_words N_hasDirect N_compiled N_size N_outcome N_done N_values N_word N_table N_direct N_op N_a N_b N_x N_there N_vOp N_vA N_vB N_vX N_needed N_valueOf N_place)) (wc := ([] : va_W)) (wr := (W_N kI kZ qN N_p N_n N_words N_hasDirect N_compiled N_size N_outcome N_done N_values N_word N_table N_direct N_op N_a N_b N_x N_there N_vOp N_vA N_vB N_vX N_needed N_valueOf N_place)) (w1 := ([] : va_W)) (w2 := (W_N kI kZ qN N_p N_n N_words N_hasDirect N_compiled N_size N_outcome N_done N_values N_word N_table N_direct N_op N_a N_b N_x N_there N_vOp N_vA N_vB N_vX N_needed N_valueOf N_place)) (va_runS (As := [.int (N_word v3.toNatClampNeg)]) (rest := [.int v2]) ⟨hx, hb, hml, hown, hts⟩ (c_N_steps l D kI kZ (N_word v3.toNatClampNeg) r13 hr13 H.size) (z_cwS hts mw_N_steps kw_577 ⟨by rw [hR]; exact Nat.le_of_ble_eq_true rfl, by rw [hR]; exact Nat.le_of_ble_eq_true rfl⟩) (z_pre hK hP hD hN [] (by decide) rfl) rfl rfl hl.1 rfl (lv_room (Nat.le_of_ble_eq_true rfl)) d_N_compile_28 ⟨Nat.zero_le _, Nat.zero_le _⟩) hP hD hS hA [] [0, 1, 2, 3, 4, 5, 6, 7, 8, 9, 10, 11, 12, 13, 14, 15] [0, 1, 2, 3, 4, 5, 6, 7, 8, 9, 10, 11, 12, 13, 14, 15] rfl rfl (by decide) (by decide) rfl (by decide) (fun H locs hP hD hS => ?_)
          refine lv_iadd hx hb d_N_compile_31 ?_
          obtain ⟨v2_14, ev2_14, hr⟩ := nm_some hr
          refine z_top ev2_14 ?_
          refine lv_istore_n (lv' := [(2, .int v2_14), (0, .ref (qN 0)), (1, .int v1), (3, .int v3)]) hx hb d_N_compile_32 rfl hl (by decide) rfl (fun ls hl => ?_)
          refine lv_iinc (k := 3) (v := (v3 + (1 : Int32))) (lv' := [(3, .int (v3 + (1 : Int32))), (2, .int v2_14), (0, .ref (qN 0)), (1, .int v1)]) hx hb d_N_compile_33 hl rfl (congrArg (fun z => v3 + z) (by decide : Int32.ofInt 1 = (1 : Int32))) (by decide) rfl (fun ls hl => ?_)
          refine lv_goto hx hb d_N_compile_36 rfl ?_
          exact ih v2_14 (v3 + (1 : Int32)) _ _ _ (lv_sub hl [2, 3, 1, 0] rfl) hP hD hS hr
  intro ls H hl hP hD hS
  have hl : lv_has ls 7 [(0, .ref (qN 0))] := hl
  rw [f_N_compile] at hr
  refine lv_aload_n hx hb d_N_compile_0 rfl (lv_at hl 0 rfl) ?_
  obtain ⟨r15, hr15, hr⟩ := ob hr
  refine z_ci (ws := (W_N kI kZ qN N_p N_n N_words N_hasDirect N_compiled N_size N_outcome N_done N_values N_word N_table N_direct N_op N_a N_b N_x N_there N_vOp N_vA N_vB N_vX N_needed N_valueOf N_place)) (wc := (W_N kI kZ qN N_p N_n N_words N_hasDirect N_compiled N_size N_outcome N_done N_values N_word N_table N_direct N_op N_a N_b N_x N_there N_vOp N_vA N_vB N_vX N_needed N_valueOf N_place)) (wr := ([] : va_W)) (w1 := (W_N kI kZ qN N_p N_n N_words N_hasDirect N_compiled N_size N_outcome N_done N_values N_word N_table N_direct N_op N_a N_b N_x N_there N_vOp N_vA N_vB N_vX N_needed N_valueOf N_place)) (w2 := (W_N kI kZ qN N_p N_n N_words N_hasDirect N_compiled N_size N_outcome N_done N_values N_word N_table N_direct N_op N_a N_b N_x N_there N_vOp N_vA N_vB N_vX N_needed N_valueOf N_place)) (va_runV (As := []) (rest := []) ⟨hx, hb, hml, hown, hts⟩ (c_N_fault l D kI kZ qN N_p N_n N_words N_hasDirect N_compiled N_size N_outcome N_done N_values N_word N_table N_direct N_op N_a N_b N_x N_there N_vOp N_vA N_vB N_vX N_needed N_valueOf N_place r15 hr15 H.size) (z_cwV hts mw_N_fault kw_544 ⟨by rw [hR]; exact Nat.le_of_ble_eq_true rfl, by rw [hR]; exact Nat.le_of_ble_eq_true rfl⟩) (z_preV (ci := 6) hK hP hD hN rfl (he := (rfl : _[0]? = _)) [0, 1, 2, 3, 4, 5, 6, 7, 8, 9, 10, 11, 12, 13, 14, 15] (by decide) rfl) rfl rfl hl.1 rfl (lv_room (Nat.le_of_ble_eq_true rfl)) d_N_compile_1 ⟨Nat.zero_le _, Nat.zero_le _⟩) hP hD hS hA [0, 1, 2, 3, 4, 5, 6, 7, 8, 9, 10, 11, 12, 13, 14, 15] [] [0, 1, 2, 3, 4, 5, 6, 7, 8, 9, 10, 11, 12, 13, 14, 15] rfl rfl (by decide) (by decide) rfl (by decide) (fun H locs hP hD hS => ?_)
  refine lv_istore_n (lv' := [(1, .int r15), (0, .ref (qN 0))]) hx hb d_N_compile_4 rfl hl (by decide) rfl (fun ls hl => ?_)
  refine lv_iconst (v := (0 : Int32)) hx hb d_N_compile_5 (by decide) ?_
  refine lv_istore_n (lv' := [(2, .int (0 : Int32)), (1, .int r15), (0, .ref (qN 0))]) hx hb d_N_compile_6 rfl hl (by decide) rfl (fun ls hl => ?_)
  refine lv_iconst (v := (0 : Int32)) hx hb d_N_compile_7 (by decide) ?_
  refine lv_istore_n (lv' := [(3, .int (0 : Int32)), (2, .int (0 : Int32)), (1, .int r15), (0, .ref (qN 0))]) hx hb d_N_compile_8 rfl hl (by decide) rfl (fun ls hl => ?_)
  exact hB9 r15 N_compiled N_size N_op N_a N_b N_x N_outcome N_done N_there zFU (0 : Int32) (0 : Int32) _ _ _ (lv_sub hl [3, 2, 1, 0] rfl) hP hD hS hr
