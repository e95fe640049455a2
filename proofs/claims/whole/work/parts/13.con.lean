set_option maxHeartbeats 4000000 in
set_option maxRecDepth 100000 in
theorem c_C_append (l : Launch) (D : va_G) (kI kZ : ClassId) (qC : Nat → Nat) (C_length : Int32) (C_instructions : Nat → Int32) (a1 a2 a3 : Int32) (res : Int32 × (Nat → Int32) × Int32) (hr : f_C_append C_instructions C_length a1 a2 a3 = some res) : zMi l D kI kZ y_C_append prog_2_method_10_code 4 ((some .int)) 1 22 [.ref (qC 0), .int a1, .int a2, .int a3] (W_C kI kZ qC C_length C_instructions) (W_C kI kZ qC (res.2.2) (res.2.1)) (res.1) := by
  refine zMi.of (by decide +kernel) (Nat.le_of_ble_eq_true rfl) ?_
  intro p e R s m args below meth c Q A hR hx hb hml hts hown hA hK hN hQ
  have hown : s.vm.findClass "SquareCode$Code" = some m.cls := hown
  intro ls H hl hP hD hS
  have hl : lv_has ls 4 [(0, .ref (qC 0)), (1, .int a1), (2, .int a2), (3, .int a3)] := hl
  rw [f_C_append] at hr
  refine lv_aload_n hx hb d_C_append_0 rfl (lv_at hl 0 rfl) ?_
  refine va_get (D := D) (ci := 0) (v := .ref (qC 1)) (C := R_C) (T := T_C) (N := 2) hx hb hts in_C hown hK hP 0 rfl rfl 0 (by decide) (hts _ kw_61) (fun _ h9 => h9) rfl d_C_append_1 ?_
  refine lv_aload_n hx hb d_C_append_4 rfl (lv_at hl 0 rfl) ?_
  refine va_get (D := D) (ci := 0) (v := .int C_length) (C := R_C) (T := T_C) (N := 2) hx hb hts in_C hown hK hP 0 rfl rfl 1 (by decide) (hts _ kw_62) (fun _ h9 => h9) rfl d_C_append_5 ?_
  refine lv_iload_n hx hb d_C_append_8 rfl (lv_at hl 1 rfl) ?_
  refine lv_iload_n hx hb d_C_append_9 rfl (lv_at hl 2 rfl) ?_
  refine lv_iload_n hx hb d_C_append_10 rfl (lv_at hl 3 rfl) ?_
  obtain ⟨r1, hr1, hr⟩ := ob hr
  refine z_ci (ws := (W_C kI kZ qC C_length C_instructions)) (wc := ([] : va_W)) (wr := (W_C kI kZ qC C_length C_instructions)) (w1 := ([] : va_W)) (w2 := (W_C kI kZ qC C_length C_instructions)) (va_runS (As := [.int a1, .int a2, .int a3]) (rest := [.int C_length, .ref (qC 1)]) ⟨hx, hb, hml, hown, hts⟩ (c_C_packed l D kI kZ a1 a2 a3 r1 hr1 H.size) (z_cwS hts mw_C_packed kw_225 ⟨by rw [hR]; exact Nat.le_of_ble_eq_true rfl, by rw [hR]; exact Nat.le_of_ble_eq_true rfl⟩) (z_pre hK hP hD hN [] (by decide) rfl) rfl rfl hl.1 rfl (lv_room (Nat.le_of_ble_eq_true rfl)) d_C_append_11 ⟨Nat.zero_le _, Nat.zero_le _⟩) hP hD hS hA [] [0, 1] [0, 1] rfl rfl (by decide) (by decide) rfl (by decide) (fun H locs hP hD hS => ?_)
  obtain ⟨hi, hr⟩ := gd_some hr
  refine va_iast hx hb hK hP hD hS 1 0 rfl rfl hi d_C_append_14 (fun H locs hP hD hS => ?_)
  have hP : va_P D zCl (W_C kI kZ qC C_length (upd C_instructions C_length.toNatClampNeg r1)) H := hP
  have hD : va_D A (W_C kI kZ qC C_length (upd C_instructions C_length.toNatClampNeg r1)) := hD
  refine lv_aload_n hx hb d_C_append_15 rfl (lv_at hl 0 rfl) ?_
  refine lv_dup hx hb d_C_append_16 rfl ?_
  refine va_get (D := D) (ci := 0) (v := .int C_length) (C := R_C) (T := T_C) (N := 2) hx hb hts in_C hown hK hP 0 rfl rfl 1 (by decide) (hts _ kw_62) (fun _ h9 => h9) rfl d_C_append_17 ?_
  refine lv_iconst (v := (1 : Int32)) hx hb d_C_append_20 (by decide) ?_
  refine lv_iadd hx hb d_C_append_21 ?_
  refine va_put (D := D) (ci := 0) (v := .int (C_length + (1 : Int32))) (ty := .int) (C := R_C) (T := T_C) (N := 2) hx hb hts in_C ty_C tyo_C nm_C hown hK hP hD hS 0 rfl rfl 1 (by decide) (hts _ kw_62) (fun _ h9 => h9) rfl (by decide +kernel) rfl rfl (Nat.le_of_ble_eq_true rfl) d_C_append_22 (fun H locs hP hD hS => ?_)
  have hP : va_P D zCl (W_C kI kZ qC (C_length + (1 : Int32)) (upd C_instructions C_length.toNatClampNeg r1)) H := hP
  have hD : va_D A (W_C kI kZ qC (C_length + (1 : Int32)) (upd C_instructions C_length.toNatClampNeg r1)) := hD
  refine lv_aload_n hx hb d_C_append_25 rfl (lv_at hl 0 rfl) ?_
  refine va_get (D := D) (ci := 0) (v := .int (C_length + (1 : Int32))) (C := R_C) (T := T_C) (N := 2) hx hb hts in_C hown hK hP 0 rfl rfl 1 (by decide) (hts _ kw_62) (fun _ h9 => h9) rfl d_C_append_26 ?_
  refine lv_iconst (v := (1 : Int32)) hx hb d_C_append_29 (by decide) ?_
  refine lv_isub hx hb d_C_append_30 ?_
  obtain rfl := Option.some.inj hr
  exact hQ _ _ _ _ _ d_C_append_31 rfl rfl hP hD hS
set_option maxHeartbeats 4000000 in
set_option maxRecDepth 100000 in
theorem c_X_isDigitOne (l : Launch) (D : va_G) (kI kZ : ClassId)  (a0 a1 : Int32) (res : Int32) (hr : f_X_isDigitOne a0 a1 = some res) : zMi l D kI kZ y_X_isDigitOne prog_1_method_20_code 2 ((some .boolean)) 0 0 [.int a0, .int a1] ([] : va_W) ([] : va_W) res := by
  refine zMi.of (by decide +kernel) (Nat.le_of_ble_eq_true rfl) ?_
  intro p e R s m args below meth c Q A hR hx hb hml hts hown hA hK hN hQ
  have hown : s.vm.findClass "SquareCode" = some m.cls := hown
  intro ls H hl hP hD hS
  have hl : lv_has ls 2 [(0, .int a0), (1, .int a1)] := hl
  rw [f_X_isDigitOne] at hr
  refine lv_iload_n hx hb d_X_isDigitOne_0 rfl (lv_at hl 0 rfl) ?_
  refine lv_iload_n hx hb d_X_isDigitOne_1 rfl (lv_at hl 1 rfl) ?_
  refine lv_ishr hx hb d_X_isDigitOne_2 ?_
  refine lv_iconst (v := (1 : Int32)) hx hb d_X_isDigitOne_3 (by decide) ?_
  refine lv_iand hx hb d_X_isDigitOne_4 ?_
  refine lv_iconst (v := (1 : Int32)) hx hb d_X_isDigitOne_5 (by decide) ?_
  refine lv_icmp_ne hx hb d_X_isDigitOne_6 rfl (fun hc => ?_) (fun hc => ?_)
  · rw [if_neg hc] at hr
    refine lv_iconst (v := (0 : Int32)) hx hb d_X_isDigitOne_13 (by decide) ?_
    obtain rfl := Option.some.inj hr
    exact hQ _ _ _ _ _ d_X_isDigitOne_14 (by decide +kernel) rfl hP hD hS
  · rw [if_pos hc] at hr
    refine lv_iconst (v := (1 : Int32)) hx hb d_X_isDigitOne_9 (by decide) ?_
    refine lv_goto hx hb d_X_isDigitOne_10 rfl ?_
    obtain rfl := Option.some.inj hr
    exact hQ _ _ _ _ _ d_X_isDigitOne_14 (by decide +kernel) rfl hP hD hS
set_option maxHeartbeats 4000000 in
set_option maxRecDepth 100000 in
theorem c_P_powerOf (l : Launch) (D : va_G) (kI kZ : ClassId) (qC : Nat → Nat) (C_length : Int32) (C_instructions : Nat → Int32) (a0 a1 : Int32) (res : Int32 × (Nat → Int32) × Int32) (hr : f_P_powerOf C_instructions C_length a0 a1 = some res) : zMi l D kI kZ y_P_powerOf prog_3_method_4_code 5 ((some .int)) 2 45 [.int a0, .int a1, .ref (qC 0)] (W_C kI kZ qC C_length C_instructions) (W_C kI kZ qC (res.2.2) (res.2.1)) (res.1) := by
  refine zMi.of (by decide +kernel) (Nat.le_of_ble_eq_true rfl) ?_
  intro p e R s m args below meth c Q A hR hx hb hml hts hown hA hK hN hQ
  have hown : s.vm.findClass "SquareCode$Compiler" = some m.cls := hown
  have hB22 : ∀ (fu : Nat) (v3 v4 : Int32) (C_instructions : Nat → Int32) (C_length : Int32) (H : Heap) (locs : List Loc) (ls : Array Slot), lv_has ls 5 [(0, .int a0), (1, .int a1), (2, .ref (qC 0)), (3, .int v3), (4, .int v4)] → va_P D zCl (W_C kI kZ qC C_length C_instructions) H → va_D A (W_C kI kZ qC C_length C_instructions) → va_S A s.heap H locs → f_P_powerOf_22 a0 a1 fu v3 v4 C_instructions C_length = some res → W p l e R s m args below meth c H locs 0 0 Q (F0 m 22 ls []) := by
    intro  fu
    induction fu with
    | zero => intro v3 v4 C_instructions C_length H locs ls hl hP hD hS hr; exact absurd hr (by rw [f_P_powerOf_22]; exact fun h => by cases h)
    | succ fu ih =>
      intro v3 v4 C_instructions C_length H locs ls hl hP hD hS hr
      rw [f_P_powerOf_22] at hr
      refine lv_iload hx hb d_P_powerOf_22 (lv_at hl 4 rfl) ?_
      refine lv_if_lt hx hb d_P_powerOf_24 rfl (fun hc => ?_) (fun hc => ?_)
      · rw [if_pos hc] at hr
        refine lv_iload_n hx hb d_P_powerOf_58 rfl (lv_at hl 3 rfl) ?_
        obtain rfl := Option.some.inj hr
        exact hQ _ _ _ _ _ d_P_powerOf_59 rfl rfl hP hD hS
      · rw [if_neg hc] at hr
        refine lv_aload_n hx hb d_P_powerOf_27 rfl (lv_at hl 2 rfl) ?_
        refine lv_iconst (v := (5 : Int32)) hx hb d_P_powerOf_28 (by decide) ?_
        refine lv_iload_n hx hb d_P_powerOf_29 rfl (lv_at hl 3 rfl) ?_
        refine lv_iload_n hx hb d_P_powerOf_30 rfl (lv_at hl 3 rfl) ?_
        obtain ⟨r1, hr1, hr⟩ := ob hr
        refine z_ci (ws := (W_C kI kZ qC C_length C_instructions)) (wc := (W_C kI kZ qC C_length C_instructions)) (wr := ([] : va_W)) (w1 := (W_C kI kZ qC r1.2.2 r1.2.1)) (w2 := (W_C kI kZ qC r1.2.2 r1.2.1)) (va_runV (As := [.int (5 : Int32), .int v3, .int v3]) (rest := []) ⟨hx, hb, hml, hown, hts⟩ (c_C_append l D kI kZ qC C_length C_instructions (5 : Int32) v3 v3 r1 hr1 H.size) (z_cwV hts mw_C_append kw_221 ⟨by rw [hR]; exact Nat.le_of_ble_eq_true rfl, by rw [hR]; exact Nat.le_of_ble_eq_true rfl⟩) (z_preV (ci := 0) hK hP hD hN rfl (he := (rfl : _[0]? = _)) [0, 1] (by decide) rfl) rfl rfl hl.1 rfl (lv_room (Nat.le_of_ble_eq_true rfl)) d_P_powerOf_31 ⟨Nat.zero_le _, Nat.zero_le _⟩) hP hD hS hA [0, 1] [] [0, 1] rfl rfl (by decide) (by decide) rfl (by decide) (fun H locs hP hD hS => ?_)
        refine lv_istore_n (lv' := [(3, .int r1.1), (0, .int a0), (1, .int a1), (2, .ref (qC 0)), (4, .int v4)]) hx hb d_P_powerOf_34 rfl hl (by decide) rfl (fun ls hl => ?_)
        refine lv_iload_n hx hb d_P_powerOf_35 rfl (lv_at hl 2 rfl) ?_
        refine lv_iload hx hb d_P_powerOf_36 (lv_at hl 4 rfl) ?_
        obtain ⟨r2, hr2, hr⟩ := ob hr
        refine z_ci (ws := (W_C kI kZ qC r1.2.2 r1.2.1)) (wc := ([] : va_W)) (wr := (W_C kI kZ qC r1.2.2 r1.2.1)) (w1 := ([] : va_W)) (w2 := (W_C kI kZ qC r1.2.2 r1.2.1)) (va_runSN (As := [.int a1, .int v4]) (rest := []) ⟨hx, hb, hml, hown, hts⟩ (c_X_isDigitOne l D kI kZ a1 v4 r2 hr2 H.size) (z_cwN hts mw_X_isDigitOne (zNestOf 4 hN rfl) ⟨by rw [hR]; exact Nat.le_of_ble_eq_true rfl, by rw [hR]; exact Nat.le_of_ble_eq_true rfl⟩) (z_pre hK hP hD hN [] (by decide) rfl) rfl rfl hl.1 rfl (lv_room (Nat.le_of_ble_eq_true rfl)) d_P_powerOf_38 ⟨Nat.zero_le _, Nat.zero_le _⟩) hP hD hS hA [] [0, 1] [0, 1] rfl rfl (by decide) (by decide) rfl (by decide) (fun H locs hP hD hS => ?_)
        refine lv_if_eq hx hb d_P_powerOf_41 rfl (fun hc => ?_) (fun hc => ?_)
        · rw [if_pos hc] at hr
          refine lv_iinc (k := 4) (v := (v4 + (-1 : Int32))) (lv' := [(4, .int (v4 + (-1 : Int32))), (3, .int r1.1), (0, .int a0), (1, .int a1), (2, .ref (qC 0))]) hx hb d_P_powerOf_52 hl rfl (congrArg (fun z => v4 + z) (by decide : Int32.ofInt (-1) = (-1 : Int32))) (by decide) rfl (fun ls hl => ?_)
          refine lv_goto hx hb d_P_powerOf_55 rfl ?_
          exact ih r1.1 (v4 + (-1 : Int32)) r1.2.1 r1.2.2 _ _ _ (lv_sub hl [2, 3, 4, 1, 0] rfl) hP hD hS hr
        · rw [if_neg hc] at hr
          refine lv_aload_n hx hb d_P_powerOf_44 rfl (lv_at hl 3 rfl) ?_
          refine lv_iconst (v := (5 : Int32)) hx hb d_P_powerOf_45 (by decide) ?_
          refine lv_iload_n hx hb d_P_powerOf_46 rfl (lv_at hl 0 rfl) ?_
          refine lv_iload_n hx hb d_P_powerOf_47 rfl (lv_at hl 1 rfl) ?_
          obtain ⟨r3, hr3, hr⟩ := ob hr
          refine z_ci (ws := (W_C kI kZ qC r1.2.2 r1.2.1)) (wc := (W_C kI kZ qC r1.2.2 r1.2.1)) (wr := ([] : va_W)) (w1 := (W_C kI kZ qC r3.2.2 r3.2.1)) (w2 := (W_C kI kZ qC r3.2.2 r3.2.1)) (va_runV (As := [.int (5 : Int32), .int r1.1, .int a0]) (rest := []) ⟨hx, hb, hml, hown, hts⟩ (c_C_append l D kI kZ qC r1.2.2 r1.2.1 (5 : Int32) r1.1 a0 r3 hr3 H.size) (z_cwV hts mw_C_append kw_221 ⟨by rw [hR]; exact Nat.le_of_ble_eq_true rfl, by rw [hR]; exact Nat.le_of_ble_eq_true rfl⟩) (z_preV (ci := 0) hK hP hD hN rfl (he := (rfl : _[0]? = _)) [0, 1] (by decide) rfl) rfl rfl hl.1 rfl (lv_room (Nat.le_of_ble_eq_true rfl)) d_P_powerOf_48 ⟨Nat.zero_le _, Nat.zero_le _⟩) hP hD hS hA [0, 1] [] [0, 1] rfl rfl (by decide) (by decide) rfl (by decide) (fun H locs hP hD hS => ?_)
          refine lv_istore_n (lv' := [(3, .int r3.1), (0, .int a0), (1, .int a1), (2, .ref (qC 0)), (4, .int v4)]) hx hb d_P_powerOf_51 rfl hl (by decide) rfl (fun ls hl => ?_)
          refine lv_iinc (k := 4) (v := (v4 + (-1 : Int32))) (lv' := [(4, .int (v4 + (-1 : Int32))), (3, .int r3.1), (0, .int a0), (1, .int a1), (2, .ref (qC 0))]) hx hb d_P_powerOf_52 hl rfl (congrArg (fun z => v4 + z) (by decide : Int32.ofInt (-1) = (-1 : Int32))) (by decide) rfl (fun ls hl => ?_)
          refine lv_goto hx hb d_P_powerOf_55 rfl ?_
          exact ih r3.1 (v4 + (-1 : Int32)) r3.2.1 r3.2.2 _ _ _ (lv_sub hl [2, 3, 4, 1, 0] rfl) hP hD hS hr
  intro ls H hl hP hD hS
  have hl : lv_has ls 5 [(0, .int a0), (1, .int a1), (2, .ref (qC 0))] := hl
  rw [f_P_powerOf] at hr
  refine lv_iload_n hx hb d_P_powerOf_0 rfl (lv_at hl 1 rfl) ?_
  refine lv_if_ne hx hb d_P_powerOf_1 rfl (fun hc => ?_) (fun hc => ?_)
  · rw [if_neg hc] at hr
    refine lv_iload_n hx hb d_P_powerOf_12 rfl (lv_at hl 0 rfl) ?_
    refine lv_istore_n (lv' := [(3, .int a0), (0, .int a0), (1, .int a1), (2, .ref (qC 0))]) hx hb d_P_powerOf_13 rfl hl (by decide) rfl (fun ls hl => ?_)
    refine lv_iload_n hx hb d_P_powerOf_14 rfl (lv_at hl 2 rfl) ?_
    obtain ⟨r4, hr4, hr⟩ := ob hr
    refine z_ci (ws := (W_C kI kZ qC C_length C_instructions)) (wc := ([] : va_W)) (wr := (W_C kI kZ qC C_length C_instructions)) (w1 := ([] : va_W)) (w2 := (W_C kI kZ qC C_length C_instructions)) (va_runSN (As := [.int a1]) (rest := []) ⟨hx, hb, hml, hown, hts⟩ (c_X_topDigit l D kI kZ a1 r4 hr4 H.size) (z_cwN hts mw_X_topDigit (zNestOf 3 hN rfl) ⟨by rw [hR]; exact Nat.le_of_ble_eq_true rfl, by rw [hR]; exact Nat.le_of_ble_eq_true rfl⟩) (z_pre hK hP hD hN [] (by decide) rfl) rfl rfl hl.1 rfl (lv_room (Nat.le_of_ble_eq_true rfl)) d_P_powerOf_15 ⟨Nat.zero_le _, Nat.zero_le _⟩) hP hD hS hA [] [0, 1] [0, 1] rfl rfl (by decide) (by decide) rfl (by decide) (fun H locs hP hD hS => ?_)
    refine lv_iconst (v := (1 : Int32)) hx hb d_P_powerOf_18 (by decide) ?_
    refine lv_isub hx hb d_P_powerOf_19 ?_
    obtain ⟨v4_5, ev4_5, hr⟩ := nm_some hr
    refine z_top ev4_5 ?_
    refine lv_istore (lv' := [(4, .int v4_5), (3, .int a0), (0, .int a0), (1, .int a1), (2, .ref (qC 0))]) hx hb d_P_powerOf_20 hl (by decide) rfl (fun ls hl => ?_)
    exact hB22 zFU a0 v4_5 C_instructions C_length _ _ _ (lv_sub hl [2, 3, 4, 1, 0] rfl) hP hD hS hr
  · rw [if_pos hc] at hr
    refine lv_aload_n hx hb d_P_powerOf_4 rfl (lv_at hl 2 rfl) ?_
    refine lv_iconst (v := (1 : Int32)) hx hb d_P_powerOf_5 (by decide) ?_
    refine lv_iconst (v := (0 : Int32)) hx hb d_P_powerOf_6 (by decide) ?_
    refine lv_iconst (v := (0 : Int32)) hx hb d_P_powerOf_7 (by decide) ?_
    obtain ⟨r6, hr6, hr⟩ := ob hr
    refine z_ci (ws := (W_C kI kZ qC C_length C_instructions)) (wc := (W_C kI kZ qC C_length C_instructions)) (wr := ([] : va_W)) (w1 := (W_C kI kZ qC r6.2.2 r6.2.1)) (w2 := (W_C kI kZ qC r6.2.2 r6.2.1)) (va_runV (As := [.int (1 : Int32), .int (0 : Int32), .int (0 : Int32)]) (rest := []) ⟨hx, hb, hml, hown, hts⟩ (c_C_append l D kI kZ qC C_length C_instructions (1 : Int32) (0 : Int32) (0 : Int32) r6 hr6 H.size) (z_cwV hts mw_C_append kw_221 ⟨by rw [hR]; exact Nat.le_of_ble_eq_true rfl, by rw [hR]; exact Nat.le_of_ble_eq_true rfl⟩) (z_preV (ci := 0) hK hP hD hN rfl (he := (rfl : _[0]? = _)) [0, 1] (by decide) rfl) rfl rfl hl.1 rfl (lv_room (Nat.le_of_ble_eq_true rfl)) d_P_powerOf_8 ⟨Nat.zero_le _, Nat.zero_le _⟩) hP hD hS hA [0, 1] [] [0, 1] rfl rfl (by decide) (by decide) rfl (by decide) (fun H locs hP hD hS => ?_)
    obtain rfl := Option.some.inj hr
    exact hQ _ _ _ _ _ d_P_powerOf_11 rfl rfl hP hD hS
set_option maxHeartbeats 4000000 in
set_option maxRecDepth 100000 in
theorem c_P_instructionsFor (l : Launch) (D : va_G) (kI kZ : ClassId) (qC qP : Nat → Nat) (C_length : Int32) (C_instructions P_registers : Nat → Int32) (a1 a2 a3 : Int32) (res : Int32 × (Nat → Int32) × Int32) (hr : f_P_instructionsFor C_instructions C_length P_registers a1 a2 a3 = some res) : zMi l D kI kZ y_P_instructionsFor prog_3_method_3_code 5 ((some .int)) 3 69 [.ref (qP 0), .int a1, .int a2, .int a3, .ref (qC 0)] (W_CP kI kZ qC qP C_length C_instructions P_registers) (W_CP kI kZ qC qP (res.2.2) (res.2.1) P_registers) (res.1) := by
  refine zMi.of (by decide +kernel) (Nat.le_of_ble_eq_true rfl) ?_
  intro p e R s m args below meth c Q A hR hx hb hml hts hown hA hK hN hQ
  have hown : s.vm.findClass "SquareCode$Compiler" = some m.cls := hown
  have hB52 : ∀ (C_instructions : Nat → Int32) (C_length : Int32)   (H : Heap) (locs : List Loc) (ls : Array Slot), lv_has ls 5 [(1, .int a1), (2, .int a2), (4, .ref (qC 0))] → va_P D zCl (W_CP kI kZ qC qP C_length C_instructions P_registers) H → va_D A (W_CP kI kZ qC qP C_length C_instructions P_registers) → va_S A s.heap H locs → f_P_instructionsFor_52 a1 a2 C_instructions C_length = some res → W p l e R s m args below meth c H locs 0 0 Q (F0 m 52 ls []) := by
    intro C_instructions C_length H locs ls hl hP hD hS hr
    rw [f_P_instructionsFor_52] at hr
    refine lv_aload hx hb d_P_instructionsFor_52 (lv_at hl 2 rfl) ?_
    refine lv_iload_n hx hb d_P_instructionsFor_54 rfl (lv_at hl 0 rfl) ?_
    refine lv_iconst (v := (0 : Int32)) hx hb d_P_instructionsFor_55 (by decide) ?_
    refine lv_iload_n hx hb d_P_instructionsFor_56 rfl (lv_at hl 1 rfl) ?_
    obtain ⟨r1, hr1, hr⟩ := ob hr
    refine z_ci (ws := (W_CP kI kZ qC qP C_length C_instructions P_registers)) (wc := (W_C kI kZ qC C_length C_instructions)) (wr := (W_P kI kZ qP P_registers)) (w1 := (W_C kI kZ qC r1.2.2 r1.2.1)) (w2 := (W_CP kI kZ qC qP r1.2.2 r1.2.1 P_registers)) (va_runV (As := [.int a1, .int (0 : Int32), .int a2]) (rest := []) ⟨hx, hb, hml, hown, hts⟩ (c_C_append l D kI kZ qC C_length C_instructions a1 (0 : Int32) a2 r1 hr1 H.size) (z_cwV hts mw_C_append kw_221 ⟨by rw [hR]; exact Nat.le_of_ble_eq_true rfl, by rw [hR]; exact Nat.le_of_ble_eq_true rfl⟩) (z_preV (ci := 0) hK hP hD hN rfl (he := (rfl : _[0]? = _)) [0, 1] (by decide) rfl) rfl rfl hl.1 rfl (lv_room (Nat.le_of_ble_eq_true rfl)) d_P_instructionsFor_57 ⟨Nat.zero_le _, Nat.zero_le _⟩) hP hD hS hA [0, 1] [2, 3] [2, 3, 0, 1] rfl rfl (by decide) (by decide) rfl (by decide) (fun H locs hP hD hS => ?_)
    obtain rfl := Option.some.inj hr
    exact hQ _ _ _ _ _ d_P_instructionsFor_60 rfl rfl hP hD hS
  have hB61 : ∀ (C_instructions : Nat → Int32) (C_length : Int32)   (H : Heap) (locs : List Loc) (ls : Array Slot), lv_has ls 5 [(0, .ref (qP 0)), (1, .int a1), (3, .int a3), (4, .ref (qC 0))] → va_P D zCl (W_CP kI kZ qC qP C_length C_instructions P_registers) H → va_D A (W_CP kI kZ qC qP C_length C_instructions P_registers) → va_S A s.heap H locs → f_P_instructionsFor_61 P_registers a1 a3 C_instructions C_length = some res → W p l e R s m args below meth c H locs 0 0 Q (F0 m 61 ls []) := by
    intro C_instructions C_length H locs ls hl hP hD hS hr
    rw [f_P_instructionsFor_61] at hr
    refine lv_aload hx hb d_P_instructionsFor_61 (lv_at hl 3 rfl) ?_
    refine lv_iload_n hx hb d_P_instructionsFor_63 rfl (lv_at hl 1 rfl) ?_
    refine lv_aload_n hx hb d_P_instructionsFor_64 rfl (lv_at hl 0 rfl) ?_
    refine va_get (D := D) (ci := 1) (v := .ref (qP 1)) (C := R_P) (T := T_P) (N := 1) hx hb hts in_P hown hK hP 2 rfl rfl 0 (by decide) (hts _ kw_74) (fun _ h9 => h9) rfl d_P_instructionsFor_65 ?_
    refine lv_iload_n hx hb d_P_instructionsFor_68 rfl (lv_at hl 2 rfl) ?_
    obtain ⟨hi, hr⟩ := gd_some hr
    refine va_iald hx hb hK hP 3 0 rfl rfl hi d_P_instructionsFor_69 ?_
    refine lv_aload_n hx hb d_P_instructionsFor_70 rfl (lv_at hl 0 rfl) ?_
    refine va_get (D := D) (ci := 1) (v := .ref (qP 1)) (C := R_P) (T := T_P) (N := 1) hx hb hts in_P hown hK hP 2 rfl rfl 0 (by decide) (hts _ kw_74) (fun _ h9 => h9) rfl d_P_instructionsFor_71 ?_
    refine lv_iload_n hx hb d_P_instructionsFor_74 rfl (lv_at hl 2 rfl) ?_
    refine lv_iconst (v := (1 : Int32)) hx hb d_P_instructionsFor_75 (by decide) ?_
    refine lv_iadd hx hb d_P_instructionsFor_76 ?_
    obtain ⟨hi, hr⟩ := gd_some hr
    refine va_iald hx hb hK hP 3 0 rfl rfl hi d_P_instructionsFor_77 ?_
    obtain ⟨r2, hr2, hr⟩ := ob hr
    refine z_ci (ws := (W_CP kI kZ qC qP C_length C_instructions P_registers)) (wc := (W_C kI kZ qC C_length C_instructions)) (wr := (W_P kI kZ qP P_registers)) (w1 := (W_C kI kZ qC r2.2.2 r2.2.1)) (w2 := (W_CP kI kZ qC qP r2.2.2 r2.2.1 P_registers)) (va_runV (As := [.int a1, .int (P_registers a3.toNatClampNeg), .int (P_registers (a3 + (1 : Int32)).toNatClampNeg)]) (rest := []) ⟨hx, hb, hml, hown, hts⟩ (c_C_append l D kI kZ qC C_length C_instructions a1 (P_registers a3.toNatClampNeg) (P_registers (a3 + (1 : Int32)).toNatClampNeg) r2 hr2 H.size) (z_cwV hts mw_C_append kw_221 ⟨by rw [hR]; exact Nat.le_of_ble_eq_true rfl, by rw [hR]; exact Nat.le_of_ble_eq_true rfl⟩) (z_preV (ci := 0) hK hP hD hN rfl (he := (rfl : _[0]? = _)) [0, 1] (by decide) rfl) rfl rfl hl.1 rfl (lv_room (Nat.le_of_ble_eq_true rfl)) d_P_instructionsFor_78 ⟨Nat.zero_le _, Nat.zero_le _⟩) hP hD hS hA [0, 1] [2, 3] [2, 3, 0, 1] rfl rfl (by decide) (by decide) rfl (by decide) (fun H locs hP hD hS => ?_)
    obtain rfl := Option.some.inj hr
    exact hQ _ _ _ _ _ d_P_instructionsFor_81 rfl rfl hP hD hS
  have hB95 : ∀ (C_instructions : Nat → Int32) (C_length : Int32)   (H : Heap) (locs : List Loc) (ls : Array Slot), lv_has ls 5 [(0, .ref (qP 0)), (1, .int a1), (2, .int a2), (3, .int a3), (4, .ref (qC 0))] → va_P D zCl (W_CP kI kZ qC qP C_length C_instructions P_registers) H → va_D A (W_CP kI kZ qC qP C_length C_instructions P_registers) → va_S A s.heap H locs → f_P_instructionsFor_95 P_registers a1 a2 a3 C_instructions C_length = some res → W p l e R s m args below meth c H locs 0 0 Q (F0 m 95 ls []) := by
    intro C_instructions C_length H locs ls hl hP hD hS hr
    rw [f_P_instructionsFor_95] at hr
    refine lv_aload hx hb d_P_instructionsFor_95 (lv_at hl 4 rfl) ?_
    refine lv_iload_n hx hb d_P_instructionsFor_97 rfl (lv_at hl 1 rfl) ?_
    refine lv_aload_n hx hb d_P_instructionsFor_98 rfl (lv_at hl 0 rfl) ?_
    refine va_get (D := D) (ci := 1) (v := .ref (qP 1)) (C := R_P) (T := T_P) (N := 1) hx hb hts in_P hown hK hP 2 rfl rfl 0 (by decide) (hts _ kw_74) (fun _ h9 => h9) rfl d_P_instructionsFor_99 ?_
    refine lv_iload_n hx hb d_P_instructionsFor_102 rfl (lv_at hl 3 rfl) ?_
    obtain ⟨hi, hr⟩ := gd_some hr
    refine va_iald hx hb hK hP 3 0 rfl rfl hi d_P_instructionsFor_103 ?_
    refine lv_iload_n hx hb d_P_instructionsFor_104 rfl (lv_at hl 2 rfl) ?_
    obtain ⟨r3, hr3, hr⟩ := ob hr
    refine z_ci (ws := (W_CP kI kZ qC qP C_length C_instructions P_registers)) (wc := (W_C kI kZ qC C_length C_instructions)) (wr := (W_P kI kZ qP P_registers)) (w1 := (W_C kI kZ qC r3.2.2 r3.2.1)) (w2 := (W_CP kI kZ qC qP r3.2.2 r3.2.1 P_registers)) (va_runV (As := [.int a1, .int (P_registers a3.toNatClampNeg), .int a2]) (rest := []) ⟨hx, hb, hml, hown, hts⟩ (c_C_append l D kI kZ qC C_length C_instructions a1 (P_registers a3.toNatClampNeg) a2 r3 hr3 H.size) (z_cwV hts mw_C_append kw_221 ⟨by rw [hR]; exact Nat.le_of_ble_eq_true rfl, by rw [hR]; exact Nat.le_of_ble_eq_true rfl⟩) (z_preV (ci := 0) hK hP hD hN rfl (he := (rfl : _[0]? = _)) [0, 1] (by decide) rfl) rfl rfl hl.1 rfl (lv_room (Nat.le_of_ble_eq_true rfl)) d_P_instructionsFor_105 ⟨Nat.zero_le _, Nat.zero_le _⟩) hP hD hS hA [0, 1] [2, 3] [2, 3, 0, 1] rfl rfl (by decide) (by decide) rfl (by decide) (fun H locs hP hD hS => ?_)
    obtain rfl := Option.some.inj hr
    exact hQ _ _ _ _ _ d_P_instructionsFor_108 rfl rfl hP hD hS
  intro ls H hl hP hD hS
  have hl : lv_has ls 5 [(0, .ref (qP 0)), (1, .int a1), (2, .int a2), (3, .int a3), (4, .ref (qC 0))] := hl
  rw [f_P_instructionsFor] at hr
  refine lv_iload_n hx hb d_P_instructionsFor_0 rfl (lv_at hl 1 rfl) ?_
  by_cases hs1_0 : a1 = (0 : Int32)
  · rw [if_pos hs1_0] at hr
    refine lv_tableIn hx hb d_P_instructionsFor_1 (by rw [hs1_0]; decide) (by rw [hs1_0]; decide) (by rw [hs1_0]; rfl) rfl ?_
    exact hB52 C_instructions C_length _ _ _ (lv_sub hl [1, 2, 4] rfl) hP hD hS hr
  rw [if_neg hs1_0] at hr
  by_cases hs1_1 : a1 = (1 : Int32)
  · rw [if_pos hs1_1] at hr
    refine lv_tableIn hx hb d_P_instructionsFor_1 (by rw [hs1_1]; decide) (by rw [hs1_1]; decide) (by rw [hs1_1]; rfl) rfl ?_
    exact hB52 C_instructions C_length _ _ _ (lv_sub hl [1, 2, 4] rfl) hP hD hS hr
  rw [if_neg hs1_1] at hr
  by_cases hs1_2 : a1 = (2 : Int32)
  · rw [if_pos hs1_2] at hr
    refine lv_tableIn hx hb d_P_instructionsFor_1 (by rw [hs1_2]; decide) (by rw [hs1_2]; decide) (by rw [hs1_2]; rfl) rfl ?_
    exact hB52 C_instructions C_length _ _ _ (lv_sub hl [1, 2, 4] rfl) hP hD hS hr
  rw [if_neg hs1_2] at hr
  by_cases hs1_3 : a1 = (3 : Int32)
  · rw [if_pos hs1_3] at hr
    refine lv_tableIn hx hb d_P_instructionsFor_1 (by rw [hs1_3]; decide) (by rw [hs1_3]; decide) (by rw [hs1_3]; rfl) rfl ?_
    exact hB61 C_instructions C_length _ _ _ (lv_sub hl [0, 1, 3, 4] rfl) hP hD hS hr
  rw [if_neg hs1_3] at hr
  by_cases hs1_4 : a1 = (4 : Int32)
  · rw [if_pos hs1_4] at hr
    refine lv_tableIn hx hb d_P_instructionsFor_1 (by rw [hs1_4]; decide) (by rw [hs1_4]; decide) (by rw [hs1_4]; rfl) rfl ?_
    exact hB61 C_instructions C_length _ _ _ (lv_sub hl [0, 1, 3, 4] rfl) hP hD hS hr
  rw [if_neg hs1_4] at hr
  by_cases hs1_5 : a1 = (5 : Int32)
  · rw [if_pos hs1_5] at hr
    refine lv_tableIn hx hb d_P_instructionsFor_1 (by rw [hs1_5]; decide) (by rw [hs1_5]; decide) (by rw [hs1_5]; rfl) rfl ?_
    exact hB61 C_instructions C_length _ _ _ (lv_sub hl [0, 1, 3, 4] rfl) hP hD hS hr
  rw [if_neg hs1_5] at hr
  by_cases hs1_6 : a1 = (6 : Int32)
  · rw [if_pos hs1_6] at hr
    refine lv_tableIn hx hb d_P_instructionsFor_1 (by rw [hs1_6]; decide) (by rw [hs1_6]; decide) (by rw [hs1_6]; rfl) rfl ?_
    exact hB95 C_instructions C_length _ _ _ hl hP hD hS hr
  rw [if_neg hs1_6] at hr
  by_cases hs1_7 : a1 = (7 : Int32)
  · rw [if_pos hs1_7] at hr
    refine lv_tableIn hx hb d_P_instructionsFor_1 (by rw [hs1_7]; decide) (by rw [hs1_7]; decide) (by rw [hs1_7]; rfl) rfl ?_
    exact hB95 C_instructions C_length _ _ _ hl hP hD hS hr
  rw [if_neg hs1_7] at hr
  by_cases hs1_8 : a1 = (8 : Int32)
  · rw [if_pos hs1_8] at hr
    refine lv_tableIn hx hb d_P_instructionsFor_1 (by rw [hs1_8]; decide) (by rw [hs1_8]; decide) (by rw [hs1_8]; rfl) rfl ?_
    refine lv_aload_n hx hb d_P_instructionsFor_82 rfl (lv_at hl 0 rfl) ?_
    refine va_get (D := D) (ci := 1) (v := .ref (qP 1)) (C := R_P) (T := T_P) (N := 1) hx hb hts in_P hown hK hP 2 rfl rfl 0 (by decide) (hts _ kw_74) (fun _ h9 => h9) rfl d_P_instructionsFor_83 ?_
    refine lv_iload_n hx hb d_P_instructionsFor_86 rfl (lv_at hl 3 rfl) ?_
    obtain ⟨hi, hr⟩ := gd_some hr
    refine va_iald hx hb hK hP 3 0 rfl rfl hi d_P_instructionsFor_87 ?_
    refine lv_iload_n hx hb d_P_instructionsFor_88 rfl (lv_at hl 2 rfl) ?_
    refine lv_aload hx hb d_P_instructionsFor_89 (lv_at hl 4 rfl) ?_
    obtain ⟨r4, hr4, hr⟩ := ob hr
    refine z_ci (ws := (W_CP kI kZ qC qP C_length C_instructions P_registers)) (wc := (W_C kI kZ qC C_length C_instructions)) (wr := (W_P kI kZ qP P_registers)) (w1 := (W_C kI kZ qC r4.2.2 r4.2.1)) (w2 := (W_CP kI kZ qC qP r4.2.2 r4.2.1 P_registers)) (va_runS (As := [.int (P_registers a3.toNatClampNeg), .int a2, .ref (qC 0)]) (rest := []) ⟨hx, hb, hml, hown, hts⟩ (c_P_powerOf l D kI kZ qC C_length C_instructions (P_registers a3.toNatClampNeg) a2 r4 hr4 H.size) (z_cwS hts mw_P_powerOf kw_228 ⟨by rw [hR]; exact Nat.le_of_ble_eq_true rfl, by rw [hR]; exact Nat.le_of_ble_eq_true rfl⟩) (z_pre hK hP hD hN [0, 1] (by decide) rfl) rfl rfl hl.1 rfl (lv_room (Nat.le_of_ble_eq_true rfl)) d_P_instructionsFor_91 ⟨Nat.zero_le _, Nat.zero_le _⟩) hP hD hS hA [0, 1] [2, 3] [2, 3, 0, 1] rfl rfl (by decide) (by decide) rfl (by decide) (fun H locs hP hD hS => ?_)
    obtain rfl := Option.some.inj hr
    exact hQ _ _ _ _ _ d_P_instructionsFor_94 rfl rfl hP hD hS
  rw [if_neg hs1_8] at hr
  have hs1_0 := z_ne (k := 0) (by decide) hs1_0
  have hs1_1 := z_ne (k := 1) (by decide) hs1_1
  have hs1_2 := z_ne (k := 2) (by decide) hs1_2
  have hs1_3 := z_ne (k := 3) (by decide) hs1_3
  have hs1_4 := z_ne (k := 4) (by decide) hs1_4
  have hs1_5 := z_ne (k := 5) (by decide) hs1_5
  have hs1_6 := z_ne (k := 6) (by decide) hs1_6
  have hs1_7 := z_ne (k := 7) (by decide) hs1_7
  have hs1_8 := z_ne (k := 8) (by decide) hs1_8
  refine lv_tableOut hx hb d_P_instructionsFor_1 (by omega) rfl ?_
  exact hB95 C_instructions C_length _ _ _ hl hP hD hS hr
set_option maxHeartbeats 4000000 in
set_option maxRecDepth 100000 in
theorem c_P_translate (l : Launch) (D : va_G) (kI kZ : ClassId) (qR qC qP : Nat → Nat) (R_length : Int32) (R_words : Nat → Int32) (C_length : Int32) (C_instructions P_registers : Nat → Int32)  (res : (Nat → Int32) × Int32 × (Nat → Int32)) (hr : f_P_translate R_words R_length C_instructions C_length P_registers = some res) : zMv l D kI kZ y_P_translate prog_3_method_2_code 6 none 4 93 [.ref (qP 0), .ref (qR 0), .ref (qC 0)] (W_RCP kI kZ qR qC qP R_length R_words C_length C_instructions P_registers) (W_RCP kI kZ qR qC qP R_length R_words (res.2.1) (res.1) (res.2.2)) := by
  refine zMv.of (by decide +kernel) (Nat.le_of_ble_eq_true rfl) ?_
  intro p e R s m args below meth c Q A hR hx hb hml hts hown hA hK hN hQ
  have hown : s.vm.findClass "SquareCode$Compiler" = some m.cls := hown
  have hB9 : ∀ (fu : Nat) (v3 v4 : Int32) (C_instructions : Nat → Int32) (C_length : Int32) (P_registers : Nat → Int32) (H : Heap) (locs : List Loc) (ls : Array Slot), lv_has ls 6 [(0, .ref (qP 0)), (1, .ref (qR 0)), (2, .ref (qC 0)), (3, .int v3), (4, .int v4)] → va_P D zCl (W_RCP kI kZ qR qC qP R_length R_words C_length C_instructions P_registers) H → va_D A (W_RCP kI kZ qR qC qP R_length R_words C_length C_instructions P_registers) → va_S A s.heap H locs → f_P_translate_9 R_words R_length fu v3 v4 C_instructions C_length P_registers = some res → W p l e R s m args below meth c H locs 0 0 Q (F0 m 9 ls []) := by
    intro  fu
    induction fu with
    | zero => intro v3 v4 C_instructions C_length P_registers H locs ls hl hP hD hS hr; exact absurd hr (by rw [f_P_translate_9]; exact fun h => by cases h)
    | succ fu ih =>
      intro v3 v4 C_instructions C_length P_registers H locs ls hl hP hD hS hr
      rw [f_P_translate_9] at hr
      refine lv_iload hx hb d_P_translate_9 (lv_at hl 4 rfl) ?_
      refine lv_aload_n hx hb d_P_translate_11 rfl (lv_at hl 1 rfl) ?_
      obtain ⟨r1, hr1, hr⟩ := ob hr
      refine z_ci (ws := (W_RCP kI kZ qR qC qP R_length R_words C_length C_instructions P_registers)) (wc := (W_R kI kZ qR R_length R_words)) (wr := (W_CP kI kZ qC qP C_length C_instructions P_registers)) (w1 := (W_R kI kZ qR R_length R_words)) (w2 := (W_RCP kI kZ qR qC qP R_length R_words C_length C_instructions P_registers)) (va_runV (As := []) (rest := [.int v4]) ⟨hx, hb, hml, hown, hts⟩ (c_R_length l D kI kZ qR R_length R_words r1 hr1 H.size) (z_cwV hts mw_R_length kw_210 ⟨by rw [hR]; exact Nat.le_of_ble_eq_true rfl, by rw [hR]; exact Nat.le_of_ble_eq_true rfl⟩) (z_preV (ci := 4) hK hP hD hN rfl (he := (rfl : _[0]? = _)) [0, 1] (by decide) rfl) rfl rfl hl.1 rfl (lv_room (Nat.le_of_ble_eq_true rfl)) d_P_translate_12 ⟨Nat.zero_le _, Nat.zero_le _⟩) hP hD hS hA [0, 1] [2, 3, 4, 5] [4, 5, 0, 1, 2, 3] rfl rfl (by decide) (by decide) rfl (by decide) (fun H locs hP hD hS => ?_)
      refine lv_icmp_ge hx hb d_P_translate_15 rfl (fun hc => ?_) (fun hc => ?_)
      · rw [if_pos hc] at hr
        obtain rfl := Option.some.inj hr
        exact hQ _ _ _ _ d_P_translate_63 hP hD hS
      · rw [if_neg hc] at hr
        refine lv_aload_n hx hb d_P_translate_18 rfl (lv_at hl 1 rfl) ?_
        refine lv_iload hx hb d_P_translate_19 (lv_at hl 4 rfl) ?_
        obtain ⟨r2, hr2, hr⟩ := ob hr
        refine z_ci (ws := (W_RCP kI kZ qR qC qP R_length R_words C_length C_instructions P_registers)) (wc := (W_R kI kZ qR R_length R_words)) (wr := (W_CP kI kZ qC qP C_length C_instructions P_registers)) (w1 := (W_R kI kZ qR R_length R_words)) (w2 := (W_RCP kI kZ qR qC qP R_length R_words C_length C_instructions P_registers)) (va_runV (As := [.int v4]) (rest := []) ⟨hx, hb, hml, hown, hts⟩ (c_R_operation l D kI kZ qR R_length R_words v4 r2 hr2 H.size) (z_cwV hts mw_R_operation kw_214 ⟨by rw [hR]; exact Nat.le_of_ble_eq_true rfl, by rw [hR]; exact Nat.le_of_ble_eq_true rfl⟩) (z_preV (ci := 4) hK hP hD hN rfl (he := (rfl : _[0]? = _)) [0, 1] (by decide) rfl) rfl rfl hl.1 rfl (lv_room (Nat.le_of_ble_eq_true rfl)) d_P_translate_21 ⟨Nat.zero_le _, Nat.zero_le _⟩) hP hD hS hA [0, 1] [2, 3, 4, 5] [4, 5, 0, 1, 2, 3] rfl rfl (by decide) (by decide) rfl (by decide) (fun H locs hP hD hS => ?_)
        refine lv_istore (lv' := [(5, .int r2), (0, .ref (qP 0)), (1, .ref (qR 0)), (2, .ref (qC 0)), (3, .int v3), (4, .int v4)]) hx hb d_P_translate_24 hl (by decide) rfl (fun ls hl => ?_)
        refine lv_iload_n hx hb d_P_translate_26 rfl (lv_at hl 4 rfl) ?_
        refine lv_iload hx hb d_P_translate_27 (lv_at hl 0 rfl) ?_
        obtain ⟨r3, hr3, hr⟩ := ob hr
        refine z_ci (ws := (W_RCP kI kZ qR qC qP R_length R_words C_length C_instructions P_registers)) (wc := ([] : va_W)) (wr := (W_RCP kI kZ qR qC qP R_length R_words C_length C_instructions P_registers)) (w1 := ([] : va_W)) (w2 := (W_RCP kI kZ qR qC qP R_length R_words C_length C_instructions P_registers)) (va_runSN (As := [.int r2]) (rest := [.int v3]) ⟨hx, hb, hml, hown, hts⟩ (c_X_operandsOf l D kI kZ r2 r3 hr3 H.size) (z_cwN hts mw_X_operandsOf (zNestOf 2 hN rfl) ⟨by rw [hR]; exact Nat.le_of_ble_eq_true rfl, by rw [hR]; exact Nat.le_of_ble_eq_true rfl⟩) (z_pre hK hP hD hN [] (by decide) rfl) rfl rfl hl.1 rfl (lv_room (Nat.le_of_ble_eq_true rfl)) d_P_translate_29 ⟨Nat.zero_le _, Nat.zero_le _⟩) hP hD hS hA [] [0, 1, 2, 3, 4, 5] [0, 1, 2, 3, 4, 5] rfl rfl (by decide) (by decide) rfl (by decide) (fun H locs hP hD hS => ?_)
        refine lv_isub hx hb d_P_translate_32 ?_
        obtain ⟨v3_4, ev3_4, hr⟩ := nm_some hr
        refine z_top ev3_4 ?_
        refine lv_istore_n (lv' := [(3, .int v3_4), (5, .int r2), (0, .ref (qP 0)), (1, .ref (qR 0)), (2, .ref (qC 0)), (4, .int v4)]) hx hb d_P_translate_33 rfl hl (by decide) rfl (fun ls hl => ?_)
        refine lv_aload_n hx hb d_P_translate_34 rfl (lv_at hl 2 rfl) ?_
        refine va_get (D := D) (ci := 1) (v := .ref (qP 1)) (C := R_P) (T := T_P) (N := 1) hx hb hts in_P hown hK hP 4 rfl rfl 0 (by decide) (hts _ kw_74) (fun _ h9 => h9) rfl d_P_translate_35 ?_
        refine lv_iload_n hx hb d_P_translate_38 rfl (lv_at hl 0 rfl) ?_
        refine lv_aload_n hx hb d_P_translate_39 rfl (lv_at hl 2 rfl) ?_
        refine lv_iload hx hb d_P_translate_40 (lv_at hl 1 rfl) ?_
        refine lv_aload_n hx hb d_P_translate_42 rfl (lv_at hl 3 rfl) ?_
        refine lv_iload hx hb d_P_translate_43 (lv_at hl 5 rfl) ?_
        obtain ⟨r5, hr5, hr⟩ := ob hr
        refine z_ci (ws := (W_RCP kI kZ qR qC qP R_length R_words C_length C_instructions P_registers)) (wc := (W_R kI kZ qR R_length R_words)) (wr := (W_CP kI kZ qC qP C_length C_instructions P_registers)) (w1 := (W_R kI kZ qR R_length R_words)) (w2 := (W_RCP kI kZ qR qC qP R_length R_words C_length C_instructions P_registers)) (va_runV (As := [.int v4]) (rest := [.int r2, .ref (qP 0), .int v3_4, .ref (qP 1)]) ⟨hx, hb, hml, hown, hts⟩ (c_R_number l D kI kZ qR R_length R_words v4 r5 hr5 H.size) (z_cwV hts mw_R_number kw_216 ⟨by rw [hR]; exact Nat.le_of_ble_eq_true rfl, by rw [hR]; exact Nat.le_of_ble_eq_true rfl⟩) (z_preV (ci := 4) hK hP hD hN rfl (he := (rfl : _[0]? = _)) [0, 1] (by decide) rfl) rfl rfl hl.1 rfl (lv_room (Nat.le_of_ble_eq_true rfl)) d_P_translate_45 ⟨Nat.zero_le _, Nat.zero_le _⟩) hP hD hS hA [0, 1] [2, 3, 4, 5] [4, 5, 0, 1, 2, 3] rfl rfl (by decide) (by decide) rfl (by decide) (fun H locs hP hD hS => ?_)
        refine lv_iload_n hx hb d_P_translate_48 rfl (lv_at hl 0 rfl) ?_
        refine lv_aload_n hx hb d_P_translate_49 rfl (lv_at hl 4 rfl) ?_
        obtain ⟨r6, hr6, hr⟩ := ob hr
        refine z_ci (ws := (W_RCP kI kZ qR qC qP R_length R_words C_length C_instructions P_registers)) (wc := (W_CP kI kZ qC qP C_length C_instructions P_registers)) (wr := (W_R kI kZ qR R_length R_words)) (w1 := (W_CP kI kZ qC qP r6.2.2 r6.2.1 P_registers)) (w2 := (W_RCP kI kZ qR qC qP R_length R_words r6.2.2 r6.2.1 P_registers)) (va_runV (As := [.int r2, .int r5, .int v3_4, .ref (qC 0)]) (rest := [.int v3_4, .ref (qP 1)]) ⟨hx, hb, hml, hown, hts⟩ (c_P_instructionsFor l D kI kZ qC qP C_length C_instructions P_registers r2 r5 v3_4 r6 hr6 H.size) (z_cwV hts mw_P_instructionsFor kw_217 ⟨by rw [hR]; exact Nat.le_of_ble_eq_true rfl, by rw [hR]; exact Nat.le_of_ble_eq_true rfl⟩) (z_preV (ci := 1) hK hP hD hN rfl (he := (rfl : _[4]? = _)) [2, 3, 4, 5] (by decide) rfl) rfl rfl hl.1 rfl (lv_room (Nat.le_of_ble_eq_true rfl)) d_P_translate_50 ⟨Nat.zero_le _, Nat.zero_le _⟩) hP hD hS hA [2, 3, 4, 5] [0, 1] [0, 1, 2, 3, 4, 5] rfl rfl (by decide) (by decide) rfl (by decide) (fun H locs hP hD hS => ?_)
        obtain ⟨hi, hr⟩ := gd_some hr
        refine va_iast hx hb hK hP hD hS 5 0 rfl rfl hi d_P_translate_53 (fun H locs hP hD hS => ?_)
        have hP : va_P D zCl (W_RCP kI kZ qR qC qP R_length R_words r6.2.2 r6.2.1 (upd P_registers v3_4.toNatClampNeg r6.1)) H := hP
        have hD : va_D A (W_RCP kI kZ qR qC qP R_length R_words r6.2.2 r6.2.1 (upd P_registers v3_4.toNatClampNeg r6.1)) := hD
        refine lv_iinc (k := 0) (v := (v3_4 + (1 : Int32))) (lv' := [(3, .int (v3_4 + (1 : Int32))), (5, .int r2), (0, .ref (qP 0)), (1, .ref (qR 0)), (2, .ref (qC 0)), (4, .int v4)]) hx hb d_P_translate_54 hl rfl (congrArg (fun z => v3_4 + z) (by decide : Int32.ofInt 1 = (1 : Int32))) (by decide) rfl (fun ls hl => ?_)
        refine lv_iinc (k := 5) (v := (v4 + (1 : Int32))) (lv' := [(4, .int (v4 + (1 : Int32))), (3, .int (v3_4 + (1 : Int32))), (5, .int r2), (0, .ref (qP 0)), (1, .ref (qR 0)), (2, .ref (qC 0))]) hx hb d_P_translate_57 hl rfl (congrArg (fun z => v4 + z) (by decide : Int32.ofInt 1 = (1 : Int32))) (by decide) rfl (fun ls hl => ?_)
        refine lv_goto hx hb d_P_translate_60 rfl ?_
        exact ih (v3_4 + (1 : Int32)) (v4 + (1 : Int32)) r6.2.1 r6.2.2 (upd P_registers v3_4.toNatClampNeg r6.1) _ _ _ (lv_sub hl [3, 4, 5, 1, 0] rfl) hP hD hS hr
  intro ls H hl hP hD hS
  have hl : lv_has ls 6 [(0, .ref (qP 0)), (1, .ref (qR 0)), (2, .ref (qC 0))] := hl
  rw [f_P_translate] at hr
  refine lv_aload_n hx hb d_P_translate_0 rfl (lv_at hl 2 rfl) ?_
  obtain ⟨r7, hr7, hr⟩ := ob hr
  refine z_cv (ws := (W_RCP kI kZ qR qC qP R_length R_words C_length C_instructions P_registers)) (wc := (W_C kI kZ qC C_length C_instructions)) (wr := (W_RP kI kZ qR qP R_length R_words P_registers)) (w1 := (W_C kI kZ qC r7 C_instructions)) (w2 := (W_RCP kI kZ qR qC qP R_length R_words r7 C_instructions P_registers)) (va_runV (As := []) (rest := []) ⟨hx, hb, hml, hown, hts⟩ (c_C_clear l D kI kZ qC C_length C_instructions r7 hr7 H.size) (z_cwV hts mw_C_clear kw_206 ⟨by rw [hR]; exact Nat.le_of_ble_eq_true rfl, by rw [hR]; exact Nat.le_of_ble_eq_true rfl⟩) (z_preV (ci := 0) hK hP hD hN rfl (he := (rfl : _[2]? = _)) [2, 3] (by decide) rfl) rfl rfl hl.1 rfl (lv_room (Nat.le_of_ble_eq_true rfl)) d_P_translate_1 ⟨Nat.zero_le _, Nat.zero_le _⟩) hP hD hS hA [2, 3] [0, 1, 4, 5] [0, 1, 4, 5, 2, 3] rfl rfl (by decide) (by decide) rfl (by decide) (fun H locs hP hD hS => ?_)
  refine lv_iconst (v := (0 : Int32)) hx hb d_P_translate_4 (by decide) ?_
  refine lv_istore_n (lv' := [(3, .int (0 : Int32)), (0, .ref (qP 0)), (1, .ref (qR 0)), (2, .ref (qC 0))]) hx hb d_P_translate_5 rfl hl (by decide) rfl (fun ls hl => ?_)
  refine lv_iconst (v := (0 : Int32)) hx hb d_P_translate_6 (by decide) ?_
  refine lv_istore (lv' := [(4, .int (0 : Int32)), (3, .int (0 : Int32)), (0, .ref (qP 0)), (1, .ref (qR 0)), (2, .ref (qC 0))]) hx hb d_P_translate_7 hl (by decide) rfl (fun ls hl => ?_)
  exact hB9 zFU (0 : Int32) (0 : Int32) C_instructions r7 P_registers _ _ _ (lv_sub hl [2, 3, 4, 1, 0] rfl) hP hD hS hr
set_option maxHeartbeats 4000000 in
set_option maxRecDepth 100000 in
theorem c_X_compile (l : Launch) (D : va_G) (kI kZ : ClassId) (qX qM qR qC qP qO qV : Nat → Nat) (M_nc M_nf : Nat) (X_instructionsDone X_isWorkedOut M_modulus M_side M_size : Int32) (M_cells M_fresh : Nat → Int32) (R_length : Int32) (R_words : Nat → Int32) (C_length : Int32) (C_instructions P_registers : Nat → Int32) (O_modulus : Int32) (O_valueOf O_isNeeded O_registerOf : Nat → Int32) (V_length : Int32) (V_instructions : Nat → Int32)  (res : Int32 × Int32 × (Nat → Int32) × Int32 × (Nat → Int32)) (hr : f_X_compile X_instructionsDone R_words R_length C_instructions C_length P_registers = some res) : zMi l D kI kZ y_X_compile prog_1_method_4_code 2 ((some .int)) 5 118 [.ref (qX 0)] (W_XMRCPOV kI kZ qX qM qR qC qP qO qV M_nc M_nf X_instructionsDone X_isWorkedOut M_modulus M_side M_size M_cells M_fresh R_length R_words C_length C_instructions P_registers O_modulus O_valueOf O_isNeeded O_registerOf V_length V_instructions) (W_XMRCPOV kI kZ qX qM qR qC qP qO qV M_nc M_nf (res.2.1) X_isWorkedOut M_modulus M_side M_size M_cells M_fresh R_length R_words (res.2.2.2.1) (res.2.2.1) (res.2.2.2.2) O_modulus O_valueOf O_isNeeded O_registerOf V_length V_instructions) (res.1) := by
  refine zMi.of (by decide +kernel) (Nat.le_of_ble_eq_true rfl) ?_
  intro p e R s m args below meth c Q A hR hx hb hml hts hown hA hK hN hQ
  have hown : s.vm.findClass "SquareCode" = some m.cls := hown
  intro ls H hl hP hD hS
  have hl : lv_has ls 2 [(0, .ref (qX 0))] := hl
  rw [f_X_compile] at hr
  refine lv_aload_n hx hb d_X_compile_0 rfl (lv_at hl 0 rfl) ?_
  refine va_get (D := D) (ci := 5) (v := .ref (qR 0)) (C := R_X) (T := T_X) (N := 7) hx hb hts in_X hown hK hP 0 rfl rfl 1 (by decide) (hts _ kw_104) (fun _ h9 => h9) rfl d_X_compile_1 ?_
  obtain ⟨r1, hr1, hr⟩ := ob hr
  refine z_ci (ws := (W_XMRCPOV kI kZ qX qM qR qC qP qO qV M_nc M_nf X_instructionsDone X_isWorkedOut M_modulus M_side M_size M_cells M_fresh R_length R_words C_length C_instructions P_registers O_modulus O_valueOf O_isNeeded O_registerOf V_length V_instructions)) (wc := (W_R kI kZ qR R_length R_words)) (wr := (W_XMCPOV kI kZ qX qM qC qP qO qV qR M_nc M_nf X_instructionsDone X_isWorkedOut M_modulus M_side M_size M_cells M_fresh C_length C_instructions P_registers O_modulus O_valueOf O_isNeeded O_registerOf V_length V_instructions)) (w1 := (W_R kI kZ qR R_length R_words)) (w2 := (W_XMRCPOV kI kZ qX qM qR qC qP qO qV M_nc M_nf X_instructionsDone X_isWorkedOut M_modulus M_side M_size M_cells M_fresh R_length R_words C_length C_instructions P_registers O_modulus O_valueOf O_isNeeded O_registerOf V_length V_instructions)) (va_runV (As := []) (rest := []) ⟨hx, hb, hml, hown, hts⟩ (c_R_fault l D kI kZ qR R_length R_words r1 hr1 H.size) (z_cwV hts mw_R_fault kw_168 ⟨by rw [hR]; exact Nat.le_of_ble_eq_true rfl, by rw [hR]; exact Nat.le_of_ble_eq_true rfl⟩) (z_preV (ci := 4) hK hP hD hN rfl (he := (rfl : _[4]? = _)) [4, 5] (by decide) rfl) rfl rfl hl.1 rfl (lv_room (Nat.le_of_ble_eq_true rfl)) d_X_compile_4 ⟨Nat.zero_le _, Nat.zero_le _⟩) hP hD hS hA [4, 5] [0, 1, 2, 3, 6, 7, 8, 9, 10, 11, 12, 13, 14, 15] [0, 1, 2, 3, 14, 15, 4, 5, 6, 7, 8, 9, 10, 11, 12, 13] rfl rfl (by decide) (by decide) rfl (by decide) (fun H locs hP hD hS => ?_)
  refine lv_istore_n (lv' := [(1, .int r1), (0, .ref (qX 0))]) hx hb d_X_compile_7 rfl hl (by decide) rfl (fun ls hl => ?_)
  refine lv_iload_n hx hb d_X_compile_8 rfl (lv_at hl 0 rfl) ?_
  refine lv_if_eq hx hb d_X_compile_9 rfl (fun hc => ?_) (fun hc => ?_)
  · rw [if_pos hc] at hr
    refine lv_aload_n hx hb d_X_compile_14 rfl (lv_at hl 1 rfl) ?_
    refine va_get (D := D) (ci := 5) (v := .ref (qR 0)) (C := R_X) (T := T_X) (N := 7) hx hb hts in_X hown hK hP 0 rfl rfl 1 (by decide) (hts _ kw_104) (fun _ h9 => h9) rfl d_X_compile_15 ?_
    obtain ⟨r2, hr2, hr⟩ := ob hr
    refine z_ci (ws := (W_XMRCPOV kI kZ qX qM qR qC qP qO qV M_nc M_nf X_instructionsDone X_isWorkedOut M_modulus M_side M_size M_cells M_fresh R_length R_words C_length C_instructions P_registers O_modulus O_valueOf O_isNeeded O_registerOf V_length V_instructions)) (wc := (W_R kI kZ qR R_length R_words)) (wr := (W_XMCPOV kI kZ qX qM qC qP qO qV qR M_nc M_nf X_instructionsDone X_isWorkedOut M_modulus M_side M_size M_cells M_fresh C_length C_instructions P_registers O_modulus O_valueOf O_isNeeded O_registerOf V_length V_instructions)) (w1 := (W_R kI kZ qR R_length R_words)) (w2 := (W_XMRCPOV kI kZ qX qM qR qC qP qO qV M_nc M_nf X_instructionsDone X_isWorkedOut M_modulus M_side M_size M_cells M_fresh R_length R_words C_length C_instructions P_registers O_modulus O_valueOf O_isNeeded O_registerOf V_length V_instructions)) (va_runV (As := []) (rest := []) ⟨hx, hb, hml, hown, hts⟩ (c_R_instructionsNeeded l D kI kZ qR R_length R_words r2 hr2 H.size) (z_cwV hts mw_R_instructionsNeeded kw_182 ⟨by rw [hR]; exact Nat.le_of_ble_eq_true rfl, by rw [hR]; exact Nat.le_of_ble_eq_true rfl⟩) (z_preV (ci := 4) hK hP hD hN rfl (he := (rfl : _[4]? = _)) [4, 5] (by decide) rfl) rfl rfl hl.1 rfl (lv_room (Nat.le_of_ble_eq_true rfl)) d_X_compile_18 ⟨Nat.zero_le _, Nat.zero_le _⟩) hP hD hS hA [4, 5] [0, 1, 2, 3, 6, 7, 8, 9, 10, 11, 12, 13, 14, 15] [0, 1, 2, 3, 14, 15, 4, 5, 6, 7, 8, 9, 10, 11, 12, 13] rfl rfl (by decide) (by decide) rfl (by decide) (fun H locs hP hD hS => ?_)
    refine lv_bipush (v := (40 : Int32)) hx hb d_X_compile_21 (by decide) ?_
    refine lv_icmp_le hx hb d_X_compile_23 rfl (fun hc => ?_) (fun hc => ?_)
    · rw [if_pos hc] at hr
      refine lv_aload_n hx hb d_X_compile_29 rfl (lv_at hl 1 rfl) ?_
      refine va_get (D := D) (ci := 5) (v := .ref (qP 0)) (C := R_X) (T := T_X) (N := 7) hx hb hts in_X hown hK hP 0 rfl rfl 3 (by decide) (hts _ kw_106) (fun _ h9 => h9) rfl d_X_compile_30 ?_
      refine lv_aload_n hx hb d_X_compile_33 rfl (lv_at hl 1 rfl) ?_
      refine va_get (D := D) (ci := 5) (v := .ref (qR 0)) (C := R_X) (T := T_X) (N := 7) hx hb hts in_X hown hK hP 0 rfl rfl 1 (by decide) (hts _ kw_104) (fun _ h9 => h9) rfl d_X_compile_34 ?_
      refine lv_aload_n hx hb d_X_compile_37 rfl (lv_at hl 1 rfl) ?_
      refine va_get (D := D) (ci := 5) (v := .ref (qC 0)) (C := R_X) (T := T_X) (N := 7) hx hb hts in_X hown hK hP 0 rfl rfl 2 (by decide) (hts _ kw_105) (fun _ h9 => h9) rfl d_X_compile_38 ?_
      obtain ⟨r3, hr3, hr⟩ := ob hr
      refine z_cv (ws := (W_XMRCPOV kI kZ qX qM qR qC qP qO qV M_nc M_nf X_instructionsDone X_isWorkedOut M_modulus M_side M_size M_cells M_fresh R_length R_words C_length C_instructions P_registers O_modulus O_valueOf O_isNeeded O_registerOf V_length V_instructions)) (wc := (W_RCP kI kZ qR qC qP R_length R_words C_length C_instructions P_registers)) (wr := (W_XMOV kI kZ qX qM qO qV qR qC qP M_nc M_nf X_instructionsDone X_isWorkedOut M_modulus M_side M_size M_cells M_fresh O_modulus O_valueOf O_isNeeded O_registerOf V_length V_instructions)) (w1 := (W_RCP kI kZ qR qC qP R_length R_words r3.2.1 r3.1 r3.2.2)) (w2 := (W_XMRCPOV kI kZ qX qM qR qC qP qO qV M_nc M_nf X_instructionsDone X_isWorkedOut M_modulus M_side M_size M_cells M_fresh R_length R_words r3.2.1 r3.1 r3.2.2 O_modulus O_valueOf O_isNeeded O_registerOf V_length V_instructions)) (va_runV (As := [.ref (qR 0), .ref (qC 0)]) (rest := []) ⟨hx, hb, hml, hown, hts⟩ (c_P_translate l D kI kZ qR qC qP R_length R_words C_length C_instructions P_registers r3 hr3 H.size) (z_cwV hts mw_P_translate kw_202 ⟨by rw [hR]; exact Nat.le_of_ble_eq_true rfl, by rw [hR]; exact Nat.le_of_ble_eq_true rfl⟩) (z_preV (ci := 1) hK hP hD hN rfl (he := (rfl : _[8]? = _)) [4, 5, 6, 7, 8, 9] (by decide) rfl) rfl rfl hl.1 rfl (lv_room (Nat.le_of_ble_eq_true rfl)) d_X_compile_41 ⟨Nat.zero_le _, Nat.zero_le _⟩) hP hD hS hA [4, 5, 6, 7, 8, 9] [0, 1, 2, 3, 10, 11, 12, 13, 14, 15] [0, 1, 2, 3, 10, 11, 12, 13, 14, 15, 4, 5, 6, 7, 8, 9] rfl rfl (by decide) (by decide) rfl (by decide) (fun H locs hP hD hS => ?_)
      refine lv_aload_n hx hb d_X_compile_44 rfl (lv_at hl 1 rfl) ?_
      obtain ⟨r4, hr4, hr⟩ := ob hr
      refine z_cv (ws := (W_XMRCPOV kI kZ qX qM qR qC qP qO qV M_nc M_nf X_instructionsDone X_isWorkedOut M_modulus M_side M_size M_cells M_fresh R_length R_words r3.2.1 r3.1 r3.2.2 O_modulus O_valueOf O_isNeeded O_registerOf V_length V_instructions)) (wc := (W_XMRCPOV kI kZ qX qM qR qC qP qO qV M_nc M_nf X_instructionsDone X_isWorkedOut M_modulus M_side M_size M_cells M_fresh R_length R_words r3.2.1 r3.1 r3.2.2 O_modulus O_valueOf O_isNeeded O_registerOf V_length V_instructions)) (wr := ([] : va_W)) (w1 := (W_XMRCPOV kI kZ qX qM qR qC qP qO qV M_nc M_nf r4 X_isWorkedOut M_modulus M_side M_size M_cells M_fresh R_length R_words r3.2.1 r3.1 r3.2.2 O_modulus O_valueOf O_isNeeded O_registerOf V_length V_instructions)) (w2 := (W_XMRCPOV kI kZ qX qM qR qC qP qO qV M_nc M_nf r4 X_isWorkedOut M_modulus M_side M_size M_cells M_fresh R_length R_words r3.2.1 r3.1 r3.2.2 O_modulus O_valueOf O_isNeeded O_registerOf V_length V_instructions)) (va_runV (As := []) (rest := []) ⟨hx, hb, hml, hown, hts⟩ (c_X_rewind l D kI kZ qX qM qR qC qP qO qV M_nc M_nf X_instructionsDone X_isWorkedOut M_modulus M_side M_size M_cells M_fresh R_length R_words r3.2.1 r3.1 r3.2.2 O_modulus O_valueOf O_isNeeded O_registerOf V_length V_instructions r4 hr4 H.size) (z_cwV hts mw_X_rewind kw_160 ⟨by rw [hR]; exact Nat.le_of_ble_eq_true rfl, by rw [hR]; exact Nat.le_of_ble_eq_true rfl⟩) (z_preV (ci := 5) hK hP hD hN rfl (he := (rfl : _[0]? = _)) [0, 1, 2, 3, 4, 5, 6, 7, 8, 9, 10, 11, 12, 13, 14, 15] (by decide) rfl) rfl rfl hl.1 rfl (lv_room (Nat.le_of_ble_eq_true rfl)) d_X_compile_45 ⟨Nat.zero_le _, Nat.zero_le _⟩) hP hD hS hA [0, 1, 2, 3, 4, 5, 6, 7, 8, 9, 10, 11, 12, 13, 14, 15] [] [0, 1, 2, 3, 4, 5, 6, 7, 8, 9, 10, 11, 12, 13, 14, 15] rfl rfl (by decide) (by decide) rfl (by decide) (fun H locs hP hD hS => ?_)
      refine lv_iconst (v := (0 : Int32)) hx hb d_X_compile_48 (by decide) ?_
      obtain rfl := Option.some.inj hr
      exact hQ _ _ _ _ _ d_X_compile_49 rfl rfl hP hD hS
    · rw [if_neg hc] at hr
      refine lv_bipush (v := (6 : Int32)) hx hb d_X_compile_26 (by decide) ?_
      obtain rfl := Option.some.inj hr
      exact hQ _ _ _ _ _ d_X_compile_28 rfl rfl hP hD hS
  · rw [if_neg hc] at hr
    refine lv_iload_n hx hb d_X_compile_12 rfl (lv_at hl 0 rfl) ?_
    obtain rfl := Option.some.inj hr
    exact hQ _ _ _ _ _ d_X_compile_13 rfl rfl hP hD hS
