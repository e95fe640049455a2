set_option maxHeartbeats 4000000 in
set_option maxRecDepth 100000 in
theorem c_X_operandsOf (l : Launch) (D : va_G) (kI kZ : ClassId)  (a0 : Int32) (res : Int32) (hr : f_X_operandsOf a0 = some res) : zMi l D kI kZ y_X_operandsOf prog_1_method_18_code 1 ((some .int)) 0 0 [.int a0] ([] : va_W) ([] : va_W) res := by
  refine zMi.of (by decide +kernel) (Nat.le_of_ble_eq_true rfl) ?_
  intro p e R s m args below meth c Q A hR hx hb hml hts hown hA hK hN hQ
  have hown : s.vm.findClass "SquareCode" = some m.cls := hown
  intro ls H hl hP hD hS
  have hl : lv_has ls 1 [(0, .int a0)] := hl
  rw [f_X_operandsOf] at hr
  refine lv_iload_n hx hb d_X_operandsOf_0 rfl (lv_at hl 0 rfl) ?_
  by_cases hs1_0 : a0 = (0 : Int32)
  · rw [if_pos hs1_0] at hr
    refine lv_tableIn hx hb d_X_operandsOf_1 (by rw [hs1_0]; decide) (by rw [hs1_0]; decide) (by rw [hs1_0]; rfl) rfl ?_
    refine lv_iconst (v := (0 : Int32)) hx hb d_X_operandsOf_40 (by decide) ?_
    obtain rfl := Option.some.inj hr
    exact hQ _ _ _ _ _ d_X_operandsOf_41 rfl rfl hP hD hS
  rw [if_neg hs1_0] at hr
  by_cases hs1_1 : a0 = (1 : Int32)
  · rw [if_pos hs1_1] at hr
    refine lv_tableIn hx hb d_X_operandsOf_1 (by rw [hs1_1]; decide) (by rw [hs1_1]; decide) (by rw [hs1_1]; rfl) rfl ?_
    refine lv_iconst (v := (0 : Int32)) hx hb d_X_operandsOf_40 (by decide) ?_
    obtain rfl := Option.some.inj hr
    exact hQ _ _ _ _ _ d_X_operandsOf_41 rfl rfl hP hD hS
  rw [if_neg hs1_1] at hr
  by_cases hs1_2 : a0 = (2 : Int32)
  · rw [if_pos hs1_2] at hr
    refine lv_tableIn hx hb d_X_operandsOf_1 (by rw [hs1_2]; decide) (by rw [hs1_2]; decide) (by rw [hs1_2]; rfl) rfl ?_
    refine lv_iconst (v := (0 : Int32)) hx hb d_X_operandsOf_40 (by decide) ?_
    obtain rfl := Option.some.inj hr
    exact hQ _ _ _ _ _ d_X_operandsOf_41 rfl rfl hP hD hS
  rw [if_neg hs1_2] at hr
  by_cases hs1_3 : a0 = (3 : Int32)
  · rw [if_pos hs1_3] at hr
    refine lv_tableIn hx hb d_X_operandsOf_1 (by rw [hs1_3]; decide) (by rw [hs1_3]; decide) (by rw [hs1_3]; rfl) rfl ?_
    refine lv_iconst (v := (2 : Int32)) hx hb d_X_operandsOf_42 (by decide) ?_
    obtain rfl := Option.some.inj hr
    exact hQ _ _ _ _ _ d_X_operandsOf_43 rfl rfl hP hD hS
  rw [if_neg hs1_3] at hr
  by_cases hs1_4 : a0 = (4 : Int32)
  · rw [if_pos hs1_4] at hr
    refine lv_tableIn hx hb d_X_operandsOf_1 (by rw [hs1_4]; decide) (by rw [hs1_4]; decide) (by rw [hs1_4]; rfl) rfl ?_
    refine lv_iconst (v := (2 : Int32)) hx hb d_X_operandsOf_42 (by decide) ?_
    obtain rfl := Option.some.inj hr
    exact hQ _ _ _ _ _ d_X_operandsOf_43 rfl rfl hP hD hS
  rw [if_neg hs1_4] at hr
  by_cases hs1_5 : a0 = (5 : Int32)
  · rw [if_pos hs1_5] at hr
    refine lv_tableIn hx hb d_X_operandsOf_1 (by rw [hs1_5]; decide) (by rw [hs1_5]; decide) (by rw [hs1_5]; rfl) rfl ?_
    refine lv_iconst (v := (2 : Int32)) hx hb d_X_operandsOf_42 (by decide) ?_
    obtain rfl := Option.some.inj hr
    exact hQ _ _ _ _ _ d_X_operandsOf_43 rfl rfl hP hD hS
  rw [if_neg hs1_5] at hr
  have hs1_0 := z_ne (k := 0) (by decide) hs1_0
  have hs1_1 := z_ne (k := 1) (by decide) hs1_1
  have hs1_2 := z_ne (k := 2) (by decide) hs1_2
  have hs1_3 := z_ne (k := 3) (by decide) hs1_3
  have hs1_4 := z_ne (k := 4) (by decide) hs1_4
  have hs1_5 := z_ne (k := 5) (by decide) hs1_5
  refine lv_tableOut hx hb d_X_operandsOf_1 (by omega) rfl ?_
  refine lv_iconst (v := (1 : Int32)) hx hb d_X_operandsOf_44 (by decide) ?_
  obtain rfl := Option.some.inj hr
  exact hQ _ _ _ _ _ d_X_operandsOf_45 rfl rfl hP hD hS
set_option maxHeartbeats 4000000 in
set_option maxRecDepth 100000 in
theorem c_R_fault (l : Launch) (D : va_G) (kI kZ : ClassId) (qR : Nat → Nat) (R_length : Int32) (R_words : Nat → Int32)  (res : Int32) (hr : f_R_fault R_words R_length = some res) : zMi l D kI kZ y_R_fault prog_6_method_8_code 4 ((some .int)) 1 21 [.ref (qR 0)] (W_R kI kZ qR R_length R_words) (W_R kI kZ qR R_length R_words) res := by
  refine zMi.of (by decide +kernel) (Nat.le_of_ble_eq_true rfl) ?_
  intro p e R s m args below meth c Q A hR hx hb hml hts hown hA hK hN hQ
  have hown : s.vm.findClass "SquareCode$Source" = some m.cls := hown
  have hB4 : ∀ (fu : Nat) (v1 v2 : Int32) (H : Heap) (locs : List Loc) (ls : Array Slot), lv_has ls 4 [(0, .ref (qR 0)), (1, .int v1), (2, .int v2)] → va_P D zCl (W_R kI kZ qR R_length R_words) H → va_D A (W_R kI kZ qR R_length R_words) → va_S A s.heap H locs → f_R_fault_4 R_words R_length fu v1 v2 = some res → W p l e R s m args below meth c H locs 0 0 Q (F0 m 4 ls []) := by
    intro  fu
    induction fu with
    | zero => intro v1 v2 H locs ls hl hP hD hS hr; exact absurd hr (by rw [f_R_fault_4]; exact fun h => by cases h)
    | succ fu ih =>
      intro v1 v2 H locs ls hl hP hD hS hr
      rw [f_R_fault_4] at hr
      refine lv_iload_n hx hb d_R_fault_4 rfl (lv_at hl 2 rfl) ?_
      refine lv_aload_n hx hb d_R_fault_5 rfl (lv_at hl 0 rfl) ?_
      refine va_get (D := D) (ci := 4) (v := .int R_length) (C := R_R) (T := T_R) (N := 2) hx hb hts in_R hown hK hP 0 rfl rfl 1 (by decide) (hts _ kw_49) (fun _ h9 => h9) rfl d_R_fault_6 ?_
      refine lv_icmp_ge hx hb d_R_fault_9 rfl (fun hc => ?_) (fun hc => ?_)
      · rw [if_pos hc] at hr
        refine lv_iload_n hx hb d_R_fault_54 rfl (lv_at hl 1 rfl) ?_
        refine lv_iconst (v := (1 : Int32)) hx hb d_R_fault_55 (by decide) ?_
        refine lv_icmp_ne hx hb d_R_fault_56 rfl (fun hc => ?_) (fun hc => ?_)
        · rw [if_neg hc] at hr
          refine lv_iconst (v := (5 : Int32)) hx hb d_R_fault_63 (by decide) ?_
          obtain rfl := Option.some.inj hr
          exact hQ _ _ _ _ _ d_R_fault_64 rfl rfl hP hD hS
        · rw [if_pos hc] at hr
          refine lv_iconst (v := (0 : Int32)) hx hb d_R_fault_59 (by decide) ?_
          refine lv_goto hx hb d_R_fault_60 rfl ?_
          obtain rfl := Option.some.inj hr
          exact hQ _ _ _ _ _ d_R_fault_64 rfl rfl hP hD hS
      · rw [if_neg hc] at hr
        refine lv_aload_n hx hb d_R_fault_12 rfl (lv_at hl 0 rfl) ?_
        refine va_get (D := D) (ci := 4) (v := .ref (qR 1)) (C := R_R) (T := T_R) (N := 2) hx hb hts in_R hown hK hP 0 rfl rfl 0 (by decide) (hts _ kw_48) (fun _ h9 => h9) rfl d_R_fault_13 ?_
        refine lv_iload_n hx hb d_R_fault_16 rfl (lv_at hl 2 rfl) ?_
        obtain ⟨hi, hr⟩ := gd_some hr
        refine va_iald hx hb hK hP 1 0 rfl rfl hi d_R_fault_17 ?_
        obtain ⟨r1, hr1, hr⟩ := ob hr
        refine z_ci (ws := (W_R kI kZ qR R_length R_words)) (wc := ([] : va_W)) (wr := (W_R kI kZ qR R_length R_words)) (w1 := ([] : va_W)) (w2 := (W_R kI kZ qR R_length R_words)) (va_runS (As := [.int (R_words v2.toNatClampNeg)]) (rest := []) ⟨hx, hb, hml, hown, hts⟩ (c_R_isWord l D kI kZ (R_words v2.toNatClampNeg) r1 hr1 H.size) (z_cwS hts mw_R_isWord kw_172 ⟨by rw [hR]; exact Nat.le_of_ble_eq_true rfl, by rw [hR]; exact Nat.le_of_ble_eq_true rfl⟩) (z_pre hK hP hD hN [] (by decide) rfl) rfl rfl hl.1 rfl (lv_room (Nat.le_of_ble_eq_true rfl)) d_R_fault_18 ⟨Nat.zero_le _, Nat.zero_le _⟩) hP hD hS hA [] [0, 1] [0, 1] rfl rfl (by decide) (by decide) rfl (by decide) (fun H locs hP hD hS => ?_)
        refine lv_if_ne hx hb d_R_fault_21 rfl (fun hc => ?_) (fun hc => ?_)
        · rw [if_neg hc] at hr
          refine lv_aload_n hx hb d_R_fault_26 rfl (lv_at hl 0 rfl) ?_
          refine lv_iload_n hx hb d_R_fault_27 rfl (lv_at hl 2 rfl) ?_
          obtain ⟨r2, hr2, hr⟩ := ob hr
          refine z_ci (ws := (W_R kI kZ qR R_length R_words)) (wc := (W_R kI kZ qR R_length R_words)) (wr := ([] : va_W)) (w1 := (W_R kI kZ qR R_length R_words)) (w2 := (W_R kI kZ qR R_length R_words)) (va_runV (As := [.int v2]) (rest := []) ⟨hx, hb, hml, hown, hts⟩ (c_R_operation l D kI kZ qR R_length R_words v2 r2 hr2 H.size) (z_cwV hts mw_R_operation kw_175 ⟨by rw [hR]; exact Nat.le_of_ble_eq_true rfl, by rw [hR]; exact Nat.le_of_ble_eq_true rfl⟩) (z_preV (ci := 4) hK hP hD hN rfl (he := (rfl : _[0]? = _)) [0, 1] (by decide) rfl) rfl rfl hl.1 rfl (lv_room (Nat.le_of_ble_eq_true rfl)) d_R_fault_28 ⟨Nat.zero_le _, Nat.zero_le _⟩) hP hD hS hA [0, 1] [] [0, 1] rfl rfl (by decide) (by decide) rfl (by decide) (fun H locs hP hD hS => ?_)
          obtain ⟨r3, hr3, hr⟩ := ob hr
          refine z_ci (ws := (W_R kI kZ qR R_length R_words)) (wc := ([] : va_W)) (wr := (W_R kI kZ qR R_length R_words)) (w1 := ([] : va_W)) (w2 := (W_R kI kZ qR R_length R_words)) (va_runSN (As := [.int r2]) (rest := []) ⟨hx, hb, hml, hown, hts⟩ (c_X_operandsOf l D kI kZ r2 r3 hr3 H.size) (z_cwN hts mw_X_operandsOf (zNestOf 0 hN rfl) ⟨by rw [hR]; exact Nat.le_of_ble_eq_true rfl, by rw [hR]; exact Nat.le_of_ble_eq_true rfl⟩) (z_pre hK hP hD hN [] (by decide) rfl) rfl rfl hl.1 rfl (lv_room (Nat.le_of_ble_eq_true rfl)) d_R_fault_31 ⟨Nat.zero_le _, Nat.zero_le _⟩) hP hD hS hA [] [0, 1] [0, 1] rfl rfl (by decide) (by decide) rfl (by decide) (fun H locs hP hD hS => ?_)
          refine lv_istore_n (lv' := [(3, .int r3), (0, .ref (qR 0)), (1, .int v1), (2, .int v2)]) hx hb d_R_fault_34 rfl hl (by decide) rfl (fun ls hl => ?_)
          refine lv_iload_n hx hb d_R_fault_35 rfl (lv_at hl 2 rfl) ?_
          refine lv_iload_n hx hb d_R_fault_36 rfl (lv_at hl 0 rfl) ?_
          refine lv_icmp_ge hx hb d_R_fault_37 rfl (fun hc => ?_) (fun hc => ?_)
          · rw [if_pos hc] at hr
            refine lv_iload_n hx hb d_R_fault_42 rfl (lv_at hl 2 rfl) ?_
            refine lv_iconst (v := (1 : Int32)) hx hb d_R_fault_43 (by decide) ?_
            refine lv_iload_n hx hb d_R_fault_44 rfl (lv_at hl 0 rfl) ?_
            refine lv_isub hx hb d_R_fault_45 ?_
            refine lv_iadd hx hb d_R_fault_46 ?_
            obtain ⟨v1_4, ev1_4, hr⟩ := nm_some hr
            refine z_top ev1_4 ?_
            refine lv_istore_n (lv' := [(1, .int v1_4), (3, .int r3), (0, .ref (qR 0)), (2, .int v2)]) hx hb d_R_fault_47 rfl hl (by decide) rfl (fun ls hl => ?_)
            refine lv_iinc (k := 3) (v := (v2 + (1 : Int32))) (lv' := [(2, .int (v2 + (1 : Int32))), (1, .int v1_4), (3, .int r3), (0, .ref (qR 0))]) hx hb d_R_fault_48 hl rfl (congrArg (fun z => v2 + z) (by decide : Int32.ofInt 1 = (1 : Int32))) (by decide) rfl (fun ls hl => ?_)
            refine lv_goto hx hb d_R_fault_51 rfl ?_
            exact ih v1_4 (v2 + (1 : Int32)) _ _ _ (lv_sub hl [3, 1, 0] rfl) hP hD hS hr
          · rw [if_neg hc] at hr
            refine lv_iconst (v := (4 : Int32)) hx hb d_R_fault_40 (by decide) ?_
            obtain rfl := Option.some.inj hr
            exact hQ _ _ _ _ _ d_R_fault_41 rfl rfl hP hD hS
        · rw [if_pos hc] at hr
          refine lv_iconst (v := (3 : Int32)) hx hb d_R_fault_24 (by decide) ?_
          obtain rfl := Option.some.inj hr
          exact hQ _ _ _ _ _ d_R_fault_25 rfl rfl hP hD hS
  intro ls H hl hP hD hS
  have hl : lv_has ls 4 [(0, .ref (qR 0))] := hl
  rw [f_R_fault] at hr
  refine lv_iconst (v := (0 : Int32)) hx hb d_R_fault_0 (by decide) ?_
  refine lv_istore_n (lv' := [(1, .int (0 : Int32)), (0, .ref (qR 0))]) hx hb d_R_fault_1 rfl hl (by decide) rfl (fun ls hl => ?_)
  refine lv_iconst (v := (0 : Int32)) hx hb d_R_fault_2 (by decide) ?_
  refine lv_istore_n (lv' := [(2, .int (0 : Int32)), (1, .int (0 : Int32)), (0, .ref (qR 0))]) hx hb d_R_fault_3 rfl hl (by decide) rfl (fun ls hl => ?_)
  exact hB4 zFU (0 : Int32) (0 : Int32) _ _ _ (lv_sub hl [2, 1, 0] rfl) hP hD hS hr
set_option maxHeartbeats 4000000 in
set_option maxRecDepth 100000 in
theorem c_R_number (l : Launch) (D : va_G) (kI kZ : ClassId) (qR : Nat → Nat) (R_length : Int32) (R_words : Nat → Int32) (a1 : Int32) (res : Int32) (hr : f_R_number R_words a1 = some res) : zMi l D kI kZ y_R_number prog_6_method_7_code 2 ((some .int)) 0 0 [.ref (qR 0), .int a1] (W_R kI kZ qR R_length R_words) (W_R kI kZ qR R_length R_words) res := by
  refine zMi.of (by decide +kernel) (Nat.le_of_ble_eq_true rfl) ?_
  intro p e R s m args below meth c Q A hR hx hb hml hts hown hA hK hN hQ
  have hown : s.vm.findClass "SquareCode$Source" = some m.cls := hown
  intro ls H hl hP hD hS
  have hl : lv_has ls 2 [(0, .ref (qR 0)), (1, .int a1)] := hl
  rw [f_R_number] at hr
  refine lv_aload_n hx hb d_R_number_0 rfl (lv_at hl 0 rfl) ?_
  refine va_get (D := D) (ci := 4) (v := .ref (qR 1)) (C := R_R) (T := T_R) (N := 2) hx hb hts in_R hown hK hP 0 rfl rfl 0 (by decide) (hts _ kw_48) (fun _ h9 => h9) rfl d_R_number_1 ?_
  refine lv_iload_n hx hb d_R_number_4 rfl (lv_at hl 1 rfl) ?_
  obtain ⟨hi, hr⟩ := gd_some hr
  refine va_iald hx hb hK hP 1 0 rfl rfl hi d_R_number_5 ?_
  refine lv_bipush (v := (100 : Int32)) hx hb d_R_number_6 (by decide) ?_
  refine z_irem hx hb d_R_number_8 (by decide) ?_
  obtain rfl := Option.some.inj hr
  exact hQ _ _ _ _ _ d_R_number_9 rfl rfl hP hD hS
set_option maxHeartbeats 4000000 in
set_option maxRecDepth 100000 in
theorem c_X_topDigit (l : Launch) (D : va_G) (kI kZ : ClassId)  (a0 : Int32) (res : Int32) (hr : f_X_topDigit a0 = some res) : zMi l D kI kZ y_X_topDigit prog_1_method_19_code 3 ((some .int)) 0 0 [.int a0] ([] : va_W) ([] : va_W) res := by
  refine zMi.of (by decide +kernel) (Nat.le_of_ble_eq_true rfl) ?_
  intro p e R s m args below meth c Q A hR hx hb hml hts hown hA hK hN hQ
  have hown : s.vm.findClass "SquareCode" = some m.cls := hown
  have hB6 : ∀ (fu : Nat) (v1 v2 : Int32) (H : Heap) (locs : List Loc) (ls : Array Slot), lv_has ls 3 [(1, .int v1), (2, .int v2)] → va_P D zCl ([] : va_W) H → va_D A ([] : va_W) → va_S A s.heap H locs → f_X_topDigit_6 fu v1 v2 = some res → W p l e R s m args below meth c H locs 0 0 Q (F0 m 6 ls []) := by
    intro  fu
    induction fu with
    | zero => intro v1 v2 H locs ls hl hP hD hS hr; exact absurd hr (by rw [f_X_topDigit_6]; exact fun h => by cases h)
    | succ fu ih =>
      intro v1 v2 H locs ls hl hP hD hS hr
      rw [f_X_topDigit_6] at hr
      refine lv_iload_n hx hb d_X_topDigit_6 rfl (lv_at hl 1 rfl) ?_
      refine lv_if_le hx hb d_X_topDigit_7 rfl (fun hc => ?_) (fun hc => ?_)
      · rw [if_pos hc] at hr
        refine lv_iload_n hx hb d_X_topDigit_20 rfl (lv_at hl 0 rfl) ?_
        obtain rfl := Option.some.inj hr
        exact hQ _ _ _ _ _ d_X_topDigit_21 rfl rfl hP hD hS
      · rw [if_neg hc] at hr
        refine lv_iinc (k := 0) (v := (v1 + (1 : Int32))) (lv' := [(1, .int (v1 + (1 : Int32))), (2, .int v2)]) hx hb d_X_topDigit_10 hl rfl (congrArg (fun z => v1 + z) (by decide : Int32.ofInt 1 = (1 : Int32))) (by decide) rfl (fun ls hl => ?_)
        refine lv_iload_n hx hb d_X_topDigit_13 rfl (lv_at hl 1 rfl) ?_
        refine lv_iconst (v := (1 : Int32)) hx hb d_X_topDigit_14 (by decide) ?_
        refine lv_ishr hx hb d_X_topDigit_15 ?_
        obtain ⟨v2_1, ev2_1, hr⟩ := nm_some hr
        refine z_top ev2_1 ?_
        refine lv_istore_n (lv' := [(2, .int v2_1), (1, .int (v1 + (1 : Int32)))]) hx hb d_X_topDigit_16 rfl hl (by decide) rfl (fun ls hl => ?_)
        refine lv_goto hx hb d_X_topDigit_17 rfl ?_
        exact ih (v1 + (1 : Int32)) v2_1 _ _ _ (lv_sub hl [1, 0] rfl) hP hD hS hr
  intro ls H hl hP hD hS
  have hl : lv_has ls 3 [(0, .int a0)] := hl
  rw [f_X_topDigit] at hr
  refine lv_iconst (v := (0 : Int32)) hx hb d_X_topDigit_0 (by decide) ?_
  refine lv_istore_n (lv' := [(1, .int (0 : Int32)), (0, .int a0)]) hx hb d_X_topDigit_1 rfl hl (by decide) rfl (fun ls hl => ?_)
  refine lv_iload_n hx hb d_X_topDigit_2 rfl (lv_at hl 1 rfl) ?_
  refine lv_iconst (v := (1 : Int32)) hx hb d_X_topDigit_3 (by decide) ?_
  refine lv_ishr hx hb d_X_topDigit_4 ?_
  obtain ⟨v2_2, ev2_2, hr⟩ := nm_some hr
  refine z_top ev2_2 ?_
  refine lv_istore_n (lv' := [(2, .int v2_2), (1, .int (0 : Int32)), (0, .int a0)]) hx hb d_X_topDigit_5 rfl hl (by decide) rfl (fun ls hl => ?_)
  exact hB6 zFU (0 : Int32) v2_2 _ _ _ (lv_sub hl [1, 0] rfl) hP hD hS hr
set_option maxHeartbeats 4000000 in
set_option maxRecDepth 100000 in
theorem c_JI_bitCount (l : Launch) (D : va_G) (kI kZ : ClassId)  (a0 : Int32) (res : Int32) (hr : f_JI_bitCount a0 = some res) : zMi l D kI kZ y_JI_bitCount prog_9_method_49_code 1 ((some .int)) 0 0 [.int a0] ([] : va_W) ([] : va_W) res := by
  refine zMi.of (by decide +kernel) (Nat.le_of_ble_eq_true rfl) ?_
  intro p e R s m args below meth c Q A hR hx hb hml hts hown hA hK hN hQ
  have hown : s.vm.findClass "java/lang/Integer" = some m.cls := hown
  intro ls H hl hP hD hS
  have hl : lv_has ls 1 [(0, .int a0)] := hl
  rw [f_JI_bitCount] at hr
  refine lv_iload_n hx hb d_JI_bitCount_0 rfl (lv_at hl 0 rfl) ?_
  refine lv_iload_n hx hb d_JI_bitCount_1 rfl (lv_at hl 0 rfl) ?_
  refine lv_iconst (v := (1 : Int32)) hx hb d_JI_bitCount_2 (by decide) ?_
  refine lv_iushr (v := zushr a0 (1 : Int32)) hx hb d_JI_bitCount_3 rfl ?_
  refine lv_ldcw (v := (1431655765 : Int32)) hx hb hown (hts _ kw_199) d_JI_bitCount_4 ?_
  refine lv_iand hx hb d_JI_bitCount_7 ?_
  refine lv_isub hx hb d_JI_bitCount_8 ?_
  obtain ⟨v0_1, ev0_1, hr⟩ := nm_some hr
  refine z_top ev0_1 ?_
  refine lv_istore_n (lv' := [(0, .int v0_1)]) hx hb d_JI_bitCount_9 rfl hl (by decide) rfl (fun ls hl => ?_)
  refine lv_iload_n hx hb d_JI_bitCount_10 rfl (lv_at hl 0 rfl) ?_
  refine lv_ldcw (v := (858993459 : Int32)) hx hb hown (hts _ kw_200) d_JI_bitCount_11 ?_
  refine lv_iand hx hb d_JI_bitCount_14 ?_
  refine lv_iload_n hx hb d_JI_bitCount_15 rfl (lv_at hl 0 rfl) ?_
  refine lv_iconst (v := (2 : Int32)) hx hb d_JI_bitCount_16 (by decide) ?_
  refine lv_iushr (v := zushr v0_1 (2 : Int32)) hx hb d_JI_bitCount_17 rfl ?_
  refine lv_ldcw (v := (858993459 : Int32)) hx hb hown (hts _ kw_200) d_JI_bitCount_18 ?_
  refine lv_iand hx hb d_JI_bitCount_21 ?_
  refine lv_iadd hx hb d_JI_bitCount_22 ?_
  obtain ⟨v0_2, ev0_2, hr⟩ := nm_some hr
  refine z_top ev0_2 ?_
  refine lv_istore_n (lv' := [(0, .int v0_2)]) hx hb d_JI_bitCount_23 rfl hl (by decide) rfl (fun ls hl => ?_)
  refine lv_iload_n hx hb d_JI_bitCount_24 rfl (lv_at hl 0 rfl) ?_
  refine lv_iload_n hx hb d_JI_bitCount_25 rfl (lv_at hl 0 rfl) ?_
  refine lv_iconst (v := (4 : Int32)) hx hb d_JI_bitCount_26 (by decide) ?_
  refine lv_iushr (v := zushr v0_2 (4 : Int32)) hx hb d_JI_bitCount_27 rfl ?_
  refine lv_iadd hx hb d_JI_bitCount_28 ?_
  refine lv_ldcw (v := (252645135 : Int32)) hx hb hown (hts _ kw_201) d_JI_bitCount_29 ?_
  refine lv_iand hx hb d_JI_bitCount_32 ?_
  obtain ⟨v0_3, ev0_3, hr⟩ := nm_some hr
  refine z_top ev0_3 ?_
  refine lv_istore_n (lv' := [(0, .int v0_3)]) hx hb d_JI_bitCount_33 rfl hl (by decide) rfl (fun ls hl => ?_)
  refine lv_iload_n hx hb d_JI_bitCount_34 rfl (lv_at hl 0 rfl) ?_
  refine lv_iload_n hx hb d_JI_bitCount_35 rfl (lv_at hl 0 rfl) ?_
  refine lv_bipush (v := (8 : Int32)) hx hb d_JI_bitCount_36 (by decide) ?_
  refine lv_iushr (v := zushr v0_3 (8 : Int32)) hx hb d_JI_bitCount_38 rfl ?_
  refine lv_iadd hx hb d_JI_bitCount_39 ?_
  obtain ⟨v0_4, ev0_4, hr⟩ := nm_some hr
  refine z_top ev0_4 ?_
  refine lv_istore_n (lv' := [(0, .int v0_4)]) hx hb d_JI_bitCount_40 rfl hl (by decide) rfl (fun ls hl => ?_)
  refine lv_iload_n hx hb d_JI_bitCount_41 rfl (lv_at hl 0 rfl) ?_
  refine lv_iload_n hx hb d_JI_bitCount_42 rfl (lv_at hl 0 rfl) ?_
  refine lv_bipush (v := (16 : Int32)) hx hb d_JI_bitCount_43 (by decide) ?_
  refine lv_iushr (v := zushr v0_4 (16 : Int32)) hx hb d_JI_bitCount_45 rfl ?_
  refine lv_iadd hx hb d_JI_bitCount_46 ?_
  obtain ⟨v0_5, ev0_5, hr⟩ := nm_some hr
  refine z_top ev0_5 ?_
  refine lv_istore_n (lv' := [(0, .int v0_5)]) hx hb d_JI_bitCount_47 rfl hl (by decide) rfl (fun ls hl => ?_)
  refine lv_iload_n hx hb d_JI_bitCount_48 rfl (lv_at hl 0 rfl) ?_
  refine lv_bipush (v := (63 : Int32)) hx hb d_JI_bitCount_49 (by decide) ?_
  refine lv_iand hx hb d_JI_bitCount_51 ?_
  obtain rfl := Option.some.inj hr
  exact hQ _ _ _ _ _ d_JI_bitCount_52 rfl rfl hP hD hS
set_option maxHeartbeats 4000000 in
set_option maxRecDepth 100000 in
theorem c_R_powerInstructions (l : Launch) (D : va_G) (kI kZ : ClassId)  (a0 : Int32) (res : Int32) (hr : f_R_powerInstructions a0 = some res) : zMi l D kI kZ y_R_powerInstructions prog_6_method_10_code 1 ((some .int)) 1 22 [.int a0] ([] : va_W) ([] : va_W) res := by
  refine zMi.of (by decide +kernel) (Nat.le_of_ble_eq_true rfl) ?_
  intro p e R s m args below meth c Q A hR hx hb hml hts hown hA hK hN hQ
  have hown : s.vm.findClass "SquareCode$Source" = some m.cls := hown
  intro ls H hl hP hD hS
  have hl : lv_has ls 1 [(0, .int a0)] := hl
  rw [f_R_powerInstructions] at hr
  refine lv_iload_n hx hb d_R_powerInstructions_0 rfl (lv_at hl 0 rfl) ?_
  refine lv_if_ne hx hb d_R_powerInstructions_1 rfl (fun hc => ?_) (fun hc => ?_)
  · rw [if_neg hc] at hr
    refine lv_iload_n hx hb d_R_powerInstructions_6 rfl (lv_at hl 0 rfl) ?_
    obtain ⟨r1, hr1, hr⟩ := ob hr
    refine z_ci (ws := ([] : va_W)) (wc := ([] : va_W)) (wr := ([] : va_W)) (w1 := ([] : va_W)) (w2 := ([] : va_W)) (va_runSN (As := [.int a0]) (rest := []) ⟨hx, hb, hml, hown, hts⟩ (c_X_topDigit l D kI kZ a0 r1 hr1 H.size) (z_cwN hts mw_X_topDigit (zNestOf 1 hN rfl) ⟨by rw [hR]; exact Nat.le_of_ble_eq_true rfl, by rw [hR]; exact Nat.le_of_ble_eq_true rfl⟩) (z_pre hK hP hD hN [] (by decide) rfl) rfl rfl hl.1 rfl (lv_room (Nat.le_of_ble_eq_true rfl)) d_R_powerInstructions_7 ⟨Nat.zero_le _, Nat.zero_le _⟩) hP hD hS hA [] [] [] rfl rfl (by decide) (by decide) rfl (by decide) (fun H locs hP hD hS => ?_)
    refine lv_iload_n hx hb d_R_powerInstructions_10 rfl (lv_at hl 0 rfl) ?_
    obtain ⟨r2, hr2, hr⟩ := ob hr
    refine z_ci (ws := ([] : va_W)) (wc := ([] : va_W)) (wr := ([] : va_W)) (w1 := ([] : va_W)) (w2 := ([] : va_W)) (va_runS (As := [.int a0]) (rest := [.int r1]) ⟨hx, hb, hml, hown, hts⟩ (c_JI_bitCount l D kI kZ a0 r2 hr2 H.size) (z_cwS hts mw_JI_bitCount kw_196 ⟨by rw [hR]; exact Nat.le_of_ble_eq_true rfl, by rw [hR]; exact Nat.le_of_ble_eq_true rfl⟩) (z_pre hK hP hD hN [] (by decide) rfl) rfl rfl hl.1 rfl (lv_room (Nat.le_of_ble_eq_true rfl)) d_R_powerInstructions_11 ⟨Nat.zero_le _, Nat.zero_le _⟩) hP hD hS hA [] [] [] rfl rfl (by decide) (by decide) rfl (by decide) (fun H locs hP hD hS => ?_)
    refine lv_iadd hx hb d_R_powerInstructions_14 ?_
    refine lv_iconst (v := (1 : Int32)) hx hb d_R_powerInstructions_15 (by decide) ?_
    refine lv_isub hx hb d_R_powerInstructions_16 ?_
    obtain rfl := Option.some.inj hr
    exact hQ _ _ _ _ _ d_R_powerInstructions_17 rfl rfl hP hD hS
  · rw [if_pos hc] at hr
    refine lv_iconst (v := (1 : Int32)) hx hb d_R_powerInstructions_4 (by decide) ?_
    obtain rfl := Option.some.inj hr
    exact hQ _ _ _ _ _ d_R_powerInstructions_5 rfl rfl hP hD hS
set_option maxHeartbeats 4000000 in
set_option maxRecDepth 100000 in
theorem c_R_instructionsNeeded (l : Launch) (D : va_G) (kI kZ : ClassId) (qR : Nat → Nat) (R_length : Int32) (R_words : Nat → Int32)  (res : Int32) (hr : f_R_instructionsNeeded R_words R_length = some res) : zMi l D kI kZ y_R_instructionsNeeded prog_6_method_9_code 3 ((some .int)) 2 42 [.ref (qR 0)] (W_R kI kZ qR R_length R_words) (W_R kI kZ qR R_length R_words) res := by
  refine zMi.of (by decide +kernel) (Nat.le_of_ble_eq_true rfl) ?_
  intro p e R s m args below meth c Q A hR hx hb hml hts hown hA hK hN hQ
  have hown : s.vm.findClass "SquareCode$Source" = some m.cls := hown
  have hB4 : ∀ (fu : Nat) (v1 v2 : Int32) (H : Heap) (locs : List Loc) (ls : Array Slot), lv_has ls 3 [(0, .ref (qR 0)), (1, .int v1), (2, .int v2)] → va_P D zCl (W_R kI kZ qR R_length R_words) H → va_D A (W_R kI kZ qR R_length R_words) → va_S A s.heap H locs → f_R_instructionsNeeded_4 R_words R_length fu v1 v2 = some res → W p l e R s m args below meth c H locs 0 0 Q (F0 m 4 ls []) := by
    intro  fu
    induction fu with
    | zero => intro v1 v2 H locs ls hl hP hD hS hr; exact absurd hr (by rw [f_R_instructionsNeeded_4]; exact fun h => by cases h)
    | succ fu ih =>
      intro v1 v2 H locs ls hl hP hD hS hr
      rw [f_R_instructionsNeeded_4] at hr
      refine lv_iload_n hx hb d_R_instructionsNeeded_4 rfl (lv_at hl 2 rfl) ?_
      refine lv_aload_n hx hb d_R_instructionsNeeded_5 rfl (lv_at hl 0 rfl) ?_
      refine va_get (D := D) (ci := 4) (v := .int R_length) (C := R_R) (T := T_R) (N := 2) hx hb hts in_R hown hK hP 0 rfl rfl 1 (by decide) (hts _ kw_49) (fun _ h9 => h9) rfl d_R_instructionsNeeded_6 ?_
      refine lv_icmp_ge hx hb d_R_instructionsNeeded_9 rfl (fun hc => ?_) (fun hc => ?_)
      · rw [if_pos hc] at hr
        refine lv_iload_n hx hb d_R_instructionsNeeded_43 rfl (lv_at hl 1 rfl) ?_
        obtain rfl := Option.some.inj hr
        exact hQ _ _ _ _ _ d_R_instructionsNeeded_44 rfl rfl hP hD hS
      · rw [if_neg hc] at hr
        refine lv_iload_n hx hb d_R_instructionsNeeded_12 rfl (lv_at hl 1 rfl) ?_
        refine lv_aload_n hx hb d_R_instructionsNeeded_13 rfl (lv_at hl 0 rfl) ?_
        refine lv_iload_n hx hb d_R_instructionsNeeded_14 rfl (lv_at hl 2 rfl) ?_
        obtain ⟨r1, hr1, hr⟩ := ob hr
        refine z_ci (ws := (W_R kI kZ qR R_length R_words)) (wc := (W_R kI kZ qR R_length R_words)) (wr := ([] : va_W)) (w1 := (W_R kI kZ qR R_length R_words)) (w2 := (W_R kI kZ qR R_length R_words)) (va_runV (As := [.int v2]) (rest := [.int v1]) ⟨hx, hb, hml, hown, hts⟩ (c_R_operation l D kI kZ qR R_length R_words v2 r1 hr1 H.size) (z_cwV hts mw_R_operation kw_175 ⟨by rw [hR]; exact Nat.le_of_ble_eq_true rfl, by rw [hR]; exact Nat.le_of_ble_eq_true rfl⟩) (z_preV (ci := 4) hK hP hD hN rfl (he := (rfl : _[0]? = _)) [0, 1] (by decide) rfl) rfl rfl hl.1 rfl (lv_room (Nat.le_of_ble_eq_true rfl)) d_R_instructionsNeeded_15 ⟨Nat.zero_le _, Nat.zero_le _⟩) hP hD hS hA [0, 1] [] [0, 1] rfl rfl (by decide) (by decide) rfl (by decide) (fun H locs hP hD hS => ?_)
        refine lv_bipush (v := (8 : Int32)) hx hb d_R_instructionsNeeded_18 (by decide) ?_
        refine lv_icmp_ne hx hb d_R_instructionsNeeded_20 rfl (fun hc => ?_) (fun hc => ?_)
        · rw [if_neg hc] at hr
          refine lv_iconst (v := (1 : Int32)) hx hb d_R_instructionsNeeded_34 (by decide) ?_
          refine lv_iadd hx hb d_R_instructionsNeeded_35 ?_
          obtain ⟨v1_2, ev1_2, hr⟩ := nm_some hr
          refine z_top ev1_2 ?_
          refine lv_istore_n (lv' := [(1, .int v1_2), (0, .ref (qR 0)), (2, .int v2)]) hx hb d_R_instructionsNeeded_36 rfl hl (by decide) rfl (fun ls hl => ?_)
          refine lv_iinc (k := 2) (v := (v2 + (1 : Int32))) (lv' := [(2, .int (v2 + (1 : Int32))), (1, .int v1_2), (0, .ref (qR 0))]) hx hb d_R_instructionsNeeded_37 hl rfl (congrArg (fun z => v2 + z) (by decide : Int32.ofInt 1 = (1 : Int32))) (by decide) rfl (fun ls hl => ?_)
          refine lv_goto hx hb d_R_instructionsNeeded_40 rfl ?_
          exact ih v1_2 (v2 + (1 : Int32)) _ _ _ (lv_sub hl [2, 1, 0] rfl) hP hD hS hr
        · rw [if_pos hc] at hr
          refine lv_aload_n hx hb d_R_instructionsNeeded_23 rfl (lv_at hl 0 rfl) ?_
          refine lv_iload_n hx hb d_R_instructionsNeeded_24 rfl (lv_at hl 2 rfl) ?_
          obtain ⟨r3, hr3, hr⟩ := ob hr
          refine z_ci (ws := (W_R kI kZ qR R_length R_words)) (wc := (W_R kI kZ qR R_length R_words)) (wr := ([] : va_W)) (w1 := (W_R kI kZ qR R_length R_words)) (w2 := (W_R kI kZ qR R_length R_words)) (va_runV (As := [.int v2]) (rest := [.int v1]) ⟨hx, hb, hml, hown, hts⟩ (c_R_number l D kI kZ qR R_length R_words v2 r3 hr3 H.size) (z_cwV hts mw_R_number kw_186 ⟨by rw [hR]; exact Nat.le_of_ble_eq_true rfl, by rw [hR]; exact Nat.le_of_ble_eq_true rfl⟩) (z_preV (ci := 4) hK hP hD hN rfl (he := (rfl : _[0]? = _)) [0, 1] (by decide) rfl) rfl rfl hl.1 rfl (lv_room (Nat.le_of_ble_eq_true rfl)) d_R_instructionsNeeded_25 ⟨Nat.zero_le _, Nat.zero_le _⟩) hP hD hS hA [0, 1] [] [0, 1] rfl rfl (by decide) (by decide) rfl (by decide) (fun H locs hP hD hS => ?_)
          obtain ⟨r4, hr4, hr⟩ := ob hr
          refine z_ci (ws := (W_R kI kZ qR R_length R_words)) (wc := ([] : va_W)) (wr := (W_R kI kZ qR R_length R_words)) (w1 := ([] : va_W)) (w2 := (W_R kI kZ qR R_length R_words)) (va_runS (As := [.int r3]) (rest := [.int v1]) ⟨hx, hb, hml, hown, hts⟩ (c_R_powerInstructions l D kI kZ r3 r4 hr4 H.size) (z_cwS hts mw_R_powerInstructions kw_190 ⟨by rw [hR]; exact Nat.le_of_ble_eq_true rfl, by rw [hR]; exact Nat.le_of_ble_eq_true rfl⟩) (z_pre hK hP hD hN [] (by decide) rfl) rfl rfl hl.1 rfl (lv_room (Nat.le_of_ble_eq_true rfl)) d_R_instructionsNeeded_28 ⟨Nat.zero_le _, Nat.zero_le _⟩) hP hD hS hA [] [0, 1] [0, 1] rfl rfl (by decide) (by decide) rfl (by decide) (fun H locs hP hD hS => ?_)
          refine lv_goto hx hb d_R_instructionsNeeded_31 rfl ?_
          refine lv_iadd hx hb d_R_instructionsNeeded_35 ?_
          obtain ⟨v1_5, ev1_5, hr⟩ := nm_some hr
          refine z_top ev1_5 ?_
          refine lv_istore_n (lv' := [(1, .int v1_5), (0, .ref (qR 0)), (2, .int v2)]) hx hb d_R_instructionsNeeded_36 rfl hl (by decide) rfl (fun ls hl => ?_)
          refine lv_iinc (k := 2) (v := (v2 + (1 : Int32))) (lv' := [(2, .int (v2 + (1 : Int32))), (1, .int v1_5), (0, .ref (qR 0))]) hx hb d_R_instructionsNeeded_37 hl rfl (congrArg (fun z => v2 + z) (by decide : Int32.ofInt 1 = (1 : Int32))) (by decide) rfl (fun ls hl => ?_)
          refine lv_goto hx hb d_R_instructionsNeeded_40 rfl ?_
          exact ih v1_5 (v2 + (1 : Int32)) _ _ _ (lv_sub hl [2, 1, 0] rfl) hP hD hS hr
  intro ls H hl hP hD hS
  have hl : lv_has ls 3 [(0, .ref (qR 0))] := hl
  rw [f_R_instructionsNeeded] at hr
  refine lv_iconst (v := (0 : Int32)) hx hb d_R_instructionsNeeded_0 (by decide) ?_
  refine lv_istore_n (lv' := [(1, .int (0 : Int32)), (0, .ref (qR 0))]) hx hb d_R_instructionsNeeded_1 rfl hl (by decide) rfl (fun ls hl => ?_)
  refine lv_iconst (v := (0 : Int32)) hx hb d_R_instructionsNeeded_2 (by decide) ?_
  refine lv_istore_n (lv' := [(2, .int (0 : Int32)), (1, .int (0 : Int32)), (0, .ref (qR 0))]) hx hb d_R_instructionsNeeded_3 rfl hl (by decide) rfl (fun ls hl => ?_)
  exact hB4 zFU (0 : Int32) (0 : Int32) _ _ _ (lv_sub hl [2, 1, 0] rfl) hP hD hS hr
set_option maxHeartbeats 4000000 in
set_option maxRecDepth 100000 in
theorem c_C_clear (l : Launch) (D : va_G) (kI kZ : ClassId) (qC : Nat → Nat) (C_length : Int32) (C_instructions : Nat → Int32)  (res : Int32) (hr : f_C_clear C_length = some res) : zMv l D kI kZ y_C_clear prog_2_method_3_code 1 none 0 0 [.ref (qC 0)] (W_C kI kZ qC C_length C_instructions) (W_C kI kZ qC res C_instructions) := by
  refine zMv.of (by decide +kernel) (Nat.le_of_ble_eq_true rfl) ?_
  intro p e R s m args below meth c Q A hR hx hb hml hts hown hA hK hN hQ
  have hown : s.vm.findClass "SquareCode$Code" = some m.cls := hown
  intro ls H hl hP hD hS
  have hl : lv_has ls 1 [(0, .ref (qC 0))] := hl
  rw [f_C_clear] at hr
  refine lv_aload_n hx hb d_C_clear_0 rfl (lv_at hl 0 rfl) ?_
  refine lv_iconst (v := (0 : Int32)) hx hb d_C_clear_1 (by decide) ?_
  refine va_put (D := D) (ci := 0) (v := .int (0 : Int32)) (ty := .int) (C := R_C) (T := T_C) (N := 2) hx hb hts in_C ty_C tyo_C nm_C hown hK hP hD hS 0 rfl rfl 1 (by decide) (hts _ kw_62) (fun _ h9 => h9) rfl (by decide +kernel) rfl rfl (Nat.le_of_ble_eq_true rfl) d_C_clear_2 (fun H locs hP hD hS => ?_)
  have hP : va_P D zCl (W_C kI kZ qC (0 : Int32) C_instructions) H := hP
  have hD : va_D A (W_C kI kZ qC (0 : Int32) C_instructions) := hD
  obtain rfl := Option.some.inj hr
  exact hQ _ _ _ _ d_C_clear_5 hP hD hS
set_option maxHeartbeats 4000000 in
set_option maxRecDepth 100000 in
theorem c_R_length (l : Launch) (D : va_G) (kI kZ : ClassId) (qR : Nat → Nat) (R_length : Int32) (R_words : Nat → Int32)  (res : Int32) (hr : f_R_length R_length = some res) : zMi l D kI kZ y_R_length prog_6_method_2_code 1 ((some .int)) 0 0 [.ref (qR 0)] (W_R kI kZ qR R_length R_words) (W_R kI kZ qR R_length R_words) res := by
  refine zMi.of (by decide +kernel) (Nat.le_of_ble_eq_true rfl) ?_
  intro p e R s m args below meth c Q A hR hx hb hml hts hown hA hK hN hQ
  have hown : s.vm.findClass "SquareCode$Source" = some m.cls := hown
  intro ls H hl hP hD hS
  have hl : lv_has ls 1 [(0, .ref (qR 0))] := hl
  rw [f_R_length] at hr
  refine lv_aload_n hx hb d_R_length_0 rfl (lv_at hl 0 rfl) ?_
  refine va_get (D := D) (ci := 4) (v := .int R_length) (C := R_R) (T := T_R) (N := 2) hx hb hts in_R hown hK hP 0 rfl rfl 1 (by decide) (hts _ kw_49) (fun _ h9 => h9) rfl d_R_length_1 ?_
  obtain rfl := Option.some.inj hr
  exact hQ _ _ _ _ _ d_R_length_4 rfl rfl hP hD hS
set_option maxHeartbeats 4000000 in
set_option maxRecDepth 100000 in
theorem c_C_packed (l : Launch) (D : va_G) (kI kZ : ClassId)  (a0 a1 a2 : Int32) (res : Int32) (hr : f_C_packed a0 a1 a2 = some res) : zMi l D kI kZ y_C_packed prog_2_method_12_code 3 ((some .int)) 0 0 [.int a0, .int a1, .int a2] ([] : va_W) ([] : va_W) res := by
  refine zMi.of (by decide +kernel) (Nat.le_of_ble_eq_true rfl) ?_
  intro p e R s m args below meth c Q A hR hx hb hml hts hown hA hK hN hQ
  have hown : s.vm.findClass "SquareCode$Code" = some m.cls := hown
  intro ls H hl hP hD hS
  have hl : lv_has ls 3 [(0, .int a0), (1, .int a1), (2, .int a2)] := hl
  rw [f_C_packed] at hr
  refine lv_iload_n hx hb d_C_packed_0 rfl (lv_at hl 0 rfl) ?_
  refine lv_bipush (v := (100 : Int32)) hx hb d_C_packed_1 (by decide) ?_
  refine lv_imul hx hb d_C_packed_3 ?_
  refine lv_iload_n hx hb d_C_packed_4 rfl (lv_at hl 1 rfl) ?_
  refine lv_iadd hx hb d_C_packed_5 ?_
  refine lv_bipush (v := (100 : Int32)) hx hb d_C_packed_6 (by decide) ?_
  refine lv_imul hx hb d_C_packed_8 ?_
  refine lv_iload_n hx hb d_C_packed_9 rfl (lv_at hl 2 rfl) ?_
  refine lv_iadd hx hb d_C_packed_10 ?_
  obtain rfl := Option.some.inj hr
  exact hQ _ _ _ _ _ d_C_packed_11 rfl rfl hP hD hS
