set_option maxHeartbeats 4000000 in
set_option maxRecDepth 100000 in
theorem c_M_scale (l : Launch) (D : va_G) (kI kZ : ClassId) (qM : Nat → Nat) (M_nc M_nf : Nat) (M_modulus M_side M_size : Int32) (M_cells M_fresh : Nat → Int32) (a1 a2 a3 : Int32) (res : (Nat → Int32)) (hr : f_M_scale M_nc M_modulus M_size M_cells a1 a2 a3 = some res) : zMv l D kI kZ y_M_scale prog_4_method_13_code 5 none 0 0 [.ref (qM 0), .int a1, .int a2, .int a3] (W_M kI kZ qM M_nc M_nf M_modulus M_side M_size M_cells M_fresh) (W_M kI kZ qM M_nc M_nf M_modulus M_side M_size res M_fresh) := by
  refine zMv.of (by decide +kernel) (Nat.le_of_ble_eq_true rfl) ?_
  intro p e R s m args below meth c Q A hR hx hb hml hts hown hA hK hN hQ
  have hown : s.vm.findClass "SquareCode$Matrices" = some m.cls := hown
  have hB3 : ∀ (fu : Nat) (v4 : Int32) (M_cells : Nat → Int32) (H : Heap) (locs : List Loc) (ls : Array Slot), lv_has ls 5 [(0, .ref (qM 0)), (1, .int a1), (2, .int a2), (3, .int a3), (4, .int v4)] → va_P D zCl (W_M kI kZ qM M_nc M_nf M_modulus M_side M_size M_cells M_fresh) H → va_D A (W_M kI kZ qM M_nc M_nf M_modulus M_side M_size M_cells M_fresh) → va_S A s.heap H locs → f_M_scale_3 M_nc M_modulus M_size a1 a2 a3 fu v4 M_cells = some res → W p l e R s m args below meth c H locs 0 0 Q (F0 m 3 ls []) := by
    intro  fu
    induction fu with
    | zero => intro v4 M_cells H locs ls hl hP hD hS hr; exact absurd hr (by rw [f_M_scale_3]; exact fun h => by cases h)
    | succ fu ih =>
      intro v4 M_cells H locs ls hl hP hD hS hr
      rw [f_M_scale_3] at hr
      refine lv_iload hx hb d_M_scale_3 (lv_at hl 4 rfl) ?_
      refine lv_aload_n hx hb d_M_scale_5 rfl (lv_at hl 0 rfl) ?_
      refine va_get (D := D) (ci := 2) (v := .int M_size) (C := R_M) (T := T_M) (N := 5) hx hb hts in_M hown hK hP 0 rfl rfl 2 (by decide) (hts _ kw_27) (fun _ h9 => h9) rfl d_M_scale_6 ?_
      refine lv_icmp_ge hx hb d_M_scale_9 rfl (fun hc => ?_) (fun hc => ?_)
      · rw [if_pos hc] at hr
        obtain rfl := Option.some.inj hr
        exact hQ _ _ _ _ d_M_scale_53 hP hD hS
      · rw [if_neg hc] at hr
        refine lv_aload_n hx hb d_M_scale_12 rfl (lv_at hl 0 rfl) ?_
        refine va_get (D := D) (ci := 2) (v := .ref (qM 1)) (C := R_M) (T := T_M) (N := 5) hx hb hts in_M hown hK hP 0 rfl rfl 3 (by decide) (hts _ kw_28) (fun _ h9 => h9) rfl d_M_scale_13 ?_
        refine lv_iload_n hx hb d_M_scale_16 rfl (lv_at hl 1 rfl) ?_
        refine lv_aload_n hx hb d_M_scale_17 rfl (lv_at hl 0 rfl) ?_
        refine va_get (D := D) (ci := 2) (v := .int M_size) (C := R_M) (T := T_M) (N := 5) hx hb hts in_M hown hK hP 0 rfl rfl 2 (by decide) (hts _ kw_27) (fun _ h9 => h9) rfl d_M_scale_18 ?_
        refine lv_imul hx hb d_M_scale_21 ?_
        refine lv_iload hx hb d_M_scale_22 (lv_at hl 4 rfl) ?_
        refine lv_iadd hx hb d_M_scale_24 ?_
        refine lv_aload_n hx hb d_M_scale_25 rfl (lv_at hl 0 rfl) ?_
        refine va_get (D := D) (ci := 2) (v := .ref (qM 1)) (C := R_M) (T := T_M) (N := 5) hx hb hts in_M hown hK hP 0 rfl rfl 3 (by decide) (hts _ kw_28) (fun _ h9 => h9) rfl d_M_scale_26 ?_
        refine lv_iload_n hx hb d_M_scale_29 rfl (lv_at hl 2 rfl) ?_
        refine lv_aload_n hx hb d_M_scale_30 rfl (lv_at hl 0 rfl) ?_
        refine va_get (D := D) (ci := 2) (v := .int M_size) (C := R_M) (T := T_M) (N := 5) hx hb hts in_M hown hK hP 0 rfl rfl 2 (by decide) (hts _ kw_27) (fun _ h9 => h9) rfl d_M_scale_31 ?_
        refine lv_imul hx hb d_M_scale_34 ?_
        refine lv_iload hx hb d_M_scale_35 (lv_at hl 4 rfl) ?_
        refine lv_iadd hx hb d_M_scale_37 ?_
        obtain ⟨hi, hr⟩ := gd_some hr
        refine va_iald hx hb hK hP 1 0 rfl rfl hi d_M_scale_38 ?_
        refine lv_iload_n hx hb d_M_scale_39 rfl (lv_at hl 3 rfl) ?_
        refine lv_imul hx hb d_M_scale_40 ?_
        refine lv_aload_n hx hb d_M_scale_41 rfl (lv_at hl 0 rfl) ?_
        refine va_get (D := D) (ci := 2) (v := .int M_modulus) (C := R_M) (T := T_M) (N := 5) hx hb hts in_M hown hK hP 0 rfl rfl 0 (by decide) (hts _ kw_25) (fun _ h9 => h9) rfl d_M_scale_42 ?_
        obtain ⟨hz, hr⟩ := nz_some hr
        refine z_irem hx hb d_M_scale_45 hz ?_
        obtain ⟨hi, hr⟩ := gd_some hr
        refine va_iast hx hb hK hP hD hS 1 0 rfl rfl hi d_M_scale_46 (fun H locs hP hD hS => ?_)
        have hP : va_P D zCl (W_M kI kZ qM M_nc M_nf M_modulus M_side M_size (upd M_cells ((a1 * M_size) + v4).toNatClampNeg (zrem ((M_cells ((a2 * M_size) + v4).toNatClampNeg) * a3) M_modulus)) M_fresh) H := hP
        have hD : va_D A (W_M kI kZ qM M_nc M_nf M_modulus M_side M_size (upd M_cells ((a1 * M_size) + v4).toNatClampNeg (zrem ((M_cells ((a2 * M_size) + v4).toNatClampNeg) * a3) M_modulus)) M_fresh) := hD
        refine lv_iinc (k := 4) (v := (v4 + (1 : Int32))) (lv' := [(4, .int (v4 + (1 : Int32))), (0, .ref (qM 0)), (1, .int a1), (2, .int a2), (3, .int a3)]) hx hb d_M_scale_47 hl rfl (congrArg (fun z => v4 + z) (by decide : Int32.ofInt 1 = (1 : Int32))) (by decide) rfl (fun ls hl => ?_)
        refine lv_goto hx hb d_M_scale_50 rfl ?_
        exact ih (v4 + (1 : Int32)) (upd M_cells ((a1 * M_size) + v4).toNatClampNeg (zrem ((M_cells ((a2 * M_size) + v4).toNatClampNeg) * a3) M_modulus)) _ _ _ (lv_sub hl [1, 2, 3, 4, 0] rfl) hP hD hS hr
  intro ls H hl hP hD hS
  have hl : lv_has ls 5 [(0, .ref (qM 0)), (1, .int a1), (2, .int a2), (3, .int a3)] := hl
  rw [f_M_scale] at hr
  refine lv_iconst (v := (0 : Int32)) hx hb d_M_scale_0 (by decide) ?_
  refine lv_istore (lv' := [(4, .int (0 : Int32)), (0, .ref (qM 0)), (1, .int a1), (2, .int a2), (3, .int a3)]) hx hb d_M_scale_1 hl (by decide) rfl (fun ls hl => ?_)
  exact hB3 zFU (0 : Int32) M_cells _ _ _ (lv_sub hl [1, 2, 3, 4, 0] rfl) hP hD hS hr
set_option maxHeartbeats 4000000 in
set_option maxRecDepth 100000 in
theorem c_M_apply (l : Launch) (D : va_G) (kI kZ : ClassId) (qM : Nat → Nat) (M_nc M_nf : Nat) (M_modulus M_side M_size : Int32) (M_cells M_fresh : Nat → Int32) (a1 a2 a3 a4 : Int32) (res : (Nat → Int32) × (Nat → Int32)) (hr : f_M_apply M_nc M_nf M_modulus M_side M_size M_cells M_fresh a1 a2 a3 a4 = some res) : zMv l D kI kZ y_M_apply prog_4_method_5_code 5 none 3 108 [.ref (qM 0), .int a1, .int a2, .int a3, .int a4] (W_M kI kZ qM M_nc M_nf M_modulus M_side M_size M_cells M_fresh) (W_M kI kZ qM M_nc M_nf M_modulus M_side M_size (res.1) (res.2)) := by
  refine zMv.of (by decide +kernel) (Nat.le_of_ble_eq_true rfl) ?_
  intro p e R s m args below meth c Q A hR hx hb hml hts hown hA hK hN hQ
  have hown : s.vm.findClass "SquareCode$Matrices" = some m.cls := hown
  intro ls H hl hP hD hS
  have hl : lv_has ls 5 [(0, .ref (qM 0)), (1, .int a1), (2, .int a2), (3, .int a3), (4, .int a4)] := hl
  rw [f_M_apply] at hr
  refine lv_iload_n hx hb d_M_apply_0 rfl (lv_at hl 1 rfl) ?_
  by_cases hs1_0 : a1 = (0 : Int32)
  · rw [if_pos hs1_0] at hr
    refine lv_tableIn hx hb d_M_apply_1 (by rw [hs1_0]; decide) (by rw [hs1_0]; decide) (by rw [hs1_0]; rfl) rfl ?_
    refine lv_aload_n hx hb d_M_apply_44 rfl (lv_at hl 0 rfl) ?_
    refine lv_iload_n hx hb d_M_apply_45 rfl (lv_at hl 2 rfl) ?_
    refine lv_bipush (v := (40 : Int32)) hx hb d_M_apply_46 (by decide) ?_
    refine lv_iload hx hb d_M_apply_48 (lv_at hl 4 rfl) ?_
    refine lv_iadd hx hb d_M_apply_50 ?_
    obtain ⟨r1, hr1, hr⟩ := ob hr
    refine z_cv (ws := (W_M kI kZ qM M_nc M_nf M_modulus M_side M_size M_cells M_fresh)) (wc := (W_M kI kZ qM M_nc M_nf M_modulus M_side M_size M_cells M_fresh)) (wr := ([] : va_W)) (w1 := (W_M kI kZ qM M_nc M_nf M_modulus M_side M_size r1 M_fresh)) (w2 := (W_M kI kZ qM M_nc M_nf M_modulus M_side M_size r1 M_fresh)) (va_runV (As := [.int a2, .int ((40 : Int32) + a4)]) (rest := []) ⟨hx, hb, hml, hown, hts⟩ (c_M_copy l D kI kZ qM M_nc M_nf M_modulus M_side M_size M_cells M_fresh a2 ((40 : Int32) + a4) r1 hr1 H.size) (z_cwV hts mw_M_copy kw_331 ⟨by rw [hR]; exact Nat.le_of_ble_eq_true rfl, by rw [hR]; exact Nat.le_of_ble_eq_true rfl⟩) (z_preV (ci := 2) hK hP hD hN rfl (he := (rfl : _[0]? = _)) [0, 1, 2] (by decide) rfl) rfl rfl hl.1 rfl (lv_room (Nat.le_of_ble_eq_true rfl)) d_M_apply_51 ⟨Nat.zero_le _, Nat.zero_le _⟩) hP hD hS hA [0, 1, 2] [] [0, 1, 2] rfl rfl (by decide) (by decide) rfl (by decide) (fun H locs hP hD hS => ?_)
    refine lv_goto hx hb d_M_apply_54 rfl ?_
    obtain rfl := Option.some.inj hr
    exact hQ _ _ _ _ d_M_apply_130 hP hD hS
  rw [if_neg hs1_0] at hr
  by_cases hs1_1 : a1 = (1 : Int32)
  · rw [if_pos hs1_1] at hr
    refine lv_tableIn hx hb d_M_apply_1 (by rw [hs1_1]; decide) (by rw [hs1_1]; decide) (by rw [hs1_1]; rfl) rfl ?_
    refine lv_aload_n hx hb d_M_apply_57 rfl (lv_at hl 0 rfl) ?_
    refine lv_iload_n hx hb d_M_apply_58 rfl (lv_at hl 2 rfl) ?_
    obtain ⟨r2, hr2, hr⟩ := ob hr
    refine z_cv (ws := (W_M kI kZ qM M_nc M_nf M_modulus M_side M_size M_cells M_fresh)) (wc := (W_M kI kZ qM M_nc M_nf M_modulus M_side M_size M_cells M_fresh)) (wr := ([] : va_W)) (w1 := (W_M kI kZ qM M_nc M_nf M_modulus M_side M_size r2 M_fresh)) (w2 := (W_M kI kZ qM M_nc M_nf M_modulus M_side M_size r2 M_fresh)) (va_runV (As := [.int a2]) (rest := []) ⟨hx, hb, hml, hown, hts⟩ (c_M_makeOne l D kI kZ qM M_nc M_nf M_modulus M_side M_size M_cells M_fresh a2 r2 hr2 H.size) (z_cwV hts mw_M_makeOne kw_338 ⟨by rw [hR]; exact Nat.le_of_ble_eq_true rfl, by rw [hR]; exact Nat.le_of_ble_eq_true rfl⟩) (z_preV (ci := 2) hK hP hD hN rfl (he := (rfl : _[0]? = _)) [0, 1, 2] (by decide) rfl) rfl rfl hl.1 rfl (lv_room (Nat.le_of_ble_eq_true rfl)) d_M_apply_59 ⟨Nat.zero_le _, Nat.zero_le _⟩) hP hD hS hA [0, 1, 2] [] [0, 1, 2] rfl rfl (by decide) (by decide) rfl (by decide) (fun H locs hP hD hS => ?_)
    refine lv_goto hx hb d_M_apply_62 rfl ?_
    obtain rfl := Option.some.inj hr
    exact hQ _ _ _ _ d_M_apply_130 hP hD hS
  rw [if_neg hs1_1] at hr
  by_cases hs1_2 : a1 = (2 : Int32)
  · rw [if_pos hs1_2] at hr
    refine lv_tableIn hx hb d_M_apply_1 (by rw [hs1_2]; decide) (by rw [hs1_2]; decide) (by rw [hs1_2]; rfl) rfl ?_
    refine lv_aload_n hx hb d_M_apply_65 rfl (lv_at hl 0 rfl) ?_
    refine lv_iload_n hx hb d_M_apply_66 rfl (lv_at hl 2 rfl) ?_
    obtain ⟨r3, hr3, hr⟩ := ob hr
    refine z_cv (ws := (W_M kI kZ qM M_nc M_nf M_modulus M_side M_size M_cells M_fresh)) (wc := (W_M kI kZ qM M_nc M_nf M_modulus M_side M_size M_cells M_fresh)) (wr := ([] : va_W)) (w1 := (W_M kI kZ qM M_nc M_nf M_modulus M_side M_size r3 M_fresh)) (w2 := (W_M kI kZ qM M_nc M_nf M_modulus M_side M_size r3 M_fresh)) (va_runV (As := [.int a2]) (rest := []) ⟨hx, hb, hml, hown, hts⟩ (c_M_makeNought l D kI kZ qM M_nc M_nf M_modulus M_side M_size M_cells M_fresh a2 r3 hr3 H.size) (z_cwV hts mw_M_makeNought kw_342 ⟨by rw [hR]; exact Nat.le_of_ble_eq_true rfl, by rw [hR]; exact Nat.le_of_ble_eq_true rfl⟩) (z_preV (ci := 2) hK hP hD hN rfl (he := (rfl : _[0]? = _)) [0, 1, 2] (by decide) rfl) rfl rfl hl.1 rfl (lv_room (Nat.le_of_ble_eq_true rfl)) d_M_apply_67 ⟨Nat.zero_le _, Nat.zero_le _⟩) hP hD hS hA [0, 1, 2] [] [0, 1, 2] rfl rfl (by decide) (by decide) rfl (by decide) (fun H locs hP hD hS => ?_)
    refine lv_goto hx hb d_M_apply_70 rfl ?_
    obtain rfl := Option.some.inj hr
    exact hQ _ _ _ _ d_M_apply_130 hP hD hS
  rw [if_neg hs1_2] at hr
  by_cases hs1_3 : a1 = (3 : Int32)
  · rw [if_pos hs1_3] at hr
    refine lv_tableIn hx hb d_M_apply_1 (by rw [hs1_3]; decide) (by rw [hs1_3]; decide) (by rw [hs1_3]; rfl) rfl ?_
    refine lv_aload_n hx hb d_M_apply_73 rfl (lv_at hl 0 rfl) ?_
    refine lv_iload_n hx hb d_M_apply_74 rfl (lv_at hl 2 rfl) ?_
    refine lv_iload_n hx hb d_M_apply_75 rfl (lv_at hl 3 rfl) ?_
    refine lv_iload hx hb d_M_apply_76 (lv_at hl 4 rfl) ?_
    refine lv_iconst (v := (1 : Int32)) hx hb d_M_apply_78 (by decide) ?_
    obtain ⟨r4, hr4, hr⟩ := ob hr
    refine z_cv (ws := (W_M kI kZ qM M_nc M_nf M_modulus M_side M_size M_cells M_fresh)) (wc := (W_M kI kZ qM M_nc M_nf M_modulus M_side M_size M_cells M_fresh)) (wr := ([] : va_W)) (w1 := (W_M kI kZ qM M_nc M_nf M_modulus M_side M_size r4 M_fresh)) (w2 := (W_M kI kZ qM M_nc M_nf M_modulus M_side M_size r4 M_fresh)) (va_runV (As := [.int a2, .int a3, .int a4, .int (1 : Int32)]) (rest := []) ⟨hx, hb, hml, hown, hts⟩ (c_M_combine l D kI kZ qM M_nc M_nf M_modulus M_side M_size M_cells M_fresh a2 a3 a4 (1 : Int32) r4 hr4 H.size) (z_cwV hts mw_M_combine kw_347 ⟨by rw [hR]; exact Nat.le_of_ble_eq_true rfl, by rw [hR]; exact Nat.le_of_ble_eq_true rfl⟩) (z_preV (ci := 2) hK hP hD hN rfl (he := (rfl : _[0]? = _)) [0, 1, 2] (by decide) rfl) rfl rfl hl.1 rfl (lv_room (Nat.le_of_ble_eq_true rfl)) d_M_apply_79 ⟨Nat.zero_le _, Nat.zero_le _⟩) hP hD hS hA [0, 1, 2] [] [0, 1, 2] rfl rfl (by decide) (by decide) rfl (by decide) (fun H locs hP hD hS => ?_)
    refine lv_goto hx hb d_M_apply_82 rfl ?_
    obtain rfl := Option.some.inj hr
    exact hQ _ _ _ _ d_M_apply_130 hP hD hS
  rw [if_neg hs1_3] at hr
  by_cases hs1_4 : a1 = (4 : Int32)
  · rw [if_pos hs1_4] at hr
    refine lv_tableIn hx hb d_M_apply_1 (by rw [hs1_4]; decide) (by rw [hs1_4]; decide) (by rw [hs1_4]; rfl) rfl ?_
    refine lv_aload_n hx hb d_M_apply_85 rfl (lv_at hl 0 rfl) ?_
    refine lv_iload_n hx hb d_M_apply_86 rfl (lv_at hl 2 rfl) ?_
    refine lv_iload_n hx hb d_M_apply_87 rfl (lv_at hl 3 rfl) ?_
    refine lv_iload hx hb d_M_apply_88 (lv_at hl 4 rfl) ?_
    refine lv_aload_n hx hb d_M_apply_90 rfl (lv_at hl 0 rfl) ?_
    refine va_get (D := D) (ci := 2) (v := .int M_modulus) (C := R_M) (T := T_M) (N := 5) hx hb hts in_M hown hK hP 0 rfl rfl 0 (by decide) (hts _ kw_25) (fun _ h9 => h9) rfl d_M_apply_91 ?_
    refine lv_iconst (v := (1 : Int32)) hx hb d_M_apply_94 (by decide) ?_
    refine lv_isub hx hb d_M_apply_95 ?_
    obtain ⟨r5, hr5, hr⟩ := ob hr
    refine z_cv (ws := (W_M kI kZ qM M_nc M_nf M_modulus M_side M_size M_cells M_fresh)) (wc := (W_M kI kZ qM M_nc M_nf M_modulus M_side M_size M_cells M_fresh)) (wr := ([] : va_W)) (w1 := (W_M kI kZ qM M_nc M_nf M_modulus M_side M_size r5 M_fresh)) (w2 := (W_M kI kZ qM M_nc M_nf M_modulus M_side M_size r5 M_fresh)) (va_runV (As := [.int a2, .int a3, .int a4, .int (M_modulus - (1 : Int32))]) (rest := []) ⟨hx, hb, hml, hown, hts⟩ (c_M_combine l D kI kZ qM M_nc M_nf M_modulus M_side M_size M_cells M_fresh a2 a3 a4 (M_modulus - (1 : Int32)) r5 hr5 H.size) (z_cwV hts mw_M_combine kw_347 ⟨by rw [hR]; exact Nat.le_of_ble_eq_true rfl, by rw [hR]; exact Nat.le_of_ble_eq_true rfl⟩) (z_preV (ci := 2) hK hP hD hN rfl (he := (rfl : _[0]? = _)) [0, 1, 2] (by decide) rfl) rfl rfl hl.1 rfl (lv_room (Nat.le_of_ble_eq_true rfl)) d_M_apply_96 ⟨Nat.zero_le _, Nat.zero_le _⟩) hP hD hS hA [0, 1, 2] [] [0, 1, 2] rfl rfl (by decide) (by decide) rfl (by decide) (fun H locs hP hD hS => ?_)
    refine lv_goto hx hb d_M_apply_99 rfl ?_
    obtain rfl := Option.some.inj hr
    exact hQ _ _ _ _ d_M_apply_130 hP hD hS
  rw [if_neg hs1_4] at hr
  by_cases hs1_5 : a1 = (5 : Int32)
  · rw [if_pos hs1_5] at hr
    refine lv_tableIn hx hb d_M_apply_1 (by rw [hs1_5]; decide) (by rw [hs1_5]; decide) (by rw [hs1_5]; rfl) rfl ?_
    refine lv_aload_n hx hb d_M_apply_102 rfl (lv_at hl 0 rfl) ?_
    refine lv_iload_n hx hb d_M_apply_103 rfl (lv_at hl 2 rfl) ?_
    refine lv_iload_n hx hb d_M_apply_104 rfl (lv_at hl 3 rfl) ?_
    refine lv_iload hx hb d_M_apply_105 (lv_at hl 4 rfl) ?_
    obtain ⟨r6, hr6, hr⟩ := ob hr
    refine z_cv (ws := (W_M kI kZ qM M_nc M_nf M_modulus M_side M_size M_cells M_fresh)) (wc := (W_M kI kZ qM M_nc M_nf M_modulus M_side M_size M_cells M_fresh)) (wr := ([] : va_W)) (w1 := (W_M kI kZ qM M_nc M_nf M_modulus M_side M_size r6.1 r6.2)) (w2 := (W_M kI kZ qM M_nc M_nf M_modulus M_side M_size r6.1 r6.2)) (va_runV (As := [.int a2, .int a3, .int a4]) (rest := []) ⟨hx, hb, hml, hown, hts⟩ (c_M_multiply l D kI kZ qM M_nc M_nf M_modulus M_side M_size M_cells M_fresh a2 a3 a4 r6 hr6 H.size) (z_cwV hts mw_M_multiply kw_351 ⟨by rw [hR]; exact Nat.le_of_ble_eq_true rfl, by rw [hR]; exact Nat.le_of_ble_eq_true rfl⟩) (z_preV (ci := 2) hK hP hD hN rfl (he := (rfl : _[0]? = _)) [0, 1, 2] (by decide) rfl) rfl rfl hl.1 rfl (lv_room (Nat.le_of_ble_eq_true rfl)) d_M_apply_107 ⟨Nat.zero_le _, Nat.zero_le _⟩) hP hD hS hA [0, 1, 2] [] [0, 1, 2] rfl rfl (by decide) (by decide) rfl (by decide) (fun H locs hP hD hS => ?_)
    refine lv_goto hx hb d_M_apply_110 rfl ?_
    obtain rfl := Option.some.inj hr
    exact hQ _ _ _ _ d_M_apply_130 hP hD hS
  rw [if_neg hs1_5] at hr
  by_cases hs1_6 : a1 = (6 : Int32)
  · rw [if_pos hs1_6] at hr
    refine lv_tableIn hx hb d_M_apply_1 (by rw [hs1_6]; decide) (by rw [hs1_6]; decide) (by rw [hs1_6]; rfl) rfl ?_
    refine lv_aload_n hx hb d_M_apply_113 rfl (lv_at hl 0 rfl) ?_
    refine lv_iload_n hx hb d_M_apply_114 rfl (lv_at hl 2 rfl) ?_
    refine lv_iload_n hx hb d_M_apply_115 rfl (lv_at hl 3 rfl) ?_
    obtain ⟨r7, hr7, hr⟩ := ob hr
    refine z_cv (ws := (W_M kI kZ qM M_nc M_nf M_modulus M_side M_size M_cells M_fresh)) (wc := (W_M kI kZ qM M_nc M_nf M_modulus M_side M_size M_cells M_fresh)) (wr := ([] : va_W)) (w1 := (W_M kI kZ qM M_nc M_nf M_modulus M_side M_size r7.1 r7.2)) (w2 := (W_M kI kZ qM M_nc M_nf M_modulus M_side M_size r7.1 r7.2)) (va_runV (As := [.int a2, .int a3]) (rest := []) ⟨hx, hb, hml, hown, hts⟩ (c_M_turn l D kI kZ qM M_nc M_nf M_modulus M_side M_size M_cells M_fresh a2 a3 r7 hr7 H.size) (z_cwV hts mw_M_turn kw_363 ⟨by rw [hR]; exact Nat.le_of_ble_eq_true rfl, by rw [hR]; exact Nat.le_of_ble_eq_true rfl⟩) (z_preV (ci := 2) hK hP hD hN rfl (he := (rfl : _[0]? = _)) [0, 1, 2] (by decide) rfl) rfl rfl hl.1 rfl (lv_room (Nat.le_of_ble_eq_true rfl)) d_M_apply_116 ⟨Nat.zero_le _, Nat.zero_le _⟩) hP hD hS hA [0, 1, 2] [] [0, 1, 2] rfl rfl (by decide) (by decide) rfl (by decide) (fun H locs hP hD hS => ?_)
    refine lv_goto hx hb d_M_apply_119 rfl ?_
    obtain rfl := Option.some.inj hr
    exact hQ _ _ _ _ d_M_apply_130 hP hD hS
  rw [if_neg hs1_6] at hr
  have hs1_0 := z_ne (k := 0) (by decide) hs1_0
  have hs1_1 := z_ne (k := 1) (by decide) hs1_1
  have hs1_2 := z_ne (k := 2) (by decide) hs1_2
  have hs1_3 := z_ne (k := 3) (by decide) hs1_3
  have hs1_4 := z_ne (k := 4) (by decide) hs1_4
  have hs1_5 := z_ne (k := 5) (by decide) hs1_5
  have hs1_6 := z_ne (k := 6) (by decide) hs1_6
  refine lv_tableOut hx hb d_M_apply_1 (by omega) rfl ?_
  refine lv_aload_n hx hb d_M_apply_122 rfl (lv_at hl 0 rfl) ?_
  refine lv_iload_n hx hb d_M_apply_123 rfl (lv_at hl 2 rfl) ?_
  refine lv_iload_n hx hb d_M_apply_124 rfl (lv_at hl 3 rfl) ?_
  refine lv_iload hx hb d_M_apply_125 (lv_at hl 4 rfl) ?_
  obtain ⟨r8, hr8, hr⟩ := ob hr
  refine z_cv (ws := (W_M kI kZ qM M_nc M_nf M_modulus M_side M_size M_cells M_fresh)) (wc := (W_M kI kZ qM M_nc M_nf M_modulus M_side M_size M_cells M_fresh)) (wr := ([] : va_W)) (w1 := (W_M kI kZ qM M_nc M_nf M_modulus M_side M_size r8 M_fresh)) (w2 := (W_M kI kZ qM M_nc M_nf M_modulus M_side M_size r8 M_fresh)) (va_runV (As := [.int a2, .int a3, .int a4]) (rest := []) ⟨hx, hb, hml, hown, hts⟩ (c_M_scale l D kI kZ qM M_nc M_nf M_modulus M_side M_size M_cells M_fresh a2 a3 a4 r8 hr8 H.size) (z_cwV hts mw_M_scale kw_367 ⟨by rw [hR]; exact Nat.le_of_ble_eq_true rfl, by rw [hR]; exact Nat.le_of_ble_eq_true rfl⟩) (z_preV (ci := 2) hK hP hD hN rfl (he := (rfl : _[0]? = _)) [0, 1, 2] (by decide) rfl) rfl rfl hl.1 rfl (lv_room (Nat.le_of_ble_eq_true rfl)) d_M_apply_127 ⟨Nat.zero_le _, Nat.zero_le _⟩) hP hD hS hA [0, 1, 2] [] [0, 1, 2] rfl rfl (by decide) (by decide) rfl (by decide) (fun H locs hP hD hS => ?_)
  obtain rfl := Option.some.inj hr
  exact hQ _ _ _ _ d_M_apply_130 hP hD hS
set_option maxHeartbeats 4000000 in
set_option maxRecDepth 100000 in
theorem c_X_isAllDone (l : Launch) (D : va_G) (kI kZ : ClassId) (qX qM qR qC qP qO qV : Nat → Nat) (M_nc M_nf : Nat) (X_instructionsDone X_isWorkedOut M_modulus M_side M_size : Int32) (M_cells M_fresh : Nat → Int32) (R_length : Int32) (R_words : Nat → Int32) (C_length : Int32) (C_instructions P_registers : Nat → Int32) (O_modulus : Int32) (O_valueOf O_isNeeded O_registerOf : Nat → Int32) (V_length : Int32) (V_instructions : Nat → Int32)  (res : Int32) (hr : f_X_isAllDone X_instructionsDone C_length = some res) : zMi l D kI kZ y_X_isAllDone prog_1_method_15_code 1 ((some .boolean)) 1 20 [.ref (qX 0)] (W_XMRCPOV kI kZ qX qM qR qC qP qO qV M_nc M_nf X_instructionsDone X_isWorkedOut M_modulus M_side M_size M_cells M_fresh R_length R_words C_length C_instructions P_registers O_modulus O_valueOf O_isNeeded O_registerOf V_length V_instructions) (W_XMRCPOV kI kZ qX qM qR qC qP qO qV M_nc M_nf X_instructionsDone X_isWorkedOut M_modulus M_side M_size M_cells M_fresh R_length R_words C_length C_instructions P_registers O_modulus O_valueOf O_isNeeded O_registerOf V_length V_instructions) res := by
  refine zMi.of (by decide +kernel) (Nat.le_of_ble_eq_true rfl) ?_
  intro p e R s m args below meth c Q A hR hx hb hml hts hown hA hK hN hQ
  have hown : s.vm.findClass "SquareCode" = some m.cls := hown
  intro ls H hl hP hD hS
  have hl : lv_has ls 1 [(0, .ref (qX 0))] := hl
  rw [f_X_isAllDone] at hr
  refine lv_aload_n hx hb d_X_isAllDone_0 rfl (lv_at hl 0 rfl) ?_
  refine va_get (D := D) (ci := 5) (v := .int X_instructionsDone) (C := R_X) (T := T_X) (N := 7) hx hb hts in_X hown hK hP 0 rfl rfl 5 (by decide) (hts _ kw_108) (fun _ h9 => h9) rfl d_X_isAllDone_1 ?_
  refine lv_aload_n hx hb d_X_isAllDone_4 rfl (lv_at hl 0 rfl) ?_
  refine va_get (D := D) (ci := 5) (v := .ref (qC 0)) (C := R_X) (T := T_X) (N := 7) hx hb hts in_X hown hK hP 0 rfl rfl 2 (by decide) (hts _ kw_105) (fun _ h9 => h9) rfl d_X_isAllDone_5 ?_
  obtain ⟨r1, hr1, hr⟩ := ob hr
  refine z_ci (ws := (W_XMRCPOV kI kZ qX qM qR qC qP qO qV M_nc M_nf X_instructionsDone X_isWorkedOut M_modulus M_side M_size M_cells M_fresh R_length R_words C_length C_instructions P_registers O_modulus O_valueOf O_isNeeded O_registerOf V_length V_instructions)) (wc := (W_C kI kZ qC C_length C_instructions)) (wr := (W_XMRPOV kI kZ qX qM qR qP qO qV qC M_nc M_nf X_instructionsDone X_isWorkedOut M_modulus M_side M_size M_cells M_fresh R_length R_words P_registers O_modulus O_valueOf O_isNeeded O_registerOf V_length V_instructions)) (w1 := (W_C kI kZ qC C_length C_instructions)) (w2 := (W_XMRCPOV kI kZ qX qM qR qC qP qO qV M_nc M_nf X_instructionsDone X_isWorkedOut M_modulus M_side M_size M_cells M_fresh R_length R_words C_length C_instructions P_registers O_modulus O_valueOf O_isNeeded O_registerOf V_length V_instructions)) (va_runV (As := []) (rest := [.int X_instructionsDone]) ⟨hx, hb, hml, hown, hts⟩ (c_C_length l D kI kZ qC C_length C_instructions r1 hr1 H.size) (z_cwV hts mw_C_length kw_137 ⟨by rw [hR]; exact Nat.le_of_ble_eq_true rfl, by rw [hR]; exact Nat.le_of_ble_eq_true rfl⟩) (z_preV (ci := 0) hK hP hD hN rfl (he := (rfl : _[6]? = _)) [6, 7] (by decide) rfl) rfl rfl hl.1 rfl (lv_room (Nat.le_of_ble_eq_true rfl)) d_X_isAllDone_8 ⟨Nat.zero_le _, Nat.zero_le _⟩) hP hD hS hA [6, 7] [0, 1, 2, 3, 4, 5, 8, 9, 10, 11, 12, 13, 14, 15] [0, 1, 2, 3, 4, 5, 14, 15, 6, 7, 8, 9, 10, 11, 12, 13] rfl rfl (by decide) (by decide) rfl (by decide) (fun H locs hP hD hS => ?_)
  refine lv_icmp_ne hx hb d_X_isAllDone_11 rfl (fun hc => ?_) (fun hc => ?_)
  · rw [if_neg hc] at hr
    refine lv_iconst (v := (0 : Int32)) hx hb d_X_isAllDone_18 (by decide) ?_
    obtain rfl := Option.some.inj hr
    exact hQ _ _ _ _ _ d_X_isAllDone_19 (by decide +kernel) rfl hP hD hS
  · rw [if_pos hc] at hr
    refine lv_iconst (v := (1 : Int32)) hx hb d_X_isAllDone_14 (by decide) ?_
    refine lv_goto hx hb d_X_isAllDone_15 rfl ?_
    obtain rfl := Option.some.inj hr
    exact hQ _ _ _ _ _ d_X_isAllDone_19 (by decide +kernel) rfl hP hD hS
set_option maxHeartbeats 4000000 in
set_option maxRecDepth 100000 in
theorem c_X_run (l : Launch) (D : va_G) (kI kZ : ClassId) (qX qM qR qC qP qO qV : Nat → Nat) (M_nc M_nf : Nat) (X_instructionsDone X_isWorkedOut M_modulus M_side M_size : Int32) (M_cells M_fresh : Nat → Int32) (R_length : Int32) (R_words : Nat → Int32) (C_length : Int32) (C_instructions P_registers : Nat → Int32) (O_modulus : Int32) (O_valueOf O_isNeeded O_registerOf : Nat → Int32) (V_length : Int32) (V_instructions : Nat → Int32) (a1 : Int32) (res : Int32 × Int32 × (Nat → Int32) × (Nat → Int32)) (hr : f_X_run M_nc M_nf X_instructionsDone M_modulus M_side M_size M_cells M_fresh C_instructions C_length a1 = some res) : zMi l D kI kZ y_X_run prog_1_method_6_code 5 ((some .int)) 4 132 [.ref (qX 0), .int a1] (W_XMRCPOV kI kZ qX qM qR qC qP qO qV M_nc M_nf X_instructionsDone X_isWorkedOut M_modulus M_side M_size M_cells M_fresh R_length R_words C_length C_instructions P_registers O_modulus O_valueOf O_isNeeded O_registerOf V_length V_instructions) (W_XMRCPOV kI kZ qX qM qR qC qP qO qV M_nc M_nf (res.2.1) X_isWorkedOut M_modulus M_side M_size (res.2.2.1) (res.2.2.2) R_length R_words C_length C_instructions P_registers O_modulus O_valueOf O_isNeeded O_registerOf V_length V_instructions) (res.1) := by
  refine zMi.of (by decide +kernel) (Nat.le_of_ble_eq_true rfl) ?_
  intro p e R s m args below meth c Q A hR hx hb hml hts hown hA hK hN hQ
  have hown : s.vm.findClass "SquareCode" = some m.cls := hown
  have hB33 : ∀ (v2 : Int32)   (fu : Nat) (v3 X_instructionsDone : Int32) (M_cells M_fresh : Nat → Int32) (H : Heap) (locs : List Loc) (ls : Array Slot), lv_has ls 5 [(0, .ref (qX 0)), (2, .int v2), (3, .int v3)] → va_P D zCl (W_XMRCPOV kI kZ qX qM qR qC qP qO qV M_nc M_nf X_instructionsDone X_isWorkedOut M_modulus M_side M_size M_cells M_fresh R_length R_words C_length C_instructions P_registers O_modulus O_valueOf O_isNeeded O_registerOf V_length V_instructions) H → va_D A (W_XMRCPOV kI kZ qX qM qR qC qP qO qV M_nc M_nf X_instructionsDone X_isWorkedOut M_modulus M_side M_size M_cells M_fresh R_length R_words C_length C_instructions P_registers O_modulus O_valueOf O_isNeeded O_registerOf V_length V_instructions) → va_S A s.heap H locs → f_X_run_33 M_nc M_nf M_modulus M_side M_size C_instructions C_length v2 fu v3 X_instructionsDone M_cells M_fresh = some res → W p l e R s m args below meth c H locs 0 0 Q (F0 m 33 ls []) := by
    intro v2 fu
    induction fu with
    | zero => intro v3 X_instructionsDone M_cells M_fresh H locs ls hl hP hD hS hr; exact absurd hr (by rw [f_X_run_33]; exact fun h => by cases h)
    | succ fu ih =>
      intro v3 X_instructionsDone M_cells M_fresh H locs ls hl hP hD hS hr
      rw [f_X_run_33] at hr
      refine lv_iload_n hx hb d_X_run_33 rfl (lv_at hl 2 rfl) ?_
      refine lv_iload_n hx hb d_X_run_34 rfl (lv_at hl 1 rfl) ?_
      refine lv_icmp_ge hx hb d_X_run_35 rfl (fun hc => ?_) (fun hc => ?_)
      · rw [if_pos hc] at hr
        refine lv_aload_n hx hb d_X_run_96 rfl (lv_at hl 0 rfl) ?_
        obtain ⟨r1, hr1, hr⟩ := ob hr
        refine z_ci (ws := (W_XMRCPOV kI kZ qX qM qR qC qP qO qV M_nc M_nf X_instructionsDone X_isWorkedOut M_modulus M_side M_size M_cells M_fresh R_length R_words C_length C_instructions P_registers O_modulus O_valueOf O_isNeeded O_registerOf V_length V_instructions)) (wc := (W_XMRCPOV kI kZ qX qM qR qC qP qO qV M_nc M_nf X_instructionsDone X_isWorkedOut M_modulus M_side M_size M_cells M_fresh R_length R_words C_length C_instructions P_registers O_modulus O_valueOf O_isNeeded O_registerOf V_length V_instructions)) (wr := ([] : va_W)) (w1 := (W_XMRCPOV kI kZ qX qM qR qC qP qO qV M_nc M_nf X_instructionsDone X_isWorkedOut M_modulus M_side M_size M_cells M_fresh R_length R_words C_length C_instructions P_registers O_modulus O_valueOf O_isNeeded O_registerOf V_length V_instructions)) (w2 := (W_XMRCPOV kI kZ qX qM qR qC qP qO qV M_nc M_nf X_instructionsDone X_isWorkedOut M_modulus M_side M_size M_cells M_fresh R_length R_words C_length C_instructions P_registers O_modulus O_valueOf O_isNeeded O_registerOf V_length V_instructions)) (va_runV (As := []) (rest := []) ⟨hx, hb, hml, hown, hts⟩ (c_X_isAllDone l D kI kZ qX qM qR qC qP qO qV M_nc M_nf X_instructionsDone X_isWorkedOut M_modulus M_side M_size M_cells M_fresh R_length R_words C_length C_instructions P_registers O_modulus O_valueOf O_isNeeded O_registerOf V_length V_instructions r1 hr1 H.size) (z_cwV hts mw_X_isAllDone kw_371 ⟨by rw [hR]; exact Nat.le_of_ble_eq_true rfl, by rw [hR]; exact Nat.le_of_ble_eq_true rfl⟩) (z_preV (ci := 5) hK hP hD hN rfl (he := (rfl : _[0]? = _)) [0, 1, 2, 3, 4, 5, 6, 7, 8, 9, 10, 11, 12, 13, 14, 15] (by decide) rfl) rfl rfl hl.1 rfl (lv_room (Nat.le_of_ble_eq_true rfl)) d_X_run_97 ⟨Nat.zero_le _, Nat.zero_le _⟩) hP hD hS hA [0, 1, 2, 3, 4, 5, 6, 7, 8, 9, 10, 11, 12, 13, 14, 15] [] [0, 1, 2, 3, 4, 5, 6, 7, 8, 9, 10, 11, 12, 13, 14, 15] rfl rfl (by decide) (by decide) rfl (by decide) (fun H locs hP hD hS => ?_)
        refine lv_if_eq hx hb d_X_run_100 rfl (fun hc => ?_) (fun hc => ?_)
        · rw [if_pos hc] at hr
          refine lv_bipush (v := (8 : Int32)) hx hb d_X_run_107 (by decide) ?_
          obtain rfl := Option.some.inj hr
          exact hQ _ _ _ _ _ d_X_run_109 rfl rfl hP hD hS
        · rw [if_neg hc] at hr
          refine lv_iconst (v := (0 : Int32)) hx hb d_X_run_103 (by decide) ?_
          refine lv_goto hx hb d_X_run_104 rfl ?_
          obtain rfl := Option.some.inj hr
          exact hQ _ _ _ _ _ d_X_run_109 rfl rfl hP hD hS
      · rw [if_neg hc] at hr
        refine lv_aload_n hx hb d_X_run_38 rfl (lv_at hl 0 rfl) ?_
        refine va_get (D := D) (ci := 5) (v := .int X_instructionsDone) (C := R_X) (T := T_X) (N := 7) hx hb hts in_X hown hK hP 0 rfl rfl 5 (by decide) (hts _ kw_108) (fun _ h9 => h9) rfl d_X_run_39 ?_
        refine lv_istore (lv' := [(4, .int X_instructionsDone), (0, .ref (qX 0)), (2, .int v2), (3, .int v3)]) hx hb d_X_run_42 hl (by decide) rfl (fun ls hl => ?_)
        refine lv_aload_n hx hb d_X_run_44 rfl (lv_at hl 1 rfl) ?_
        refine va_get (D := D) (ci := 5) (v := .ref (qM 0)) (C := R_X) (T := T_X) (N := 7) hx hb hts in_X hown hK hP 0 rfl rfl 0 (by decide) (hts _ kw_103) (fun _ h9 => h9) rfl d_X_run_45 ?_
        refine lv_aload_n hx hb d_X_run_48 rfl (lv_at hl 1 rfl) ?_
        refine va_get (D := D) (ci := 5) (v := .ref (qC 0)) (C := R_X) (T := T_X) (N := 7) hx hb hts in_X hown hK hP 0 rfl rfl 2 (by decide) (hts _ kw_105) (fun _ h9 => h9) rfl d_X_run_49 ?_
        refine lv_iload hx hb d_X_run_52 (lv_at hl 0 rfl) ?_
        obtain ⟨r2, hr2, hr⟩ := ob hr
        refine z_ci (ws := (W_XMRCPOV kI kZ qX qM qR qC qP qO qV M_nc M_nf X_instructionsDone X_isWorkedOut M_modulus M_side M_size M_cells M_fresh R_length R_words C_length C_instructions P_registers O_modulus O_valueOf O_isNeeded O_registerOf V_length V_instructions)) (wc := (W_C kI kZ qC C_length C_instructions)) (wr := (W_XMRPOV kI kZ qX qM qR qP qO qV qC M_nc M_nf X_instructionsDone X_isWorkedOut M_modulus M_side M_size M_cells M_fresh R_length R_words P_registers O_modulus O_valueOf O_isNeeded O_registerOf V_length V_instructions)) (w1 := (W_C kI kZ qC C_length C_instructions)) (w2 := (W_XMRCPOV kI kZ qX qM qR qC qP qO qV M_nc M_nf X_instructionsDone X_isWorkedOut M_modulus M_side M_size M_cells M_fresh R_length R_words C_length C_instructions P_registers O_modulus O_valueOf O_isNeeded O_registerOf V_length V_instructions)) (va_runV (As := [.int X_instructionsDone]) (rest := [.ref (qM 0)]) ⟨hx, hb, hml, hown, hts⟩ (c_C_operation l D kI kZ qC C_length C_instructions X_instructionsDone r2 hr2 H.size) (z_cwV hts mw_C_operation kw_324 ⟨by rw [hR]; exact Nat.le_of_ble_eq_true rfl, by rw [hR]; exact Nat.le_of_ble_eq_true rfl⟩) (z_preV (ci := 0) hK hP hD hN rfl (he := (rfl : _[6]? = _)) [6, 7] (by decide) rfl) rfl rfl hl.1 rfl (lv_room (Nat.le_of_ble_eq_true rfl)) d_X_run_54 ⟨Nat.zero_le _, Nat.zero_le _⟩) hP hD hS hA [6, 7] [0, 1, 2, 3, 4, 5, 8, 9, 10, 11, 12, 13, 14, 15] [0, 1, 2, 3, 4, 5, 14, 15, 6, 7, 8, 9, 10, 11, 12, 13] rfl rfl (by decide) (by decide) rfl (by decide) (fun H locs hP hD hS => ?_)
        refine lv_iload hx hb d_X_run_57 (lv_at hl 0 rfl) ?_
        refine lv_aload_n hx hb d_X_run_59 rfl (lv_at hl 1 rfl) ?_
        refine va_get (D := D) (ci := 5) (v := .ref (qC 0)) (C := R_X) (T := T_X) (N := 7) hx hb hts in_X hown hK hP 0 rfl rfl 2 (by decide) (hts _ kw_105) (fun _ h9 => h9) rfl d_X_run_60 ?_
        refine lv_iload hx hb d_X_run_63 (lv_at hl 0 rfl) ?_
        obtain ⟨r3, hr3, hr⟩ := ob hr
        refine z_ci (ws := (W_XMRCPOV kI kZ qX qM qR qC qP qO qV M_nc M_nf X_instructionsDone X_isWorkedOut M_modulus M_side M_size M_cells M_fresh R_length R_words C_length C_instructions P_registers O_modulus O_valueOf O_isNeeded O_registerOf V_length V_instructions)) (wc := (W_C kI kZ qC C_length C_instructions)) (wr := (W_XMRPOV kI kZ qX qM qR qP qO qV qC M_nc M_nf X_instructionsDone X_isWorkedOut M_modulus M_side M_size M_cells M_fresh R_length R_words P_registers O_modulus O_valueOf O_isNeeded O_registerOf V_length V_instructions)) (w1 := (W_C kI kZ qC C_length C_instructions)) (w2 := (W_XMRCPOV kI kZ qX qM qR qC qP qO qV M_nc M_nf X_instructionsDone X_isWorkedOut M_modulus M_side M_size M_cells M_fresh R_length R_words C_length C_instructions P_registers O_modulus O_valueOf O_isNeeded O_registerOf V_length V_instructions)) (va_runV (As := [.int X_instructionsDone]) (rest := [.int X_instructionsDone, .int r2, .ref (qM 0)]) ⟨hx, hb, hml, hown, hts⟩ (c_C_first l D kI kZ qC C_length C_instructions X_instructionsDone r3 hr3 H.size) (z_cwV hts mw_C_first kw_325 ⟨by rw [hR]; exact Nat.le_of_ble_eq_true rfl, by rw [hR]; exact Nat.le_of_ble_eq_true rfl⟩) (z_preV (ci := 0) hK hP hD hN rfl (he := (rfl : _[6]? = _)) [6, 7] (by decide) rfl) rfl rfl hl.1 rfl (lv_room (Nat.le_of_ble_eq_true rfl)) d_X_run_65 ⟨Nat.zero_le _, Nat.zero_le _⟩) hP hD hS hA [6, 7] [0, 1, 2, 3, 4, 5, 8, 9, 10, 11, 12, 13, 14, 15] [0, 1, 2, 3, 4, 5, 14, 15, 6, 7, 8, 9, 10, 11, 12, 13] rfl rfl (by decide) (by decide) rfl (by decide) (fun H locs hP hD hS => ?_)
        refine lv_aload_n hx hb d_X_run_68 rfl (lv_at hl 1 rfl) ?_
        refine va_get (D := D) (ci := 5) (v := .ref (qC 0)) (C := R_X) (T := T_X) (N := 7) hx hb hts in_X hown hK hP 0 rfl rfl 2 (by decide) (hts _ kw_105) (fun _ h9 => h9) rfl d_X_run_69 ?_
        refine lv_iload hx hb d_X_run_72 (lv_at hl 0 rfl) ?_
        obtain ⟨r4, hr4, hr⟩ := ob hr
        refine z_ci (ws := (W_XMRCPOV kI kZ qX qM qR qC qP qO qV M_nc M_nf X_instructionsDone X_isWorkedOut M_modulus M_side M_size M_cells M_fresh R_length R_words C_length C_instructions P_registers O_modulus O_valueOf O_isNeeded O_registerOf V_length V_instructions)) (wc := (W_C kI kZ qC C_length C_instructions)) (wr := (W_XMRPOV kI kZ qX qM qR qP qO qV qC M_nc M_nf X_instructionsDone X_isWorkedOut M_modulus M_side M_size M_cells M_fresh R_length R_words P_registers O_modulus O_valueOf O_isNeeded O_registerOf V_length V_instructions)) (w1 := (W_C kI kZ qC C_length C_instructions)) (w2 := (W_XMRCPOV kI kZ qX qM qR qC qP qO qV M_nc M_nf X_instructionsDone X_isWorkedOut M_modulus M_side M_size M_cells M_fresh R_length R_words C_length C_instructions P_registers O_modulus O_valueOf O_isNeeded O_registerOf V_length V_instructions)) (va_runV (As := [.int X_instructionsDone]) (rest := [.int r3, .int X_instructionsDone, .int r2, .ref (qM 0)]) ⟨hx, hb, hml, hown, hts⟩ (c_C_second l D kI kZ qC C_length C_instructions X_instructionsDone r4 hr4 H.size) (z_cwV hts mw_C_second kw_326 ⟨by rw [hR]; exact Nat.le_of_ble_eq_true rfl, by rw [hR]; exact Nat.le_of_ble_eq_true rfl⟩) (z_preV (ci := 0) hK hP hD hN rfl (he := (rfl : _[6]? = _)) [6, 7] (by decide) rfl) rfl rfl hl.1 rfl (lv_room (Nat.le_of_ble_eq_true rfl)) d_X_run_74 ⟨Nat.zero_le _, Nat.zero_le _⟩) hP hD hS hA [6, 7] [0, 1, 2, 3, 4, 5, 8, 9, 10, 11, 12, 13, 14, 15] [0, 1, 2, 3, 4, 5, 14, 15, 6, 7, 8, 9, 10, 11, 12, 13] rfl rfl (by decide) (by decide) rfl (by decide) (fun H locs hP hD hS => ?_)
        obtain ⟨r5, hr5, hr⟩ := ob hr
        refine z_cv (ws := (W_XMRCPOV kI kZ qX qM qR qC qP qO qV M_nc M_nf X_instructionsDone X_isWorkedOut M_modulus M_side M_size M_cells M_fresh R_length R_words C_length C_instructions P_registers O_modulus O_valueOf O_isNeeded O_registerOf V_length V_instructions)) (wc := (W_M kI kZ qM M_nc M_nf M_modulus M_side M_size M_cells M_fresh)) (wr := (W_XRCPOV kI kZ qX qR qC qP qO qV qM X_instructionsDone X_isWorkedOut R_length R_words C_length C_instructions P_registers O_modulus O_valueOf O_isNeeded O_registerOf V_length V_instructions)) (w1 := (W_M kI kZ qM M_nc M_nf M_modulus M_side M_size r5.1 r5.2)) (w2 := (W_XMRCPOV kI kZ qX qM qR qC qP qO qV M_nc M_nf X_instructionsDone X_isWorkedOut M_modulus M_side M_size r5.1 r5.2 R_length R_words C_length C_instructions P_registers O_modulus O_valueOf O_isNeeded O_registerOf V_length V_instructions)) (va_runV (As := [.int r2, .int X_instructionsDone, .int r3, .int r4]) (rest := []) ⟨hx, hb, hml, hown, hts⟩ (c_M_apply l D kI kZ qM M_nc M_nf M_modulus M_side M_size M_cells M_fresh r2 X_instructionsDone r3 r4 r5 hr5 H.size) (z_cwV hts mw_M_apply kw_327 ⟨by rw [hR]; exact Nat.le_of_ble_eq_true rfl, by rw [hR]; exact Nat.le_of_ble_eq_true rfl⟩) (z_preV (ci := 2) hK hP hD hN rfl (he := (rfl : _[1]? = _)) [1, 2, 3] (by decide) rfl) rfl rfl hl.1 rfl (lv_room (Nat.le_of_ble_eq_true rfl)) d_X_run_77 ⟨Nat.zero_le _, Nat.zero_le _⟩) hP hD hS hA [1, 2, 3] [0, 4, 5, 6, 7, 8, 9, 10, 11, 12, 13, 14, 15] [0, 13, 14, 15, 1, 2, 3, 4, 5, 6, 7, 8, 9, 10, 11, 12] rfl rfl (by decide) (by decide) rfl (by decide) (fun H locs hP hD hS => ?_)
        refine lv_aload_n hx hb d_X_run_80 rfl (lv_at hl 1 rfl) ?_
        refine lv_dup hx hb d_X_run_81 rfl ?_
        refine va_get (D := D) (ci := 5) (v := .int X_instructionsDone) (C := R_X) (T := T_X) (N := 7) hx hb hts in_X hown hK hP 0 rfl rfl 5 (by decide) (hts _ kw_108) (fun _ h9 => h9) rfl d_X_run_82 ?_
        refine lv_iconst (v := (1 : Int32)) hx hb d_X_run_85 (by decide) ?_
        refine lv_iadd hx hb d_X_run_86 ?_
        refine va_put (D := D) (ci := 5) (v := .int (X_instructionsDone + (1 : Int32))) (ty := .int) (C := R_X) (T := T_X) (N := 7) hx hb hts in_X ty_X tyo_X nm_X hown hK hP hD hS 0 rfl rfl 5 (by decide) (hts _ kw_108) (fun _ h9 => h9) rfl (by decide +kernel) rfl rfl (Nat.le_of_ble_eq_true rfl) d_X_run_87 (fun H locs hP hD hS => ?_)
        have hP : va_P D zCl (W_XMRCPOV kI kZ qX qM qR qC qP qO qV M_nc M_nf (X_instructionsDone + (1 : Int32)) X_isWorkedOut M_modulus M_side M_size r5.1 r5.2 R_length R_words C_length C_instructions P_registers O_modulus O_valueOf O_isNeeded O_registerOf V_length V_instructions) H := hP
        have hD : va_D A (W_XMRCPOV kI kZ qX qM qR qC qP qO qV M_nc M_nf (X_instructionsDone + (1 : Int32)) X_isWorkedOut M_modulus M_side M_size r5.1 r5.2 R_length R_words C_length C_instructions P_registers O_modulus O_valueOf O_isNeeded O_registerOf V_length V_instructions) := hD
        refine lv_iinc (k := 3) (v := (v3 + (1 : Int32))) (lv' := [(3, .int (v3 + (1 : Int32))), (4, .int X_instructionsDone), (0, .ref (qX 0)), (2, .int v2)]) hx hb d_X_run_90 hl rfl (congrArg (fun z => v3 + z) (by decide : Int32.ofInt 1 = (1 : Int32))) (by decide) rfl (fun ls hl => ?_)
        refine lv_goto hx hb d_X_run_93 rfl ?_
        exact ih (v3 + (1 : Int32)) (X_instructionsDone + (1 : Int32)) r5.1 r5.2 _ _ _ (lv_sub hl [2, 3, 0] rfl) hP hD hS hr
  intro ls H hl hP hD hS
  have hl : lv_has ls 5 [(0, .ref (qX 0)), (1, .int a1)] := hl
  rw [f_X_run] at hr
  refine lv_aload_n hx hb d_X_run_0 rfl (lv_at hl 0 rfl) ?_
  obtain ⟨r6, hr6, hr⟩ := ob hr
  refine z_ci (ws := (W_XMRCPOV kI kZ qX qM qR qC qP qO qV M_nc M_nf X_instructionsDone X_isWorkedOut M_modulus M_side M_size M_cells M_fresh R_length R_words C_length C_instructions P_registers O_modulus O_valueOf O_isNeeded O_registerOf V_length V_instructions)) (wc := (W_XMRCPOV kI kZ qX qM qR qC qP qO qV M_nc M_nf X_instructionsDone X_isWorkedOut M_modulus M_side M_size M_cells M_fresh R_length R_words C_length C_instructions P_registers O_modulus O_valueOf O_isNeeded O_registerOf V_length V_instructions)) (wr := ([] : va_W)) (w1 := (W_XMRCPOV kI kZ qX qM qR qC qP qO qV M_nc M_nf X_instructionsDone X_isWorkedOut M_modulus M_side M_size M_cells M_fresh R_length R_words C_length C_instructions P_registers O_modulus O_valueOf O_isNeeded O_registerOf V_length V_instructions)) (w2 := (W_XMRCPOV kI kZ qX qM qR qC qP qO qV M_nc M_nf X_instructionsDone X_isWorkedOut M_modulus M_side M_size M_cells M_fresh R_length R_words C_length C_instructions P_registers O_modulus O_valueOf O_isNeeded O_registerOf V_length V_instructions)) (va_runV (As := []) (rest := []) ⟨hx, hb, hml, hown, hts⟩ (c_X_hasCode l D kI kZ qX qM qR qC qP qO qV M_nc M_nf X_instructionsDone X_isWorkedOut M_modulus M_side M_size M_cells M_fresh R_length R_words C_length C_instructions P_registers O_modulus O_valueOf O_isNeeded O_registerOf V_length V_instructions r6 hr6 H.size) (z_cwV hts mw_X_hasCode kw_133 ⟨by rw [hR]; exact Nat.le_of_ble_eq_true rfl, by rw [hR]; exact Nat.le_of_ble_eq_true rfl⟩) (z_preV (ci := 5) hK hP hD hN rfl (he := (rfl : _[0]? = _)) [0, 1, 2, 3, 4, 5, 6, 7, 8, 9, 10, 11, 12, 13, 14, 15] (by decide) rfl) rfl rfl hl.1 rfl (lv_room (Nat.le_of_ble_eq_true rfl)) d_X_run_1 ⟨Nat.zero_le _, Nat.zero_le _⟩) hP hD hS hA [0, 1, 2, 3, 4, 5, 6, 7, 8, 9, 10, 11, 12, 13, 14, 15] [] [0, 1, 2, 3, 4, 5, 6, 7, 8, 9, 10, 11, 12, 13, 14, 15] rfl rfl (by decide) (by decide) rfl (by decide) (fun H locs hP hD hS => ?_)
  refine lv_if_ne hx hb d_X_run_4 rfl (fun hc => ?_) (fun hc => ?_)
  · rw [if_neg hc] at hr
    refine lv_iload_n hx hb d_X_run_10 rfl (lv_at hl 1 rfl) ?_
    refine lv_iconst (v := (0 : Int32)) hx hb d_X_run_11 (by decide) ?_
    refine z_max hx hb (hml.trans hl.1.symm) hown (hts _ kw_322) (hts _ kw_273) (hts _ kw_8) (hts _ kw_274) (by rw [hR]; exact Nat.le_of_ble_eq_true rfl) (by rw [hR]; exact Nat.le_of_ble_eq_true rfl) (Nat.zero_le _) (Nat.zero_le _) d_X_run_12 ?_
    refine lv_aload_n hx hb d_X_run_15 rfl (lv_at hl 0 rfl) ?_
    refine va_get (D := D) (ci := 5) (v := .ref (qC 0)) (C := R_X) (T := T_X) (N := 7) hx hb hts in_X hown hK hP 0 rfl rfl 2 (by decide) (hts _ kw_105) (fun _ h9 => h9) rfl d_X_run_16 ?_
    obtain ⟨r7, hr7, hr⟩ := ob hr
    refine z_ci (ws := (W_XMRCPOV kI kZ qX qM qR qC qP qO qV M_nc M_nf X_instructionsDone X_isWorkedOut M_modulus M_side M_size M_cells M_fresh R_length R_words C_length C_instructions P_registers O_modulus O_valueOf O_isNeeded O_registerOf V_length V_instructions)) (wc := (W_C kI kZ qC C_length C_instructions)) (wr := (W_XMRPOV kI kZ qX qM qR qP qO qV qC M_nc M_nf X_instructionsDone X_isWorkedOut M_modulus M_side M_size M_cells M_fresh R_length R_words P_registers O_modulus O_valueOf O_isNeeded O_registerOf V_length V_instructions)) (w1 := (W_C kI kZ qC C_length C_instructions)) (w2 := (W_XMRCPOV kI kZ qX qM qR qC qP qO qV M_nc M_nf X_instructionsDone X_isWorkedOut M_modulus M_side M_size M_cells M_fresh R_length R_words C_length C_instructions P_registers O_modulus O_valueOf O_isNeeded O_registerOf V_length V_instructions)) (va_runV (As := []) (rest := [.int (zmax a1 (0 : Int32))]) ⟨hx, hb, hml, hown, hts⟩ (c_C_length l D kI kZ qC C_length C_instructions r7 hr7 H.size) (z_cwV hts mw_C_length kw_137 ⟨by rw [hR]; exact Nat.le_of_ble_eq_true rfl, by rw [hR]; exact Nat.le_of_ble_eq_true rfl⟩) (z_preV (ci := 0) hK hP hD hN rfl (he := (rfl : _[6]? = _)) [6, 7] (by decide) rfl) rfl rfl hl.1 rfl (lv_room (Nat.le_of_ble_eq_true rfl)) d_X_run_19 ⟨Nat.zero_le _, Nat.zero_le _⟩) hP hD hS hA [6, 7] [0, 1, 2, 3, 4, 5, 8, 9, 10, 11, 12, 13, 14, 15] [0, 1, 2, 3, 4, 5, 14, 15, 6, 7, 8, 9, 10, 11, 12, 13] rfl rfl (by decide) (by decide) rfl (by decide) (fun H locs hP hD hS => ?_)
    refine lv_aload_n hx hb d_X_run_22 rfl (lv_at hl 0 rfl) ?_
    refine va_get (D := D) (ci := 5) (v := .int X_instructionsDone) (C := R_X) (T := T_X) (N := 7) hx hb hts in_X hown hK hP 0 rfl rfl 5 (by decide) (hts _ kw_108) (fun _ h9 => h9) rfl d_X_run_23 ?_
    refine lv_isub hx hb d_X_run_26 ?_
    refine z_min hx hb (hml.trans hl.1.symm) hown (hts _ kw_323) (hts _ kw_270) (hts _ kw_8) (hts _ kw_271) (by rw [hR]; exact Nat.le_of_ble_eq_true rfl) (by rw [hR]; exact Nat.le_of_ble_eq_true rfl) (Nat.zero_le _) (Nat.zero_le _) d_X_run_27 ?_
    obtain ⟨v2_8, ev2_8, hr⟩ := nm_some hr
    refine z_top ev2_8 ?_
    refine lv_istore_n (lv' := [(2, .int v2_8), (0, .ref (qX 0)), (1, .int a1)]) hx hb d_X_run_30 rfl hl (by decide) rfl (fun ls hl => ?_)
    refine lv_iconst (v := (0 : Int32)) hx hb d_X_run_31 (by decide) ?_
    refine lv_istore_n (lv' := [(3, .int (0 : Int32)), (2, .int v2_8), (0, .ref (qX 0)), (1, .int a1)]) hx hb d_X_run_32 rfl hl (by decide) rfl (fun ls hl => ?_)
    exact hB33 v2_8 zFU (0 : Int32) X_instructionsDone M_cells M_fresh _ _ _ (lv_sub hl [2, 1, 0] rfl) hP hD hS hr
  · rw [if_pos hc] at hr
    refine lv_bipush (v := (7 : Int32)) hx hb d_X_run_7 (by decide) ?_
    obtain rfl := Option.some.inj hr
    exact hQ _ _ _ _ _ d_X_run_9 rfl rfl hP hD hS
set_option maxHeartbeats 4000000 in
set_option maxRecDepth 100000 in
theorem c_M_raise (l : Launch) (D : va_G) (kI kZ : ClassId) (qM : Nat → Nat) (M_nc M_nf : Nat) (M_modulus M_side M_size : Int32) (M_cells M_fresh : Nat → Int32) (a1 a2 : Int32) (res : (Nat → Int32) × (Nat → Int32)) (hr : f_M_raise M_nc M_nf M_modulus M_side M_size M_cells M_fresh a1 a2 = some res) : zMv l D kI kZ y_M_raise prog_4_method_14_code 4 none 3 108 [.ref (qM 0), .int a1, .int a2] (W_M kI kZ qM M_nc M_nf M_modulus M_side M_size M_cells M_fresh) (W_M kI kZ qM M_nc M_nf M_modulus M_side M_size (res.1) (res.2)) := by
  refine zMv.of (by decide +kernel) (Nat.le_of_ble_eq_true rfl) ?_
  intro p e R s m args below meth c Q A hR hx hb hml hts hown hA hK hN hQ
  have hown : s.vm.findClass "SquareCode$Matrices" = some m.cls := hown
  have hB24 : ∀ (fu : Nat) (v3 : Int32) (M_cells M_fresh : Nat → Int32) (H : Heap) (locs : List Loc) (ls : Array Slot), lv_has ls 4 [(0, .ref (qM 0)), (1, .int a1), (2, .int a2), (3, .int v3)] → va_P D zCl (W_M kI kZ qM M_nc M_nf M_modulus M_side M_size M_cells M_fresh) H → va_D A (W_M kI kZ qM M_nc M_nf M_modulus M_side M_size M_cells M_fresh) → va_S A s.heap H locs → f_M_raise_24 M_nc M_nf M_modulus M_side M_size a1 a2 fu v3 M_cells M_fresh = some res → W p l e R s m args below meth c H locs 0 0 Q (F0 m 24 ls []) := by
    intro  fu
    induction fu with
    | zero => intro v3 M_cells M_fresh H locs ls hl hP hD hS hr; exact absurd hr (by rw [f_M_raise_24]; exact fun h => by cases h)
    | succ fu ih =>
      intro v3 M_cells M_fresh H locs ls hl hP hD hS hr
      rw [f_M_raise_24] at hr
      refine lv_iload_n hx hb d_M_raise_24 rfl (lv_at hl 3 rfl) ?_
      refine lv_if_lt hx hb d_M_raise_25 rfl (fun hc => ?_) (fun hc => ?_)
      · rw [if_pos hc] at hr
        obtain rfl := Option.some.inj hr
        exact hQ _ _ _ _ d_M_raise_57 hP hD hS
      · rw [if_neg hc] at hr
        refine lv_aload_n hx hb d_M_raise_28 rfl (lv_at hl 0 rfl) ?_
        refine lv_iload_n hx hb d_M_raise_29 rfl (lv_at hl 1 rfl) ?_
        refine lv_iload_n hx hb d_M_raise_30 rfl (lv_at hl 1 rfl) ?_
        refine lv_iload_n hx hb d_M_raise_31 rfl (lv_at hl 1 rfl) ?_
        obtain ⟨r1, hr1, hr⟩ := ob hr
        refine z_cv (ws := (W_M kI kZ qM M_nc M_nf M_modulus M_side M_size M_cells M_fresh)) (wc := (W_M kI kZ qM M_nc M_nf M_modulus M_side M_size M_cells M_fresh)) (wr := ([] : va_W)) (w1 := (W_M kI kZ qM M_nc M_nf M_modulus M_side M_size r1.1 r1.2)) (w2 := (W_M kI kZ qM M_nc M_nf M_modulus M_side M_size r1.1 r1.2)) (va_runV (As := [.int a1, .int a1, .int a1]) (rest := []) ⟨hx, hb, hml, hown, hts⟩ (c_M_multiply l D kI kZ qM M_nc M_nf M_modulus M_side M_size M_cells M_fresh a1 a1 a1 r1 hr1 H.size) (z_cwV hts mw_M_multiply kw_351 ⟨by rw [hR]; exact Nat.le_of_ble_eq_true rfl, by rw [hR]; exact Nat.le_of_ble_eq_true rfl⟩) (z_preV (ci := 2) hK hP hD hN rfl (he := (rfl : _[0]? = _)) [0, 1, 2] (by decide) rfl) rfl rfl hl.1 rfl (lv_room (Nat.le_of_ble_eq_true rfl)) d_M_raise_32 ⟨Nat.zero_le _, Nat.zero_le _⟩) hP hD hS hA [0, 1, 2] [] [0, 1, 2] rfl rfl (by decide) (by decide) rfl (by decide) (fun H locs hP hD hS => ?_)
        refine lv_iload_n hx hb d_M_raise_35 rfl (lv_at hl 2 rfl) ?_
        refine lv_iload_n hx hb d_M_raise_36 rfl (lv_at hl 3 rfl) ?_
        obtain ⟨r2, hr2, hr⟩ := ob hr
        refine z_ci (ws := (W_M kI kZ qM M_nc M_nf M_modulus M_side M_size r1.1 r1.2)) (wc := ([] : va_W)) (wr := (W_M kI kZ qM M_nc M_nf M_modulus M_side M_size r1.1 r1.2)) (w1 := ([] : va_W)) (w2 := (W_M kI kZ qM M_nc M_nf M_modulus M_side M_size r1.1 r1.2)) (va_runSN (As := [.int a2, .int v3]) (rest := []) ⟨hx, hb, hml, hown, hts⟩ (c_X_isDigitOne l D kI kZ a2 v3 r2 hr2 H.size) (z_cwN hts mw_X_isDigitOne (zNestOf 7 hN rfl) ⟨by rw [hR]; exact Nat.le_of_ble_eq_true rfl, by rw [hR]; exact Nat.le_of_ble_eq_true rfl⟩) (z_pre hK hP hD hN [] (by decide) rfl) rfl rfl hl.1 rfl (lv_room (Nat.le_of_ble_eq_true rfl)) d_M_raise_37 ⟨Nat.zero_le _, Nat.zero_le _⟩) hP hD hS hA [] [0, 1, 2] [0, 1, 2] rfl rfl (by decide) (by decide) rfl (by decide) (fun H locs hP hD hS => ?_)
        refine lv_if_eq hx hb d_M_raise_40 rfl (fun hc => ?_) (fun hc => ?_)
        · rw [if_pos hc] at hr
          refine lv_iinc (k := 3) (v := (v3 + (-1 : Int32))) (lv' := [(3, .int (v3 + (-1 : Int32))), (0, .ref (qM 0)), (1, .int a1), (2, .int a2)]) hx hb d_M_raise_51 hl rfl (congrArg (fun z => v3 + z) (by decide : Int32.ofInt (-1) = (-1 : Int32))) (by decide) rfl (fun ls hl => ?_)
          refine lv_goto hx hb d_M_raise_54 rfl ?_
          exact ih (v3 + (-1 : Int32)) r1.1 r1.2 _ _ _ (lv_sub hl [1, 2, 3, 0] rfl) hP hD hS hr
        · rw [if_neg hc] at hr
          refine lv_aload_n hx hb d_M_raise_43 rfl (lv_at hl 0 rfl) ?_
          refine lv_iload_n hx hb d_M_raise_44 rfl (lv_at hl 1 rfl) ?_
          refine lv_iload_n hx hb d_M_raise_45 rfl (lv_at hl 1 rfl) ?_
          refine lv_bipush (v := (68 : Int32)) hx hb d_M_raise_46 (by decide) ?_
          obtain ⟨r3, hr3, hr⟩ := ob hr
          refine z_cv (ws := (W_M kI kZ qM M_nc M_nf M_modulus M_side M_size r1.1 r1.2)) (wc := (W_M kI kZ qM M_nc M_nf M_modulus M_side M_size r1.1 r1.2)) (wr := ([] : va_W)) (w1 := (W_M kI kZ qM M_nc M_nf M_modulus M_side M_size r3.1 r3.2)) (w2 := (W_M kI kZ qM M_nc M_nf M_modulus M_side M_size r3.1 r3.2)) (va_runV (As := [.int a1, .int a1, .int (68 : Int32)]) (rest := []) ⟨hx, hb, hml, hown, hts⟩ (c_M_multiply l D kI kZ qM M_nc M_nf M_modulus M_side M_size r1.1 r1.2 a1 a1 (68 : Int32) r3 hr3 H.size) (z_cwV hts mw_M_multiply kw_351 ⟨by rw [hR]; exact Nat.le_of_ble_eq_true rfl, by rw [hR]; exact Nat.le_of_ble_eq_true rfl⟩) (z_preV (ci := 2) hK hP hD hN rfl (he := (rfl : _[0]? = _)) [0, 1, 2] (by decide) rfl) rfl rfl hl.1 rfl (lv_room (Nat.le_of_ble_eq_true rfl)) d_M_raise_48 ⟨Nat.zero_le _, Nat.zero_le _⟩) hP hD hS hA [0, 1, 2] [] [0, 1, 2] rfl rfl (by decide) (by decide) rfl (by decide) (fun H locs hP hD hS => ?_)
          refine lv_iinc (k := 3) (v := (v3 + (-1 : Int32))) (lv' := [(3, .int (v3 + (-1 : Int32))), (0, .ref (qM 0)), (1, .int a1), (2, .int a2)]) hx hb d_M_raise_51 hl rfl (congrArg (fun z => v3 + z) (by decide : Int32.ofInt (-1) = (-1 : Int32))) (by decide) rfl (fun ls hl => ?_)
          refine lv_goto hx hb d_M_raise_54 rfl ?_
          exact ih (v3 + (-1 : Int32)) r3.1 r3.2 _ _ _ (lv_sub hl [1, 2, 3, 0] rfl) hP hD hS hr
  intro ls H hl hP hD hS
  have hl : lv_has ls 4 [(0, .ref (qM 0)), (1, .int a1), (2, .int a2)] := hl
  rw [f_M_raise] at hr
  refine lv_iload_n hx hb d_M_raise_0 rfl (lv_at hl 2 rfl) ?_
  refine lv_if_ne hx hb d_M_raise_1 rfl (fun hc => ?_) (fun hc => ?_)
  · rw [if_neg hc] at hr
    refine lv_aload_n hx hb d_M_raise_10 rfl (lv_at hl 0 rfl) ?_
    refine lv_bipush (v := (68 : Int32)) hx hb d_M_raise_11 (by decide) ?_
    refine lv_iload_n hx hb d_M_raise_13 rfl (lv_at hl 1 rfl) ?_
    obtain ⟨r4, hr4, hr⟩ := ob hr
    refine z_cv (ws := (W_M kI kZ qM M_nc M_nf M_modulus M_side M_size M_cells M_fresh)) (wc := (W_M kI kZ qM M_nc M_nf M_modulus M_side M_size M_cells M_fresh)) (wr := ([] : va_W)) (w1 := (W_M kI kZ qM M_nc M_nf M_modulus M_side M_size r4 M_fresh)) (w2 := (W_M kI kZ qM M_nc M_nf M_modulus M_side M_size r4 M_fresh)) (va_runV (As := [.int (68 : Int32), .int a1]) (rest := []) ⟨hx, hb, hml, hown, hts⟩ (c_M_copy l D kI kZ qM M_nc M_nf M_modulus M_side M_size M_cells M_fresh (68 : Int32) a1 r4 hr4 H.size) (z_cwV hts mw_M_copy kw_331 ⟨by rw [hR]; exact Nat.le_of_ble_eq_true rfl, by rw [hR]; exact Nat.le_of_ble_eq_true rfl⟩) (z_preV (ci := 2) hK hP hD hN rfl (he := (rfl : _[0]? = _)) [0, 1, 2] (by decide) rfl) rfl rfl hl.1 rfl (lv_room (Nat.le_of_ble_eq_true rfl)) d_M_raise_14 ⟨Nat.zero_le _, Nat.zero_le _⟩) hP hD hS hA [0, 1, 2] [] [0, 1, 2] rfl rfl (by decide) (by decide) rfl (by decide) (fun H locs hP hD hS => ?_)
    refine lv_iload_n hx hb d_M_raise_17 rfl (lv_at hl 2 rfl) ?_
    obtain ⟨r5, hr5, hr⟩ := ob hr
    refine z_ci (ws := (W_M kI kZ qM M_nc M_nf M_modulus M_side M_size r4 M_fresh)) (wc := ([] : va_W)) (wr := (W_M kI kZ qM M_nc M_nf M_modulus M_side M_size r4 M_fresh)) (w1 := ([] : va_W)) (w2 := (W_M kI kZ qM M_nc M_nf M_modulus M_side M_size r4 M_fresh)) (va_runSN (As := [.int a2]) (rest := []) ⟨hx, hb, hml, hown, hts⟩ (c_X_topDigit l D kI kZ a2 r5 hr5 H.size) (z_cwN hts mw_X_topDigit (zNestOf 6 hN rfl) ⟨by rw [hR]; exact Nat.le_of_ble_eq_true rfl, by rw [hR]; exact Nat.le_of_ble_eq_true rfl⟩) (z_pre hK hP hD hN [] (by decide) rfl) rfl rfl hl.1 rfl (lv_room (Nat.le_of_ble_eq_true rfl)) d_M_raise_18 ⟨Nat.zero_le _, Nat.zero_le _⟩) hP hD hS hA [] [0, 1, 2] [0, 1, 2] rfl rfl (by decide) (by decide) rfl (by decide) (fun H locs hP hD hS => ?_)
    refine lv_iconst (v := (1 : Int32)) hx hb d_M_raise_21 (by decide) ?_
    refine lv_isub hx hb d_M_raise_22 ?_
    obtain ⟨v3_6, ev3_6, hr⟩ := nm_some hr
    refine z_top ev3_6 ?_
    refine lv_istore_n (lv' := [(3, .int v3_6), (0, .ref (qM 0)), (1, .int a1), (2, .int a2)]) hx hb d_M_raise_23 rfl hl (by decide) rfl (fun ls hl => ?_)
    exact hB24 zFU v3_6 r4 M_fresh _ _ _ (lv_sub hl [1, 2, 3, 0] rfl) hP hD hS hr
  · rw [if_pos hc] at hr
    refine lv_aload_n hx hb d_M_raise_4 rfl (lv_at hl 0 rfl) ?_
    refine lv_iload_n hx hb d_M_raise_5 rfl (lv_at hl 1 rfl) ?_
    obtain ⟨r7, hr7, hr⟩ := ob hr
    refine z_cv (ws := (W_M kI kZ qM M_nc M_nf M_modulus M_side M_size M_cells M_fresh)) (wc := (W_M kI kZ qM M_nc M_nf M_modulus M_side M_size M_cells M_fresh)) (wr := ([] : va_W)) (w1 := (W_M kI kZ qM M_nc M_nf M_modulus M_side M_size r7 M_fresh)) (w2 := (W_M kI kZ qM M_nc M_nf M_modulus M_side M_size r7 M_fresh)) (va_runV (As := [.int a1]) (rest := []) ⟨hx, hb, hml, hown, hts⟩ (c_M_makeOne l D kI kZ qM M_nc M_nf M_modulus M_side M_size M_cells M_fresh a1 r7 hr7 H.size) (z_cwV hts mw_M_makeOne kw_338 ⟨by rw [hR]; exact Nat.le_of_ble_eq_true rfl, by rw [hR]; exact Nat.le_of_ble_eq_true rfl⟩) (z_preV (ci := 2) hK hP hD hN rfl (he := (rfl : _[0]? = _)) [0, 1, 2] (by decide) rfl) rfl rfl hl.1 rfl (lv_room (Nat.le_of_ble_eq_true rfl)) d_M_raise_6 ⟨Nat.zero_le _, Nat.zero_le _⟩) hP hD hS hA [0, 1, 2] [] [0, 1, 2] rfl rfl (by decide) (by decide) rfl (by decide) (fun H locs hP hD hS => ?_)
    obtain rfl := Option.some.inj hr
    exact hQ _ _ _ _ d_M_raise_9 hP hD hS
