set_option maxHeartbeats 4000000 in
set_option maxRecDepth 100000 in
theorem c_M_combine (l : Launch) (D : va_G) (kI kZ : ClassId) (qM : Nat → Nat) (M_nc M_nf : Nat) (M_modulus M_side M_size : Int32) (M_cells M_fresh : Nat → Int32) (a1 a2 a3 a4 : Int32) (res : (Nat → Int32)) (hr : f_M_combine M_nc M_modulus M_size M_cells a1 a2 a3 a4 = some res) : zMv l D kI kZ y_M_combine prog_4_method_9_code 7 none 0 0 [.ref (qM 0), .int a1, .int a2, .int a3, .int a4] (W_M kI kZ qM M_nc M_nf M_modulus M_side M_size M_cells M_fresh) (W_M kI kZ qM M_nc M_nf M_modulus M_side M_size res M_fresh) := by
  refine zMv.of (by decide +kernel) (Nat.le_of_ble_eq_true rfl) ?_
  intro p e R s m args below meth c Q A hR hx hb hml hts hown hA hK hN hQ
  have hown : s.vm.findClass "SquareCode$Matrices" = some m.cls := hown
  have hB3 : ∀ (fu : Nat) (v5 : Int32) (M_cells : Nat → Int32) (H : Heap) (locs : List Loc) (ls : Array Slot), lv_has ls 7 [(0, .ref (qM 0)), (1, .int a1), (2, .int a2), (3, .int a3), (4, .int a4), (5, .int v5)] → va_P D zCl (W_M kI kZ qM M_nc M_nf M_modulus M_side M_size M_cells M_fresh) H → va_D A (W_M kI kZ qM M_nc M_nf M_modulus M_side M_size M_cells M_fresh) → va_S A s.heap H locs → f_M_combine_3 M_nc M_modulus M_size a1 a2 a3 a4 fu v5 M_cells = some res → W p l e R s m args below meth c H locs 0 0 Q (F0 m 3 ls []) := by
    intro  fu
    induction fu with
    | zero => intro v5 M_cells H locs ls hl hP hD hS hr; exact absurd hr (by rw [f_M_combine_3]; exact fun h => by cases h)
    | succ fu ih =>
      intro v5 M_cells H locs ls hl hP hD hS hr
      rw [f_M_combine_3] at hr
      refine lv_iload hx hb d_M_combine_3 (lv_at hl 5 rfl) ?_
      refine lv_aload_n hx hb d_M_combine_5 rfl (lv_at hl 0 rfl) ?_
      refine va_get (D := D) (ci := 2) (v := .int M_size) (C := R_M) (T := T_M) (N := 5) hx hb hts in_M hown hK hP 0 rfl rfl 2 (by decide) (hts _ kw_27) (fun _ h9 => h9) rfl d_M_combine_6 ?_
      refine lv_icmp_ge hx hb d_M_combine_9 rfl (fun hc => ?_) (fun hc => ?_)
      · rw [if_pos hc] at hr
        obtain rfl := Option.some.inj hr
        exact hQ _ _ _ _ d_M_combine_73 hP hD hS
      · rw [if_neg hc] at hr
        refine lv_aload_n hx hb d_M_combine_12 rfl (lv_at hl 0 rfl) ?_
        refine va_get (D := D) (ci := 2) (v := .ref (qM 1)) (C := R_M) (T := T_M) (N := 5) hx hb hts in_M hown hK hP 0 rfl rfl 3 (by decide) (hts _ kw_28) (fun _ h9 => h9) rfl d_M_combine_13 ?_
        refine lv_iload_n hx hb d_M_combine_16 rfl (lv_at hl 2 rfl) ?_
        refine lv_aload_n hx hb d_M_combine_17 rfl (lv_at hl 0 rfl) ?_
        refine va_get (D := D) (ci := 2) (v := .int M_size) (C := R_M) (T := T_M) (N := 5) hx hb hts in_M hown hK hP 0 rfl rfl 2 (by decide) (hts _ kw_27) (fun _ h9 => h9) rfl d_M_combine_18 ?_
        refine lv_imul hx hb d_M_combine_21 ?_
        refine lv_iload hx hb d_M_combine_22 (lv_at hl 5 rfl) ?_
        refine lv_iadd hx hb d_M_combine_24 ?_
        obtain ⟨hi, hr⟩ := gd_some hr
        refine va_iald hx hb hK hP 1 0 rfl rfl hi d_M_combine_25 ?_
        refine lv_iload hx hb d_M_combine_26 (lv_at hl 4 rfl) ?_
        refine lv_aload_n hx hb d_M_combine_28 rfl (lv_at hl 0 rfl) ?_
        refine va_get (D := D) (ci := 2) (v := .ref (qM 1)) (C := R_M) (T := T_M) (N := 5) hx hb hts in_M hown hK hP 0 rfl rfl 3 (by decide) (hts _ kw_28) (fun _ h9 => h9) rfl d_M_combine_29 ?_
        refine lv_iload_n hx hb d_M_combine_32 rfl (lv_at hl 3 rfl) ?_
        refine lv_aload_n hx hb d_M_combine_33 rfl (lv_at hl 0 rfl) ?_
        refine va_get (D := D) (ci := 2) (v := .int M_size) (C := R_M) (T := T_M) (N := 5) hx hb hts in_M hown hK hP 0 rfl rfl 2 (by decide) (hts _ kw_27) (fun _ h9 => h9) rfl d_M_combine_34 ?_
        refine lv_imul hx hb d_M_combine_37 ?_
        refine lv_iload hx hb d_M_combine_38 (lv_at hl 5 rfl) ?_
        refine lv_iadd hx hb d_M_combine_40 ?_
        obtain ⟨hi, hr⟩ := gd_some hr
        refine va_iald hx hb hK hP 1 0 rfl rfl hi d_M_combine_41 ?_
        refine lv_imul hx hb d_M_combine_42 ?_
        refine lv_iadd hx hb d_M_combine_43 ?_
        obtain ⟨v6_1, ev6_1, hr⟩ := nm_some hr
        refine z_top ev6_1 ?_
        refine lv_istore (lv' := [(6, .int v6_1), (0, .ref (qM 0)), (1, .int a1), (2, .int a2), (3, .int a3), (4, .int a4), (5, .int v5)]) hx hb d_M_combine_44 hl (by decide) rfl (fun ls hl => ?_)
        refine lv_aload_n hx hb d_M_combine_46 rfl (lv_at hl 1 rfl) ?_
        refine va_get (D := D) (ci := 2) (v := .ref (qM 1)) (C := R_M) (T := T_M) (N := 5) hx hb hts in_M hown hK hP 0 rfl rfl 3 (by decide) (hts _ kw_28) (fun _ h9 => h9) rfl d_M_combine_47 ?_
        refine lv_iload_n hx hb d_M_combine_50 rfl (lv_at hl 2 rfl) ?_
        refine lv_aload_n hx hb d_M_combine_51 rfl (lv_at hl 1 rfl) ?_
        refine va_get (D := D) (ci := 2) (v := .int M_size) (C := R_M) (T := T_M) (N := 5) hx hb hts in_M hown hK hP 0 rfl rfl 2 (by decide) (hts _ kw_27) (fun _ h9 => h9) rfl d_M_combine_52 ?_
        refine lv_imul hx hb d_M_combine_55 ?_
        refine lv_iload hx hb d_M_combine_56 (lv_at hl 6 rfl) ?_
        refine lv_iadd hx hb d_M_combine_58 ?_
        refine lv_iload hx hb d_M_combine_59 (lv_at hl 0 rfl) ?_
        refine lv_aload_n hx hb d_M_combine_61 rfl (lv_at hl 1 rfl) ?_
        refine va_get (D := D) (ci := 2) (v := .int M_modulus) (C := R_M) (T := T_M) (N := 5) hx hb hts in_M hown hK hP 0 rfl rfl 0 (by decide) (hts _ kw_25) (fun _ h9 => h9) rfl d_M_combine_62 ?_
        obtain ⟨hz, hr⟩ := nz_some hr
        refine z_irem hx hb d_M_combine_65 hz ?_
        obtain ⟨hi, hr⟩ := gd_some hr
        refine va_iast hx hb hK hP hD hS 1 0 rfl rfl hi d_M_combine_66 (fun H locs hP hD hS => ?_)
        have hP : va_P D zCl (W_M kI kZ qM M_nc M_nf M_modulus M_side M_size (upd M_cells ((a1 * M_size) + v5).toNatClampNeg (zrem v6_1 M_modulus)) M_fresh) H := hP
        have hD : va_D A (W_M kI kZ qM M_nc M_nf M_modulus M_side M_size (upd M_cells ((a1 * M_size) + v5).toNatClampNeg (zrem v6_1 M_modulus)) M_fresh) := hD
        refine lv_iinc (k := 6) (v := (v5 + (1 : Int32))) (lv' := [(5, .int (v5 + (1 : Int32))), (6, .int v6_1), (0, .ref (qM 0)), (1, .int a1), (2, .int a2), (3, .int a3), (4, .int a4)]) hx hb d_M_combine_67 hl rfl (congrArg (fun z => v5 + z) (by decide : Int32.ofInt 1 = (1 : Int32))) (by decide) rfl (fun ls hl => ?_)
        refine lv_goto hx hb d_M_combine_70 rfl ?_
        exact ih (v5 + (1 : Int32)) (upd M_cells ((a1 * M_size) + v5).toNatClampNeg (zrem v6_1 M_modulus)) _ _ _ (lv_sub hl [2, 3, 4, 5, 6, 0] rfl) hP hD hS hr
  intro ls H hl hP hD hS
  have hl : lv_has ls 7 [(0, .ref (qM 0)), (1, .int a1), (2, .int a2), (3, .int a3), (4, .int a4)] := hl
  rw [f_M_combine] at hr
  refine lv_iconst (v := (0 : Int32)) hx hb d_M_combine_0 (by decide) ?_
  refine lv_istore (lv' := [(5, .int (0 : Int32)), (0, .ref (qM 0)), (1, .int a1), (2, .int a2), (3, .int a3), (4, .int a4)]) hx hb d_M_combine_1 hl (by decide) rfl (fun ls hl => ?_)
  exact hB3 zFU (0 : Int32) M_cells _ _ _ (lv_sub hl [1, 2, 3, 4, 5, 0] rfl) hP hD hS hr
set_option maxHeartbeats 4000000 in
set_option maxRecDepth 100000 in
theorem c_M_get (l : Launch) (D : va_G) (kI kZ : ClassId) (qM : Nat → Nat) (M_nc M_nf : Nat) (M_modulus M_side M_size : Int32) (M_cells M_fresh : Nat → Int32) (a1 a2 a3 : Int32) (res : Int32) (hr : f_M_get M_nc M_side M_size M_cells a1 a2 a3 = some res) : zMi l D kI kZ y_M_get prog_4_method_3_code 4 ((some .int)) 0 0 [.ref (qM 0), .int a1, .int a2, .int a3] (W_M kI kZ qM M_nc M_nf M_modulus M_side M_size M_cells M_fresh) (W_M kI kZ qM M_nc M_nf M_modulus M_side M_size M_cells M_fresh) res := by
  refine zMi.of (by decide +kernel) (Nat.le_of_ble_eq_true rfl) ?_
  intro p e R s m args below meth c Q A hR hx hb hml hts hown hA hK hN hQ
  have hown : s.vm.findClass "SquareCode$Matrices" = some m.cls := hown
  intro ls H hl hP hD hS
  have hl : lv_has ls 4 [(0, .ref (qM 0)), (1, .int a1), (2, .int a2), (3, .int a3)] := hl
  rw [f_M_get] at hr
  refine lv_aload_n hx hb d_M_get_0 rfl (lv_at hl 0 rfl) ?_
  refine va_get (D := D) (ci := 2) (v := .ref (qM 1)) (C := R_M) (T := T_M) (N := 5) hx hb hts in_M hown hK hP 0 rfl rfl 3 (by decide) (hts _ kw_28) (fun _ h9 => h9) rfl d_M_get_1 ?_
  refine lv_iload_n hx hb d_M_get_4 rfl (lv_at hl 1 rfl) ?_
  refine lv_aload_n hx hb d_M_get_5 rfl (lv_at hl 0 rfl) ?_
  refine va_get (D := D) (ci := 2) (v := .int M_size) (C := R_M) (T := T_M) (N := 5) hx hb hts in_M hown hK hP 0 rfl rfl 2 (by decide) (hts _ kw_27) (fun _ h9 => h9) rfl d_M_get_6 ?_
  refine lv_imul hx hb d_M_get_9 ?_
  refine lv_iload_n hx hb d_M_get_10 rfl (lv_at hl 2 rfl) ?_
  refine lv_aload_n hx hb d_M_get_11 rfl (lv_at hl 0 rfl) ?_
  refine va_get (D := D) (ci := 2) (v := .int M_side) (C := R_M) (T := T_M) (N := 5) hx hb hts in_M hown hK hP 0 rfl rfl 1 (by decide) (hts _ kw_26) (fun _ h9 => h9) rfl d_M_get_12 ?_
  refine lv_imul hx hb d_M_get_15 ?_
  refine lv_iadd hx hb d_M_get_16 ?_
  refine lv_iload_n hx hb d_M_get_17 rfl (lv_at hl 3 rfl) ?_
  refine lv_iadd hx hb d_M_get_18 ?_
  obtain ⟨hi, hr⟩ := gd_some hr
  refine va_iald hx hb hK hP 1 0 rfl rfl hi d_M_get_19 ?_
  obtain rfl := Option.some.inj hr
  exact hQ _ _ _ _ _ d_M_get_20 rfl rfl hP hD hS
set_option maxHeartbeats 4000000 in
set_option maxRecDepth 100000 in
theorem c_M_keepFresh (l : Launch) (D : va_G) (kI kZ : ClassId) (qM : Nat → Nat) (M_nc M_nf : Nat) (M_modulus M_side M_size : Int32) (M_cells M_fresh : Nat → Int32) (a1 : Int32) (res : (Nat → Int32)) (hr : f_M_keepFresh M_nc M_nf M_size M_cells M_fresh a1 = some res) : zMv l D kI kZ y_M_keepFresh prog_4_method_12_code 2 none 1 60 [.ref (qM 0), .int a1] (W_M kI kZ qM M_nc M_nf M_modulus M_side M_size M_cells M_fresh) (W_M kI kZ qM M_nc M_nf M_modulus M_side M_size res M_fresh) := by
  refine zMv.of (by decide +kernel) (Nat.le_of_ble_eq_true rfl) ?_
  intro p e R s m args below meth c Q A hR hx hb hml hts hown hA hK hN hQ
  have hown : s.vm.findClass "SquareCode$Matrices" = some m.cls := hown
  intro ls H hl hP hD hS
  have hl : lv_has ls 2 [(0, .ref (qM 0)), (1, .int a1)] := hl
  rw [f_M_keepFresh] at hr
  refine lv_aload_n hx hb d_M_keepFresh_0 rfl (lv_at hl 0 rfl) ?_
  refine va_get (D := D) (ci := 2) (v := .ref (qM 2)) (C := R_M) (T := T_M) (N := 5) hx hb hts in_M hown hK hP 0 rfl rfl 4 (by decide) (hts _ kw_29) (fun _ h9 => h9) rfl d_M_keepFresh_1 ?_
  refine lv_iconst (v := (0 : Int32)) hx hb d_M_keepFresh_4 (by decide) ?_
  refine lv_aload_n hx hb d_M_keepFresh_5 rfl (lv_at hl 0 rfl) ?_
  refine va_get (D := D) (ci := 2) (v := .ref (qM 1)) (C := R_M) (T := T_M) (N := 5) hx hb hts in_M hown hK hP 0 rfl rfl 3 (by decide) (hts _ kw_28) (fun _ h9 => h9) rfl d_M_keepFresh_6 ?_
  refine lv_iload_n hx hb d_M_keepFresh_9 rfl (lv_at hl 1 rfl) ?_
  refine lv_aload_n hx hb d_M_keepFresh_10 rfl (lv_at hl 0 rfl) ?_
  refine va_get (D := D) (ci := 2) (v := .int M_size) (C := R_M) (T := T_M) (N := 5) hx hb hts in_M hown hK hP 0 rfl rfl 2 (by decide) (hts _ kw_27) (fun _ h9 => h9) rfl d_M_keepFresh_11 ?_
  refine lv_imul hx hb d_M_keepFresh_14 ?_
  refine lv_aload_n hx hb d_M_keepFresh_15 rfl (lv_at hl 0 rfl) ?_
  refine va_get (D := D) (ci := 2) (v := .int M_size) (C := R_M) (T := T_M) (N := 5) hx hb hts in_M hown hK hP 0 rfl rfl 2 (by decide) (hts _ kw_27) (fun _ h9 => h9) rfl d_M_keepFresh_16 ?_
  obtain ⟨h1, h2, h3, h4, h5, hr⟩ := cpg_some hr
  refine va_copyi hx hb (hml.trans hl.1.symm) hown (hts _ kw_335) (hts _ kw_337) (hts _ kw_336) (hts _ kw_10) hK hP hD hS 2 1 0 0 rfl rfl rfl rfl rfl h1 h2 h3 h4 h5 (fun i _ => rfl) (by rw [hR]; exact Nat.le_of_ble_eq_true rfl) (by rw [hR]; exact Nat.le_of_ble_eq_true (by decide +kernel)) d_M_keepFresh_19 (fun H locs hP hD hS => ?_)
  have hP : va_P D zCl (W_M kI kZ qM M_nc M_nf M_modulus M_side M_size (va_cpy M_fresh M_cells (0 : Int32).toNatClampNeg (a1 * M_size).toNatClampNeg M_size.toNatClampNeg) M_fresh) H := hP
  have hD : va_D A (W_M kI kZ qM M_nc M_nf M_modulus M_side M_size (va_cpy M_fresh M_cells (0 : Int32).toNatClampNeg (a1 * M_size).toNatClampNeg M_size.toNatClampNeg) M_fresh) := hD
  obtain rfl := Option.some.inj hr
  exact hQ _ _ _ _ d_M_keepFresh_22 hP hD hS
set_option maxHeartbeats 4000000 in
set_option maxRecDepth 100000 in
theorem c_M_multiply (l : Launch) (D : va_G) (kI kZ : ClassId) (qM : Nat → Nat) (M_nc M_nf : Nat) (M_modulus M_side M_size : Int32) (M_cells M_fresh : Nat → Int32) (a1 a2 a3 : Int32) (res : (Nat → Int32) × (Nat → Int32)) (hr : f_M_multiply M_nc M_nf M_modulus M_side M_size M_cells M_fresh a1 a2 a3 = some res) : zMv l D kI kZ y_M_multiply prog_4_method_10_code 8 none 2 81 [.ref (qM 0), .int a1, .int a2, .int a3] (W_M kI kZ qM M_nc M_nf M_modulus M_side M_size M_cells M_fresh) (W_M kI kZ qM M_nc M_nf M_modulus M_side M_size (res.1) (res.2)) := by
  refine zMv.of (by decide +kernel) (Nat.le_of_ble_eq_true rfl) ?_
  intro p e R s m args below meth c Q A hR hx hb hml hts hown hA hK hN hQ
  have hown : s.vm.findClass "SquareCode$Matrices" = some m.cls := hown
  have hB30 : ∀ (v4 v5 : Int32) (M_cells M_fresh : Nat → Int32) (k15 : Int32 → (Nat → Int32) → Option ((Nat → Int32) × (Nat → Int32))) (hk15 : ∀ (v5 : Int32) (M_fresh : Nat → Int32) (H : Heap) (locs : List Loc) (ls : Array Slot), lv_has ls 8 [(0, .ref (qM 0)), (1, .int a1), (2, .int a2), (3, .int a3), (4, .int v4), (5, .int v5)] → va_P D zCl (W_M kI kZ qM M_nc M_nf M_modulus M_side M_size M_cells M_fresh) H → va_D A (W_M kI kZ qM M_nc M_nf M_modulus M_side M_size M_cells M_fresh) → va_S A s.heap H locs → k15 v5 M_fresh = some res → W p l e R s m args below meth c H locs 0 0 Q (F0 m 15 ls [])) (fu : Nat) (v6 v7 : Int32) (H : Heap) (locs : List Loc) (ls : Array Slot), lv_has ls 8 [(0, .ref (qM 0)), (1, .int a1), (2, .int a2), (3, .int a3), (4, .int v4), (5, .int v5), (6, .int v6), (7, .int v7)] → va_P D zCl (W_M kI kZ qM M_nc M_nf M_modulus M_side M_size M_cells M_fresh) H → va_D A (W_M kI kZ qM M_nc M_nf M_modulus M_side M_size M_cells M_fresh) → va_S A s.heap H locs → f_M_multiply_30 M_nc M_nf M_modulus M_side M_size a2 a3 k15 v4 v5 M_cells M_fresh fu v6 v7 = some res → W p l e R s m args below meth c H locs 0 0 Q (F0 m 30 ls []) := by
    intro v4 v5 M_cells M_fresh k15 hk15 fu
    induction fu with
    | zero => intro v6 v7 H locs ls hl hP hD hS hr; exact absurd hr (by rw [f_M_multiply_30]; exact fun h => by cases h)
    | succ fu ih =>
      intro v6 v7 H locs ls hl hP hD hS hr
      rw [f_M_multiply_30] at hr
      refine lv_iload hx hb d_M_multiply_30 (lv_at hl 7 rfl) ?_
      refine lv_aload_n hx hb d_M_multiply_32 rfl (lv_at hl 0 rfl) ?_
      refine va_get (D := D) (ci := 2) (v := .int M_side) (C := R_M) (T := T_M) (N := 5) hx hb hts in_M hown hK hP 0 rfl rfl 1 (by decide) (hts _ kw_26) (fun _ h9 => h9) rfl d_M_multiply_33 ?_
      refine lv_icmp_ge hx hb d_M_multiply_36 rfl (fun hc => ?_) (fun hc => ?_)
      · rw [if_pos hc] at hr
        refine lv_aload_n hx hb d_M_multiply_69 rfl (lv_at hl 0 rfl) ?_
        refine va_get (D := D) (ci := 2) (v := .ref (qM 2)) (C := R_M) (T := T_M) (N := 5) hx hb hts in_M hown hK hP 0 rfl rfl 4 (by decide) (hts _ kw_29) (fun _ h9 => h9) rfl d_M_multiply_70 ?_
        refine lv_iload hx hb d_M_multiply_73 (lv_at hl 4 rfl) ?_
        refine lv_aload_n hx hb d_M_multiply_75 rfl (lv_at hl 0 rfl) ?_
        refine va_get (D := D) (ci := 2) (v := .int M_side) (C := R_M) (T := T_M) (N := 5) hx hb hts in_M hown hK hP 0 rfl rfl 1 (by decide) (hts _ kw_26) (fun _ h9 => h9) rfl d_M_multiply_76 ?_
        refine lv_imul hx hb d_M_multiply_79 ?_
        refine lv_iload hx hb d_M_multiply_80 (lv_at hl 5 rfl) ?_
        refine lv_iadd hx hb d_M_multiply_82 ?_
        refine lv_iload hx hb d_M_multiply_83 (lv_at hl 6 rfl) ?_
        refine lv_aload_n hx hb d_M_multiply_85 rfl (lv_at hl 0 rfl) ?_
        refine va_get (D := D) (ci := 2) (v := .int M_modulus) (C := R_M) (T := T_M) (N := 5) hx hb hts in_M hown hK hP 0 rfl rfl 0 (by decide) (hts _ kw_25) (fun _ h9 => h9) rfl d_M_multiply_86 ?_
        obtain ⟨hz, hr⟩ := nz_some hr
        refine z_irem hx hb d_M_multiply_89 hz ?_
        obtain ⟨hi, hr⟩ := gd_some hr
        refine va_iast hx hb hK hP hD hS 2 0 rfl rfl hi d_M_multiply_90 (fun H locs hP hD hS => ?_)
        have hP : va_P D zCl (W_M kI kZ qM M_nc M_nf M_modulus M_side M_size M_cells (upd M_fresh ((v4 * M_side) + v5).toNatClampNeg (zrem v6 M_modulus))) H := hP
        have hD : va_D A (W_M kI kZ qM M_nc M_nf M_modulus M_side M_size M_cells (upd M_fresh ((v4 * M_side) + v5).toNatClampNeg (zrem v6 M_modulus))) := hD
        refine lv_iinc (k := 5) (v := (v5 + (1 : Int32))) (lv' := [(5, .int (v5 + (1 : Int32))), (0, .ref (qM 0)), (1, .int a1), (2, .int a2), (3, .int a3), (4, .int v4), (6, .int v6), (7, .int v7)]) hx hb d_M_multiply_91 hl rfl (congrArg (fun z => v5 + z) (by decide : Int32.ofInt 1 = (1 : Int32))) (by decide) rfl (fun ls hl => ?_)
        refine lv_goto hx hb d_M_multiply_94 rfl ?_
        exact hk15 (v5 + (1 : Int32)) (upd M_fresh ((v4 * M_side) + v5).toNatClampNeg (zrem v6 M_modulus)) _ _ _ (lv_sub hl [1, 2, 3, 4, 5, 0] rfl) hP hD hS hr
      · rw [if_neg hc] at hr
        refine lv_iload hx hb d_M_multiply_39 (lv_at hl 6 rfl) ?_
        refine lv_aload_n hx hb d_M_multiply_41 rfl (lv_at hl 0 rfl) ?_
        refine lv_iload_n hx hb d_M_multiply_42 rfl (lv_at hl 2 rfl) ?_
        refine lv_iload hx hb d_M_multiply_43 (lv_at hl 4 rfl) ?_
        refine lv_iload hx hb d_M_multiply_45 (lv_at hl 7 rfl) ?_
        obtain ⟨r1, hr1, hr⟩ := ob hr
        refine z_ci (ws := (W_M kI kZ qM M_nc M_nf M_modulus M_side M_size M_cells M_fresh)) (wc := (W_M kI kZ qM M_nc M_nf M_modulus M_side M_size M_cells M_fresh)) (wr := ([] : va_W)) (w1 := (W_M kI kZ qM M_nc M_nf M_modulus M_side M_size M_cells M_fresh)) (w2 := (W_M kI kZ qM M_nc M_nf M_modulus M_side M_size M_cells M_fresh)) (va_runV (As := [.int a2, .int v4, .int v7]) (rest := [.int v6]) ⟨hx, hb, hml, hown, hts⟩ (c_M_get l D kI kZ qM M_nc M_nf M_modulus M_side M_size M_cells M_fresh a2 v4 v7 r1 hr1 H.size) (z_cwV hts mw_M_get kw_355 ⟨by rw [hR]; exact Nat.le_of_ble_eq_true rfl, by rw [hR]; exact Nat.le_of_ble_eq_true rfl⟩) (z_preV (ci := 2) hK hP hD hN rfl (he := (rfl : _[0]? = _)) [0, 1, 2] (by decide) rfl) rfl rfl hl.1 rfl (lv_room (Nat.le_of_ble_eq_true rfl)) d_M_multiply_47 ⟨Nat.zero_le _, Nat.zero_le _⟩) hP hD hS hA [0, 1, 2] [] [0, 1, 2] rfl rfl (by decide) (by decide) rfl (by decide) (fun H locs hP hD hS => ?_)
        refine lv_aload_n hx hb d_M_multiply_50 rfl (lv_at hl 0 rfl) ?_
        refine lv_iload_n hx hb d_M_multiply_51 rfl (lv_at hl 3 rfl) ?_
        refine lv_iload hx hb d_M_multiply_52 (lv_at hl 7 rfl) ?_
        refine lv_iload hx hb d_M_multiply_54 (lv_at hl 5 rfl) ?_
        obtain ⟨r2, hr2, hr⟩ := ob hr
        refine z_ci (ws := (W_M kI kZ qM M_nc M_nf M_modulus M_side M_size M_cells M_fresh)) (wc := (W_M kI kZ qM M_nc M_nf M_modulus M_side M_size M_cells M_fresh)) (wr := ([] : va_W)) (w1 := (W_M kI kZ qM M_nc M_nf M_modulus M_side M_size M_cells M_fresh)) (w2 := (W_M kI kZ qM M_nc M_nf M_modulus M_side M_size M_cells M_fresh)) (va_runV (As := [.int a3, .int v7, .int v5]) (rest := [.int r1, .int v6]) ⟨hx, hb, hml, hown, hts⟩ (c_M_get l D kI kZ qM M_nc M_nf M_modulus M_side M_size M_cells M_fresh a3 v7 v5 r2 hr2 H.size) (z_cwV hts mw_M_get kw_355 ⟨by rw [hR]; exact Nat.le_of_ble_eq_true rfl, by rw [hR]; exact Nat.le_of_ble_eq_true rfl⟩) (z_preV (ci := 2) hK hP hD hN rfl (he := (rfl : _[0]? = _)) [0, 1, 2] (by decide) rfl) rfl rfl hl.1 rfl (lv_room (Nat.le_of_ble_eq_true rfl)) d_M_multiply_56 ⟨Nat.zero_le _, Nat.zero_le _⟩) hP hD hS hA [0, 1, 2] [] [0, 1, 2] rfl rfl (by decide) (by decide) rfl (by decide) (fun H locs hP hD hS => ?_)
        refine lv_imul hx hb d_M_multiply_59 ?_
        refine lv_iadd hx hb d_M_multiply_60 ?_
        obtain ⟨v6_3, ev6_3, hr⟩ := nm_some hr
        refine z_top ev6_3 ?_
        refine lv_istore (lv' := [(6, .int v6_3), (0, .ref (qM 0)), (1, .int a1), (2, .int a2), (3, .int a3), (4, .int v4), (5, .int v5), (7, .int v7)]) hx hb d_M_multiply_61 hl (by decide) rfl (fun ls hl => ?_)
        refine lv_iinc (k := 7) (v := (v7 + (1 : Int32))) (lv' := [(7, .int (v7 + (1 : Int32))), (6, .int v6_3), (0, .ref (qM 0)), (1, .int a1), (2, .int a2), (3, .int a3), (4, .int v4), (5, .int v5)]) hx hb d_M_multiply_63 hl rfl (congrArg (fun z => v7 + z) (by decide : Int32.ofInt 1 = (1 : Int32))) (by decide) rfl (fun ls hl => ?_)
        refine lv_goto hx hb d_M_multiply_66 rfl ?_
        exact ih v6_3 (v7 + (1 : Int32)) _ _ _ (lv_sub hl [2, 3, 4, 5, 6, 7, 1, 0] rfl) hP hD hS hr
  have hB15 : ∀ (v4 : Int32) (M_cells : Nat → Int32) (k3 : Int32 → (Nat → Int32) → Option ((Nat → Int32) × (Nat → Int32))) (hk3 : ∀ (v4 : Int32) (M_fresh : Nat → Int32) (H : Heap) (locs : List Loc) (ls : Array Slot), lv_has ls 8 [(0, .ref (qM 0)), (1, .int a1), (2, .int a2), (3, .int a3), (4, .int v4)] → va_P D zCl (W_M kI kZ qM M_nc M_nf M_modulus M_side M_size M_cells M_fresh) H → va_D A (W_M kI kZ qM M_nc M_nf M_modulus M_side M_size M_cells M_fresh) → va_S A s.heap H locs → k3 v4 M_fresh = some res → W p l e R s m args below meth c H locs 0 0 Q (F0 m 3 ls [])) (fu : Nat) (v5 : Int32) (M_fresh : Nat → Int32) (H : Heap) (locs : List Loc) (ls : Array Slot), lv_has ls 8 [(0, .ref (qM 0)), (1, .int a1), (2, .int a2), (3, .int a3), (4, .int v4), (5, .int v5)] → va_P D zCl (W_M kI kZ qM M_nc M_nf M_modulus M_side M_size M_cells M_fresh) H → va_D A (W_M kI kZ qM M_nc M_nf M_modulus M_side M_size M_cells M_fresh) → va_S A s.heap H locs → f_M_multiply_15 M_nc M_nf M_modulus M_side M_size a2 a3 k3 v4 M_cells fu v5 M_fresh = some res → W p l e R s m args below meth c H locs 0 0 Q (F0 m 15 ls []) := by
    intro v4 M_cells k3 hk3 fu
    induction fu with
    | zero => intro v5 M_fresh H locs ls hl hP hD hS hr; exact absurd hr (by rw [f_M_multiply_15]; exact fun h => by cases h)
    | succ fu ih =>
      intro v5 M_fresh H locs ls hl hP hD hS hr
      rw [f_M_multiply_15] at hr
      refine lv_iload hx hb d_M_multiply_15 (lv_at hl 5 rfl) ?_
      refine lv_aload_n hx hb d_M_multiply_17 rfl (lv_at hl 0 rfl) ?_
      refine va_get (D := D) (ci := 2) (v := .int M_side) (C := R_M) (T := T_M) (N := 5) hx hb hts in_M hown hK hP 0 rfl rfl 1 (by decide) (hts _ kw_26) (fun _ h9 => h9) rfl d_M_multiply_18 ?_
      refine lv_icmp_ge hx hb d_M_multiply_21 rfl (fun hc => ?_) (fun hc => ?_)
      · rw [if_pos hc] at hr
        refine lv_iinc (k := 4) (v := (v4 + (1 : Int32))) (lv' := [(4, .int (v4 + (1 : Int32))), (0, .ref (qM 0)), (1, .int a1), (2, .int a2), (3, .int a3), (5, .int v5)]) hx hb d_M_multiply_97 hl rfl (congrArg (fun z => v4 + z) (by decide : Int32.ofInt 1 = (1 : Int32))) (by decide) rfl (fun ls hl => ?_)
        refine lv_goto hx hb d_M_multiply_100 rfl ?_
        exact hk3 (v4 + (1 : Int32)) M_fresh _ _ _ (lv_sub hl [1, 2, 3, 4, 0] rfl) hP hD hS hr
      · rw [if_neg hc] at hr
        refine lv_iconst (v := (0 : Int32)) hx hb d_M_multiply_24 (by decide) ?_
        refine lv_istore (lv' := [(6, .int (0 : Int32)), (0, .ref (qM 0)), (1, .int a1), (2, .int a2), (3, .int a3), (4, .int v4), (5, .int v5)]) hx hb d_M_multiply_25 hl (by decide) rfl (fun ls hl => ?_)
        refine lv_iconst (v := (0 : Int32)) hx hb d_M_multiply_27 (by decide) ?_
        refine lv_istore (lv' := [(7, .int (0 : Int32)), (6, .int (0 : Int32)), (0, .ref (qM 0)), (1, .int a1), (2, .int a2), (3, .int a3), (4, .int v4), (5, .int v5)]) hx hb d_M_multiply_28 hl (by decide) rfl (fun ls hl => ?_)
        exact hB30 v4 v5 M_cells M_fresh _ ih zFU (0 : Int32) (0 : Int32) _ _ _ (lv_sub hl [2, 3, 4, 5, 6, 7, 1, 0] rfl) hP hD hS hr
  have hB3 : ∀ (M_cells : Nat → Int32)   (fu : Nat) (v4 : Int32) (M_fresh : Nat → Int32) (H : Heap) (locs : List Loc) (ls : Array Slot), lv_has ls 8 [(0, .ref (qM 0)), (1, .int a1), (2, .int a2), (3, .int a3), (4, .int v4)] → va_P D zCl (W_M kI kZ qM M_nc M_nf M_modulus M_side M_size M_cells M_fresh) H → va_D A (W_M kI kZ qM M_nc M_nf M_modulus M_side M_size M_cells M_fresh) → va_S A s.heap H locs → f_M_multiply_3 M_nc M_nf M_modulus M_side M_size a1 a2 a3 M_cells fu v4 M_fresh = some res → W p l e R s m args below meth c H locs 0 0 Q (F0 m 3 ls []) := by
    intro M_cells fu
    induction fu with
    | zero => intro v4 M_fresh H locs ls hl hP hD hS hr; exact absurd hr (by rw [f_M_multiply_3]; exact fun h => by cases h)
    | succ fu ih =>
      intro v4 M_fresh H locs ls hl hP hD hS hr
      rw [f_M_multiply_3] at hr
      refine lv_iload hx hb d_M_multiply_3 (lv_at hl 4 rfl) ?_
      refine lv_aload_n hx hb d_M_multiply_5 rfl (lv_at hl 0 rfl) ?_
      refine va_get (D := D) (ci := 2) (v := .int M_side) (C := R_M) (T := T_M) (N := 5) hx hb hts in_M hown hK hP 0 rfl rfl 1 (by decide) (hts _ kw_26) (fun _ h9 => h9) rfl d_M_multiply_6 ?_
      refine lv_icmp_ge hx hb d_M_multiply_9 rfl (fun hc => ?_) (fun hc => ?_)
      · rw [if_pos hc] at hr
        refine lv_aload_n hx hb d_M_multiply_103 rfl (lv_at hl 0 rfl) ?_
        refine lv_iload_n hx hb d_M_multiply_104 rfl (lv_at hl 1 rfl) ?_
        obtain ⟨r4, hr4, hr⟩ := ob hr
        refine z_cv (ws := (W_M kI kZ qM M_nc M_nf M_modulus M_side M_size M_cells M_fresh)) (wc := (W_M kI kZ qM M_nc M_nf M_modulus M_side M_size M_cells M_fresh)) (wr := ([] : va_W)) (w1 := (W_M kI kZ qM M_nc M_nf M_modulus M_side M_size r4 M_fresh)) (w2 := (W_M kI kZ qM M_nc M_nf M_modulus M_side M_size r4 M_fresh)) (va_runV (As := [.int a1]) (rest := []) ⟨hx, hb, hml, hown, hts⟩ (c_M_keepFresh l D kI kZ qM M_nc M_nf M_modulus M_side M_size M_cells M_fresh a1 r4 hr4 H.size) (z_cwV hts mw_M_keepFresh kw_359 ⟨by rw [hR]; exact Nat.le_of_ble_eq_true rfl, by rw [hR]; exact Nat.le_of_ble_eq_true rfl⟩) (z_preV (ci := 2) hK hP hD hN rfl (he := (rfl : _[0]? = _)) [0, 1, 2] (by decide) rfl) rfl rfl hl.1 rfl (lv_room (Nat.le_of_ble_eq_true rfl)) d_M_multiply_105 ⟨Nat.zero_le _, Nat.zero_le _⟩) hP hD hS hA [0, 1, 2] [] [0, 1, 2] rfl rfl (by decide) (by decide) rfl (by decide) (fun H locs hP hD hS => ?_)
        obtain rfl := Option.some.inj hr
        exact hQ _ _ _ _ d_M_multiply_108 hP hD hS
      · rw [if_neg hc] at hr
        refine lv_iconst (v := (0 : Int32)) hx hb d_M_multiply_12 (by decide) ?_
        refine lv_istore (lv' := [(5, .int (0 : Int32)), (0, .ref (qM 0)), (1, .int a1), (2, .int a2), (3, .int a3), (4, .int v4)]) hx hb d_M_multiply_13 hl (by decide) rfl (fun ls hl => ?_)
        exact hB15 v4 M_cells _ ih zFU (0 : Int32) M_fresh _ _ _ (lv_sub hl [1, 2, 3, 4, 5, 0] rfl) hP hD hS hr
  intro ls H hl hP hD hS
  have hl : lv_has ls 8 [(0, .ref (qM 0)), (1, .int a1), (2, .int a2), (3, .int a3)] := hl
  rw [f_M_multiply] at hr
  refine lv_iconst (v := (0 : Int32)) hx hb d_M_multiply_0 (by decide) ?_
  refine lv_istore (lv' := [(4, .int (0 : Int32)), (0, .ref (qM 0)), (1, .int a1), (2, .int a2), (3, .int a3)]) hx hb d_M_multiply_1 hl (by decide) rfl (fun ls hl => ?_)
  exact hB3 M_cells zFU (0 : Int32) M_fresh _ _ _ (lv_sub hl [1, 2, 3, 4, 0] rfl) hP hD hS hr
set_option maxHeartbeats 4000000 in
set_option maxRecDepth 100000 in
theorem c_M_turn (l : Launch) (D : va_G) (kI kZ : ClassId) (qM : Nat → Nat) (M_nc M_nf : Nat) (M_modulus M_side M_size : Int32) (M_cells M_fresh : Nat → Int32) (a1 a2 : Int32) (res : (Nat → Int32) × (Nat → Int32)) (hr : f_M_turn M_nc M_nf M_side M_size M_cells M_fresh a1 a2 = some res) : zMv l D kI kZ y_M_turn prog_4_method_11_code 5 none 2 81 [.ref (qM 0), .int a1, .int a2] (W_M kI kZ qM M_nc M_nf M_modulus M_side M_size M_cells M_fresh) (W_M kI kZ qM M_nc M_nf M_modulus M_side M_size (res.1) (res.2)) := by
  refine zMv.of (by decide +kernel) (Nat.le_of_ble_eq_true rfl) ?_
  intro p e R s m args below meth c Q A hR hx hb hml hts hown hA hK hN hQ
  have hown : s.vm.findClass "SquareCode$Matrices" = some m.cls := hown
  have hB13 : ∀ (v3 : Int32) (M_cells : Nat → Int32) (k2 : Int32 → (Nat → Int32) → Option ((Nat → Int32) × (Nat → Int32))) (hk2 : ∀ (v3 : Int32) (M_fresh : Nat → Int32) (H : Heap) (locs : List Loc) (ls : Array Slot), lv_has ls 5 [(0, .ref (qM 0)), (1, .int a1), (2, .int a2), (3, .int v3)] → va_P D zCl (W_M kI kZ qM M_nc M_nf M_modulus M_side M_size M_cells M_fresh) H → va_D A (W_M kI kZ qM M_nc M_nf M_modulus M_side M_size M_cells M_fresh) → va_S A s.heap H locs → k2 v3 M_fresh = some res → W p l e R s m args below meth c H locs 0 0 Q (F0 m 2 ls [])) (fu : Nat) (v4 : Int32) (M_fresh : Nat → Int32) (H : Heap) (locs : List Loc) (ls : Array Slot), lv_has ls 5 [(0, .ref (qM 0)), (1, .int a1), (2, .int a2), (3, .int v3), (4, .int v4)] → va_P D zCl (W_M kI kZ qM M_nc M_nf M_modulus M_side M_size M_cells M_fresh) H → va_D A (W_M kI kZ qM M_nc M_nf M_modulus M_side M_size M_cells M_fresh) → va_S A s.heap H locs → f_M_turn_13 M_nc M_nf M_side M_size a2 k2 v3 M_cells fu v4 M_fresh = some res → W p l e R s m args below meth c H locs 0 0 Q (F0 m 13 ls []) := by
    intro v3 M_cells k2 hk2 fu
    induction fu with
    | zero => intro v4 M_fresh H locs ls hl hP hD hS hr; exact absurd hr (by rw [f_M_turn_13]; exact fun h => by cases h)
    | succ fu ih =>
      intro v4 M_fresh H locs ls hl hP hD hS hr
      rw [f_M_turn_13] at hr
      refine lv_iload hx hb d_M_turn_13 (lv_at hl 4 rfl) ?_
      refine lv_aload_n hx hb d_M_turn_15 rfl (lv_at hl 0 rfl) ?_
      refine va_get (D := D) (ci := 2) (v := .int M_side) (C := R_M) (T := T_M) (N := 5) hx hb hts in_M hown hK hP 0 rfl rfl 1 (by decide) (hts _ kw_26) (fun _ h9 => h9) rfl d_M_turn_16 ?_
      refine lv_icmp_ge hx hb d_M_turn_19 rfl (fun hc => ?_) (fun hc => ?_)
      · rw [if_pos hc] at hr
        refine lv_iinc (k := 3) (v := (v3 + (1 : Int32))) (lv' := [(3, .int (v3 + (1 : Int32))), (0, .ref (qM 0)), (1, .int a1), (2, .int a2), (4, .int v4)]) hx hb d_M_turn_50 hl rfl (congrArg (fun z => v3 + z) (by decide : Int32.ofInt 1 = (1 : Int32))) (by decide) rfl (fun ls hl => ?_)
        refine lv_goto hx hb d_M_turn_53 rfl ?_
        exact hk2 (v3 + (1 : Int32)) M_fresh _ _ _ (lv_sub hl [1, 2, 3, 0] rfl) hP hD hS hr
      · rw [if_neg hc] at hr
        refine lv_aload_n hx hb d_M_turn_22 rfl (lv_at hl 0 rfl) ?_
        refine va_get (D := D) (ci := 2) (v := .ref (qM 2)) (C := R_M) (T := T_M) (N := 5) hx hb hts in_M hown hK hP 0 rfl rfl 4 (by decide) (hts _ kw_29) (fun _ h9 => h9) rfl d_M_turn_23 ?_
        refine lv_iload_n hx hb d_M_turn_26 rfl (lv_at hl 3 rfl) ?_
        refine lv_aload_n hx hb d_M_turn_27 rfl (lv_at hl 0 rfl) ?_
        refine va_get (D := D) (ci := 2) (v := .int M_side) (C := R_M) (T := T_M) (N := 5) hx hb hts in_M hown hK hP 0 rfl rfl 1 (by decide) (hts _ kw_26) (fun _ h9 => h9) rfl d_M_turn_28 ?_
        refine lv_imul hx hb d_M_turn_31 ?_
        refine lv_iload hx hb d_M_turn_32 (lv_at hl 4 rfl) ?_
        refine lv_iadd hx hb d_M_turn_34 ?_
        refine lv_aload_n hx hb d_M_turn_35 rfl (lv_at hl 0 rfl) ?_
        refine lv_iload_n hx hb d_M_turn_36 rfl (lv_at hl 2 rfl) ?_
        refine lv_iload hx hb d_M_turn_37 (lv_at hl 4 rfl) ?_
        refine lv_iload_n hx hb d_M_turn_39 rfl (lv_at hl 3 rfl) ?_
        obtain ⟨r1, hr1, hr⟩ := ob hr
        refine z_ci (ws := (W_M kI kZ qM M_nc M_nf M_modulus M_side M_size M_cells M_fresh)) (wc := (W_M kI kZ qM M_nc M_nf M_modulus M_side M_size M_cells M_fresh)) (wr := ([] : va_W)) (w1 := (W_M kI kZ qM M_nc M_nf M_modulus M_side M_size M_cells M_fresh)) (w2 := (W_M kI kZ qM M_nc M_nf M_modulus M_side M_size M_cells M_fresh)) (va_runV (As := [.int a2, .int v4, .int v3]) (rest := [.int ((v3 * M_side) + v4), .ref (qM 2)]) ⟨hx, hb, hml, hown, hts⟩ (c_M_get l D kI kZ qM M_nc M_nf M_modulus M_side M_size M_cells M_fresh a2 v4 v3 r1 hr1 H.size) (z_cwV hts mw_M_get kw_355 ⟨by rw [hR]; exact Nat.le_of_ble_eq_true rfl, by rw [hR]; exact Nat.le_of_ble_eq_true rfl⟩) (z_preV (ci := 2) hK hP hD hN rfl (he := (rfl : _[0]? = _)) [0, 1, 2] (by decide) rfl) rfl rfl hl.1 rfl (lv_room (Nat.le_of_ble_eq_true rfl)) d_M_turn_40 ⟨Nat.zero_le _, Nat.zero_le _⟩) hP hD hS hA [0, 1, 2] [] [0, 1, 2] rfl rfl (by decide) (by decide) rfl (by decide) (fun H locs hP hD hS => ?_)
        obtain ⟨hi, hr⟩ := gd_some hr
        refine va_iast hx hb hK hP hD hS 2 0 rfl rfl hi d_M_turn_43 (fun H locs hP hD hS => ?_)
        have hP : va_P D zCl (W_M kI kZ qM M_nc M_nf M_modulus M_side M_size M_cells (upd M_fresh ((v3 * M_side) + v4).toNatClampNeg r1)) H := hP
        have hD : va_D A (W_M kI kZ qM M_nc M_nf M_modulus M_side M_size M_cells (upd M_fresh ((v3 * M_side) + v4).toNatClampNeg r1)) := hD
        refine lv_iinc (k := 4) (v := (v4 + (1 : Int32))) (lv' := [(4, .int (v4 + (1 : Int32))), (0, .ref (qM 0)), (1, .int a1), (2, .int a2), (3, .int v3)]) hx hb d_M_turn_44 hl rfl (congrArg (fun z => v4 + z) (by decide : Int32.ofInt 1 = (1 : Int32))) (by decide) rfl (fun ls hl => ?_)
        refine lv_goto hx hb d_M_turn_47 rfl ?_
        exact ih (v4 + (1 : Int32)) (upd M_fresh ((v3 * M_side) + v4).toNatClampNeg r1) _ _ _ (lv_sub hl [1, 2, 3, 4, 0] rfl) hP hD hS hr
  have hB2 : ∀ (M_cells : Nat → Int32)   (fu : Nat) (v3 : Int32) (M_fresh : Nat → Int32) (H : Heap) (locs : List Loc) (ls : Array Slot), lv_has ls 5 [(0, .ref (qM 0)), (1, .int a1), (2, .int a2), (3, .int v3)] → va_P D zCl (W_M kI kZ qM M_nc M_nf M_modulus M_side M_size M_cells M_fresh) H → va_D A (W_M kI kZ qM M_nc M_nf M_modulus M_side M_size M_cells M_fresh) → va_S A s.heap H locs → f_M_turn_2 M_nc M_nf M_side M_size a1 a2 M_cells fu v3 M_fresh = some res → W p l e R s m args below meth c H locs 0 0 Q (F0 m 2 ls []) := by
    intro M_cells fu
    induction fu with
    | zero => intro v3 M_fresh H locs ls hl hP hD hS hr; exact absurd hr (by rw [f_M_turn_2]; exact fun h => by cases h)
    | succ fu ih =>
      intro v3 M_fresh H locs ls hl hP hD hS hr
      rw [f_M_turn_2] at hr
      refine lv_iload_n hx hb d_M_turn_2 rfl (lv_at hl 3 rfl) ?_
      refine lv_aload_n hx hb d_M_turn_3 rfl (lv_at hl 0 rfl) ?_
      refine va_get (D := D) (ci := 2) (v := .int M_side) (C := R_M) (T := T_M) (N := 5) hx hb hts in_M hown hK hP 0 rfl rfl 1 (by decide) (hts _ kw_26) (fun _ h9 => h9) rfl d_M_turn_4 ?_
      refine lv_icmp_ge hx hb d_M_turn_7 rfl (fun hc => ?_) (fun hc => ?_)
      · rw [if_pos hc] at hr
        refine lv_aload_n hx hb d_M_turn_56 rfl (lv_at hl 0 rfl) ?_
        refine lv_iload_n hx hb d_M_turn_57 rfl (lv_at hl 1 rfl) ?_
        obtain ⟨r2, hr2, hr⟩ := ob hr
        refine z_cv (ws := (W_M kI kZ qM M_nc M_nf M_modulus M_side M_size M_cells M_fresh)) (wc := (W_M kI kZ qM M_nc M_nf M_modulus M_side M_size M_cells M_fresh)) (wr := ([] : va_W)) (w1 := (W_M kI kZ qM M_nc M_nf M_modulus M_side M_size r2 M_fresh)) (w2 := (W_M kI kZ qM M_nc M_nf M_modulus M_side M_size r2 M_fresh)) (va_runV (As := [.int a1]) (rest := []) ⟨hx, hb, hml, hown, hts⟩ (c_M_keepFresh l D kI kZ qM M_nc M_nf M_modulus M_side M_size M_cells M_fresh a1 r2 hr2 H.size) (z_cwV hts mw_M_keepFresh kw_359 ⟨by rw [hR]; exact Nat.le_of_ble_eq_true rfl, by rw [hR]; exact Nat.le_of_ble_eq_true rfl⟩) (z_preV (ci := 2) hK hP hD hN rfl (he := (rfl : _[0]? = _)) [0, 1, 2] (by decide) rfl) rfl rfl hl.1 rfl (lv_room (Nat.le_of_ble_eq_true rfl)) d_M_turn_58 ⟨Nat.zero_le _, Nat.zero_le _⟩) hP hD hS hA [0, 1, 2] [] [0, 1, 2] rfl rfl (by decide) (by decide) rfl (by decide) (fun H locs hP hD hS => ?_)
        obtain rfl := Option.some.inj hr
        exact hQ _ _ _ _ d_M_turn_61 hP hD hS
      · rw [if_neg hc] at hr
        refine lv_iconst (v := (0 : Int32)) hx hb d_M_turn_10 (by decide) ?_
        refine lv_istore (lv' := [(4, .int (0 : Int32)), (0, .ref (qM 0)), (1, .int a1), (2, .int a2), (3, .int v3)]) hx hb d_M_turn_11 hl (by decide) rfl (fun ls hl => ?_)
        exact hB13 v3 M_cells _ ih zFU (0 : Int32) M_fresh _ _ _ (lv_sub hl [1, 2, 3, 4, 0] rfl) hP hD hS hr
  intro ls H hl hP hD hS
  have hl : lv_has ls 5 [(0, .ref (qM 0)), (1, .int a1), (2, .int a2)] := hl
  rw [f_M_turn] at hr
  refine lv_iconst (v := (0 : Int32)) hx hb d_M_turn_0 (by decide) ?_
  refine lv_istore_n (lv' := [(3, .int (0 : Int32)), (0, .ref (qM 0)), (1, .int a1), (2, .int a2)]) hx hb d_M_turn_1 rfl hl (by decide) rfl (fun ls hl => ?_)
  exact hB2 M_cells zFU (0 : Int32) M_fresh _ _ _ (lv_sub hl [1, 2, 3, 0] rfl) hP hD hS hr
