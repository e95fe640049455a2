set_option maxHeartbeats 4000000 in
set_option maxRecDepth 100000 in
theorem c_N_evalDirect (l : Launch) (D : va_G) (kI kZ : ClassId) (qN : Nat → Nat) (N_p N_n N_words N_hasDirect N_compiled N_size N_outcome N_done N_values : Int32) (N_word N_table N_direct N_op N_a N_b N_x N_there N_vOp N_vA N_vB N_vX N_needed N_valueOf N_place : Nat → Int32)  (res : Int32 × (Nat → Int32) × (Nat → Int32) × Int32) (hr : f_N_evalDirect N_p N_n N_words N_word N_table N_direct N_hasDirect = some res) : zMi l D kI kZ y_N_evalDirect prog_8_method_16_code 6 ((some .int)) 3 76 [.ref (qN 0)] (W_N kI kZ qN N_p N_n N_words N_hasDirect N_compiled N_size N_outcome N_done N_values N_word N_table N_direct N_op N_a N_b N_x N_there N_vOp N_vA N_vB N_vX N_needed N_valueOf N_place) (W_N kI kZ qN N_p N_n N_words (res.2.2.2) N_compiled N_size N_outcome N_done N_values N_word (res.2.1) (res.2.2.1) N_op N_a N_b N_x N_there N_vOp N_vA N_vB N_vX N_needed N_valueOf N_place) (res.1) := by
  refine zMi.of (by decide +kernel) (Nat.le_of_ble_eq_true rfl) ?_
  intro p e R s m args below meth c Q A hR hx hb hml hts hown hA hK hN hQ
  have hown : s.vm.findClass "SquareCodeModel" = some m.cls := hown
  have hB122 : ∀ (N_table : Nat → Int32) (N_hasDirect : Int32)   (fu : Nat) (v3 : Int32) (N_direct : Nat → Int32) (H : Heap) (locs : List Loc) (ls : Array Slot), lv_has ls 6 [(0, .ref (qN 0)), (3, .int v3)] → va_P D zCl (W_N kI kZ qN N_p N_n N_words N_hasDirect N_compiled N_size N_outcome N_done N_values N_word N_table N_direct N_op N_a N_b N_x N_there N_vOp N_vA N_vB N_vX N_needed N_valueOf N_place) H → va_D A (W_N kI kZ qN N_p N_n N_words N_hasDirect N_compiled N_size N_outcome N_done N_values N_word N_table N_direct N_op N_a N_b N_x N_there N_vOp N_vA N_vB N_vX N_needed N_valueOf N_place) → va_S A s.heap H locs → f_N_evalDirect_122 N_table N_hasDirect fu v3 N_direct = some res → W p l e R s m args below meth c H locs 0 0 Q (F0 m 122 ls []) := by
    intro N_table N_hasDirect fu
    induction fu with
    | zero => intro v3 N_direct H locs ls hl hP hD hS hr; exact absurd hr (by rw [f_N_evalDirect_122]; exact fun h => by cases h)
    | succ fu ih =>
      intro v3 N_direct H locs ls hl hP hD hS hr
      rw [f_N_evalDirect_122] at hr
      refine lv_iload_n hx hb d_N_evalDirect_122 rfl (lv_at hl 1 rfl) ?_
      refine lv_bipush (v := (16 : Int32)) hx hb d_N_evalDirect_123 (by decide) ?_
      refine lv_icmp_ge hx hb d_N_evalDirect_125 rfl (fun hc => ?_) (fun hc => ?_)
      · rw [if_pos hc] at hr
        refine lv_aload_n hx hb d_N_evalDirect_149 rfl (lv_at hl 0 rfl) ?_
        refine lv_iconst (v := (1 : Int32)) hx hb d_N_evalDirect_150 (by decide) ?_
        refine va_put (D := D) (ci := 6) (v := .int (1 : Int32)) (ty := .boolean) (C := R_N) (T := T_N) (N := 24) hx hb hts in_N ty_N tyo_N nm_N hown hK hP hD hS 0 rfl rfl 6 (by decide) (hts _ kw_450) (fun _ h9 => h9) rfl (by decide +kernel) rfl rfl (Nat.le_of_ble_eq_true rfl) d_N_evalDirect_151 (fun H locs hP hD hS => ?_)
        have hP : va_P D zCl (W_N kI kZ qN N_p N_n N_words (1 : Int32) N_compiled N_size N_outcome N_done N_values N_word N_table N_direct N_op N_a N_b N_x N_there N_vOp N_vA N_vB N_vX N_needed N_valueOf N_place) H := hP
        have hD : va_D A (W_N kI kZ qN N_p N_n N_words (1 : Int32) N_compiled N_size N_outcome N_done N_values N_word N_table N_direct N_op N_a N_b N_x N_there N_vOp N_vA N_vB N_vX N_needed N_valueOf N_place) := hD
        refine lv_iconst (v := (0 : Int32)) hx hb d_N_evalDirect_154 (by decide) ?_
        obtain rfl := Option.some.inj hr
        exact hQ _ _ _ _ _ d_N_evalDirect_155 rfl rfl hP hD hS
      · rw [if_neg hc] at hr
        refine lv_aload_n hx hb d_N_evalDirect_128 rfl (lv_at hl 0 rfl) ?_
        refine va_get (D := D) (ci := 6) (v := .ref (qN 3)) (C := R_N) (T := T_N) (N := 24) hx hb hts in_N hown hK hP 0 rfl rfl 5 (by decide) (hts _ kw_449) (fun _ h9 => h9) rfl d_N_evalDirect_129 ?_
        refine lv_iload_n hx hb d_N_evalDirect_132 rfl (lv_at hl 1 rfl) ?_
        refine lv_aload_n hx hb d_N_evalDirect_133 rfl (lv_at hl 0 rfl) ?_
        refine va_get (D := D) (ci := 6) (v := .ref (qN 2)) (C := R_N) (T := T_N) (N := 24) hx hb hts in_N hown hK hP 0 rfl rfl 4 (by decide) (hts _ kw_448) (fun _ h9 => h9) rfl d_N_evalDirect_134 ?_
        refine lv_bipush (v := (64 : Int32)) hx hb d_N_evalDirect_137 (by decide) ?_
        refine lv_iload_n hx hb d_N_evalDirect_139 rfl (lv_at hl 1 rfl) ?_
        refine lv_iadd hx hb d_N_evalDirect_140 ?_
        obtain ⟨hi, hr⟩ := gd_some hr
        refine va_iald hx hb hK hP 2 0 rfl rfl hi d_N_evalDirect_141 ?_
        obtain ⟨hi, hr⟩ := gd_some hr
        refine va_iast hx hb hK hP hD hS 3 0 rfl rfl hi d_N_evalDirect_142 (fun H locs hP hD hS => ?_)
        have hP : va_P D zCl (W_N kI kZ qN N_p N_n N_words N_hasDirect N_compiled N_size N_outcome N_done N_values N_word N_table (upd N_direct v3.toNatClampNeg (N_table ((64 : Int32) + v3).toNatClampNeg)) N_op N_a N_b N_x N_there N_vOp N_vA N_vB N_vX N_needed N_valueOf N_place) H := hP
        have hD : va_D A (W_N kI kZ qN N_p N_n N_words N_hasDirect N_compiled N_size N_outcome N_done N_values N_word N_table (upd N_direct v3.toNatClampNeg (N_table ((64 : Int32) + v3).toNatClampNeg)) N_op N_a N_b N_x N_there N_vOp N_vA N_vB N_vX N_needed N_valueOf N_place) := hD
        refine lv_iinc (k := 1) (v := (v3 + (1 : Int32))) (lv' := [(3, .int (v3 + (1 : Int32))), (0, .ref (qN 0))]) hx hb d_N_evalDirect_143 hl rfl (congrArg (fun z => v3 + z) (by decide : Int32.ofInt 1 = (1 : Int32))) (by decide) rfl (fun ls hl => ?_)
        refine lv_goto hx hb d_N_evalDirect_146 rfl ?_
        exact ih (v3 + (1 : Int32)) (upd N_direct v3.toNatClampNeg (N_table ((64 : Int32) + v3).toNatClampNeg)) _ _ _ (lv_sub hl [1, 0] rfl) hP hD hS hr
  have hB110 : ∀ (v2 v3 : Int32) (N_table N_direct : Nat → Int32) (N_hasDirect : Int32) (k15 : Int32 → Int32 → (Nat → Int32) → Option (Int32 × (Nat → Int32) × (Nat → Int32) × Int32)) (hk15 : ∀ (v2 v3 : Int32) (N_table : Nat → Int32) (H : Heap) (locs : List Loc) (ls : Array Slot), lv_has ls 6 [(0, .ref (qN 0)), (2, .int v2), (3, .int v3)] → va_P D zCl (W_N kI kZ qN N_p N_n N_words N_hasDirect N_compiled N_size N_outcome N_done N_values N_word N_table N_direct N_op N_a N_b N_x N_there N_vOp N_vA N_vB N_vX N_needed N_valueOf N_place) H → va_D A (W_N kI kZ qN N_p N_n N_words N_hasDirect N_compiled N_size N_outcome N_done N_values N_word N_table N_direct N_op N_a N_b N_x N_there N_vOp N_vA N_vB N_vX N_needed N_valueOf N_place) → va_S A s.heap H locs → k15 v2 v3 N_table = some res → W p l e R s m args below meth c H locs 0 0 Q (F0 m 15 ls [])) (H : Heap) (locs : List Loc) (ls : Array Slot), lv_has ls 6 [(0, .ref (qN 0)), (2, .int v2), (3, .int v3)] → va_P D zCl (W_N kI kZ qN N_p N_n N_words N_hasDirect N_compiled N_size N_outcome N_done N_values N_word N_table N_direct N_op N_a N_b N_x N_there N_vOp N_vA N_vB N_vX N_needed N_valueOf N_place) H → va_D A (W_N kI kZ qN N_p N_n N_words N_hasDirect N_compiled N_size N_outcome N_done N_values N_word N_table N_direct N_op N_a N_b N_x N_there N_vOp N_vA N_vB N_vX N_needed N_valueOf N_place) → va_S A s.heap H locs → f_N_evalDirect_110 k15 v2 v3 N_table N_direct N_hasDirect = some res → W p l e R s m args below meth c H locs 0 0 Q (F0 m 110 ls []) := by
    intro v2 v3 N_table N_direct N_hasDirect k15 hk15 H locs ls hl hP hD hS hr
    rw [f_N_evalDirect_110] at hr
    refine lv_iload_n hx hb d_N_evalDirect_110 rfl (lv_at hl 1 rfl) ?_
    refine lv_iconst (v := (1 : Int32)) hx hb d_N_evalDirect_111 (by decide) ?_
    refine lv_iadd hx hb d_N_evalDirect_112 ?_
    obtain ⟨v2_1, ev2_1, hr⟩ := nm_some hr
    refine z_top ev2_1 ?_
    refine lv_istore_n (lv' := [(2, .int v2_1), (0, .ref (qN 0)), (3, .int v3)]) hx hb d_N_evalDirect_113 rfl hl (by decide) rfl (fun ls hl => ?_)
    refine lv_iinc (k := 2) (v := (v3 + (1 : Int32))) (lv' := [(3, .int (v3 + (1 : Int32))), (2, .int v2_1), (0, .ref (qN 0))]) hx hb d_N_evalDirect_114 hl rfl (congrArg (fun z => v3 + z) (by decide : Int32.ofInt 1 = (1 : Int32))) (by decide) rfl (fun ls hl => ?_)
    refine lv_goto hx hb d_N_evalDirect_117 rfl ?_
    exact hk15 v2_1 (v3 + (1 : Int32)) N_table _ _ _ (lv_sub hl [2, 1, 0] rfl) hP hD hS hr
  have hB59 : ∀ (v2 v3 v4 t0 : Int32) (N_table N_direct : Nat → Int32) (N_hasDirect : Int32) (k15 : Int32 → Int32 → (Nat → Int32) → Option (Int32 × (Nat → Int32) × (Nat → Int32) × Int32)) (hk15 : ∀ (v2 v3 : Int32) (N_table : Nat → Int32) (H : Heap) (locs : List Loc) (ls : Array Slot), lv_has ls 6 [(0, .ref (qN 0)), (2, .int v2), (3, .int v3)] → va_P D zCl (W_N kI kZ qN N_p N_n N_words N_hasDirect N_compiled N_size N_outcome N_done N_values N_word N_table N_direct N_op N_a N_b N_x N_there N_vOp N_vA N_vB N_vX N_needed N_valueOf N_place) H → va_D A (W_N kI kZ qN N_p N_n N_words N_hasDirect N_compiled N_size N_outcome N_done N_values N_word N_table N_direct N_op N_a N_b N_x N_there N_vOp N_vA N_vB N_vX N_needed N_valueOf N_place) → va_S A s.heap H locs → k15 v2 v3 N_table = some res → W p l e R s m args below meth c H locs 0 0 Q (F0 m 15 ls [])) (H : Heap) (locs : List Loc) (ls : Array Slot), lv_has ls 6 [(0, .ref (qN 0)), (2, .int v2), (3, .int v3), (4, .int v4)] → va_P D zCl (W_N kI kZ qN N_p N_n N_words N_hasDirect N_compiled N_size N_outcome N_done N_values N_word N_table N_direct N_op N_a N_b N_x N_there N_vOp N_vA N_vB N_vX N_needed N_valueOf N_place) H → va_D A (W_N kI kZ qN N_p N_n N_words N_hasDirect N_compiled N_size N_outcome N_done N_values N_word N_table N_direct N_op N_a N_b N_x N_there N_vOp N_vA N_vB N_vX N_needed N_valueOf N_place) → va_S A s.heap H locs → f_N_evalDirect_59 N_p N_n N_word k15 v2 v3 v4 t0 N_table N_direct N_hasDirect = some res → W p l e R s m args below meth c H locs 0 0 Q (F0 m 59 ls [.int t0]) := by
    intro v2 v3 v4 t0 N_table N_direct N_hasDirect k15 hk15 H locs ls hl hP hD hS hr
    rw [f_N_evalDirect_59] at hr
    refine lv_istore (lv' := [(5, .int t0), (0, .ref (qN 0)), (2, .int v2), (3, .int v3), (4, .int v4)]) hx hb d_N_evalDirect_59 hl (by decide) rfl (fun ls hl => ?_)
    refine lv_iload_n hx hb d_N_evalDirect_61 rfl (lv_at hl 2 rfl) ?_
    refine lv_iload hx hb d_N_evalDirect_62 (lv_at hl 0 rfl) ?_
    refine lv_isub hx hb d_N_evalDirect_64 ?_
    obtain ⟨v2_2, ev2_2, hr⟩ := nm_some hr
    refine z_top ev2_2 ?_
    refine lv_istore_n (lv' := [(2, .int v2_2), (5, .int t0), (0, .ref (qN 0)), (3, .int v3), (4, .int v4)]) hx hb d_N_evalDirect_65 rfl hl (by decide) rfl (fun ls hl => ?_)
    refine lv_iload hx hb d_N_evalDirect_66 (lv_at hl 4 rfl) ?_
    refine lv_bipush (v := (8 : Int32)) hx hb d_N_evalDirect_68 (by decide) ?_
    refine lv_icmp_ne hx hb d_N_evalDirect_70 rfl (fun hc => ?_) (fun hc => ?_)
    · rw [if_neg hc] at hr
      refine lv_aload_n hx hb d_N_evalDirect_90 rfl (lv_at hl 2 rfl) ?_
      refine lv_iload hx hb d_N_evalDirect_91 (lv_at hl 4 rfl) ?_
      refine lv_iload_n hx hb d_N_evalDirect_93 rfl (lv_at hl 0 rfl) ?_
      refine lv_iload_n hx hb d_N_evalDirect_94 rfl (lv_at hl 0 rfl) ?_
      refine lv_iconst (v := (1 : Int32)) hx hb d_N_evalDirect_95 (by decide) ?_
      refine lv_iadd hx hb d_N_evalDirect_96 ?_
      refine lv_aload_n hx hb d_N_evalDirect_97 rfl (lv_at hl 2 rfl) ?_
      refine va_get (D := D) (ci := 6) (v := .ref (qN 1)) (C := R_N) (T := T_N) (N := 24) hx hb hts in_N hown hK hP 0 rfl rfl 3 (by decide) (hts _ kw_447) (fun _ h9 => h9) rfl d_N_evalDirect_98 ?_
      refine lv_iload_n hx hb d_N_evalDirect_101 rfl (lv_at hl 3 rfl) ?_
      obtain ⟨hi, hr⟩ := gd_some hr
      refine va_iald hx hb hK hP 1 0 rfl rfl hi d_N_evalDirect_102 ?_
      refine lv_bipush (v := (100 : Int32)) hx hb d_N_evalDirect_103 (by decide) ?_
      refine z_irem hx hb d_N_evalDirect_105 (by decide) ?_
      refine lv_iload_n hx hb d_N_evalDirect_106 rfl (lv_at hl 0 rfl) ?_
      obtain ⟨r3, hr3, hr⟩ := ob hr
      refine z_cv (ws := (W_N kI kZ qN N_p N_n N_words N_hasDirect N_compiled N_size N_outcome N_done N_values N_word N_table N_direct N_op N_a N_b N_x N_there N_vOp N_vA N_vB N_vX N_needed N_valueOf N_place)) (wc := (W_N kI kZ qN N_p N_n N_words N_hasDirect N_compiled N_size N_outcome N_done N_values N_word N_table N_direct N_op N_a N_b N_x N_there N_vOp N_vA N_vB N_vX N_needed N_valueOf N_place)) (wr := ([] : va_W)) (w1 := (W_N kI kZ qN N_p N_n N_words N_hasDirect N_compiled N_size N_outcome N_done N_values N_word r3 N_direct N_op N_a N_b N_x N_there N_vOp N_vA N_vB N_vX N_needed N_valueOf N_place)) (w2 := (W_N kI kZ qN N_p N_n N_words N_hasDirect N_compiled N_size N_outcome N_done N_values N_word r3 N_direct N_op N_a N_b N_x N_there N_vOp N_vA N_vB N_vX N_needed N_valueOf N_place)) (va_runV (As := [.int v4, .int v2_2, .int (v2_2 + (1 : Int32)), .int (zrem (N_word v3.toNatClampNeg) (100 : Int32)), .int v2_2]) (rest := []) ⟨hx, hb, hml, hown, hts⟩ (c_N_operate l D kI kZ qN N_p N_n N_words N_hasDirect N_compiled N_size N_outcome N_done N_values N_word N_table N_direct N_op N_a N_b N_x N_there N_vOp N_vA N_vB N_vX N_needed N_valueOf N_place v4 v2_2 (v2_2 + (1 : Int32)) (zrem (N_word v3.toNatClampNeg) (100 : Int32)) v2_2 r3 hr3 H.size) (z_cwV hts mw_N_operate kw_565 ⟨by rw [hR]; exact Nat.le_of_ble_eq_true rfl, by rw [hR]; exact Nat.le_of_ble_eq_true rfl⟩) (z_preV (ci := 6) hK hP hD hN rfl (he := (rfl : _[0]? = _)) [0, 1, 2, 3, 4, 5, 6, 7, 8, 9, 10, 11, 12, 13, 14, 15] (by decide) rfl) rfl rfl hl.1 rfl (lv_room (Nat.le_of_ble_eq_true rfl)) d_N_evalDirect_107 ⟨Nat.zero_le _, Nat.zero_le _⟩) hP hD hS hA [0, 1, 2, 3, 4, 5, 6, 7, 8, 9, 10, 11, 12, 13, 14, 15] [] [0, 1, 2, 3, 4, 5, 6, 7, 8, 9, 10, 11, 12, 13, 14, 15] rfl rfl (by decide) (by decide) rfl (by decide) (fun H locs hP hD hS => ?_)
      exact hB110 v2_2 v3 r3 N_direct N_hasDirect _ hk15 _ _ _ (lv_sub hl [2, 0, 3] rfl) hP hD hS hr
    · rw [if_pos hc] at hr
      refine lv_aload_n hx hb d_N_evalDirect_73 rfl (lv_at hl 2 rfl) ?_
      refine lv_iload_n hx hb d_N_evalDirect_74 rfl (lv_at hl 0 rfl) ?_
      refine lv_aload_n hx hb d_N_evalDirect_75 rfl (lv_at hl 2 rfl) ?_
      refine va_get (D := D) (ci := 6) (v := .ref (qN 1)) (C := R_N) (T := T_N) (N := 24) hx hb hts in_N hown hK hP 0 rfl rfl 3 (by decide) (hts _ kw_447) (fun _ h9 => h9) rfl d_N_evalDirect_76 ?_
      refine lv_iload_n hx hb d_N_evalDirect_79 rfl (lv_at hl 3 rfl) ?_
      obtain ⟨hi, hr⟩ := gd_some hr
      refine va_iald hx hb hK hP 1 0 rfl rfl hi d_N_evalDirect_80 ?_
      refine lv_bipush (v := (100 : Int32)) hx hb d_N_evalDirect_81 (by decide) ?_
      refine z_irem hx hb d_N_evalDirect_83 (by decide) ?_
      obtain ⟨r4, hr4, hr⟩ := ob hr
      refine z_cv (ws := (W_N kI kZ qN N_p N_n N_words N_hasDirect N_compiled N_size N_outcome N_done N_values N_word N_table N_direct N_op N_a N_b N_x N_there N_vOp N_vA N_vB N_vX N_needed N_valueOf N_place)) (wc := (W_N kI kZ qN N_p N_n N_words N_hasDirect N_compiled N_size N_outcome N_done N_values N_word N_table N_direct N_op N_a N_b N_x N_there N_vOp N_vA N_vB N_vX N_needed N_valueOf N_place)) (wr := ([] : va_W)) (w1 := (W_N kI kZ qN N_p N_n N_words N_hasDirect N_compiled N_size N_outcome N_done N_values N_word r4 N_direct N_op N_a N_b N_x N_there N_vOp N_vA N_vB N_vX N_needed N_valueOf N_place)) (w2 := (W_N kI kZ qN N_p N_n N_words N_hasDirect N_compiled N_size N_outcome N_done N_values N_word r4 N_direct N_op N_a N_b N_x N_there N_vOp N_vA N_vB N_vX N_needed N_valueOf N_place)) (va_runV (As := [.int v2_2, .int (zrem (N_word v3.toNatClampNeg) (100 : Int32))]) (rest := []) ⟨hx, hb, hml, hown, hts⟩ (c_N_raise l D kI kZ qN N_p N_n N_words N_hasDirect N_compiled N_size N_outcome N_done N_values N_word N_table N_direct N_op N_a N_b N_x N_there N_vOp N_vA N_vB N_vX N_needed N_valueOf N_place v2_2 (zrem (N_word v3.toNatClampNeg) (100 : Int32)) r4 hr4 H.size) (z_cwV hts mw_N_raise kw_557 ⟨by rw [hR]; exact Nat.le_of_ble_eq_true rfl, by rw [hR]; exact Nat.le_of_ble_eq_true rfl⟩) (z_preV (ci := 6) hK hP hD hN rfl (he := (rfl : _[0]? = _)) [0, 1, 2, 3, 4, 5, 6, 7, 8, 9, 10, 11, 12, 13, 14, 15] (by decide) rfl) rfl rfl hl.1 rfl (lv_room (Nat.le_of_ble_eq_true rfl)) d_N_evalDirect_84 ⟨Nat.zero_le _, Nat.zero_le _⟩) hP hD hS hA [0, 1, 2, 3, 4, 5, 6, 7, 8, 9, 10, 11, 12, 13, 14, 15] [] [0, 1, 2, 3, 4, 5, 6, 7, 8, 9, 10, 11, 12, 13, 14, 15] rfl rfl (by decide) (by decide) rfl (by decide) (fun H locs hP hD hS => ?_)
      refine lv_goto hx hb d_N_evalDirect_87 rfl ?_
      exact hB110 v2_2 v3 r4 N_direct N_hasDirect _ hk15 _ _ _ (lv_sub hl [2, 0, 3] rfl) hP hD hS hr
  have hB15 : ∀ (N_direct : Nat → Int32) (N_hasDirect : Int32)   (fu : Nat) (v2 v3 : Int32) (N_table : Nat → Int32) (H : Heap) (locs : List Loc) (ls : Array Slot), lv_has ls 6 [(0, .ref (qN 0)), (2, .int v2), (3, .int v3)] → va_P D zCl (W_N kI kZ qN N_p N_n N_words N_hasDirect N_compiled N_size N_outcome N_done N_values N_word N_table N_direct N_op N_a N_b N_x N_there N_vOp N_vA N_vB N_vX N_needed N_valueOf N_place) H → va_D A (W_N kI kZ qN N_p N_n N_words N_hasDirect N_compiled N_size N_outcome N_done N_values N_word N_table N_direct N_op N_a N_b N_x N_there N_vOp N_vA N_vB N_vX N_needed N_valueOf N_place) → va_S A s.heap H locs → f_N_evalDirect_15 N_p N_n N_words N_word N_direct N_hasDirect fu v2 v3 N_table = some res → W p l e R s m args below meth c H locs 0 0 Q (F0 m 15 ls []) := by
    intro N_direct N_hasDirect fu
    induction fu with
    | zero => intro v2 v3 N_table H locs ls hl hP hD hS hr; exact absurd hr (by rw [f_N_evalDirect_15]; exact fun h => by cases h)
    | succ fu ih =>
      intro v2 v3 N_table H locs ls hl hP hD hS hr
      rw [f_N_evalDirect_15] at hr
      refine lv_iload_n hx hb d_N_evalDirect_15 rfl (lv_at hl 2 rfl) ?_
      refine lv_aload_n hx hb d_N_evalDirect_16 rfl (lv_at hl 0 rfl) ?_
      refine va_get (D := D) (ci := 6) (v := .int N_words) (C := R_N) (T := T_N) (N := 24) hx hb hts in_N hown hK hP 0 rfl rfl 2 (by decide) (hts _ kw_446) (fun _ h9 => h9) rfl d_N_evalDirect_17 ?_
      refine lv_icmp_ge hx hb d_N_evalDirect_20 rfl (fun hc => ?_) (fun hc => ?_)
      · rw [if_pos hc] at hr
        refine lv_iconst (v := (0 : Int32)) hx hb d_N_evalDirect_120 (by decide) ?_
        refine lv_istore_n (lv' := [(3, .int (0 : Int32)), (0, .ref (qN 0)), (2, .int v2)]) hx hb d_N_evalDirect_121 rfl hl (by decide) rfl (fun ls hl => ?_)
        exact hB122 N_table N_hasDirect zFU (0 : Int32) N_direct _ _ _ (lv_sub hl [1, 0] rfl) hP hD hS hr
      · rw [if_neg hc] at hr
        refine lv_aload_n hx hb d_N_evalDirect_23 rfl (lv_at hl 0 rfl) ?_
        refine va_get (D := D) (ci := 6) (v := .ref (qN 1)) (C := R_N) (T := T_N) (N := 24) hx hb hts in_N hown hK hP 0 rfl rfl 3 (by decide) (hts _ kw_447) (fun _ h9 => h9) rfl d_N_evalDirect_24 ?_
        refine lv_iload_n hx hb d_N_evalDirect_27 rfl (lv_at hl 2 rfl) ?_
        obtain ⟨hi, hr⟩ := gd_some hr
        refine va_iald hx hb hK hP 1 0 rfl rfl hi d_N_evalDirect_28 ?_
        refine lv_bipush (v := (100 : Int32)) hx hb d_N_evalDirect_29 (by decide) ?_
        refine lv_idiv hx hb d_N_evalDirect_31 (by decide) ?_
        obtain ⟨v4_5, ev4_5, hr⟩ := nm_some hr
        refine z_top ev4_5 ?_
        refine lv_istore (lv' := [(4, .int v4_5), (0, .ref (qN 0)), (2, .int v2), (3, .int v3)]) hx hb d_N_evalDirect_32 hl (by decide) rfl (fun ls hl => ?_)
        refine lv_iload hx hb d_N_evalDirect_34 (lv_at hl 0 rfl) ?_
        obtain ⟨r6, hr6, hr⟩ := ob hr
        refine z_ci (ws := (W_N kI kZ qN N_p N_n N_words N_hasDirect N_compiled N_size N_outcome N_done N_values N_word N_table N_direct N_op N_a N_b N_x N_there N_vOp N_vA N_vB N_vX N_needed N_valueOf N_place)) (wc := ([] : va_W)) (wr := (W_N kI kZ qN N_p N_n N_words N_hasDirect N_compiled N_size N_outcome N_done N_values N_word N_table N_direct N_op N_a N_b N_x N_there N_vOp N_vA N_vB N_vX N_needed N_valueOf N_place)) (w1 := ([] : va_W)) (w2 := (W_N kI kZ qN N_p N_n N_words N_hasDirect N_compiled N_size N_outcome N_done N_values N_word N_table N_direct N_op N_a N_b N_x N_there N_vOp N_vA N_vB N_vX N_needed N_valueOf N_place)) (va_runS (As := [.int v4_5]) (rest := []) ⟨hx, hb, hml, hown, hts⟩ (c_N_isTwo l D kI kZ v4_5 r6 hr6 H.size) (z_cwS hts mw_N_isTwo kw_551 ⟨by rw [hR]; exact Nat.le_of_ble_eq_true rfl, by rw [hR]; exact Nat.le_of_ble_eq_true rfl⟩) (z_pre hK hP hD hN [] (by decide) rfl) rfl rfl hl.1 rfl (lv_room (Nat.le_of_ble_eq_true rfl)) d_N_evalDirect_36 ⟨Nat.zero_le _, Nat.zero_le _⟩) hP hD hS hA [] [0, 1, 2, 3, 4, 5, 6, 7, 8, 9, 10, 11, 12, 13, 14, 15] [0, 1, 2, 3, 4, 5, 6, 7, 8, 9, 10, 11, 12, 13, 14, 15] rfl rfl (by decide) (by decide) rfl (by decide) (fun H locs hP hD hS => ?_)
        refine lv_if_eq hx hb d_N_evalDirect_39 rfl (fun hc => ?_) (fun hc => ?_)
        · rw [if_pos hc] at hr
          refine lv_iload hx hb d_N_evalDirect_46 (lv_at hl 0 rfl) ?_
          obtain ⟨r7, hr7, hr⟩ := ob hr
          refine z_ci (ws := (W_N kI kZ qN N_p N_n N_words N_hasDirect N_compiled N_size N_outcome N_done N_values N_word N_table N_direct N_op N_a N_b N_x N_there N_vOp N_vA N_vB N_vX N_needed N_valueOf N_place)) (wc := ([] : va_W)) (wr := (W_N kI kZ qN N_p N_n N_words N_hasDirect N_compiled N_size N_outcome N_done N_values N_word N_table N_direct N_op N_a N_b N_x N_there N_vOp N_vA N_vB N_vX N_needed N_valueOf N_place)) (w1 := ([] : va_W)) (w2 := (W_N kI kZ qN N_p N_n N_words N_hasDirect N_compiled N_size N_outcome N_done N_values N_word N_table N_direct N_op N_a N_b N_x N_there N_vOp N_vA N_vB N_vX N_needed N_valueOf N_place)) (va_runS (As := [.int v4_5]) (rest := []) ⟨hx, hb, hml, hown, hts⟩ (c_N_isOne l D kI kZ v4_5 r7 hr7 H.size) (z_cwS hts mw_N_isOne kw_554 ⟨by rw [hR]; exact Nat.le_of_ble_eq_true rfl, by rw [hR]; exact Nat.le_of_ble_eq_true rfl⟩) (z_pre hK hP hD hN [] (by decide) rfl) rfl rfl hl.1 rfl (lv_room (Nat.le_of_ble_eq_true rfl)) d_N_evalDirect_48 ⟨Nat.zero_le _, Nat.zero_le _⟩) hP hD hS hA [] [0, 1, 2, 3, 4, 5, 6, 7, 8, 9, 10, 11, 12, 13, 14, 15] [0, 1, 2, 3, 4, 5, 6, 7, 8, 9, 10, 11, 12, 13, 14, 15] rfl rfl (by decide) (by decide) rfl (by decide) (fun H locs hP hD hS => ?_)
          refine lv_if_eq hx hb d_N_evalDirect_51 rfl (fun hc => ?_) (fun hc => ?_)
          · rw [if_pos hc] at hr
            refine lv_iconst (v := (0 : Int32)) hx hb d_N_evalDirect_58 (by decide) ?_
            exact hB59 v2 v3 v4_5 (0 : Int32) N_table N_direct N_hasDirect _ ih _ _ _ (lv_sub hl [1, 2, 3, 0] rfl) hP hD hS hr
          · rw [if_neg hc] at hr
            refine lv_iconst (v := (1 : Int32)) hx hb d_N_evalDirect_54 (by decide) ?_
            refine lv_goto hx hb d_N_evalDirect_55 rfl ?_
            exact hB59 v2 v3 v4_5 (1 : Int32) N_table N_direct N_hasDirect _ ih _ _ _ (lv_sub hl [1, 2, 3, 0] rfl) hP hD hS hr
        · rw [if_neg hc] at hr
          refine lv_iconst (v := (2 : Int32)) hx hb d_N_evalDirect_42 (by decide) ?_
          refine lv_goto hx hb d_N_evalDirect_43 rfl ?_
          exact hB59 v2 v3 v4_5 (2 : Int32) N_table N_direct N_hasDirect _ ih _ _ _ (lv_sub hl [1, 2, 3, 0] rfl) hP hD hS hr
  intro ls H hl hP hD hS
  have hl : lv_has ls 6 [(0, .ref (qN 0))] := hl
  rw [f_N_evalDirect] at hr
  refine lv_aload_n hx hb d_N_evalDirect_0 rfl (lv_at hl 0 rfl) ?_
  obtain ⟨r8, hr8, hr⟩ := ob hr
  refine z_ci (ws := (W_N kI kZ qN N_p N_n N_words N_hasDirect N_compiled N_size N_outcome N_done N_values N_word N_table N_direct N_op N_a N_b N_x N_there N_vOp N_vA N_vB N_vX N_needed N_valueOf N_place)) (wc := (W_N kI kZ qN N_p N_n N_words N_hasDirect N_compiled N_size N_outcome N_done N_values N_word N_table N_direct N_op N_a N_b N_x N_there N_vOp N_vA N_vB N_vX N_needed N_valueOf N_place)) (wr := ([] : va_W)) (w1 := (W_N kI kZ qN N_p N_n N_words N_hasDirect N_compiled N_size N_outcome N_done N_values N_word N_table N_direct N_op N_a N_b N_x N_there N_vOp N_vA N_vB N_vX N_needed N_valueOf N_place)) (w2 := (W_N kI kZ qN N_p N_n N_words N_hasDirect N_compiled N_size N_outcome N_done N_values N_word N_table N_direct N_op N_a N_b N_x N_there N_vOp N_vA N_vB N_vX N_needed N_valueOf N_place)) (va_runV (As := []) (rest := []) ⟨hx, hb, hml, hown, hts⟩ (c_N_fault l D kI kZ qN N_p N_n N_words N_hasDirect N_compiled N_size N_outcome N_done N_values N_word N_table N_direct N_op N_a N_b N_x N_there N_vOp N_vA N_vB N_vX N_needed N_valueOf N_place r8 hr8 H.size) (z_cwV hts mw_N_fault kw_544 ⟨by rw [hR]; exact Nat.le_of_ble_eq_true rfl, by rw [hR]; exact Nat.le_of_ble_eq_true rfl⟩) (z_preV (ci := 6) hK hP hD hN rfl (he := (rfl : _[0]? = _)) [0, 1, 2, 3, 4, 5, 6, 7, 8, 9, 10, 11, 12, 13, 14, 15] (by decide) rfl) rfl rfl hl.1 rfl (lv_room (Nat.le_of_ble_eq_true rfl)) d_N_evalDirect_1 ⟨Nat.zero_le _, Nat.zero_le _⟩) hP hD hS hA [0, 1, 2, 3, 4, 5, 6, 7, 8, 9, 10, 11, 12, 13, 14, 15] [] [0, 1, 2, 3, 4, 5, 6, 7, 8, 9, 10, 11, 12, 13, 14, 15] rfl rfl (by decide) (by decide) rfl (by decide) (fun H locs hP hD hS => ?_)
  refine lv_istore_n (lv' := [(1, .int r8), (0, .ref (qN 0))]) hx hb d_N_evalDirect_4 rfl hl (by decide) rfl (fun ls hl => ?_)
  refine lv_iload_n hx hb d_N_evalDirect_5 rfl (lv_at hl 0 rfl) ?_
  refine lv_if_le hx hb d_N_evalDirect_6 rfl (fun hc => ?_) (fun hc => ?_)
  · rw [if_pos hc] at hr
    refine lv_iconst (v := (4 : Int32)) hx hb d_N_evalDirect_11 (by decide) ?_
    refine lv_istore_n (lv' := [(2, .int (4 : Int32)), (1, .int r8), (0, .ref (qN 0))]) hx hb d_N_evalDirect_12 rfl hl (by decide) rfl (fun ls hl => ?_)
    refine lv_iconst (v := (0 : Int32)) hx hb d_N_evalDirect_13 (by decide) ?_
    refine lv_istore_n (lv' := [(3, .int (0 : Int32)), (2, .int (4 : Int32)), (1, .int r8), (0, .ref (qN 0))]) hx hb d_N_evalDirect_14 rfl hl (by decide) rfl (fun ls hl => ?_)
    exact hB15 N_direct N_hasDirect zFU (4 : Int32) (0 : Int32) N_table _ _ _ (lv_sub hl [3, 1, 0] rfl) hP hD hS hr
  · rw [if_neg hc] at hr
    refine lv_iload_n hx hb d_N_evalDirect_9 rfl (lv_at hl 0 rfl) ?_
    obtain rfl := Option.some.inj hr
    exact hQ _ _ _ _ _ d_N_evalDirect_10 rfl rfl hP hD hS
set_option maxHeartbeats 4000000 in
set_option maxRecDepth 100000 in
theorem c_N_write (l : Launch) (D : va_G) (kI kZ : ClassId) (qN : Nat → Nat) (N_p N_n N_words N_hasDirect N_compiled N_size N_outcome N_done N_values : Int32) (N_word N_table N_direct N_op N_a N_b N_x N_there N_vOp N_vA N_vB N_vX N_needed N_valueOf N_place : Nat → Int32) (a1 a2 a3 a4 : Int32) (res : Int32 × Int32 × (Nat → Int32) × (Nat → Int32) × (Nat → Int32) × (Nat → Int32)) (hr : f_N_write N_size N_op N_a N_b N_x a1 a2 a3 a4 = some res) : zMi l D kI kZ y_N_write prog_8_method_17_code 5 ((some .int)) 0 0 [.ref (qN 0), .int a1, .int a2, .int a3, .int a4] (W_N kI kZ qN N_p N_n N_words N_hasDirect N_compiled N_size N_outcome N_done N_values N_word N_table N_direct N_op N_a N_b N_x N_there N_vOp N_vA N_vB N_vX N_needed N_valueOf N_place) (W_N kI kZ qN N_p N_n N_words N_hasDirect N_compiled (res.2.1) N_outcome N_done N_values N_word N_table N_direct (res.2.2.1) (res.2.2.2.1) (res.2.2.2.2.1) (res.2.2.2.2.2) N_there N_vOp N_vA N_vB N_vX N_needed N_valueOf N_place) (res.1) := by
  refine zMi.of (by decide +kernel) (Nat.le_of_ble_eq_true rfl) ?_
  intro p e R s m args below meth c Q A hR hx hb hml hts hown hA hK hN hQ
  have hown : s.vm.findClass "SquareCodeModel" = some m.cls := hown
  intro ls H hl hP hD hS
  have hl : lv_has ls 5 [(0, .ref (qN 0)), (1, .int a1), (2, .int a2), (3, .int a3), (4, .int a4)] := hl
  rw [f_N_write] at hr
  refine lv_aload_n hx hb d_N_write_0 rfl (lv_at hl 0 rfl) ?_
  refine va_get (D := D) (ci := 6) (v := .ref (qN 4)) (C := R_N) (T := T_N) (N := 24) hx hb hts in_N hown hK hP 0 rfl rfl 9 (by decide) (hts _ kw_453) (fun _ h9 => h9) rfl d_N_write_1 ?_
  refine lv_aload_n hx hb d_N_write_4 rfl (lv_at hl 0 rfl) ?_
  refine va_get (D := D) (ci := 6) (v := .int N_size) (C := R_N) (T := T_N) (N := 24) hx hb hts in_N hown hK hP 0 rfl rfl 8 (by decide) (hts _ kw_452) (fun _ h9 => h9) rfl d_N_write_5 ?_
  refine lv_iload_n hx hb d_N_write_8 rfl (lv_at hl 1 rfl) ?_
  obtain ⟨hi, hr⟩ := gd_some hr
  refine va_iast hx hb hK hP hD hS 4 0 rfl rfl hi d_N_write_9 (fun H locs hP hD hS => ?_)
  have hP : va_P D zCl (W_N kI kZ qN N_p N_n N_words N_hasDirect N_compiled N_size N_outcome N_done N_values N_word N_table N_direct (upd N_op N_size.toNatClampNeg a1) N_a N_b N_x N_there N_vOp N_vA N_vB N_vX N_needed N_valueOf N_place) H := hP
  have hD : va_D A (W_N kI kZ qN N_p N_n N_words N_hasDirect N_compiled N_size N_outcome N_done N_values N_word N_table N_direct (upd N_op N_size.toNatClampNeg a1) N_a N_b N_x N_there N_vOp N_vA N_vB N_vX N_needed N_valueOf N_place) := hD
  refine lv_aload_n hx hb d_N_write_10 rfl (lv_at hl 0 rfl) ?_
  refine va_get (D := D) (ci := 6) (v := .ref (qN 5)) (C := R_N) (T := T_N) (N := 24) hx hb hts in_N hown hK hP 0 rfl rfl 10 (by decide) (hts _ kw_454) (fun _ h9 => h9) rfl d_N_write_11 ?_
  refine lv_aload_n hx hb d_N_write_14 rfl (lv_at hl 0 rfl) ?_
  refine va_get (D := D) (ci := 6) (v := .int N_size) (C := R_N) (T := T_N) (N := 24) hx hb hts in_N hown hK hP 0 rfl rfl 8 (by decide) (hts _ kw_452) (fun _ h9 => h9) rfl d_N_write_15 ?_
  refine lv_iload_n hx hb d_N_write_18 rfl (lv_at hl 2 rfl) ?_
  obtain ⟨hi, hr⟩ := gd_some hr
  refine va_iast hx hb hK hP hD hS 5 0 rfl rfl hi d_N_write_19 (fun H locs hP hD hS => ?_)
  have hP : va_P D zCl (W_N kI kZ qN N_p N_n N_words N_hasDirect N_compiled N_size N_outcome N_done N_values N_word N_table N_direct (upd N_op N_size.toNatClampNeg a1) (upd N_a N_size.toNatClampNeg a2) N_b N_x N_there N_vOp N_vA N_vB N_vX N_needed N_valueOf N_place) H := hP
  have hD : va_D A (W_N kI kZ qN N_p N_n N_words N_hasDirect N_compiled N_size N_outcome N_done N_values N_word N_table N_direct (upd N_op N_size.toNatClampNeg a1) (upd N_a N_size.toNatClampNeg a2) N_b N_x N_there N_vOp N_vA N_vB N_vX N_needed N_valueOf N_place) := hD
  refine lv_aload_n hx hb d_N_write_20 rfl (lv_at hl 0 rfl) ?_
  refine va_get (D := D) (ci := 6) (v := .ref (qN 6)) (C := R_N) (T := T_N) (N := 24) hx hb hts in_N hown hK hP 0 rfl rfl 11 (by decide) (hts _ kw_455) (fun _ h9 => h9) rfl d_N_write_21 ?_
  refine lv_aload_n hx hb d_N_write_24 rfl (lv_at hl 0 rfl) ?_
  refine va_get (D := D) (ci := 6) (v := .int N_size) (C := R_N) (T := T_N) (N := 24) hx hb hts in_N hown hK hP 0 rfl rfl 8 (by decide) (hts _ kw_452) (fun _ h9 => h9) rfl d_N_write_25 ?_
  refine lv_iload_n hx hb d_N_write_28 rfl (lv_at hl 3 rfl) ?_
  obtain ⟨hi, hr⟩ := gd_some hr
  refine va_iast hx hb hK hP hD hS 6 0 rfl rfl hi d_N_write_29 (fun H locs hP hD hS => ?_)
  have hP : va_P D zCl (W_N kI kZ qN N_p N_n N_words N_hasDirect N_compiled N_size N_outcome N_done N_values N_word N_table N_direct (upd N_op N_size.toNatClampNeg a1) (upd N_a N_size.toNatClampNeg a2) (upd N_b N_size.toNatClampNeg a3) N_x N_there N_vOp N_vA N_vB N_vX N_needed N_valueOf N_place) H := hP
  have hD : va_D A (W_N kI kZ qN N_p N_n N_words N_hasDirect N_compiled N_size N_outcome N_done N_values N_word N_table N_direct (upd N_op N_size.toNatClampNeg a1) (upd N_a N_size.toNatClampNeg a2) (upd N_b N_size.toNatClampNeg a3) N_x N_there N_vOp N_vA N_vB N_vX N_needed N_valueOf N_place) := hD
  refine lv_aload_n hx hb d_N_write_30 rfl (lv_at hl 0 rfl) ?_
  refine va_get (D := D) (ci := 6) (v := .ref (qN 7)) (C := R_N) (T := T_N) (N := 24) hx hb hts in_N hown hK hP 0 rfl rfl 12 (by decide) (hts _ kw_456) (fun _ h9 => h9) rfl d_N_write_31 ?_
  refine lv_aload_n hx hb d_N_write_34 rfl (lv_at hl 0 rfl) ?_
  refine va_get (D := D) (ci := 6) (v := .int N_size) (C := R_N) (T := T_N) (N := 24) hx hb hts in_N hown hK hP 0 rfl rfl 8 (by decide) (hts _ kw_452) (fun _ h9 => h9) rfl d_N_write_35 ?_
  refine lv_iload hx hb d_N_write_38 (lv_at hl 4 rfl) ?_
  obtain ⟨hi, hr⟩ := gd_some hr
  refine va_iast hx hb hK hP hD hS 7 0 rfl rfl hi d_N_write_40 (fun H locs hP hD hS => ?_)
  have hP : va_P D zCl (W_N kI kZ qN N_p N_n N_words N_hasDirect N_compiled N_size N_outcome N_done N_values N_word N_table N_direct (upd N_op N_size.toNatClampNeg a1) (upd N_a N_size.toNatClampNeg a2) (upd N_b N_size.toNatClampNeg a3) (upd N_x N_size.toNatClampNeg a4) N_there N_vOp N_vA N_vB N_vX N_needed N_valueOf N_place) H := hP
  have hD : va_D A (W_N kI kZ qN N_p N_n N_words N_hasDirect N_compiled N_size N_outcome N_done N_values N_word N_table N_direct (upd N_op N_size.toNatClampNeg a1) (upd N_a N_size.toNatClampNeg a2) (upd N_b N_size.toNatClampNeg a3) (upd N_x N_size.toNatClampNeg a4) N_there N_vOp N_vA N_vB N_vX N_needed N_valueOf N_place) := hD
  refine lv_aload_n hx hb d_N_write_41 rfl (lv_at hl 0 rfl) ?_
  refine lv_aload_n hx hb d_N_write_42 rfl (lv_at hl 0 rfl) ?_
  refine va_get (D := D) (ci := 6) (v := .int N_size) (C := R_N) (T := T_N) (N := 24) hx hb hts in_N hown hK hP 0 rfl rfl 8 (by decide) (hts _ kw_452) (fun _ h9 => h9) rfl d_N_write_43 ?_
  refine lv_iconst (v := (1 : Int32)) hx hb d_N_write_46 (by decide) ?_
  refine lv_iadd hx hb d_N_write_47 ?_
  refine va_put (D := D) (ci := 6) (v := .int (N_size + (1 : Int32))) (ty := .int) (C := R_N) (T := T_N) (N := 24) hx hb hts in_N ty_N tyo_N nm_N hown hK hP hD hS 0 rfl rfl 8 (by decide) (hts _ kw_452) (fun _ h9 => h9) rfl (by decide +kernel) rfl rfl (Nat.le_of_ble_eq_true rfl) d_N_write_48 (fun H locs hP hD hS => ?_)
  have hP : va_P D zCl (W_N kI kZ qN N_p N_n N_words N_hasDirect N_compiled (N_size + (1 : Int32)) N_outcome N_done N_values N_word N_table N_direct (upd N_op N_size.toNatClampNeg a1) (upd N_a N_size.toNatClampNeg a2) (upd N_b N_size.toNatClampNeg a3) (upd N_x N_size.toNatClampNeg a4) N_there N_vOp N_vA N_vB N_vX N_needed N_valueOf N_place) H := hP
  have hD : va_D A (W_N kI kZ qN N_p N_n N_words N_hasDirect N_compiled (N_size + (1 : Int32)) N_outcome N_done N_values N_word N_table N_direct (upd N_op N_size.toNatClampNeg a1) (upd N_a N_size.toNatClampNeg a2) (upd N_b N_size.toNatClampNeg a3) (upd N_x N_size.toNatClampNeg a4) N_there N_vOp N_vA N_vB N_vX N_needed N_valueOf N_place) := hD
  refine lv_aload_n hx hb d_N_write_51 rfl (lv_at hl 0 rfl) ?_
  refine va_get (D := D) (ci := 6) (v := .int (N_size + (1 : Int32))) (C := R_N) (T := T_N) (N := 24) hx hb hts in_N hown hK hP 0 rfl rfl 8 (by decide) (hts _ kw_452) (fun _ h9 => h9) rfl d_N_write_52 ?_
  refine lv_iconst (v := (1 : Int32)) hx hb d_N_write_55 (by decide) ?_
  refine lv_isub hx hb d_N_write_56 ?_
  obtain rfl := Option.some.inj hr
  exact hQ _ _ _ _ _ d_N_write_57 rfl rfl hP hD hS
set_option maxHeartbeats 4000000 in
set_option maxRecDepth 100000 in
theorem c_N_highest (l : Launch) (D : va_G) (kI kZ : ClassId)  (a0 : Int32) (res : Int32) (hr : f_N_highest a0 = some res) : zMi l D kI kZ y_N_highest prog_8_method_18_code 2 ((some .int)) 0 0 [.int a0] ([] : va_W) ([] : va_W) res := by
  refine zMi.of (by decide +kernel) (Nat.le_of_ble_eq_true rfl) ?_
  intro p e R s m args below meth c Q A hR hx hb hml hts hown hA hK hN hQ
  have hown : s.vm.findClass "SquareCodeModel" = some m.cls := hown
  have hB2 : ∀ (fu : Nat) (v1 : Int32) (H : Heap) (locs : List Loc) (ls : Array Slot), lv_has ls 2 [(0, .int a0), (1, .int v1)] → va_P D zCl ([] : va_W) H → va_D A ([] : va_W) → va_S A s.heap H locs → f_N_highest_2 a0 fu v1 = some res → W p l e R s m args below meth c H locs 0 0 Q (F0 m 2 ls []) := by
    intro  fu
    induction fu with
    | zero => intro v1 H locs ls hl hP hD hS hr; exact absurd hr (by rw [f_N_highest_2]; exact fun h => by cases h)
    | succ fu ih =>
      intro v1 H locs ls hl hP hD hS hr
      rw [f_N_highest_2] at hr
      refine lv_iconst (v := (2 : Int32)) hx hb d_N_highest_2 (by decide) ?_
      refine lv_iload_n hx hb d_N_highest_3 rfl (lv_at hl 1 rfl) ?_
      refine lv_imul hx hb d_N_highest_4 ?_
      refine lv_iload_n hx hb d_N_highest_5 rfl (lv_at hl 0 rfl) ?_
      refine lv_icmp_gt hx hb d_N_highest_6 rfl (fun hc => ?_) (fun hc => ?_)
      · rw [if_pos hc] at hr
        refine lv_iload_n hx hb d_N_highest_16 rfl (lv_at hl 1 rfl) ?_
        obtain rfl := Option.some.inj hr
        exact hQ _ _ _ _ _ d_N_highest_17 rfl rfl hP hD hS
      · rw [if_neg hc] at hr
        refine lv_iconst (v := (2 : Int32)) hx hb d_N_highest_9 (by decide) ?_
        refine lv_iload_n hx hb d_N_highest_10 rfl (lv_at hl 1 rfl) ?_
        refine lv_imul hx hb d_N_highest_11 ?_
        obtain ⟨v1_1, ev1_1, hr⟩ := nm_some hr
        refine z_top ev1_1 ?_
        refine lv_istore_n (lv' := [(1, .int v1_1), (0, .int a0)]) hx hb d_N_highest_12 rfl hl (by decide) rfl (fun ls hl => ?_)
        refine lv_goto hx hb d_N_highest_13 rfl ?_
        exact ih v1_1 _ _ _ (lv_sub hl [1, 0] rfl) hP hD hS hr
  intro ls H hl hP hD hS
  have hl : lv_has ls 2 [(0, .int a0)] := hl
  rw [f_N_highest] at hr
  refine lv_iconst (v := (1 : Int32)) hx hb d_N_highest_0 (by decide) ?_
  refine lv_istore_n (lv' := [(1, .int (1 : Int32)), (0, .int a0)]) hx hb d_N_highest_1 rfl hl (by decide) rfl (fun ls hl => ?_)
  exact hB2 zFU (1 : Int32) _ _ _ (lv_sub hl [1, 0] rfl) hP hD hS hr
set_option maxHeartbeats 4000000 in
set_option maxRecDepth 100000 in
theorem c_N_steps (l : Launch) (D : va_G) (kI kZ : ClassId)  (a0 : Int32) (res : Int32) (hr : f_N_steps a0 = some res) : zMi l D kI kZ y_N_steps prog_8_method_19_code 4 ((some .int)) 1 21 [.int a0] ([] : va_W) ([] : va_W) res := by
  refine zMi.of (by decide +kernel) (Nat.le_of_ble_eq_true rfl) ?_
  intro p e R s m args below meth c Q A hR hx hb hml hts hown hA hK hN hQ
  have hown : s.vm.findClass "SquareCodeModel" = some m.cls := hown
  have hB45 : ∀ (v1 v3 t0 t1 : Int32) (k29 : Int32 → Int32 → Option (Int32)) (hk29 : ∀ (v2 v3 : Int32) (H : Heap) (locs : List Loc) (ls : Array Slot), lv_has ls 4 [(1, .int v1), (2, .int v2), (3, .int v3)] → va_P D zCl ([] : va_W) H → va_D A ([] : va_W) → va_S A s.heap H locs → k29 v2 v3 = some res → W p l e R s m args below meth c H locs 0 0 Q (F0 m 29 ls [])) (H : Heap) (locs : List Loc) (ls : Array Slot), lv_has ls 4 [(1, .int v1), (3, .int v3)] → va_P D zCl ([] : va_W) H → va_D A ([] : va_W) → va_S A s.heap H locs → f_N_steps_45 k29 v1 v3 t0 t1 = some res → W p l e R s m args below meth c H locs 0 0 Q (F0 m 45 ls [.int t0, .int t1]) := by
    intro v1 v3 t0 t1 k29 hk29 H locs ls hl hP hD hS hr
    rw [f_N_steps_45] at hr
    refine lv_iadd hx hb d_N_steps_45 ?_
    obtain ⟨v2_1, ev2_1, hr⟩ := nm_some hr
    refine z_top ev2_1 ?_
    refine lv_istore_n (lv' := [(2, .int v2_1), (1, .int v1), (3, .int v3)]) hx hb d_N_steps_46 rfl hl (by decide) rfl (fun ls hl => ?_)
    refine lv_iload_n hx hb d_N_steps_47 rfl (lv_at hl 2 rfl) ?_
    refine lv_iconst (v := (2 : Int32)) hx hb d_N_steps_48 (by decide) ?_
    refine lv_idiv hx hb d_N_steps_49 (by decide) ?_
    obtain ⟨v3_2, ev3_2, hr⟩ := nm_some hr
    refine z_top ev3_2 ?_
    refine lv_istore_n (lv' := [(3, .int v3_2), (2, .int v2_1), (1, .int v1)]) hx hb d_N_steps_50 rfl hl (by decide) rfl (fun ls hl => ?_)
    refine lv_goto hx hb d_N_steps_51 rfl ?_
    exact hk29 v2_1 v3_2 _ _ _ (lv_sub hl [2, 1, 0] rfl) hP hD hS hr
  have hB29 : ∀ (v1 : Int32)   (fu : Nat) (v2 v3 : Int32) (H : Heap) (locs : List Loc) (ls : Array Slot), lv_has ls 4 [(1, .int v1), (2, .int v2), (3, .int v3)] → va_P D zCl ([] : va_W) H → va_D A ([] : va_W) → va_S A s.heap H locs → f_N_steps_29 v1 fu v2 v3 = some res → W p l e R s m args below meth c H locs 0 0 Q (F0 m 29 ls []) := by
    intro v1 fu
    induction fu with
    | zero => intro v2 v3 H locs ls hl hP hD hS hr; exact absurd hr (by rw [f_N_steps_29]; exact fun h => by cases h)
    | succ fu ih =>
      intro v2 v3 H locs ls hl hP hD hS hr
      rw [f_N_steps_29] at hr
      refine lv_iload_n hx hb d_N_steps_29 rfl (lv_at hl 2 rfl) ?_
      refine lv_if_le hx hb d_N_steps_30 rfl (fun hc => ?_) (fun hc => ?_)
      · rw [if_pos hc] at hr
        refine lv_iload_n hx hb d_N_steps_54 rfl (lv_at hl 1 rfl) ?_
        obtain rfl := Option.some.inj hr
        exact hQ _ _ _ _ _ d_N_steps_55 rfl rfl hP hD hS
      · rw [if_neg hc] at hr
        refine lv_iload_n hx hb d_N_steps_33 rfl (lv_at hl 1 rfl) ?_
        refine lv_iload_n hx hb d_N_steps_34 rfl (lv_at hl 0 rfl) ?_
        refine lv_iload_n hx hb d_N_steps_35 rfl (lv_at hl 2 rfl) ?_
        refine lv_iand hx hb d_N_steps_36 ?_
        refine lv_if_eq hx hb d_N_steps_37 rfl (fun hc => ?_) (fun hc => ?_)
        · rw [if_pos hc] at hr
          refine lv_iconst (v := (1 : Int32)) hx hb d_N_steps_44 (by decide) ?_
          exact hB45 v1 v3 (1 : Int32) v2 _ ih _ _ _ (lv_sub hl [0, 2] rfl) hP hD hS hr
        · rw [if_neg hc] at hr
          refine lv_iconst (v := (2 : Int32)) hx hb d_N_steps_40 (by decide) ?_
          refine lv_goto hx hb d_N_steps_41 rfl ?_
          exact hB45 v1 v3 (2 : Int32) v2 _ ih _ _ _ (lv_sub hl [0, 2] rfl) hP hD hS hr
  intro ls H hl hP hD hS
  have hl : lv_has ls 4 [(0, .int a0)] := hl
  rw [f_N_steps] at hr
  refine lv_iload_n hx hb d_N_steps_0 rfl (lv_at hl 0 rfl) ?_
  refine lv_bipush (v := (100 : Int32)) hx hb d_N_steps_1 (by decide) ?_
  refine z_irem hx hb d_N_steps_3 (by decide) ?_
  obtain ⟨v1_3, ev1_3, hr⟩ := nm_some hr
  refine z_top ev1_3 ?_
  refine lv_istore_n (lv' := [(1, .int v1_3), (0, .int a0)]) hx hb d_N_steps_4 rfl hl (by decide) rfl (fun ls hl => ?_)
  refine lv_iload_n hx hb d_N_steps_5 rfl (lv_at hl 1 rfl) ?_
  refine lv_bipush (v := (100 : Int32)) hx hb d_N_steps_6 (by decide) ?_
  refine lv_idiv hx hb d_N_steps_8 (by decide) ?_
  refine lv_bipush (v := (8 : Int32)) hx hb d_N_steps_9 (by decide) ?_
  refine lv_icmp_ne hx hb d_N_steps_11 rfl (fun hc => ?_) (fun hc => ?_)
  · rw [if_neg hc] at hr
    refine lv_iconst (v := (1 : Int32)) hx hb d_N_steps_18 (by decide) ?_
    obtain rfl := Option.some.inj hr
    exact hQ _ _ _ _ _ d_N_steps_19 rfl rfl hP hD hS
  · rw [if_pos hc] at hr
    refine lv_iload_n hx hb d_N_steps_14 rfl (lv_at hl 0 rfl) ?_
    refine lv_if_ne hx hb d_N_steps_15 rfl (fun hc => ?_) (fun hc => ?_)
    · rw [if_neg hc] at hr
      refine lv_iconst (v := (0 : Int32)) hx hb d_N_steps_20 (by decide) ?_
      refine lv_istore_n (lv' := [(2, .int (0 : Int32)), (1, .int v1_3), (0, .int a0)]) hx hb d_N_steps_21 rfl hl (by decide) rfl (fun ls hl => ?_)
      refine lv_iload_n hx hb d_N_steps_22 rfl (lv_at hl 1 rfl) ?_
      obtain ⟨r4, hr4, hr⟩ := ob hr
      refine z_ci (ws := ([] : va_W)) (wc := ([] : va_W)) (wr := ([] : va_W)) (w1 := ([] : va_W)) (w2 := ([] : va_W)) (va_runS (As := [.int v1_3]) (rest := []) ⟨hx, hb, hml, hown, hts⟩ (c_N_highest l D kI kZ v1_3 r4 hr4 H.size) (z_cwS hts mw_N_highest kw_580 ⟨by rw [hR]; exact Nat.le_of_ble_eq_true rfl, by rw [hR]; exact Nat.le_of_ble_eq_true rfl⟩) (z_pre hK hP hD hN [] (by decide) rfl) rfl rfl hl.1 rfl (lv_room (Nat.le_of_ble_eq_true rfl)) d_N_steps_23 ⟨Nat.zero_le _, Nat.zero_le _⟩) hP hD hS hA [] [] [] rfl rfl (by decide) (by decide) rfl (by decide) (fun H locs hP hD hS => ?_)
      refine lv_iconst (v := (2 : Int32)) hx hb d_N_steps_26 (by decide) ?_
      refine lv_idiv hx hb d_N_steps_27 (by decide) ?_
      obtain ⟨v3_5, ev3_5, hr⟩ := nm_some hr
      refine z_top ev3_5 ?_
      refine lv_istore_n (lv' := [(3, .int v3_5), (2, .int (0 : Int32)), (1, .int v1_3), (0, .int a0)]) hx hb d_N_steps_28 rfl hl (by decide) rfl (fun ls hl => ?_)
      exact hB29 v1_3 zFU (0 : Int32) v3_5 _ _ _ (lv_sub hl [2, 1, 0] rfl) hP hD hS hr
    · rw [if_pos hc] at hr
      refine lv_iconst (v := (1 : Int32)) hx hb d_N_steps_18 (by decide) ?_
      obtain rfl := Option.some.inj hr
      exact hQ _ _ _ _ _ d_N_steps_19 rfl rfl hP hD hS
