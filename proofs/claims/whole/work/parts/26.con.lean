set_option maxHeartbeats 4000000 in
set_option maxRecDepth 100000 in
theorem c_N_optimise (l : Launch) (D : va_G) (kI kZ : ClassId) (qN : Nat → Nat) (N_p N_n N_words N_hasDirect N_compiled N_size N_outcome N_done N_values : Int32) (N_word N_table N_direct N_op N_a N_b N_x N_there N_vOp N_vA N_vB N_vX N_needed N_valueOf N_place : Nat → Int32)  (res : Int32 × Int32 × (Nat → Int32) × (Nat → Int32) × (Nat → Int32) × (Nat → Int32) × Int32 × Int32 × Int32 × (Nat → Int32) × (Nat → Int32) × (Nat → Int32) × (Nat → Int32) × (Nat → Int32) × (Nat → Int32) × (Nat → Int32)) (hr : f_N_optimise N_p N_compiled N_size N_op N_a N_b N_x N_outcome N_done N_values N_vOp N_vA N_vB N_vX N_needed N_valueOf N_place = some res) : zMi l D kI kZ y_N_optimise prog_8_method_30_code 2 ((some .int)) 4 92 [.ref (qN 0)] (W_N kI kZ qN N_p N_n N_words N_hasDirect N_compiled N_size N_outcome N_done N_values N_word N_table N_direct N_op N_a N_b N_x N_there N_vOp N_vA N_vB N_vX N_needed N_valueOf N_place) (W_N kI kZ qN N_p N_n N_words N_hasDirect N_compiled (res.2.1) (res.2.2.2.2.2.2.1) (res.2.2.2.2.2.2.2.1) (res.2.2.2.2.2.2.2.2.1) N_word N_table N_direct (res.2.2.1) (res.2.2.2.1) (res.2.2.2.2.1) (res.2.2.2.2.2.1) N_there (res.2.2.2.2.2.2.2.2.2.1) (res.2.2.2.2.2.2.2.2.2.2.1) (res.2.2.2.2.2.2.2.2.2.2.2.1) (res.2.2.2.2.2.2.2.2.2.2.2.2.1) (res.2.2.2.2.2.2.2.2.2.2.2.2.2.1) (res.2.2.2.2.2.2.2.2.2.2.2.2.2.2.1) (res.2.2.2.2.2.2.2.2.2.2.2.2.2.2.2)) (res.1) := by
  refine zMi.of (by decide +kernel) (Nat.le_of_ble_eq_true rfl) ?_
  intro p e R s m args below meth c Q A hR hx hb hml hts hown hA hK hN hQ
  have hown : s.vm.findClass "SquareCodeModel" = some m.cls := hown
  have hB218 : ∀ (v1 t0 t1 t2 t4 N_size : Int32) (N_op N_a N_b N_x : Nat → Int32) (N_outcome N_done N_values : Int32) (N_vOp N_vA N_vB N_vX N_needed N_valueOf N_place : Nat → Int32) (k141 : Int32 → Int32 → (Nat → Int32) → (Nat → Int32) → (Nat → Int32) → (Nat → Int32) → (Nat → Int32) → Option (Int32 × Int32 × (Nat → Int32) × (Nat → Int32) × (Nat → Int32) × (Nat → Int32) × Int32 × Int32 × Int32 × (Nat → Int32) × (Nat → Int32) × (Nat → Int32) × (Nat → Int32) × (Nat → Int32) × (Nat → Int32) × (Nat → Int32))) (hk141 : ∀ (v1 N_size : Int32) (N_op N_a N_b N_x N_place : Nat → Int32) (H : Heap) (locs : List Loc) (ls : Array Slot), lv_has ls 2 [(0, .ref (qN 0)), (1, .int v1)] → va_P D zCl (W_N kI kZ qN N_p N_n N_words N_hasDirect N_compiled N_size N_outcome N_done N_values N_word N_table N_direct N_op N_a N_b N_x N_there N_vOp N_vA N_vB N_vX N_needed N_valueOf N_place) H → va_D A (W_N kI kZ qN N_p N_n N_words N_hasDirect N_compiled N_size N_outcome N_done N_values N_word N_table N_direct N_op N_a N_b N_x N_there N_vOp N_vA N_vB N_vX N_needed N_valueOf N_place) → va_S A s.heap H locs → k141 v1 N_size N_op N_a N_b N_x N_place = some res → W p l e R s m args below meth c H locs 0 0 Q (F0 m 141 ls [])) (H : Heap) (locs : List Loc) (ls : Array Slot), lv_has ls 2 [(0, .ref (qN 0)), (1, .int v1)] → va_P D zCl (W_N kI kZ qN N_p N_n N_words N_hasDirect N_compiled N_size N_outcome N_done N_values N_word N_table N_direct N_op N_a N_b N_x N_there N_vOp N_vA N_vB N_vX N_needed N_valueOf N_place) H → va_D A (W_N kI kZ qN N_p N_n N_words N_hasDirect N_compiled N_size N_outcome N_done N_values N_word N_table N_direct N_op N_a N_b N_x N_there N_vOp N_vA N_vB N_vX N_needed N_valueOf N_place) → va_S A s.heap H locs → f_N_optimise_218 k141 v1 t0 t1 t2 t4 N_size N_op N_a N_b N_x N_outcome N_done N_values N_vOp N_vA N_vB N_vX N_needed N_valueOf N_place = some res → W p l e R s m args below meth c H locs 0 0 Q (F0 m 218 ls [.int t0, .int t1, .int t2, .ref (qN 0), .int t4, .ref (qN 15)]) := by
    intro v1 t0 t1 t2 t4 N_size N_op N_a N_b N_x N_outcome N_done N_values N_vOp N_vA N_vB N_vX N_needed N_valueOf N_place k141 hk141 H locs ls hl hP hD hS hr
    rw [f_N_optimise_218] at hr
    refine lv_aload_n hx hb d_N_optimise_218 rfl (lv_at hl 0 rfl) ?_
    refine va_get (D := D) (ci := 6) (v := .ref (qN 12)) (C := R_N) (T := T_N) (N := 24) hx hb hts in_N hown hK hP 0 rfl rfl 20 (by decide) (hts _ kw_464) (fun _ h9 => h9) rfl d_N_optimise_219 ?_
    refine lv_iload_n hx hb d_N_optimise_222 rfl (lv_at hl 1 rfl) ?_
    obtain ⟨hi, hr⟩ := gd_some hr
    refine va_iald hx hb hK hP 12 0 rfl rfl hi d_N_optimise_223 ?_
    obtain ⟨r1, hr1, hr⟩ := ob hr
    refine z_ci (ws := (W_N kI kZ qN N_p N_n N_words N_hasDirect N_compiled N_size N_outcome N_done N_values N_word N_table N_direct N_op N_a N_b N_x N_there N_vOp N_vA N_vB N_vX N_needed N_valueOf N_place)) (wc := (W_N kI kZ qN N_p N_n N_words N_hasDirect N_compiled N_size N_outcome N_done N_values N_word N_table N_direct N_op N_a N_b N_x N_there N_vOp N_vA N_vB N_vX N_needed N_valueOf N_place)) (wr := ([] : va_W)) (w1 := (W_N kI kZ qN N_p N_n N_words N_hasDirect N_compiled r1.2.1 N_outcome N_done N_values N_word N_table N_direct r1.2.2.1 r1.2.2.2.1 r1.2.2.2.2.1 r1.2.2.2.2.2 N_there N_vOp N_vA N_vB N_vX N_needed N_valueOf N_place)) (w2 := (W_N kI kZ qN N_p N_n N_words N_hasDirect N_compiled r1.2.1 N_outcome N_done N_values N_word N_table N_direct r1.2.2.1 r1.2.2.2.1 r1.2.2.2.2.1 r1.2.2.2.2.2 N_there N_vOp N_vA N_vB N_vX N_needed N_valueOf N_place)) (va_runV (As := [.int t2, .int t1, .int t0, .int (N_vX v1.toNatClampNeg)]) (rest := [.int t4, .ref (qN 15)]) ⟨hx, hb, hml, hown, hts⟩ (c_N_write l D kI kZ qN N_p N_n N_words N_hasDirect N_compiled N_size N_outcome N_done N_values N_word N_table N_direct N_op N_a N_b N_x N_there N_vOp N_vA N_vB N_vX N_needed N_valueOf N_place t2 t1 t0 (N_vX v1.toNatClampNeg) r1 hr1 H.size) (z_cwV hts mw_N_write kw_587 ⟨by rw [hR]; exact Nat.le_of_ble_eq_true rfl, by rw [hR]; exact Nat.le_of_ble_eq_true rfl⟩) (z_preV (ci := 6) hK hP hD hN rfl (he := (rfl : _[0]? = _)) [0, 1, 2, 3, 4, 5, 6, 7, 8, 9, 10, 11, 12, 13, 14, 15] (by decide) rfl) rfl rfl hl.1 rfl (lv_room (Nat.le_of_ble_eq_true rfl)) d_N_optimise_224 ⟨Nat.zero_le _, Nat.zero_le _⟩) hP hD hS hA [0, 1, 2, 3, 4, 5, 6, 7, 8, 9, 10, 11, 12, 13, 14, 15] [] [0, 1, 2, 3, 4, 5, 6, 7, 8, 9, 10, 11, 12, 13, 14, 15] rfl rfl (by decide) (by decide) rfl (by decide) (fun H locs hP hD hS => ?_)
    obtain ⟨hi, hr⟩ := gd_some hr
    refine va_iast hx hb hK hP hD hS 15 0 rfl rfl hi d_N_optimise_227 (fun H locs hP hD hS => ?_)
    have hP : va_P D zCl (W_N kI kZ qN N_p N_n N_words N_hasDirect N_compiled r1.2.1 N_outcome N_done N_values N_word N_table N_direct r1.2.2.1 r1.2.2.2.1 r1.2.2.2.2.1 r1.2.2.2.2.2 N_there N_vOp N_vA N_vB N_vX N_needed N_valueOf (upd N_place t4.toNatClampNeg r1.1)) H := hP
    have hD : va_D A (W_N kI kZ qN N_p N_n N_words N_hasDirect N_compiled r1.2.1 N_outcome N_done N_values N_word N_table N_direct r1.2.2.1 r1.2.2.2.1 r1.2.2.2.2.1 r1.2.2.2.2.2 N_there N_vOp N_vA N_vB N_vX N_needed N_valueOf (upd N_place t4.toNatClampNeg r1.1)) := hD
    refine lv_iinc (k := 1) (v := (v1 + (1 : Int32))) (lv' := [(1, .int (v1 + (1 : Int32))), (0, .ref (qN 0))]) hx hb d_N_optimise_228 hl rfl (congrArg (fun z => v1 + z) (by decide : Int32.ofInt 1 = (1 : Int32))) (by decide) rfl (fun ls hl => ?_)
    refine lv_goto hx hb d_N_optimise_231 rfl ?_
    exact hk141 (v1 + (1 : Int32)) r1.2.1 r1.2.2.1 r1.2.2.2.1 r1.2.2.2.2.1 r1.2.2.2.2.2 (upd N_place t4.toNatClampNeg r1.1) _ _ _ (lv_sub hl [1, 0] rfl) hP hD hS hr
  have hB194 : ∀ (v1 t0 t1 t3 N_size : Int32) (N_op N_a N_b N_x : Nat → Int32) (N_outcome N_done N_values : Int32) (N_vOp N_vA N_vB N_vX N_needed N_valueOf N_place : Nat → Int32) (k141 : Int32 → Int32 → (Nat → Int32) → (Nat → Int32) → (Nat → Int32) → (Nat → Int32) → (Nat → Int32) → Option (Int32 × Int32 × (Nat → Int32) × (Nat → Int32) × (Nat → Int32) × (Nat → Int32) × Int32 × Int32 × Int32 × (Nat → Int32) × (Nat → Int32) × (Nat → Int32) × (Nat → Int32) × (Nat → Int32) × (Nat → Int32) × (Nat → Int32))) (hk141 : ∀ (v1 N_size : Int32) (N_op N_a N_b N_x N_place : Nat → Int32) (H : Heap) (locs : List Loc) (ls : Array Slot), lv_has ls 2 [(0, .ref (qN 0)), (1, .int v1)] → va_P D zCl (W_N kI kZ qN N_p N_n N_words N_hasDirect N_compiled N_size N_outcome N_done N_values N_word N_table N_direct N_op N_a N_b N_x N_there N_vOp N_vA N_vB N_vX N_needed N_valueOf N_place) H → va_D A (W_N kI kZ qN N_p N_n N_words N_hasDirect N_compiled N_size N_outcome N_done N_values N_word N_table N_direct N_op N_a N_b N_x N_there N_vOp N_vA N_vB N_vX N_needed N_valueOf N_place) → va_S A s.heap H locs → k141 v1 N_size N_op N_a N_b N_x N_place = some res → W p l e R s m args below meth c H locs 0 0 Q (F0 m 141 ls [])) (H : Heap) (locs : List Loc) (ls : Array Slot), lv_has ls 2 [(0, .ref (qN 0)), (1, .int v1)] → va_P D zCl (W_N kI kZ qN N_p N_n N_words N_hasDirect N_compiled N_size N_outcome N_done N_values N_word N_table N_direct N_op N_a N_b N_x N_there N_vOp N_vA N_vB N_vX N_needed N_valueOf N_place) H → va_D A (W_N kI kZ qN N_p N_n N_words N_hasDirect N_compiled N_size N_outcome N_done N_values N_word N_table N_direct N_op N_a N_b N_x N_there N_vOp N_vA N_vB N_vX N_needed N_valueOf N_place) → va_S A s.heap H locs → f_N_optimise_194 k141 v1 t0 t1 t3 N_size N_op N_a N_b N_x N_outcome N_done N_values N_vOp N_vA N_vB N_vX N_needed N_valueOf N_place = some res → W p l e R s m args below meth c H locs 0 0 Q (F0 m 194 ls [.int t0, .int t1, .ref (qN 0), .int t3, .ref (qN 15)]) := by
    intro v1 t0 t1 t3 N_size N_op N_a N_b N_x N_outcome N_done N_values N_vOp N_vA N_vB N_vX N_needed N_valueOf N_place k141 hk141 H locs ls hl hP hD hS hr
    rw [f_N_optimise_194] at hr
    refine lv_aload_n hx hb d_N_optimise_194 rfl (lv_at hl 0 rfl) ?_
    refine va_get (D := D) (ci := 6) (v := .ref (qN 11)) (C := R_N) (T := T_N) (N := 24) hx hb hts in_N hown hK hP 0 rfl rfl 19 (by decide) (hts _ kw_463) (fun _ h9 => h9) rfl d_N_optimise_195 ?_
    refine lv_iload_n hx hb d_N_optimise_198 rfl (lv_at hl 1 rfl) ?_
    obtain ⟨hi, hr⟩ := gd_some hr
    refine va_iald hx hb hK hP 11 0 rfl rfl hi d_N_optimise_199 ?_
    refine lv_if_ge hx hb d_N_optimise_200 rfl (fun hc => ?_) (fun hc => ?_)
    · rw [if_pos hc] at hr
      refine lv_aload_n hx hb d_N_optimise_207 rfl (lv_at hl 0 rfl) ?_
      refine va_get (D := D) (ci := 6) (v := .ref (qN 15)) (C := R_N) (T := T_N) (N := 24) hx hb hts in_N hown hK hP 0 rfl rfl 23 (by decide) (hts _ kw_467) (fun _ h9 => h9) rfl d_N_optimise_208 ?_
      refine lv_aload_n hx hb d_N_optimise_211 rfl (lv_at hl 0 rfl) ?_
      refine va_get (D := D) (ci := 6) (v := .ref (qN 11)) (C := R_N) (T := T_N) (N := 24) hx hb hts in_N hown hK hP 0 rfl rfl 19 (by decide) (hts _ kw_463) (fun _ h9 => h9) rfl d_N_optimise_212 ?_
      refine lv_iload_n hx hb d_N_optimise_215 rfl (lv_at hl 1 rfl) ?_
      obtain ⟨hi, hr⟩ := gd_some hr
      refine va_iald hx hb hK hP 11 0 rfl rfl hi d_N_optimise_216 ?_
      obtain ⟨hi, hr⟩ := gd_some hr
      refine va_iald hx hb hK hP 15 0 rfl rfl hi d_N_optimise_217 ?_
      exact hB218 v1 (N_place (N_vB v1.toNatClampNeg).toNatClampNeg) t0 t1 t3 N_size N_op N_a N_b N_x N_outcome N_done N_values N_vOp N_vA N_vB N_vX N_needed N_valueOf N_place _ hk141 _ _ _ hl hP hD hS hr
    · rw [if_neg hc] at hr
      refine lv_iconst (v := (0 : Int32)) hx hb d_N_optimise_203 (by decide) ?_
      refine lv_goto hx hb d_N_optimise_204 rfl ?_
      exact hB218 v1 (0 : Int32) t0 t1 t3 N_size N_op N_a N_b N_x N_outcome N_done N_values N_vOp N_vA N_vB N_vX N_needed N_valueOf N_place _ hk141 _ _ _ hl hP hD hS hr
  have hB141 : ∀ (N_outcome N_done N_values : Int32) (N_vOp N_vA N_vB N_vX N_needed N_valueOf : Nat → Int32)   (fu : Nat) (v1 N_size : Int32) (N_op N_a N_b N_x N_place : Nat → Int32) (H : Heap) (locs : List Loc) (ls : Array Slot), lv_has ls 2 [(0, .ref (qN 0)), (1, .int v1)] → va_P D zCl (W_N kI kZ qN N_p N_n N_words N_hasDirect N_compiled N_size N_outcome N_done N_values N_word N_table N_direct N_op N_a N_b N_x N_there N_vOp N_vA N_vB N_vX N_needed N_valueOf N_place) H → va_D A (W_N kI kZ qN N_p N_n N_words N_hasDirect N_compiled N_size N_outcome N_done N_values N_word N_table N_direct N_op N_a N_b N_x N_there N_vOp N_vA N_vB N_vX N_needed N_valueOf N_place) → va_S A s.heap H locs → f_N_optimise_141 N_outcome N_done N_values N_vOp N_vA N_vB N_vX N_needed N_valueOf fu v1 N_size N_op N_a N_b N_x N_place = some res → W p l e R s m args below meth c H locs 0 0 Q (F0 m 141 ls []) := by
    intro N_outcome N_done N_values N_vOp N_vA N_vB N_vX N_needed N_valueOf fu
    induction fu with
    | zero => intro v1 N_size N_op N_a N_b N_x N_place H locs ls hl hP hD hS hr; exact absurd hr (by rw [f_N_optimise_141]; exact fun h => by cases h)
    | succ fu ih =>
      intro v1 N_size N_op N_a N_b N_x N_place H locs ls hl hP hD hS hr
      rw [f_N_optimise_141] at hr
      refine lv_iload_n hx hb d_N_optimise_141 rfl (lv_at hl 1 rfl) ?_
      refine lv_aload_n hx hb d_N_optimise_142 rfl (lv_at hl 0 rfl) ?_
      refine va_get (D := D) (ci := 6) (v := .int N_values) (C := R_N) (T := T_N) (N := 24) hx hb hts in_N hown hK hP 0 rfl rfl 16 (by decide) (hts _ kw_460) (fun _ h9 => h9) rfl d_N_optimise_143 ?_
      refine lv_icmp_ge hx hb d_N_optimise_146 rfl (fun hc => ?_) (fun hc => ?_)
      · rw [if_pos hc] at hr
        refine lv_aload_n hx hb d_N_optimise_234 rfl (lv_at hl 0 rfl) ?_
        refine lv_aload_n hx hb d_N_optimise_235 rfl (lv_at hl 0 rfl) ?_
        refine va_get (D := D) (ci := 6) (v := .int N_size) (C := R_N) (T := T_N) (N := 24) hx hb hts in_N hown hK hP 0 rfl rfl 8 (by decide) (hts _ kw_452) (fun _ h9 => h9) rfl d_N_optimise_236 ?_
        refine lv_iconst (v := (1 : Int32)) hx hb d_N_optimise_239 (by decide) ?_
        refine lv_isub hx hb d_N_optimise_240 ?_
        refine va_put (D := D) (ci := 6) (v := .int (N_size - (1 : Int32))) (ty := .int) (C := R_N) (T := T_N) (N := 24) hx hb hts in_N ty_N tyo_N nm_N hown hK hP hD hS 0 rfl rfl 13 (by decide) (hts _ kw_457) (fun _ h9 => h9) rfl (by decide +kernel) rfl rfl (Nat.le_of_ble_eq_true rfl) d_N_optimise_241 (fun H locs hP hD hS => ?_)
        have hP : va_P D zCl (W_N kI kZ qN N_p N_n N_words N_hasDirect N_compiled N_size (N_size - (1 : Int32)) N_done N_values N_word N_table N_direct N_op N_a N_b N_x N_there N_vOp N_vA N_vB N_vX N_needed N_valueOf N_place) H := hP
        have hD : va_D A (W_N kI kZ qN N_p N_n N_words N_hasDirect N_compiled N_size (N_size - (1 : Int32)) N_done N_values N_word N_table N_direct N_op N_a N_b N_x N_there N_vOp N_vA N_vB N_vX N_needed N_valueOf N_place) := hD
        refine lv_aload_n hx hb d_N_optimise_244 rfl (lv_at hl 0 rfl) ?_
        refine lv_iconst (v := (0 : Int32)) hx hb d_N_optimise_245 (by decide) ?_
        refine va_put (D := D) (ci := 6) (v := .int (0 : Int32)) (ty := .int) (C := R_N) (T := T_N) (N := 24) hx hb hts in_N ty_N tyo_N nm_N hown hK hP hD hS 0 rfl rfl 14 (by decide) (hts _ kw_458) (fun _ h9 => h9) rfl (by decide +kernel) rfl rfl (Nat.le_of_ble_eq_true rfl) d_N_optimise_246 (fun H locs hP hD hS => ?_)
        have hP : va_P D zCl (W_N kI kZ qN N_p N_n N_words N_hasDirect N_compiled N_size (N_size - (1 : Int32)) (0 : Int32) N_values N_word N_table N_direct N_op N_a N_b N_x N_there N_vOp N_vA N_vB N_vX N_needed N_valueOf N_place) H := hP
        have hD : va_D A (W_N kI kZ qN N_p N_n N_words N_hasDirect N_compiled N_size (N_size - (1 : Int32)) (0 : Int32) N_values N_word N_table N_direct N_op N_a N_b N_x N_there N_vOp N_vA N_vB N_vX N_needed N_valueOf N_place) := hD
        refine lv_iconst (v := (0 : Int32)) hx hb d_N_optimise_249 (by decide) ?_
        obtain rfl := Option.some.inj hr
        exact hQ _ _ _ _ _ d_N_optimise_250 rfl rfl hP hD hS
      · rw [if_neg hc] at hr
        refine lv_aload_n hx hb d_N_optimise_149 rfl (lv_at hl 0 rfl) ?_
        refine va_get (D := D) (ci := 6) (v := .ref (qN 13)) (C := R_N) (T := T_N) (N := 24) hx hb hts in_N hown hK hP 0 rfl rfl 21 (by decide) (hts _ kw_465) (fun _ h9 => h9) rfl d_N_optimise_150 ?_
        refine lv_iload_n hx hb d_N_optimise_153 rfl (lv_at hl 1 rfl) ?_
        obtain ⟨hi, hr⟩ := gd_some hr
        refine va_zald hx hb hK hP 13 1 rfl rfl hi d_N_optimise_154 ?_
        refine lv_if_eq hx hb d_N_optimise_155 rfl (fun hc => ?_) (fun hc => ?_)
        · rw [if_pos hc] at hr
          refine lv_iinc (k := 1) (v := (v1 + (1 : Int32))) (lv' := [(1, .int (v1 + (1 : Int32))), (0, .ref (qN 0))]) hx hb d_N_optimise_228 hl rfl (congrArg (fun z => v1 + z) (by decide : Int32.ofInt 1 = (1 : Int32))) (by decide) rfl (fun ls hl => ?_)
          refine lv_goto hx hb d_N_optimise_231 rfl ?_
          exact ih (v1 + (1 : Int32)) N_size N_op N_a N_b N_x N_place _ _ _ (lv_sub hl [1, 0] rfl) hP hD hS hr
        · rw [if_neg hc] at hr
          refine lv_aload_n hx hb d_N_optimise_158 rfl (lv_at hl 0 rfl) ?_
          refine va_get (D := D) (ci := 6) (v := .ref (qN 15)) (C := R_N) (T := T_N) (N := 24) hx hb hts in_N hown hK hP 0 rfl rfl 23 (by decide) (hts _ kw_467) (fun _ h9 => h9) rfl d_N_optimise_159 ?_
          refine lv_iload_n hx hb d_N_optimise_162 rfl (lv_at hl 1 rfl) ?_
          refine lv_aload_n hx hb d_N_optimise_163 rfl (lv_at hl 0 rfl) ?_
          refine lv_aload_n hx hb d_N_optimise_164 rfl (lv_at hl 0 rfl) ?_
          refine va_get (D := D) (ci := 6) (v := .ref (qN 9)) (C := R_N) (T := T_N) (N := 24) hx hb hts in_N hown hK hP 0 rfl rfl 17 (by decide) (hts _ kw_461) (fun _ h9 => h9) rfl d_N_optimise_165 ?_
          refine lv_iload_n hx hb d_N_optimise_168 rfl (lv_at hl 1 rfl) ?_
          obtain ⟨hi, hr⟩ := gd_some hr
          refine va_iald hx hb hK hP 9 0 rfl rfl hi d_N_optimise_169 ?_
          refine lv_aload_n hx hb d_N_optimise_170 rfl (lv_at hl 0 rfl) ?_
          refine va_get (D := D) (ci := 6) (v := .ref (qN 10)) (C := R_N) (T := T_N) (N := 24) hx hb hts in_N hown hK hP 0 rfl rfl 18 (by decide) (hts _ kw_462) (fun _ h9 => h9) rfl d_N_optimise_171 ?_
          refine lv_iload_n hx hb d_N_optimise_174 rfl (lv_at hl 1 rfl) ?_
          obtain ⟨hi, hr⟩ := gd_some hr
          refine va_iald hx hb hK hP 10 0 rfl rfl hi d_N_optimise_175 ?_
          refine lv_if_ge hx hb d_N_optimise_176 rfl (fun hc => ?_) (fun hc => ?_)
          · rw [if_pos hc] at hr
            refine lv_aload_n hx hb d_N_optimise_183 rfl (lv_at hl 0 rfl) ?_
            refine va_get (D := D) (ci := 6) (v := .ref (qN 15)) (C := R_N) (T := T_N) (N := 24) hx hb hts in_N hown hK hP 0 rfl rfl 23 (by decide) (hts _ kw_467) (fun _ h9 => h9) rfl d_N_optimise_184 ?_
            refine lv_aload_n hx hb d_N_optimise_187 rfl (lv_at hl 0 rfl) ?_
            refine va_get (D := D) (ci := 6) (v := .ref (qN 10)) (C := R_N) (T := T_N) (N := 24) hx hb hts in_N hown hK hP 0 rfl rfl 18 (by decide) (hts _ kw_462) (fun _ h9 => h9) rfl d_N_optimise_188 ?_
            refine lv_iload_n hx hb d_N_optimise_191 rfl (lv_at hl 1 rfl) ?_
            obtain ⟨hi, hr⟩ := gd_some hr
            refine va_iald hx hb hK hP 10 0 rfl rfl hi d_N_optimise_192 ?_
            obtain ⟨hi, hr⟩ := gd_some hr
            refine va_iald hx hb hK hP 15 0 rfl rfl hi d_N_optimise_193 ?_
            exact hB194 v1 (N_place (N_vA v1.toNatClampNeg).toNatClampNeg) (N_vOp v1.toNatClampNeg) v1 N_size N_op N_a N_b N_x N_outcome N_done N_values N_vOp N_vA N_vB N_vX N_needed N_valueOf N_place _ ih _ _ _ hl hP hD hS hr
          · rw [if_neg hc] at hr
            refine lv_iconst (v := (0 : Int32)) hx hb d_N_optimise_179 (by decide) ?_
            refine lv_goto hx hb d_N_optimise_180 rfl ?_
            exact hB194 v1 (0 : Int32) (N_vOp v1.toNatClampNeg) v1 N_size N_op N_a N_b N_x N_outcome N_done N_values N_vOp N_vA N_vB N_vX N_needed N_valueOf N_place _ ih _ _ _ hl hP hD hS hr
  have hB98 : ∀ (v1 N_size : Int32) (N_op N_a N_b N_x : Nat → Int32) (N_outcome N_done N_values : Int32) (N_vOp N_vA N_vB N_vX N_needed N_valueOf N_place : Nat → Int32) (k64 : Int32 → (Nat → Int32) → Option (Int32 × Int32 × (Nat → Int32) × (Nat → Int32) × (Nat → Int32) × (Nat → Int32) × Int32 × Int32 × Int32 × (Nat → Int32) × (Nat → Int32) × (Nat → Int32) × (Nat → Int32) × (Nat → Int32) × (Nat → Int32) × (Nat → Int32))) (hk64 : ∀ (v1 : Int32) (N_needed : Nat → Int32) (H : Heap) (locs : List Loc) (ls : Array Slot), lv_has ls 2 [(0, .ref (qN 0)), (1, .int v1)] → va_P D zCl (W_N kI kZ qN N_p N_n N_words N_hasDirect N_compiled N_size N_outcome N_done N_values N_word N_table N_direct N_op N_a N_b N_x N_there N_vOp N_vA N_vB N_vX N_needed N_valueOf N_place) H → va_D A (W_N kI kZ qN N_p N_n N_words N_hasDirect N_compiled N_size N_outcome N_done N_values N_word N_table N_direct N_op N_a N_b N_x N_there N_vOp N_vA N_vB N_vX N_needed N_valueOf N_place) → va_S A s.heap H locs → k64 v1 N_needed = some res → W p l e R s m args below meth c H locs 0 0 Q (F0 m 64 ls [])) (H : Heap) (locs : List Loc) (ls : Array Slot), lv_has ls 2 [(0, .ref (qN 0)), (1, .int v1)] → va_P D zCl (W_N kI kZ qN N_p N_n N_words N_hasDirect N_compiled N_size N_outcome N_done N_values N_word N_table N_direct N_op N_a N_b N_x N_there N_vOp N_vA N_vB N_vX N_needed N_valueOf N_place) H → va_D A (W_N kI kZ qN N_p N_n N_words N_hasDirect N_compiled N_size N_outcome N_done N_values N_word N_table N_direct N_op N_a N_b N_x N_there N_vOp N_vA N_vB N_vX N_needed N_valueOf N_place) → va_S A s.heap H locs → f_N_optimise_98 k64 v1 N_size N_op N_a N_b N_x N_outcome N_done N_values N_vOp N_vA N_vB N_vX N_needed N_valueOf N_place = some res → W p l e R s m args below meth c H locs 0 0 Q (F0 m 98 ls []) := by
    intro v1 N_size N_op N_a N_b N_x N_outcome N_done N_values N_vOp N_vA N_vB N_vX N_needed N_valueOf N_place k64 hk64 H locs ls hl hP hD hS hr
    rw [f_N_optimise_98] at hr
    refine lv_aload_n hx hb d_N_optimise_98 rfl (lv_at hl 0 rfl) ?_
    refine va_get (D := D) (ci := 6) (v := .ref (qN 13)) (C := R_N) (T := T_N) (N := 24) hx hb hts in_N hown hK hP 0 rfl rfl 21 (by decide) (hts _ kw_465) (fun _ h9 => h9) rfl d_N_optimise_99 ?_
    refine lv_iload_n hx hb d_N_optimise_102 rfl (lv_at hl 1 rfl) ?_
    obtain ⟨hi, hr⟩ := gd_some hr
    refine va_zald hx hb hK hP 13 1 rfl rfl hi d_N_optimise_103 ?_
    refine lv_if_eq hx hb d_N_optimise_104 rfl (fun hc => ?_) (fun hc => ?_)
    · rw [if_pos hc] at hr
      refine lv_iinc (k := 1) (v := (v1 + (-1 : Int32))) (lv' := [(1, .int (v1 + (-1 : Int32))), (0, .ref (qN 0))]) hx hb d_N_optimise_128 hl rfl (congrArg (fun z => v1 + z) (by decide : Int32.ofInt (-1) = (-1 : Int32))) (by decide) rfl (fun ls hl => ?_)
      refine lv_goto hx hb d_N_optimise_131 rfl ?_
      exact hk64 (v1 + (-1 : Int32)) N_needed _ _ _ (lv_sub hl [1, 0] rfl) hP hD hS hr
    · rw [if_neg hc] at hr
      refine lv_aload_n hx hb d_N_optimise_107 rfl (lv_at hl 0 rfl) ?_
      refine va_get (D := D) (ci := 6) (v := .ref (qN 11)) (C := R_N) (T := T_N) (N := 24) hx hb hts in_N hown hK hP 0 rfl rfl 19 (by decide) (hts _ kw_463) (fun _ h9 => h9) rfl d_N_optimise_108 ?_
      refine lv_iload_n hx hb d_N_optimise_111 rfl (lv_at hl 1 rfl) ?_
      obtain ⟨hi, hr⟩ := gd_some hr
      refine va_iald hx hb hK hP 11 0 rfl rfl hi d_N_optimise_112 ?_
      refine lv_if_lt hx hb d_N_optimise_113 rfl (fun hc => ?_) (fun hc => ?_)
      · rw [if_pos hc] at hr
        refine lv_iinc (k := 1) (v := (v1 + (-1 : Int32))) (lv' := [(1, .int (v1 + (-1 : Int32))), (0, .ref (qN 0))]) hx hb d_N_optimise_128 hl rfl (congrArg (fun z => v1 + z) (by decide : Int32.ofInt (-1) = (-1 : Int32))) (by decide) rfl (fun ls hl => ?_)
        refine lv_goto hx hb d_N_optimise_131 rfl ?_
        exact hk64 (v1 + (-1 : Int32)) N_needed _ _ _ (lv_sub hl [1, 0] rfl) hP hD hS hr
      · rw [if_neg hc] at hr
        refine lv_aload_n hx hb d_N_optimise_116 rfl (lv_at hl 0 rfl) ?_
        refine va_get (D := D) (ci := 6) (v := .ref (qN 13)) (C := R_N) (T := T_N) (N := 24) hx hb hts in_N hown hK hP 0 rfl rfl 21 (by decide) (hts _ kw_465) (fun _ h9 => h9) rfl d_N_optimise_117 ?_
        refine lv_aload_n hx hb d_N_optimise_120 rfl (lv_at hl 0 rfl) ?_
        refine va_get (D := D) (ci := 6) (v := .ref (qN 11)) (C := R_N) (T := T_N) (N := 24) hx hb hts in_N hown hK hP 0 rfl rfl 19 (by decide) (hts _ kw_463) (fun _ h9 => h9) rfl d_N_optimise_121 ?_
        refine lv_iload_n hx hb d_N_optimise_124 rfl (lv_at hl 1 rfl) ?_
        obtain ⟨hi, hr⟩ := gd_some hr
        refine va_iald hx hb hK hP 11 0 rfl rfl hi d_N_optimise_125 ?_
        refine lv_iconst (v := (1 : Int32)) hx hb d_N_optimise_126 (by decide) ?_
        obtain ⟨hi, hr⟩ := gd_some hr
        refine va_zast hx hb hK hP hD hS 13 1 rfl rfl hi d_N_optimise_127 (fun H locs hP hD hS => ?_)
        have hP : va_P D zCl (W_N kI kZ qN N_p N_n N_words N_hasDirect N_compiled N_size N_outcome N_done N_values N_word N_table N_direct N_op N_a N_b N_x N_there N_vOp N_vA N_vB N_vX (upd N_needed (N_vB v1.toNatClampNeg).toNatClampNeg (vp_nar .boolean (1 : Int32))) N_valueOf N_place) H := hP
        have hD : va_D A (W_N kI kZ qN N_p N_n N_words N_hasDirect N_compiled N_size N_outcome N_done N_values N_word N_table N_direct N_op N_a N_b N_x N_there N_vOp N_vA N_vB N_vX (upd N_needed (N_vB v1.toNatClampNeg).toNatClampNeg (vp_nar .boolean (1 : Int32))) N_valueOf N_place) := hD
        refine lv_iinc (k := 1) (v := (v1 + (-1 : Int32))) (lv' := [(1, .int (v1 + (-1 : Int32))), (0, .ref (qN 0))]) hx hb d_N_optimise_128 hl rfl (congrArg (fun z => v1 + z) (by decide : Int32.ofInt (-1) = (-1 : Int32))) (by decide) rfl (fun ls hl => ?_)
        refine lv_goto hx hb d_N_optimise_131 rfl ?_
        exact hk64 (v1 + (-1 : Int32)) (upd N_needed (N_vB v1.toNatClampNeg).toNatClampNeg (vp_nar .boolean (1 : Int32))) _ _ _ (lv_sub hl [1, 0] rfl) hP hD hS hr
  have hB64 : ∀ (N_size : Int32) (N_op N_a N_b N_x : Nat → Int32) (N_outcome N_done N_values : Int32) (N_vOp N_vA N_vB N_vX N_valueOf N_place : Nat → Int32)   (fu : Nat) (v1 : Int32) (N_needed : Nat → Int32) (H : Heap) (locs : List Loc) (ls : Array Slot), lv_has ls 2 [(0, .ref (qN 0)), (1, .int v1)] → va_P D zCl (W_N kI kZ qN N_p N_n N_words N_hasDirect N_compiled N_size N_outcome N_done N_values N_word N_table N_direct N_op N_a N_b N_x N_there N_vOp N_vA N_vB N_vX N_needed N_valueOf N_place) H → va_D A (W_N kI kZ qN N_p N_n N_words N_hasDirect N_compiled N_size N_outcome N_done N_values N_word N_table N_direct N_op N_a N_b N_x N_there N_vOp N_vA N_vB N_vX N_needed N_valueOf N_place) → va_S A s.heap H locs → f_N_optimise_64 N_size N_op N_a N_b N_x N_outcome N_done N_values N_vOp N_vA N_vB N_vX N_valueOf N_place fu v1 N_needed = some res → W p l e R s m args below meth c H locs 0 0 Q (F0 m 64 ls []) := by
    intro N_size N_op N_a N_b N_x N_outcome N_done N_values N_vOp N_vA N_vB N_vX N_valueOf N_place fu
    induction fu with
    | zero => intro v1 N_needed H locs ls hl hP hD hS hr; exact absurd hr (by rw [f_N_optimise_64]; exact fun h => by cases h)
    | succ fu ih =>
      intro v1 N_needed H locs ls hl hP hD hS hr
      rw [f_N_optimise_64] at hr
      refine lv_iload_n hx hb d_N_optimise_64 rfl (lv_at hl 1 rfl) ?_
      refine lv_if_lt hx hb d_N_optimise_65 rfl (fun hc => ?_) (fun hc => ?_)
      · rw [if_pos hc] at hr
        refine lv_aload_n hx hb d_N_optimise_134 rfl (lv_at hl 0 rfl) ?_
        refine lv_iconst (v := (0 : Int32)) hx hb d_N_optimise_135 (by decide) ?_
        refine va_put (D := D) (ci := 6) (v := .int (0 : Int32)) (ty := .int) (C := R_N) (T := T_N) (N := 24) hx hb hts in_N ty_N tyo_N nm_N hown hK hP hD hS 0 rfl rfl 8 (by decide) (hts _ kw_452) (fun _ h9 => h9) rfl (by decide +kernel) rfl rfl (Nat.le_of_ble_eq_true rfl) d_N_optimise_136 (fun H locs hP hD hS => ?_)
        have hP : va_P D zCl (W_N kI kZ qN N_p N_n N_words N_hasDirect N_compiled (0 : Int32) N_outcome N_done N_values N_word N_table N_direct N_op N_a N_b N_x N_there N_vOp N_vA N_vB N_vX N_needed N_valueOf N_place) H := hP
        have hD : va_D A (W_N kI kZ qN N_p N_n N_words N_hasDirect N_compiled (0 : Int32) N_outcome N_done N_values N_word N_table N_direct N_op N_a N_b N_x N_there N_vOp N_vA N_vB N_vX N_needed N_valueOf N_place) := hD
        refine lv_iconst (v := (0 : Int32)) hx hb d_N_optimise_139 (by decide) ?_
        refine lv_istore_n (lv' := [(1, .int (0 : Int32)), (0, .ref (qN 0))]) hx hb d_N_optimise_140 rfl hl (by decide) rfl (fun ls hl => ?_)
        exact hB141 N_outcome N_done N_values N_vOp N_vA N_vB N_vX N_needed N_valueOf zFU (0 : Int32) (0 : Int32) N_op N_a N_b N_x N_place _ _ _ (lv_sub hl [1, 0] rfl) hP hD hS hr
      · rw [if_neg hc] at hr
        refine lv_aload_n hx hb d_N_optimise_68 rfl (lv_at hl 0 rfl) ?_
        refine va_get (D := D) (ci := 6) (v := .ref (qN 13)) (C := R_N) (T := T_N) (N := 24) hx hb hts in_N hown hK hP 0 rfl rfl 21 (by decide) (hts _ kw_465) (fun _ h9 => h9) rfl d_N_optimise_69 ?_
        refine lv_iload_n hx hb d_N_optimise_72 rfl (lv_at hl 1 rfl) ?_
        obtain ⟨hi, hr⟩ := gd_some hr
        refine va_zald hx hb hK hP 13 1 rfl rfl hi d_N_optimise_73 ?_
        refine lv_if_eq hx hb d_N_optimise_74 rfl (fun hc => ?_) (fun hc => ?_)
        · rw [if_pos hc] at hr
          exact hB98 v1 N_size N_op N_a N_b N_x N_outcome N_done N_values N_vOp N_vA N_vB N_vX N_needed N_valueOf N_place _ ih _ _ _ hl hP hD hS hr
        · rw [if_neg hc] at hr
          refine lv_aload_n hx hb d_N_optimise_77 rfl (lv_at hl 0 rfl) ?_
          refine va_get (D := D) (ci := 6) (v := .ref (qN 10)) (C := R_N) (T := T_N) (N := 24) hx hb hts in_N hown hK hP 0 rfl rfl 18 (by decide) (hts _ kw_462) (fun _ h9 => h9) rfl d_N_optimise_78 ?_
          refine lv_iload_n hx hb d_N_optimise_81 rfl (lv_at hl 1 rfl) ?_
          obtain ⟨hi, hr⟩ := gd_some hr
          refine va_iald hx hb hK hP 10 0 rfl rfl hi d_N_optimise_82 ?_
          refine lv_if_lt hx hb d_N_optimise_83 rfl (fun hc => ?_) (fun hc => ?_)
          · rw [if_pos hc] at hr
            exact hB98 v1 N_size N_op N_a N_b N_x N_outcome N_done N_values N_vOp N_vA N_vB N_vX N_needed N_valueOf N_place _ ih _ _ _ hl hP hD hS hr
          · rw [if_neg hc] at hr
            refine lv_aload_n hx hb d_N_optimise_86 rfl (lv_at hl 0 rfl) ?_
            refine va_get (D := D) (ci := 6) (v := .ref (qN 13)) (C := R_N) (T := T_N) (N := 24) hx hb hts in_N hown hK hP 0 rfl rfl 21 (by decide) (hts _ kw_465) (fun _ h9 => h9) rfl d_N_optimise_87 ?_
            refine lv_aload_n hx hb d_N_optimise_90 rfl (lv_at hl 0 rfl) ?_
            refine va_get (D := D) (ci := 6) (v := .ref (qN 10)) (C := R_N) (T := T_N) (N := 24) hx hb hts in_N hown hK hP 0 rfl rfl 18 (by decide) (hts _ kw_462) (fun _ h9 => h9) rfl d_N_optimise_91 ?_
            refine lv_iload_n hx hb d_N_optimise_94 rfl (lv_at hl 1 rfl) ?_
            obtain ⟨hi, hr⟩ := gd_some hr
            refine va_iald hx hb hK hP 10 0 rfl rfl hi d_N_optimise_95 ?_
            refine lv_iconst (v := (1 : Int32)) hx hb d_N_optimise_96 (by decide) ?_
            obtain ⟨hi, hr⟩ := gd_some hr
            refine va_zast hx hb hK hP hD hS 13 1 rfl rfl hi d_N_optimise_97 (fun H locs hP hD hS => ?_)
            have hP : va_P D zCl (W_N kI kZ qN N_p N_n N_words N_hasDirect N_compiled N_size N_outcome N_done N_values N_word N_table N_direct N_op N_a N_b N_x N_there N_vOp N_vA N_vB N_vX (upd N_needed (N_vA v1.toNatClampNeg).toNatClampNeg (vp_nar .boolean (1 : Int32))) N_valueOf N_place) H := hP
            have hD : va_D A (W_N kI kZ qN N_p N_n N_words N_hasDirect N_compiled N_size N_outcome N_done N_values N_word N_table N_direct N_op N_a N_b N_x N_there N_vOp N_vA N_vB N_vX (upd N_needed (N_vA v1.toNatClampNeg).toNatClampNeg (vp_nar .boolean (1 : Int32))) N_valueOf N_place) := hD
            exact hB98 v1 N_size N_op N_a N_b N_x N_outcome N_done N_values N_vOp N_vA N_vB N_vX (upd N_needed (N_vA v1.toNatClampNeg).toNatClampNeg (vp_nar .boolean (1 : Int32))) N_valueOf N_place _ ih _ _ _ hl hP hD hS hr
  have hB17 : ∀ (N_size : Int32) (N_op N_a N_b N_x : Nat → Int32) (N_outcome N_done : Int32) (N_place : Nat → Int32)   (fu : Nat) (v1 N_values : Int32) (N_vOp N_vA N_vB N_vX N_needed N_valueOf : Nat → Int32) (H : Heap) (locs : List Loc) (ls : Array Slot), lv_has ls 2 [(0, .ref (qN 0)), (1, .int v1)] → va_P D zCl (W_N kI kZ qN N_p N_n N_words N_hasDirect N_compiled N_size N_outcome N_done N_values N_word N_table N_direct N_op N_a N_b N_x N_there N_vOp N_vA N_vB N_vX N_needed N_valueOf N_place) H → va_D A (W_N kI kZ qN N_p N_n N_words N_hasDirect N_compiled N_size N_outcome N_done N_values N_word N_table N_direct N_op N_a N_b N_x N_there N_vOp N_vA N_vB N_vX N_needed N_valueOf N_place) → va_S A s.heap H locs → f_N_optimise_17 N_p N_size N_op N_a N_b N_x N_outcome N_done N_place fu v1 N_values N_vOp N_vA N_vB N_vX N_needed N_valueOf = some res → W p l e R s m args below meth c H locs 0 0 Q (F0 m 17 ls []) := by
    intro N_size N_op N_a N_b N_x N_outcome N_done N_place fu
    induction fu with
    | zero => intro v1 N_values N_vOp N_vA N_vB N_vX N_needed N_valueOf H locs ls hl hP hD hS hr; exact absurd hr (by rw [f_N_optimise_17]; exact fun h => by cases h)
    | succ fu ih =>
      intro v1 N_values N_vOp N_vA N_vB N_vX N_needed N_valueOf H locs ls hl hP hD hS hr
      rw [f_N_optimise_17] at hr
      refine lv_iload_n hx hb d_N_optimise_17 rfl (lv_at hl 1 rfl) ?_
      refine lv_aload_n hx hb d_N_optimise_18 rfl (lv_at hl 0 rfl) ?_
      refine va_get (D := D) (ci := 6) (v := .int N_size) (C := R_N) (T := T_N) (N := 24) hx hb hts in_N hown hK hP 0 rfl rfl 8 (by decide) (hts _ kw_452) (fun _ h9 => h9) rfl d_N_optimise_19 ?_
      refine lv_icmp_ge hx hb d_N_optimise_22 rfl (fun hc => ?_) (fun hc => ?_)
      · rw [if_pos hc] at hr
        refine lv_aload_n hx hb d_N_optimise_42 rfl (lv_at hl 0 rfl) ?_
        refine va_get (D := D) (ci := 6) (v := .ref (qN 13)) (C := R_N) (T := T_N) (N := 24) hx hb hts in_N hown hK hP 0 rfl rfl 21 (by decide) (hts _ kw_465) (fun _ h9 => h9) rfl d_N_optimise_43 ?_
        refine lv_aload_n hx hb d_N_optimise_46 rfl (lv_at hl 0 rfl) ?_
        refine va_get (D := D) (ci := 6) (v := .ref (qN 14)) (C := R_N) (T := T_N) (N := 24) hx hb hts in_N hown hK hP 0 rfl rfl 22 (by decide) (hts _ kw_466) (fun _ h9 => h9) rfl d_N_optimise_47 ?_
        refine lv_aload_n hx hb d_N_optimise_50 rfl (lv_at hl 0 rfl) ?_
        refine va_get (D := D) (ci := 6) (v := .int N_outcome) (C := R_N) (T := T_N) (N := 24) hx hb hts in_N hown hK hP 0 rfl rfl 13 (by decide) (hts _ kw_457) (fun _ h9 => h9) rfl d_N_optimise_51 ?_
        obtain ⟨hi, hr⟩ := gd_some hr
        refine va_iald hx hb hK hP 14 0 rfl rfl hi d_N_optimise_54 ?_
        refine lv_iconst (v := (1 : Int32)) hx hb d_N_optimise_55 (by decide) ?_
        obtain ⟨hi, hr⟩ := gd_some hr
        refine va_zast hx hb hK hP hD hS 13 1 rfl rfl hi d_N_optimise_56 (fun H locs hP hD hS => ?_)
        have hP : va_P D zCl (W_N kI kZ qN N_p N_n N_words N_hasDirect N_compiled N_size N_outcome N_done N_values N_word N_table N_direct N_op N_a N_b N_x N_there N_vOp N_vA N_vB N_vX (upd N_needed (N_valueOf N_outcome.toNatClampNeg).toNatClampNeg (vp_nar .boolean (1 : Int32))) N_valueOf N_place) H := hP
        have hD : va_D A (W_N kI kZ qN N_p N_n N_words N_hasDirect N_compiled N_size N_outcome N_done N_values N_word N_table N_direct N_op N_a N_b N_x N_there N_vOp N_vA N_vB N_vX (upd N_needed (N_valueOf N_outcome.toNatClampNeg).toNatClampNeg (vp_nar .boolean (1 : Int32))) N_valueOf N_place) := hD
        refine lv_aload_n hx hb d_N_optimise_57 rfl (lv_at hl 0 rfl) ?_
        refine va_get (D := D) (ci := 6) (v := .int N_values) (C := R_N) (T := T_N) (N := 24) hx hb hts in_N hown hK hP 0 rfl rfl 16 (by decide) (hts _ kw_460) (fun _ h9 => h9) rfl d_N_optimise_58 ?_
        refine lv_iconst (v := (1 : Int32)) hx hb d_N_optimise_61 (by decide) ?_
        refine lv_isub hx hb d_N_optimise_62 ?_
        obtain ⟨v1_2, ev1_2, hr⟩ := nm_some hr
        refine z_top ev1_2 ?_
        refine lv_istore_n (lv' := [(1, .int v1_2), (0, .ref (qN 0))]) hx hb d_N_optimise_63 rfl hl (by decide) rfl (fun ls hl => ?_)
        exact hB64 N_size N_op N_a N_b N_x N_outcome N_done N_values N_vOp N_vA N_vB N_vX N_valueOf N_place zFU v1_2 (upd N_needed (N_valueOf N_outcome.toNatClampNeg).toNatClampNeg (vp_nar .boolean (1 : Int32))) _ _ _ (lv_sub hl [1, 0] rfl) hP hD hS hr
      · rw [if_neg hc] at hr
        refine lv_aload_n hx hb d_N_optimise_25 rfl (lv_at hl 0 rfl) ?_
        refine va_get (D := D) (ci := 6) (v := .ref (qN 14)) (C := R_N) (T := T_N) (N := 24) hx hb hts in_N hown hK hP 0 rfl rfl 22 (by decide) (hts _ kw_466) (fun _ h9 => h9) rfl d_N_optimise_26 ?_
        refine lv_iload_n hx hb d_N_optimise_29 rfl (lv_at hl 1 rfl) ?_
        refine lv_aload_n hx hb d_N_optimise_30 rfl (lv_at hl 0 rfl) ?_
        refine lv_iload_n hx hb d_N_optimise_31 rfl (lv_at hl 1 rfl) ?_
        obtain ⟨r3, hr3, hr⟩ := ob hr
        refine z_ci (ws := (W_N kI kZ qN N_p N_n N_words N_hasDirect N_compiled N_size N_outcome N_done N_values N_word N_table N_direct N_op N_a N_b N_x N_there N_vOp N_vA N_vB N_vX N_needed N_valueOf N_place)) (wc := (W_N kI kZ qN N_p N_n N_words N_hasDirect N_compiled N_size N_outcome N_done N_values N_word N_table N_direct N_op N_a N_b N_x N_there N_vOp N_vA N_vB N_vX N_needed N_valueOf N_place)) (wr := ([] : va_W)) (w1 := (W_N kI kZ qN N_p N_n N_words N_hasDirect N_compiled N_size N_outcome N_done r3.2.1 N_word N_table N_direct N_op N_a N_b N_x N_there r3.2.2.1 r3.2.2.2.1 r3.2.2.2.2.1 r3.2.2.2.2.2.1 r3.2.2.2.2.2.2 N_valueOf N_place)) (w2 := (W_N kI kZ qN N_p N_n N_words N_hasDirect N_compiled N_size N_outcome N_done r3.2.1 N_word N_table N_direct N_op N_a N_b N_x N_there r3.2.2.1 r3.2.2.2.1 r3.2.2.2.2.1 r3.2.2.2.2.2.1 r3.2.2.2.2.2.2 N_valueOf N_place)) (va_runV (As := [.int v1]) (rest := [.int v1, .ref (qN 14)]) ⟨hx, hb, hml, hown, hts⟩ (c_N_valueOfInstruction l D kI kZ qN N_p N_n N_words N_hasDirect N_compiled N_size N_outcome N_done N_values N_word N_table N_direct N_op N_a N_b N_x N_there N_vOp N_vA N_vB N_vX N_needed N_valueOf N_place v1 r3 hr3 H.size) (z_cwV hts mw_N_valueOfInstruction kw_595 ⟨by rw [hR]; exact Nat.le_of_ble_eq_true rfl, by rw [hR]; exact Nat.le_of_ble_eq_true rfl⟩) (z_preV (ci := 6) hK hP hD hN rfl (he := (rfl : _[0]? = _)) [0, 1, 2, 3, 4, 5, 6, 7, 8, 9, 10, 11, 12, 13, 14, 15] (by decide) rfl) rfl rfl hl.1 rfl (lv_room (Nat.le_of_ble_eq_true rfl)) d_N_optimise_32 ⟨Nat.zero_le _, Nat.zero_le _⟩) hP hD hS hA [0, 1, 2, 3, 4, 5, 6, 7, 8, 9, 10, 11, 12, 13, 14, 15] [] [0, 1, 2, 3, 4, 5, 6, 7, 8, 9, 10, 11, 12, 13, 14, 15] rfl rfl (by decide) (by decide) rfl (by decide) (fun H locs hP hD hS => ?_)
        obtain ⟨hi, hr⟩ := gd_some hr
        refine va_iast hx hb hK hP hD hS 14 0 rfl rfl hi d_N_optimise_35 (fun H locs hP hD hS => ?_)
        have hP : va_P D zCl (W_N kI kZ qN N_p N_n N_words N_hasDirect N_compiled N_size N_outcome N_done r3.2.1 N_word N_table N_direct N_op N_a N_b N_x N_there r3.2.2.1 r3.2.2.2.1 r3.2.2.2.2.1 r3.2.2.2.2.2.1 r3.2.2.2.2.2.2 (upd N_valueOf v1.toNatClampNeg r3.1) N_place) H := hP
        have hD : va_D A (W_N kI kZ qN N_p N_n N_words N_hasDirect N_compiled N_size N_outcome N_done r3.2.1 N_word N_table N_direct N_op N_a N_b N_x N_there r3.2.2.1 r3.2.2.2.1 r3.2.2.2.2.1 r3.2.2.2.2.2.1 r3.2.2.2.2.2.2 (upd N_valueOf v1.toNatClampNeg r3.1) N_place) := hD
        refine lv_iinc (k := 1) (v := (v1 + (1 : Int32))) (lv' := [(1, .int (v1 + (1 : Int32))), (0, .ref (qN 0))]) hx hb d_N_optimise_36 hl rfl (congrArg (fun z => v1 + z) (by decide : Int32.ofInt 1 = (1 : Int32))) (by decide) rfl (fun ls hl => ?_)
        refine lv_goto hx hb d_N_optimise_39 rfl ?_
        exact ih (v1 + (1 : Int32)) r3.2.1 r3.2.2.1 r3.2.2.2.1 r3.2.2.2.2.1 r3.2.2.2.2.2.1 r3.2.2.2.2.2.2 (upd N_valueOf v1.toNatClampNeg r3.1) _ _ _ (lv_sub hl [1, 0] rfl) hP hD hS hr
  intro ls H hl hP hD hS
  have hl : lv_has ls 2 [(0, .ref (qN 0))] := hl
  rw [f_N_optimise] at hr
  refine lv_aload_n hx hb d_N_optimise_0 rfl (lv_at hl 0 rfl) ?_
  refine va_get (D := D) (ci := 6) (v := .int N_compiled) (C := R_N) (T := T_N) (N := 24) hx hb hts in_N hown hK hP 0 rfl rfl 7 (by decide) (hts _ kw_451) (fun _ h9 => h9) rfl d_N_optimise_1 ?_
  refine lv_if_ne hx hb d_N_optimise_4 rfl (fun hc => ?_) (fun hc => ?_)
  · rw [if_neg hc] at hr
    refine lv_aload_n hx hb d_N_optimise_10 rfl (lv_at hl 0 rfl) ?_
    refine lv_iconst (v := (0 : Int32)) hx hb d_N_optimise_11 (by decide) ?_
    refine va_put (D := D) (ci := 6) (v := .int (0 : Int32)) (ty := .int) (C := R_N) (T := T_N) (N := 24) hx hb hts in_N ty_N tyo_N nm_N hown hK hP hD hS 0 rfl rfl 16 (by decide) (hts _ kw_460) (fun _ h9 => h9) rfl (by decide +kernel) rfl rfl (Nat.le_of_ble_eq_true rfl) d_N_optimise_12 (fun H locs hP hD hS => ?_)
    have hP : va_P D zCl (W_N kI kZ qN N_p N_n N_words N_hasDirect N_compiled N_size N_outcome N_done (0 : Int32) N_word N_table N_direct N_op N_a N_b N_x N_there N_vOp N_vA N_vB N_vX N_needed N_valueOf N_place) H := hP
    have hD : va_D A (W_N kI kZ qN N_p N_n N_words N_hasDirect N_compiled N_size N_outcome N_done (0 : Int32) N_word N_table N_direct N_op N_a N_b N_x N_there N_vOp N_vA N_vB N_vX N_needed N_valueOf N_place) := hD
    refine lv_iconst (v := (0 : Int32)) hx hb d_N_optimise_15 (by decide) ?_
    refine lv_istore_n (lv' := [(1, .int (0 : Int32)), (0, .ref (qN 0))]) hx hb d_N_optimise_16 rfl hl (by decide) rfl (fun ls hl => ?_)
    exact hB17 N_size N_op N_a N_b N_x N_outcome N_done N_place zFU (0 : Int32) (0 : Int32) N_vOp N_vA N_vB N_vX N_needed N_valueOf _ _ _ (lv_sub hl [1, 0] rfl) hP hD hS hr
  · rw [if_pos hc] at hr
    refine lv_bipush (v := (7 : Int32)) hx hb d_N_optimise_7 (by decide) ?_
    obtain rfl := Option.some.inj hr
    exact hQ _ _ _ _ _ d_N_optimise_9 rfl rfl hP hD hS
set_option maxHeartbeats 4000000 in
set_option maxRecDepth 100000 in
theorem c_N_run (l : Launch) (D : va_G) (kI kZ : ClassId) (qN : Nat → Nat) (N_p N_n N_words N_hasDirect N_compiled N_size N_outcome N_done N_values : Int32) (N_word N_table N_direct N_op N_a N_b N_x N_there N_vOp N_vA N_vB N_vX N_needed N_valueOf N_place : Nat → Int32) (a1 : Int32) (res : Int32 × (Nat → Int32) × Int32) (hr : f_N_run N_p N_n N_table N_compiled N_size N_op N_a N_b N_x N_done a1 = some res) : zMi l D kI kZ y_N_run prog_8_method_31_code 3 ((some .int)) 2 53 [.ref (qN 0), .int a1] (W_N kI kZ qN N_p N_n N_words N_hasDirect N_compiled N_size N_outcome N_done N_values N_word N_table N_direct N_op N_a N_b N_x N_there N_vOp N_vA N_vB N_vX N_needed N_valueOf N_place) (W_N kI kZ qN N_p N_n N_words N_hasDirect N_compiled N_size N_outcome (res.2.2) N_values N_word (res.2.1) N_direct N_op N_a N_b N_x N_there N_vOp N_vA N_vB N_vX N_needed N_valueOf N_place) (res.1) := by
  refine zMi.of (by decide +kernel) (Nat.le_of_ble_eq_true rfl) ?_
  intro p e R s m args below meth c Q A hR hx hb hml hts hown hA hK hN hQ
  have hown : s.vm.findClass "SquareCodeModel" = some m.cls := hown
  have hB97 : ∀ (N_table : Nat → Int32) (N_done : Int32)   (H : Heap) (locs : List Loc) (ls : Array Slot), lv_has ls 3 [(0, .ref (qN 0))] → va_P D zCl (W_N kI kZ qN N_p N_n N_words N_hasDirect N_compiled N_size N_outcome N_done N_values N_word N_table N_direct N_op N_a N_b N_x N_there N_vOp N_vA N_vB N_vX N_needed N_valueOf N_place) H → va_D A (W_N kI kZ qN N_p N_n N_words N_hasDirect N_compiled N_size N_outcome N_done N_values N_word N_table N_direct N_op N_a N_b N_x N_there N_vOp N_vA N_vB N_vX N_needed N_valueOf N_place) → va_S A s.heap H locs → f_N_run_97 N_size N_table N_done = some res → W p l e R s m args below meth c H locs 0 0 Q (F0 m 97 ls []) := by
    intro N_table N_done H locs ls hl hP hD hS hr
    rw [f_N_run_97] at hr
    refine lv_aload_n hx hb d_N_run_97 rfl (lv_at hl 0 rfl) ?_
    refine va_get (D := D) (ci := 6) (v := .int N_done) (C := R_N) (T := T_N) (N := 24) hx hb hts in_N hown hK hP 0 rfl rfl 14 (by decide) (hts _ kw_458) (fun _ h9 => h9) rfl d_N_run_98 ?_
    refine lv_aload_n hx hb d_N_run_101 rfl (lv_at hl 0 rfl) ?_
    refine va_get (D := D) (ci := 6) (v := .int N_size) (C := R_N) (T := T_N) (N := 24) hx hb hts in_N hown hK hP 0 rfl rfl 8 (by decide) (hts _ kw_452) (fun _ h9 => h9) rfl d_N_run_102 ?_
    refine lv_icmp_ne hx hb d_N_run_105 rfl (fun hc => ?_) (fun hc => ?_)
    · rw [if_neg hc] at hr
      refine lv_bipush (v := (8 : Int32)) hx hb d_N_run_112 (by decide) ?_
      obtain rfl := Option.some.inj hr
      exact hQ _ _ _ _ _ d_N_run_114 rfl rfl hP hD hS
    · rw [if_pos hc] at hr
      refine lv_iconst (v := (0 : Int32)) hx hb d_N_run_108 (by decide) ?_
      refine lv_goto hx hb d_N_run_109 rfl ?_
      obtain rfl := Option.some.inj hr
      exact hQ _ _ _ _ _ d_N_run_114 rfl rfl hP hD hS
  have hB12 : ∀ (fu : Nat) (v2 : Int32) (N_table : Nat → Int32) (N_done : Int32) (H : Heap) (locs : List Loc) (ls : Array Slot), lv_has ls 3 [(0, .ref (qN 0)), (1, .int a1), (2, .int v2)] → va_P D zCl (W_N kI kZ qN N_p N_n N_words N_hasDirect N_compiled N_size N_outcome N_done N_values N_word N_table N_direct N_op N_a N_b N_x N_there N_vOp N_vA N_vB N_vX N_needed N_valueOf N_place) H → va_D A (W_N kI kZ qN N_p N_n N_words N_hasDirect N_compiled N_size N_outcome N_done N_values N_word N_table N_direct N_op N_a N_b N_x N_there N_vOp N_vA N_vB N_vX N_needed N_valueOf N_place) → va_S A s.heap H locs → f_N_run_12 N_p N_n N_size N_op N_a N_b N_x a1 fu v2 N_table N_done = some res → W p l e R s m args below meth c H locs 0 0 Q (F0 m 12 ls []) := by
    intro  fu
    induction fu with
    | zero => intro v2 N_table N_done H locs ls hl hP hD hS hr; exact absurd hr (by rw [f_N_run_12]; exact fun h => by cases h)
    | succ fu ih =>
      intro v2 N_table N_done H locs ls hl hP hD hS hr
      rw [f_N_run_12] at hr
      refine lv_iload_n hx hb d_N_run_12 rfl (lv_at hl 2 rfl) ?_
      refine lv_iload_n hx hb d_N_run_13 rfl (lv_at hl 1 rfl) ?_
      refine lv_icmp_ge hx hb d_N_run_14 rfl (fun hc => ?_) (fun hc => ?_)
      · rw [if_pos hc] at hr
        exact hB97 N_table N_done _ _ _ (lv_sub hl [0] rfl) hP hD hS hr
      · rw [if_neg hc] at hr
        refine lv_aload_n hx hb d_N_run_17 rfl (lv_at hl 0 rfl) ?_
        refine va_get (D := D) (ci := 6) (v := .int N_done) (C := R_N) (T := T_N) (N := 24) hx hb hts in_N hown hK hP 0 rfl rfl 14 (by decide) (hts _ kw_458) (fun _ h9 => h9) rfl d_N_run_18 ?_
        refine lv_aload_n hx hb d_N_run_21 rfl (lv_at hl 0 rfl) ?_
        refine va_get (D := D) (ci := 6) (v := .int N_size) (C := R_N) (T := T_N) (N := 24) hx hb hts in_N hown hK hP 0 rfl rfl 8 (by decide) (hts _ kw_452) (fun _ h9 => h9) rfl d_N_run_22 ?_
        refine lv_icmp_ge hx hb d_N_run_25 rfl (fun hc => ?_) (fun hc => ?_)
        · rw [if_pos hc] at hr
          exact hB97 N_table N_done _ _ _ (lv_sub hl [0] rfl) hP hD hS hr
        · rw [if_neg hc] at hr
          refine lv_aload_n hx hb d_N_run_28 rfl (lv_at hl 0 rfl) ?_
          refine lv_aload_n hx hb d_N_run_29 rfl (lv_at hl 0 rfl) ?_
          refine va_get (D := D) (ci := 6) (v := .ref (qN 4)) (C := R_N) (T := T_N) (N := 24) hx hb hts in_N hown hK hP 0 rfl rfl 9 (by decide) (hts _ kw_453) (fun _ h9 => h9) rfl d_N_run_30 ?_
          refine lv_aload_n hx hb d_N_run_33 rfl (lv_at hl 0 rfl) ?_
          refine va_get (D := D) (ci := 6) (v := .int N_done) (C := R_N) (T := T_N) (N := 24) hx hb hts in_N hown hK hP 0 rfl rfl 14 (by decide) (hts _ kw_458) (fun _ h9 => h9) rfl d_N_run_34 ?_
          obtain ⟨hi, hr⟩ := gd_some hr
          refine va_iald hx hb hK hP 4 0 rfl rfl hi d_N_run_37 ?_
          refine lv_bipush (v := (31 : Int32)) hx hb d_N_run_38 (by decide) ?_
          refine lv_aload_n hx hb d_N_run_40 rfl (lv_at hl 0 rfl) ?_
          refine va_get (D := D) (ci := 6) (v := .ref (qN 5)) (C := R_N) (T := T_N) (N := 24) hx hb hts in_N hown hK hP 0 rfl rfl 10 (by decide) (hts _ kw_454) (fun _ h9 => h9) rfl d_N_run_41 ?_
          refine lv_aload_n hx hb d_N_run_44 rfl (lv_at hl 0 rfl) ?_
          refine va_get (D := D) (ci := 6) (v := .int N_done) (C := R_N) (T := T_N) (N := 24) hx hb hts in_N hown hK hP 0 rfl rfl 14 (by decide) (hts _ kw_458) (fun _ h9 => h9) rfl d_N_run_45 ?_
          obtain ⟨hi, hr⟩ := gd_some hr
          refine va_iald hx hb hK hP 5 0 rfl rfl hi d_N_run_48 ?_
          refine lv_iadd hx hb d_N_run_49 ?_
          refine lv_bipush (v := (31 : Int32)) hx hb d_N_run_50 (by decide) ?_
          refine lv_aload_n hx hb d_N_run_52 rfl (lv_at hl 0 rfl) ?_
          refine va_get (D := D) (ci := 6) (v := .ref (qN 6)) (C := R_N) (T := T_N) (N := 24) hx hb hts in_N hown hK hP 0 rfl rfl 11 (by decide) (hts _ kw_455) (fun _ h9 => h9) rfl d_N_run_53 ?_
          refine lv_aload_n hx hb d_N_run_56 rfl (lv_at hl 0 rfl) ?_
          refine va_get (D := D) (ci := 6) (v := .int N_done) (C := R_N) (T := T_N) (N := 24) hx hb hts in_N hown hK hP 0 rfl rfl 14 (by decide) (hts _ kw_458) (fun _ h9 => h9) rfl d_N_run_57 ?_
          obtain ⟨hi, hr⟩ := gd_some hr
          refine va_iald hx hb hK hP 6 0 rfl rfl hi d_N_run_60 ?_
          refine lv_iadd hx hb d_N_run_61 ?_
          refine lv_aload_n hx hb d_N_run_62 rfl (lv_at hl 0 rfl) ?_
          refine va_get (D := D) (ci := 6) (v := .ref (qN 7)) (C := R_N) (T := T_N) (N := 24) hx hb hts in_N hown hK hP 0 rfl rfl 12 (by decide) (hts _ kw_456) (fun _ h9 => h9) rfl d_N_run_63 ?_
          refine lv_aload_n hx hb d_N_run_66 rfl (lv_at hl 0 rfl) ?_
          refine va_get (D := D) (ci := 6) (v := .int N_done) (C := R_N) (T := T_N) (N := 24) hx hb hts in_N hown hK hP 0 rfl rfl 14 (by decide) (hts _ kw_458) (fun _ h9 => h9) rfl d_N_run_67 ?_
          obtain ⟨hi, hr⟩ := gd_some hr
          refine va_iald hx hb hK hP 7 0 rfl rfl hi d_N_run_70 ?_
          refine lv_bipush (v := (31 : Int32)) hx hb d_N_run_71 (by decide) ?_
          refine lv_aload_n hx hb d_N_run_73 rfl (lv_at hl 0 rfl) ?_
          refine va_get (D := D) (ci := 6) (v := .int N_done) (C := R_N) (T := T_N) (N := 24) hx hb hts in_N hown hK hP 0 rfl rfl 14 (by decide) (hts _ kw_458) (fun _ h9 => h9) rfl d_N_run_74 ?_
          refine lv_iadd hx hb d_N_run_77 ?_
          obtain ⟨r1, hr1, hr⟩ := ob hr
          refine z_cv (ws := (W_N kI kZ qN N_p N_n N_words N_hasDirect N_compiled N_size N_outcome N_done N_values N_word N_table N_direct N_op N_a N_b N_x N_there N_vOp N_vA N_vB N_vX N_needed N_valueOf N_place)) (wc := (W_N kI kZ qN N_p N_n N_words N_hasDirect N_compiled N_size N_outcome N_done N_values N_word N_table N_direct N_op N_a N_b N_x N_there N_vOp N_vA N_vB N_vX N_needed N_valueOf N_place)) (wr := ([] : va_W)) (w1 := (W_N kI kZ qN N_p N_n N_words N_hasDirect N_compiled N_size N_outcome N_done N_values N_word r1 N_direct N_op N_a N_b N_x N_there N_vOp N_vA N_vB N_vX N_needed N_valueOf N_place)) (w2 := (W_N kI kZ qN N_p N_n N_words N_hasDirect N_compiled N_size N_outcome N_done N_values N_word r1 N_direct N_op N_a N_b N_x N_there N_vOp N_vA N_vB N_vX N_needed N_valueOf N_place)) (va_runV (As := [.int (N_op N_done.toNatClampNeg), .int ((31 : Int32) + (N_a N_done.toNatClampNeg)), .int ((31 : Int32) + (N_b N_done.toNatClampNeg)), .int (N_x N_done.toNatClampNeg), .int ((31 : Int32) + N_done)]) (rest := []) ⟨hx, hb, hml, hown, hts⟩ (c_N_operate l D kI kZ qN N_p N_n N_words N_hasDirect N_compiled N_size N_outcome N_done N_values N_word N_table N_direct N_op N_a N_b N_x N_there N_vOp N_vA N_vB N_vX N_needed N_valueOf N_place (N_op N_done.toNatClampNeg) ((31 : Int32) + (N_a N_done.toNatClampNeg)) ((31 : Int32) + (N_b N_done.toNatClampNeg)) (N_x N_done.toNatClampNeg) ((31 : Int32) + N_done) r1 hr1 H.size) (z_cwV hts mw_N_operate kw_565 ⟨by rw [hR]; exact Nat.le_of_ble_eq_true rfl, by rw [hR]; exact Nat.le_of_ble_eq_true rfl⟩) (z_preV (ci := 6) hK hP hD hN rfl (he := (rfl : _[0]? = _)) [0, 1, 2, 3, 4, 5, 6, 7, 8, 9, 10, 11, 12, 13, 14, 15] (by decide) rfl) rfl rfl hl.1 rfl (lv_room (Nat.le_of_ble_eq_true rfl)) d_N_run_78 ⟨Nat.zero_le _, Nat.zero_le _⟩) hP hD hS hA [0, 1, 2, 3, 4, 5, 6, 7, 8, 9, 10, 11, 12, 13, 14, 15] [] [0, 1, 2, 3, 4, 5, 6, 7, 8, 9, 10, 11, 12, 13, 14, 15] rfl rfl (by decide) (by decide) rfl (by decide) (fun H locs hP hD hS => ?_)
          refine lv_aload_n hx hb d_N_run_81 rfl (lv_at hl 0 rfl) ?_
          refine lv_aload_n hx hb d_N_run_82 rfl (lv_at hl 0 rfl) ?_
          refine va_get (D := D) (ci := 6) (v := .int N_done) (C := R_N) (T := T_N) (N := 24) hx hb hts in_N hown hK hP 0 rfl rfl 14 (by decide) (hts _ kw_458) (fun _ h9 => h9) rfl d_N_run_83 ?_
          refine lv_iconst (v := (1 : Int32)) hx hb d_N_run_86 (by decide) ?_
          refine lv_iadd hx hb d_N_run_87 ?_
          refine va_put (D := D) (ci := 6) (v := .int (N_done + (1 : Int32))) (ty := .int) (C := R_N) (T := T_N) (N := 24) hx hb hts in_N ty_N tyo_N nm_N hown hK hP hD hS 0 rfl rfl 14 (by decide) (hts _ kw_458) (fun _ h9 => h9) rfl (by decide +kernel) rfl rfl (Nat.le_of_ble_eq_true rfl) d_N_run_88 (fun H locs hP hD hS => ?_)
          have hP : va_P D zCl (W_N kI kZ qN N_p N_n N_words N_hasDirect N_compiled N_size N_outcome (N_done + (1 : Int32)) N_values N_word r1 N_direct N_op N_a N_b N_x N_there N_vOp N_vA N_vB N_vX N_needed N_valueOf N_place) H := hP
          have hD : va_D A (W_N kI kZ qN N_p N_n N_words N_hasDirect N_compiled N_size N_outcome (N_done + (1 : Int32)) N_values N_word r1 N_direct N_op N_a N_b N_x N_there N_vOp N_vA N_vB N_vX N_needed N_valueOf N_place) := hD
          refine lv_iinc (k := 2) (v := (v2 + (1 : Int32))) (lv' := [(2, .int (v2 + (1 : Int32))), (0, .ref (qN 0)), (1, .int a1)]) hx hb d_N_run_91 hl rfl (congrArg (fun z => v2 + z) (by decide : Int32.ofInt 1 = (1 : Int32))) (by decide) rfl (fun ls hl => ?_)
          refine lv_goto hx hb d_N_run_94 rfl ?_
          exact ih (v2 + (1 : Int32)) r1 (N_done + (1 : Int32)) _ _ _ (lv_sub hl [1, 2, 0] rfl) hP hD hS hr
  intro ls H hl hP hD hS
  have hl : lv_has ls 3 [(0, .ref (qN 0)), (1, .int a1)] := hl
  rw [f_N_run] at hr
  refine lv_aload_n hx hb d_N_run_0 rfl (lv_at hl 0 rfl) ?_
  refine va_get (D := D) (ci := 6) (v := .int N_compiled) (C := R_N) (T := T_N) (N := 24) hx hb hts in_N hown hK hP 0 rfl rfl 7 (by decide) (hts _ kw_451) (fun _ h9 => h9) rfl d_N_run_1 ?_
  refine lv_if_ne hx hb d_N_run_4 rfl (fun hc => ?_) (fun hc => ?_)
  · rw [if_neg hc] at hr
    refine lv_iconst (v := (0 : Int32)) hx hb d_N_run_10 (by decide) ?_
    refine lv_istore_n (lv' := [(2, .int (0 : Int32)), (0, .ref (qN 0)), (1, .int a1)]) hx hb d_N_run_11 rfl hl (by decide) rfl (fun ls hl => ?_)
    exact hB12 zFU (0 : Int32) N_table N_done _ _ _ (lv_sub hl [1, 2, 0] rfl) hP hD hS hr
  · rw [if_pos hc] at hr
    refine lv_bipush (v := (7 : Int32)) hx hb d_N_run_7 (by decide) ?_
    obtain rfl := Option.some.inj hr
    exact hQ _ _ _ _ _ d_N_run_9 rfl rfl hP hD hS
