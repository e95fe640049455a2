def f_R_isFull (R_length : Int32) : Option (Int32) :=
  if R_length < (24 : Int32) then
    some (0 : Int32)
  else
    some (1 : Int32)
def f_C_length (C_length : Int32) : Option (Int32) :=
  some C_length
def f_X_hasCode (C_length : Int32) : Option (Int32) :=
  (f_C_length C_length).bind fun r1 =>
  if r1 ≤ 0 then
    some (0 : Int32)
  else
    some (1 : Int32)
def f_R_append (R_words : Nat → Int32) (R_length a1 : Int32) : Option ((Nat → Int32) × Int32) :=
  gd R_length 24 <|
  some ((upd R_words R_length.toNatClampNeg a1), (R_length + (1 : Int32)))
def f_X_feed (R_words : Nat → Int32) (R_length C_length a1 : Int32) : Option (Int32 × (Nat → Int32) × Int32) :=
  (f_R_isFull R_length).bind fun r1 =>
  if r1 = 0 then
    (f_X_hasCode C_length).bind fun r2 =>
    if r2 = 0 then
      (f_R_append R_words R_length a1).bind fun r3 =>
      some ((0 : Int32), r3.1, r3.2)
    else
      some ((1 : Int32), R_words, R_length)
  else
    some ((1 : Int32), R_words, R_length)
def f_M_hasCell (M_side a1 a2 : Int32) : Option (Int32) :=
  if a1 < 0 then
    some (0 : Int32)
  else
    if M_side ≤ a1 then
      some (0 : Int32)
    else
      if a2 < 0 then
        some (0 : Int32)
      else
        if M_side ≤ a2 then
          some (0 : Int32)
        else
          some (1 : Int32)
def f_JM_floorMod (a0 a1 : Int32) : Option (Int32) :=
  nz a1 <|
  nm (zrem a0 a1) fun v2_1 =>
  if 0 ≤ (a0 ^^^ a1) then
    some v2_1
  else
    if v2_1 = 0 then
      some v2_1
    else
      some (v2_1 + a1)
def f_M_put (M_nc : Nat) (M_modulus M_side M_size : Int32) (M_cells : Nat → Int32) (a1 a2 a3 a4 : Int32) : Option ((Nat → Int32)) :=
  (f_JM_floorMod a4 M_modulus).bind fun r1 =>
  gd (((a1 * M_size) + (a2 * M_side)) + a3) M_nc <|
  some (upd M_cells (((a1 * M_size) + (a2 * M_side)) + a3).toNatClampNeg r1)
def f_X_rewind (X_instructionsDone : Int32) : Option (Int32) :=
  some (0 : Int32)
def f_X_setInput (M_nc : Nat) (X_instructionsDone M_modulus M_side M_size : Int32) (M_cells : Nat → Int32) (a1 a2 a3 a4 : Int32) : Option (Int32 × Int32 × (Nat → Int32)) :=
  if a1 < 0 then
    some ((2 : Int32), X_instructionsDone, M_cells)
  else
    if (4 : Int32) ≤ a1 then
      some ((2 : Int32), X_instructionsDone, M_cells)
    else
      (f_M_hasCell M_side a2 a3).bind fun r1 =>
      if r1 = 0 then
        some ((2 : Int32), X_instructionsDone, M_cells)
      else
        (f_M_put M_nc M_modulus M_side M_size M_cells ((40 : Int32) + a1) a2 a3 a4).bind fun r2 =>
        (f_X_rewind X_instructionsDone).bind fun r3 =>
        some ((0 : Int32), r3, r2)
def f_R_isWord_75 (v1 : Int32) : Option (Int32) :=
  if v1 = 0 then
    some (1 : Int32)
  else
    some (0 : Int32)
def f_R_isWord (a0 : Int32) : Option (Int32) :=
  if 0 ≤ a0 then
    nm (zrem a0 (100 : Int32)) fun v1_1 =>
    if (a0 / (100 : Int32)) = (0 : Int32) then
      if (4 : Int32) ≤ v1_1 then
        some (0 : Int32)
      else
        some (1 : Int32)
    else
    if (a0 / (100 : Int32)) = (1 : Int32) then
      f_R_isWord_75 v1_1
    else
    if (a0 / (100 : Int32)) = (2 : Int32) then
      f_R_isWord_75 v1_1
    else
    if (a0 / (100 : Int32)) = (3 : Int32) then
      f_R_isWord_75 v1_1
    else
    if (a0 / (100 : Int32)) = (4 : Int32) then
      f_R_isWord_75 v1_1
    else
    if (a0 / (100 : Int32)) = (5 : Int32) then
      f_R_isWord_75 v1_1
    else
    if (a0 / (100 : Int32)) = (6 : Int32) then
      f_R_isWord_75 v1_1
    else
    if (a0 / (100 : Int32)) = (7 : Int32) then
      some (1 : Int32)
    else
    if (a0 / (100 : Int32)) = (8 : Int32) then
      some (1 : Int32)
    else
    some (0 : Int32)
  else
    some (0 : Int32)
def f_R_operation (R_words : Nat → Int32) (a1 : Int32) : Option (Int32) :=
  gd a1 24 <|
  some ((R_words a1.toNatClampNeg) / (100 : Int32))
def f_X_operandsOf (a0 : Int32) : Option (Int32) :=
  if a0 = (0 : Int32) then
    some (0 : Int32)
  else
  if a0 = (1 : Int32) then
    some (0 : Int32)
  else
  if a0 = (2 : Int32) then
    some (0 : Int32)
  else
  if a0 = (3 : Int32) then
    some (2 : Int32)
  else
  if a0 = (4 : Int32) then
    some (2 : Int32)
  else
  if a0 = (5 : Int32) then
    some (2 : Int32)
  else
  some (1 : Int32)
def f_R_fault_4 (R_words : Nat → Int32) (R_length : Int32) : Nat → Int32 → Int32 → Option (Int32)
  | 0, _, _ => none
  | fu + 1, v1, v2 =>
    if R_length ≤ v2 then
      if v1 = (1 : Int32) then
        some (0 : Int32)
      else
        some (5 : Int32)
    else
      gd v2 24 <|
      (f_R_isWord (R_words v2.toNatClampNeg)).bind fun r1 =>
      if r1 = 0 then
        some (3 : Int32)
      else
        (f_R_operation R_words v2).bind fun r2 =>
        (f_X_operandsOf r2).bind fun r3 =>
        if r3 ≤ v1 then
          nm (v1 + ((1 : Int32) - r3)) fun v1_4 =>
          f_R_fault_4 R_words R_length fu v1_4 (v2 + (1 : Int32))
        else
          some (4 : Int32)
def f_R_fault (R_words : Nat → Int32) (R_length : Int32) : Option (Int32) :=
  f_R_fault_4 R_words R_length zFU (0 : Int32) (0 : Int32)
def f_R_number (R_words : Nat → Int32) (a1 : Int32) : Option (Int32) :=
  gd a1 24 <|
  some (zrem (R_words a1.toNatClampNeg) (100 : Int32))
def f_X_topDigit_6  : Nat → Int32 → Int32 → Option (Int32)
  | 0, _, _ => none
  | fu + 1, v1, v2 =>
    if v2 ≤ 0 then
      some v1
    else
      nm (v2 >>> ((1 : Int32) &&& 31)) fun v2_1 =>
      f_X_topDigit_6 fu (v1 + (1 : Int32)) v2_1
def f_X_topDigit (a0 : Int32) : Option (Int32) :=
  nm (a0 >>> ((1 : Int32) &&& 31)) fun v2_2 =>
  f_X_topDigit_6 zFU (0 : Int32) v2_2
def f_JI_bitCount (a0 : Int32) : Option (Int32) :=
  nm (a0 - ((zushr a0 (1 : Int32)) &&& (1431655765 : Int32))) fun v0_1 =>
  nm ((v0_1 &&& (858993459 : Int32)) + ((zushr v0_1 (2 : Int32)) &&& (858993459 : Int32))) fun v0_2 =>
  nm ((v0_2 + (zushr v0_2 (4 : Int32))) &&& (252645135 : Int32)) fun v0_3 =>
  nm (v0_3 + (zushr v0_3 (8 : Int32))) fun v0_4 =>
  nm (v0_4 + (zushr v0_4 (16 : Int32))) fun v0_5 =>
  some (v0_5 &&& (63 : Int32))
def f_R_powerInstructions (a0 : Int32) : Option (Int32) :=
  if a0 = 0 then
    some (1 : Int32)
  else
    (f_X_topDigit a0).bind fun r1 =>
    (f_JI_bitCount a0).bind fun r2 =>
    some ((r1 + r2) - (1 : Int32))
def f_R_instructionsNeeded_4 (R_words : Nat → Int32) (R_length : Int32) : Nat → Int32 → Int32 → Option (Int32)
  | 0, _, _ => none
  | fu + 1, v1, v2 =>
    if R_length ≤ v2 then
      some v1
    else
      (f_R_operation R_words v2).bind fun r1 =>
      if r1 = (8 : Int32) then
        (f_R_number R_words v2).bind fun r3 =>
        (f_R_powerInstructions r3).bind fun r4 =>
        nm (v1 + r4) fun v1_5 =>
        f_R_instructionsNeeded_4 R_words R_length fu v1_5 (v2 + (1 : Int32))
      else
        nm (v1 + (1 : Int32)) fun v1_2 =>
        f_R_instructionsNeeded_4 R_words R_length fu v1_2 (v2 + (1 : Int32))
def f_R_instructionsNeeded (R_words : Nat → Int32) (R_length : Int32) : Option (Int32) :=
  f_R_instructionsNeeded_4 R_words R_length zFU (0 : Int32) (0 : Int32)
def f_C_clear (C_length : Int32) : Option (Int32) :=
  some (0 : Int32)
def f_R_length (R_length : Int32) : Option (Int32) :=
  some R_length
def f_C_packed (a0 a1 a2 : Int32) : Option (Int32) :=
  some ((((a0 * (100 : Int32)) + a1) * (100 : Int32)) + a2)
def f_C_append (C_instructions : Nat → Int32) (C_length a1 a2 a3 : Int32) : Option (Int32 × (Nat → Int32) × Int32) :=
  (f_C_packed a1 a2 a3).bind fun r1 =>
  gd C_length 40 <|
  some (((C_length + (1 : Int32)) - (1 : Int32)), (upd C_instructions C_length.toNatClampNeg r1), (C_length + (1 : Int32)))
def f_X_isDigitOne (a0 a1 : Int32) : Option (Int32) :=
  if ((a0 >>> (a1 &&& 31)) &&& (1 : Int32)) = (1 : Int32) then
    some (1 : Int32)
  else
    some (0 : Int32)
def f_P_powerOf_22 (a0 a1 : Int32) : Nat → Int32 → Int32 → (Nat → Int32) → Int32 → Option (Int32 × (Nat → Int32) × Int32)
  | 0, _, _, _, _ => none
  | fu + 1, v3, v4, C_instructions, C_length =>
    if v4 < 0 then
      some (v3, C_instructions, C_length)
    else
      (f_C_append C_instructions C_length (5 : Int32) v3 v3).bind fun r1 =>
      (f_X_isDigitOne a1 v4).bind fun r2 =>
      if r2 = 0 then
        f_P_powerOf_22 a0 a1 fu r1.1 (v4 + (-1 : Int32)) r1.2.1 r1.2.2
      else
        (f_C_append r1.2.1 r1.2.2 (5 : Int32) r1.1 a0).bind fun r3 =>
        f_P_powerOf_22 a0 a1 fu r3.1 (v4 + (-1 : Int32)) r3.2.1 r3.2.2
def f_P_powerOf (C_instructions : Nat → Int32) (C_length a0 a1 : Int32) : Option (Int32 × (Nat → Int32) × Int32) :=
  if a1 = 0 then
    (f_C_append C_instructions C_length (1 : Int32) (0 : Int32) (0 : Int32)).bind fun r6 =>
    some (r6.1, r6.2.1, r6.2.2)
  else
    (f_X_topDigit a1).bind fun r4 =>
    nm (r4 - (1 : Int32)) fun v4_5 =>
    f_P_powerOf_22 a0 a1 zFU a0 v4_5 C_instructions C_length
def f_P_instructionsFor_52 (a1 a2 : Int32) (C_instructions : Nat → Int32) (C_length : Int32) : Option (Int32 × (Nat → Int32) × Int32) :=
  (f_C_append C_instructions C_length a1 (0 : Int32) a2).bind fun r1 =>
  some (r1.1, r1.2.1, r1.2.2)
def f_P_instructionsFor_61 (P_registers : Nat → Int32) (a1 a3 : Int32) (C_instructions : Nat → Int32) (C_length : Int32) : Option (Int32 × (Nat → Int32) × Int32) :=
  gd a3 24 <|
  gd (a3 + (1 : Int32)) 24 <|
  (f_C_append C_instructions C_length a1 (P_registers a3.toNatClampNeg) (P_registers (a3 + (1 : Int32)).toNatClampNeg)).bind fun r2 =>
  some (r2.1, r2.2.1, r2.2.2)
def f_P_instructionsFor_95 (P_registers : Nat → Int32) (a1 a2 a3 : Int32) (C_instructions : Nat → Int32) (C_length : Int32) : Option (Int32 × (Nat → Int32) × Int32) :=
  gd a3 24 <|
  (f_C_append C_instructions C_length a1 (P_registers a3.toNatClampNeg) a2).bind fun r3 =>
  some (r3.1, r3.2.1, r3.2.2)
def f_P_instructionsFor (C_instructions : Nat → Int32) (C_length : Int32) (P_registers : Nat → Int32) (a1 a2 a3 : Int32) : Option (Int32 × (Nat → Int32) × Int32) :=
  if a1 = (0 : Int32) then
    f_P_instructionsFor_52 a1 a2 C_instructions C_length
  else
  if a1 = (1 : Int32) then
    f_P_instructionsFor_52 a1 a2 C_instructions C_length
  else
  if a1 = (2 : Int32) then
    f_P_instructionsFor_52 a1 a2 C_instructions C_length
  else
  if a1 = (3 : Int32) then
    f_P_instructionsFor_61 P_registers a1 a3 C_instructions C_length
  else
  if a1 = (4 : Int32) then
    f_P_instructionsFor_61 P_registers a1 a3 C_instructions C_length
  else
  if a1 = (5 : Int32) then
    f_P_instructionsFor_61 P_registers a1 a3 C_instructions C_length
  else
  if a1 = (6 : Int32) then
    f_P_instructionsFor_95 P_registers a1 a2 a3 C_instructions C_length
  else
  if a1 = (7 : Int32) then
    f_P_instructionsFor_95 P_registers a1 a2 a3 C_instructions C_length
  else
  if a1 = (8 : Int32) then
    gd a3 24 <|
    (f_P_powerOf C_instructions C_length (P_registers a3.toNatClampNeg) a2).bind fun r4 =>
    some (r4.1, r4.2.1, r4.2.2)
  else
  f_P_instructionsFor_95 P_registers a1 a2 a3 C_instructions C_length
def f_P_translate_9 (R_words : Nat → Int32) (R_length : Int32) : Nat → Int32 → Int32 → (Nat → Int32) → Int32 → (Nat → Int32) → Option ((Nat → Int32) × Int32 × (Nat → Int32))
  | 0, _, _, _, _, _ => none
  | fu + 1, v3, v4, C_instructions, C_length, P_registers =>
    (f_R_length R_length).bind fun r1 =>
    if r1 ≤ v4 then
      some (C_instructions, C_length, P_registers)
    else
      (f_R_operation R_words v4).bind fun r2 =>
      (f_X_operandsOf r2).bind fun r3 =>
      nm (v3 - r3) fun v3_4 =>
      (f_R_number R_words v4).bind fun r5 =>
      (f_P_instructionsFor C_instructions C_length P_registers r2 r5 v3_4).bind fun r6 =>
      gd v3_4 24 <|
      f_P_translate_9 R_words R_length fu (v3_4 + (1 : Int32)) (v4 + (1 : Int32)) r6.2.1 r6.2.2 (upd P_registers v3_4.toNatClampNeg r6.1)
def f_P_translate (R_words : Nat → Int32) (R_length : Int32) (C_instructions : Nat → Int32) (C_length : Int32) (P_registers : Nat → Int32) : Option ((Nat → Int32) × Int32 × (Nat → Int32)) :=
  (f_C_clear C_length).bind fun r7 =>
  f_P_translate_9 R_words R_length zFU (0 : Int32) (0 : Int32) C_instructions r7 P_registers
def f_X_compile (X_instructionsDone : Int32) (R_words : Nat → Int32) (R_length : Int32) (C_instructions : Nat → Int32) (C_length : Int32) (P_registers : Nat → Int32) : Option (Int32 × Int32 × (Nat → Int32) × Int32 × (Nat → Int32)) :=
  (f_R_fault R_words R_length).bind fun r1 =>
  if r1 = 0 then
    (f_R_instructionsNeeded R_words R_length).bind fun r2 =>
    if r2 ≤ (40 : Int32) then
      (f_P_translate R_words R_length C_instructions C_length P_registers).bind fun r3 =>
      (f_X_rewind X_instructionsDone).bind fun r4 =>
      some ((0 : Int32), r4, r3.1, r3.2.1, r3.2.2)
    else
      some ((6 : Int32), X_instructionsDone, C_instructions, C_length, P_registers)
  else
    some (r1, X_instructionsDone, C_instructions, C_length, P_registers)
def f_C_operation (C_instructions : Nat → Int32) (a1 : Int32) : Option (Int32) :=
  gd a1 40 <|
  some ((C_instructions a1.toNatClampNeg) / (10000 : Int32))
def f_C_first (C_instructions : Nat → Int32) (a1 : Int32) : Option (Int32) :=
  gd a1 40 <|
  some (zrem ((C_instructions a1.toNatClampNeg) / (100 : Int32)) (100 : Int32))
def f_C_second (C_instructions : Nat → Int32) (a1 : Int32) : Option (Int32) :=
  gd a1 40 <|
  some (zrem (C_instructions a1.toNatClampNeg) (100 : Int32))
def f_O_is (V_instructions : Nat → Int32) (a1 a2 : Int32) : Option (Int32) :=
  (f_C_operation V_instructions a2).bind fun r1 =>
  if r1 = a1 then
    some (1 : Int32)
  else
    some (0 : Int32)
def f_C_findOrAppend_11 (a1 a2 a3 : Int32) (v4 : Int32) (C_instructions : Nat → Int32) (C_length : Int32) : Nat → Int32 → Option (Int32 × (Nat → Int32) × Int32)
  | 0, _ => none
  | fu + 1, v5 =>
    if C_length ≤ v5 then
      (f_C_append C_instructions C_length a1 a2 a3).bind fun r1 =>
      some (r1.1, r1.2.1, r1.2.2)
    else
      gd v5 40 <|
      if (C_instructions v5.toNatClampNeg) = v4 then
        some (v5, C_instructions, C_length)
      else
        f_C_findOrAppend_11 a1 a2 a3 v4 C_instructions C_length fu (v5 + (1 : Int32))
def f_C_findOrAppend (C_instructions : Nat → Int32) (C_length a1 a2 a3 : Int32) : Option (Int32 × (Nat → Int32) × Int32) :=
  (f_C_packed a1 a2 a3).bind fun r2 =>
  f_C_findOrAppend_11 a1 a2 a3 r2 C_instructions C_length zFU (0 : Int32)
def f_O_sum (V_instructions : Nat → Int32) (V_length a1 a2 : Int32) : Option (Int32 × (Nat → Int32) × Int32) :=
  (f_O_is V_instructions (2 : Int32) a2).bind fun r1 =>
  if r1 = 0 then
    (f_O_is V_instructions (2 : Int32) a1).bind fun r2 =>
    if r2 = 0 then
      (f_C_findOrAppend V_instructions V_length (3 : Int32) (zmin a1 a2) (zmax a1 a2)).bind fun r3 =>
      some (r3.1, r3.2.1, r3.2.2)
    else
      some (a2, V_instructions, V_length)
  else
    some (a1, V_instructions, V_length)
def f_O_nought (V_instructions : Nat → Int32) (V_length : Int32) : Option (Int32 × (Nat → Int32) × Int32) :=
  (f_C_findOrAppend V_instructions V_length (2 : Int32) (0 : Int32) (0 : Int32)).bind fun r1 =>
  some (r1.1, r1.2.1, r1.2.2)
def f_O_difference (V_instructions : Nat → Int32) (V_length a1 a2 : Int32) : Option (Int32 × (Nat → Int32) × Int32) :=
  (f_O_is V_instructions (2 : Int32) a2).bind fun r1 =>
  if r1 = 0 then
    if a1 = a2 then
      (f_O_nought V_instructions V_length).bind fun r3 =>
      some (r3.1, r3.2.1, r3.2.2)
    else
      (f_C_findOrAppend V_instructions V_length (4 : Int32) a1 a2).bind fun r2 =>
      some (r2.1, r2.2.1, r2.2.2)
  else
    some (a1, V_instructions, V_length)
def f_O_product_18 (V_instructions : Nat → Int32) (V_length : Int32) : Option (Int32 × (Nat → Int32) × Int32) :=
  (f_O_nought V_instructions V_length).bind fun r1 =>
  some (r1.1, r1.2.1, r1.2.2)
def f_O_product (V_instructions : Nat → Int32) (V_length a1 a2 : Int32) : Option (Int32 × (Nat → Int32) × Int32) :=
  (f_O_is V_instructions (2 : Int32) a1).bind fun r2 =>
  if r2 = 0 then
    (f_O_is V_instructions (2 : Int32) a2).bind fun r3 =>
    if r3 = 0 then
      (f_O_is V_instructions (1 : Int32) a2).bind fun r4 =>
      if r4 = 0 then
        (f_O_is V_instructions (1 : Int32) a1).bind fun r5 =>
        if r5 = 0 then
          (f_C_findOrAppend V_instructions V_length (5 : Int32) a1 a2).bind fun r6 =>
          some (r6.1, r6.2.1, r6.2.2)
        else
          some (a2, V_instructions, V_length)
      else
        some (a1, V_instructions, V_length)
    else
      f_O_product_18 V_instructions V_length
  else
    f_O_product_18 V_instructions V_length
def f_O_turned (V_instructions : Nat → Int32) (V_length a1 : Int32) : Option (Int32 × (Nat → Int32) × Int32) :=
  (f_O_is V_instructions (1 : Int32) a1).bind fun r1 =>
  if r1 = 0 then
    (f_O_is V_instructions (2 : Int32) a1).bind fun r2 =>
    if r2 = 0 then
      (f_O_is V_instructions (6 : Int32) a1).bind fun r3 =>
      if r3 = 0 then
        (f_C_findOrAppend V_instructions V_length (6 : Int32) a1 (0 : Int32)).bind fun r4 =>
        some (r4.1, r4.2.1, r4.2.2)
      else
        (f_C_first V_instructions a1).bind fun r5 =>
        some (r5, V_instructions, V_length)
    else
      some (a1, V_instructions, V_length)
  else
    some (a1, V_instructions, V_length)
def f_O_scaled_66 (V_instructions : Nat → Int32) (V_length : Int32) : Option (Int32 × (Nat → Int32) × Int32) :=
  (f_O_nought V_instructions V_length).bind fun r1 =>
  some (r1.1, r1.2.1, r1.2.2)
def f_O_scaled_49 (v4 t0 : Int32) (V_instructions : Nat → Int32) (V_length : Int32) : Option (Int32 × (Nat → Int32) × Int32) :=
  if t0 = 0 then
    f_O_scaled_66 V_instructions V_length
  else
    (f_O_is V_instructions (2 : Int32) v4).bind fun r2 =>
    if r2 = 0 then
      if t0 = (1 : Int32) then
        some (v4, V_instructions, V_length)
      else
        (f_C_findOrAppend V_instructions V_length (7 : Int32) v4 t0).bind fun r3 =>
        some (r3.1, r3.2.1, r3.2.2)
    else
      f_O_scaled_66 V_instructions V_length
def f_O_scaled_24 (O_modulus a1 a2 : Int32) (v3 t0 : Int32) (V_instructions : Nat → Int32) (V_length : Int32) : Option (Int32 × (Nat → Int32) × Int32) :=
  if v3 = 0 then
    f_O_scaled_49 t0 a2 V_instructions V_length
  else
    (f_C_second V_instructions a1).bind fun r4 =>
    nz O_modulus <|
    f_O_scaled_49 t0 (zrem (r4 * a2) O_modulus) V_instructions V_length
def f_O_scaled (O_modulus : Int32) (V_instructions : Nat → Int32) (V_length a1 a2 : Int32) : Option (Int32 × (Nat → Int32) × Int32) :=
  (f_O_is V_instructions (7 : Int32) a1).bind fun r5 =>
  if r5 = 0 then
    f_O_scaled_24 O_modulus a1 a2 r5 a1 V_instructions V_length
  else
    (f_C_first V_instructions a1).bind fun r6 =>
    f_O_scaled_24 O_modulus a1 a2 r5 r6 V_instructions V_length
def f_O_value (O_modulus : Int32) (O_valueOf V_instructions : Nat → Int32) (V_length a1 a2 a3 : Int32) : Option (Int32 × (Nat → Int32) × Int32) :=
  if a1 = (3 : Int32) then
    gd a2 40 <|
    gd a3 40 <|
    (f_O_sum V_instructions V_length (O_valueOf a2.toNatClampNeg) (O_valueOf a3.toNatClampNeg)).bind fun r1 =>
    some (r1.1, r1.2.1, r1.2.2)
  else
  if a1 = (4 : Int32) then
    gd a2 40 <|
    gd a3 40 <|
    (f_O_difference V_instructions V_length (O_valueOf a2.toNatClampNeg) (O_valueOf a3.toNatClampNeg)).bind fun r2 =>
    some (r2.1, r2.2.1, r2.2.2)
  else
  if a1 = (5 : Int32) then
    gd a2 40 <|
    gd a3 40 <|
    (f_O_product V_instructions V_length (O_valueOf a2.toNatClampNeg) (O_valueOf a3.toNatClampNeg)).bind fun r3 =>
    some (r3.1, r3.2.1, r3.2.2)
  else
  if a1 = (6 : Int32) then
    gd a2 40 <|
    (f_O_turned V_instructions V_length (O_valueOf a2.toNatClampNeg)).bind fun r4 =>
    some (r4.1, r4.2.1, r4.2.2)
  else
  if a1 = (7 : Int32) then
    gd a2 40 <|
    nz O_modulus <|
    (f_O_scaled O_modulus V_instructions V_length (O_valueOf a2.toNatClampNeg) (zrem a3 O_modulus)).bind fun r5 =>
    some (r5.1, r5.2.1, r5.2.2)
  else
  (f_C_findOrAppend V_instructions V_length a1 a2 a3).bind fun r6 =>
  some (r6.1, r6.2.1, r6.2.2)
def f_C_result (C_length : Int32) : Option (Int32) :=
  some (C_length - (1 : Int32))
def f_O_markNeeded_84 (V_instructions : Nat → Int32) (k37 : Int32 → (Nat → Int32) → Option ((Nat → Int32))) (v2 v3 : Int32) (O_isNeeded : Nat → Int32) : Option ((Nat → Int32)) :=
  if v3 = (2 : Int32) then
    (f_C_second V_instructions v2).bind fun r1 =>
    gd r1 40 <|
    k37 (v2 + (-1 : Int32)) (upd O_isNeeded r1.toNatClampNeg (vp_nar .boolean (1 : Int32)))
  else
    k37 (v2 + (-1 : Int32)) O_isNeeded
def f_O_markNeeded_37 (V_instructions : Nat → Int32) : Nat → Int32 → (Nat → Int32) → Option ((Nat → Int32))
  | 0, _, _ => none
  | fu + 1, v2, O_isNeeded =>
    if v2 < 0 then
      some O_isNeeded
    else
      gd v2 40 <|
      if (O_isNeeded v2.toNatClampNeg) = 0 then
        f_O_markNeeded_37 V_instructions fu (v2 + (-1 : Int32)) O_isNeeded
      else
        (f_C_operation V_instructions v2).bind fun r2 =>
        (f_X_operandsOf r2).bind fun r3 =>
        if r3 < (1 : Int32) then
          f_O_markNeeded_84 V_instructions (f_O_markNeeded_37 V_instructions fu) v2 r3 O_isNeeded
        else
          (f_C_first V_instructions v2).bind fun r4 =>
          gd r4 40 <|
          f_O_markNeeded_84 V_instructions (f_O_markNeeded_37 V_instructions fu) v2 r3 (upd O_isNeeded r4.toNatClampNeg (vp_nar .boolean (1 : Int32)))
def f_O_markNeeded_28 (k2 : Int32 → (Nat → Int32) → Option ((Nat → Int32))) (v2 t0 t1 : Int32) (O_isNeeded : Nat → Int32) : Option ((Nat → Int32)) :=
  gd t1 40 <|
  k2 (v2 + (1 : Int32)) (upd O_isNeeded t1.toNatClampNeg (vp_nar .boolean t0))
def f_O_markNeeded_2 (V_instructions : Nat → Int32) (V_length a1 : Int32) : Nat → Int32 → (Nat → Int32) → Option ((Nat → Int32))
  | 0, _, _ => none
  | fu + 1, v2, O_isNeeded =>
    (f_C_length V_length).bind fun r5 =>
    if r5 ≤ v2 then
      f_O_markNeeded_37 V_instructions zFU a1 O_isNeeded
    else
      if v2 = a1 then
        f_O_markNeeded_28 (f_O_markNeeded_2 V_instructions V_length a1 fu) v2 (1 : Int32) v2 O_isNeeded
      else
        f_O_markNeeded_28 (f_O_markNeeded_2 V_instructions V_length a1 fu) v2 (0 : Int32) v2 O_isNeeded
def f_O_markNeeded (O_isNeeded V_instructions : Nat → Int32) (V_length a1 : Int32) : Option ((Nat → Int32)) :=
  f_O_markNeeded_2 V_instructions V_length a1 zFU (0 : Int32) O_isNeeded
def f_O_rewritten_70 (v3 v5 t0 : Int32) (C_instructions : Nat → Int32) (C_length : Int32) : Option (Int32 × (Nat → Int32) × Int32) :=
  (f_C_append C_instructions C_length v3 v5 t0).bind fun r1 =>
  some (r1.1, r1.2.1, r1.2.2)
def f_O_rewritten_38 (O_registerOf V_instructions : Nat → Int32) (a1 : Int32) (v3 v4 t0 : Int32) (C_instructions : Nat → Int32) (C_length : Int32) : Option (Int32 × (Nat → Int32) × Int32) :=
  if v4 = (2 : Int32) then
    (f_C_second V_instructions a1).bind fun r3 =>
    gd r3 40 <|
    f_O_rewritten_70 v3 t0 (O_registerOf r3.toNatClampNeg) C_instructions C_length
  else
    (f_C_second V_instructions a1).bind fun r2 =>
    f_O_rewritten_70 v3 t0 r2 C_instructions C_length
def f_O_rewritten (C_instructions : Nat → Int32) (C_length : Int32) (O_registerOf V_instructions : Nat → Int32) (a1 : Int32) : Option (Int32 × (Nat → Int32) × Int32) :=
  (f_C_operation V_instructions a1).bind fun r4 =>
  (f_X_operandsOf r4).bind fun r5 =>
  if r5 < (1 : Int32) then
    f_O_rewritten_38 O_registerOf V_instructions a1 r4 r5 (0 : Int32) C_instructions C_length
  else
    (f_C_first V_instructions a1).bind fun r6 =>
    gd r6 40 <|
    f_O_rewritten_38 O_registerOf V_instructions a1 r4 r5 (O_registerOf r6.toNatClampNeg) C_instructions C_length
def f_O_rewrite_6 (O_isNeeded V_instructions : Nat → Int32) (V_length : Int32) : Nat → Int32 → (Nat → Int32) → Int32 → (Nat → Int32) → Option ((Nat → Int32) × Int32 × (Nat → Int32))
  | 0, _, _, _, _ => none
  | fu + 1, v2, C_instructions, C_length, O_registerOf =>
    (f_C_length V_length).bind fun r1 =>
    if r1 ≤ v2 then
      some (C_instructions, C_length, O_registerOf)
    else
      gd v2 40 <|
      if (O_isNeeded v2.toNatClampNeg) = 0 then
        f_O_rewrite_6 O_isNeeded V_instructions V_length fu (v2 + (1 : Int32)) C_instructions C_length O_registerOf
      else
        (f_O_rewritten C_instructions C_length O_registerOf V_instructions v2).bind fun r2 =>
        gd v2 40 <|
        f_O_rewrite_6 O_isNeeded V_instructions V_length fu (v2 + (1 : Int32)) r2.2.1 r2.2.2 (upd O_registerOf v2.toNatClampNeg r2.1)
def f_O_rewrite (C_instructions : Nat → Int32) (C_length : Int32) (O_isNeeded O_registerOf V_instructions : Nat → Int32) (V_length : Int32) : Option ((Nat → Int32) × Int32 × (Nat → Int32)) :=
  (f_C_clear C_length).bind fun r3 =>
  f_O_rewrite_6 O_isNeeded V_instructions V_length zFU (0 : Int32) C_instructions r3 O_registerOf
def f_O_improve_9 (O_modulus : Int32) (C_instructions : Nat → Int32) (C_length : Int32) (O_isNeeded O_registerOf : Nat → Int32) : Nat → Int32 → (Nat → Int32) → (Nat → Int32) → Int32 → Option ((Nat → Int32) × Int32 × (Nat → Int32) × (Nat → Int32) × (Nat → Int32) × (Nat → Int32) × Int32)
  | 0, _, _, _, _ => none
  | fu + 1, v2, O_valueOf, V_instructions, V_length =>
    (f_C_length C_length).bind fun r1 =>
    if r1 ≤ v2 then
      (f_C_result C_length).bind fun r2 =>
      gd r2 40 <|
      (f_O_markNeeded O_isNeeded V_instructions V_length (O_valueOf r2.toNatClampNeg)).bind fun r3 =>
      (f_O_rewrite C_instructions C_length r3 O_registerOf V_instructions V_length).bind fun r4 =>
      some (r4.1, r4.2.1, O_valueOf, r3, r4.2.2, V_instructions, V_length)
    else
      (f_C_operation C_instructions v2).bind fun r5 =>
      (f_C_first C_instructions v2).bind fun r6 =>
      (f_C_second C_instructions v2).bind fun r7 =>
      (f_O_value O_modulus O_valueOf V_instructions V_length r5 r6 r7).bind fun r8 =>
      gd v2 40 <|
      f_O_improve_9 O_modulus C_instructions C_length O_isNeeded O_registerOf fu (v2 + (1 : Int32)) (upd O_valueOf v2.toNatClampNeg r8.1) r8.2.1 r8.2.2
def f_O_improve (C_instructions : Nat → Int32) (C_length O_modulus : Int32) (O_valueOf O_isNeeded O_registerOf V_instructions : Nat → Int32) (V_length : Int32) : Option ((Nat → Int32) × Int32 × (Nat → Int32) × (Nat → Int32) × (Nat → Int32) × (Nat → Int32) × Int32) :=
  (f_C_clear V_length).bind fun r9 =>
  f_O_improve_9 O_modulus C_instructions C_length O_isNeeded O_registerOf zFU (0 : Int32) O_valueOf V_instructions r9
def f_X_optimise (X_instructionsDone : Int32) (C_instructions : Nat → Int32) (C_length O_modulus : Int32) (O_valueOf O_isNeeded O_registerOf V_instructions : Nat → Int32) (V_length : Int32) : Option (Int32 × Int32 × (Nat → Int32) × Int32 × (Nat → Int32) × (Nat → Int32) × (Nat → Int32) × (Nat → Int32) × Int32) :=
  (f_X_hasCode C_length).bind fun r1 =>
  if r1 = 0 then
    some ((7 : Int32), X_instructionsDone, C_instructions, C_length, O_valueOf, O_isNeeded, O_registerOf, V_instructions, V_length)
  else
    (f_O_improve C_instructions C_length O_modulus O_valueOf O_isNeeded O_registerOf V_instructions V_length).bind fun r2 =>
    (f_X_rewind X_instructionsDone).bind fun r3 =>
    some ((0 : Int32), r3, r2.1, r2.2.1, r2.2.2.1, r2.2.2.2.1, r2.2.2.2.2.1, r2.2.2.2.2.2.1, r2.2.2.2.2.2.2)
def f_M_copy (M_nc : Nat) (M_size : Int32) (M_cells : Nat → Int32) (a1 a2 : Int32) : Option ((Nat → Int32)) :=
  cpg (a2 * M_size) (a1 * M_size) M_size M_nc M_nc <|
  some (va_cpy M_cells M_cells (a2 * M_size).toNatClampNeg (a1 * M_size).toNatClampNeg M_size.toNatClampNeg)
def f_M_makeNought_2 (M_nc : Nat) (M_size a1 : Int32) : Nat → Int32 → (Nat → Int32) → Option ((Nat → Int32))
  | 0, _, _ => none
  | fu + 1, v2, M_cells =>
    if M_size ≤ v2 then
      some M_cells
    else
      gd ((a1 * M_size) + v2) M_nc <|
      f_M_makeNought_2 M_nc M_size a1 fu (v2 + (1 : Int32)) (upd M_cells ((a1 * M_size) + v2).toNatClampNeg (0 : Int32))
def f_M_makeNought (M_nc : Nat) (M_size : Int32) (M_cells : Nat → Int32) (a1 : Int32) : Option ((Nat → Int32)) :=
  f_M_makeNought_2 M_nc M_size a1 zFU (0 : Int32) M_cells
def f_M_makeOne_7 (M_nc : Nat) (M_modulus M_side M_size a1 : Int32) : Nat → Int32 → (Nat → Int32) → Option ((Nat → Int32))
  | 0, _, _ => none
  | fu + 1, v2, M_cells =>
    if M_side ≤ v2 then
      some M_cells
    else
      (f_M_put M_nc M_modulus M_side M_size M_cells a1 v2 v2 (1 : Int32)).bind fun r1 =>
      f_M_makeOne_7 M_nc M_modulus M_side M_size a1 fu (v2 + (1 : Int32)) r1
def f_M_makeOne (M_nc : Nat) (M_modulus M_side M_size : Int32) (M_cells : Nat → Int32) (a1 : Int32) : Option ((Nat → Int32)) :=
  (f_M_makeNought M_nc M_size M_cells a1).bind fun r2 =>
  f_M_makeOne_7 M_nc M_modulus M_side M_size a1 zFU (0 : Int32) r2
def f_M_combine_3 (M_nc : Nat) (M_modulus M_size a1 a2 a3 a4 : Int32) : Nat → Int32 → (Nat → Int32) → Option ((Nat → Int32))
  | 0, _, _ => none
  | fu + 1, v5, M_cells =>
    if M_size ≤ v5 then
      some M_cells
    else
      gd ((a2 * M_size) + v5) M_nc <|
      gd ((a3 * M_size) + v5) M_nc <|
      nm ((M_cells ((a2 * M_size) + v5).toNatClampNeg) + (a4 * (M_cells ((a3 * M_size) + v5).toNatClampNeg))) fun v6_1 =>
      nz M_modulus <|
      gd ((a1 * M_size) + v5) M_nc <|
      f_M_combine_3 M_nc M_modulus M_size a1 a2 a3 a4 fu (v5 + (1 : Int32)) (upd M_cells ((a1 * M_size) + v5).toNatClampNeg (zrem v6_1 M_modulus))
def f_M_combine (M_nc : Nat) (M_modulus M_size : Int32) (M_cells : Nat → Int32) (a1 a2 a3 a4 : Int32) : Option ((Nat → Int32)) :=
  f_M_combine_3 M_nc M_modulus M_size a1 a2 a3 a4 zFU (0 : Int32) M_cells
def f_M_get (M_nc : Nat) (M_side M_size : Int32) (M_cells : Nat → Int32) (a1 a2 a3 : Int32) : Option (Int32) :=
  gd (((a1 * M_size) + (a2 * M_side)) + a3) M_nc <|
  some (M_cells (((a1 * M_size) + (a2 * M_side)) + a3).toNatClampNeg)
def f_M_keepFresh (M_nc M_nf : Nat) (M_size : Int32) (M_cells M_fresh : Nat → Int32) (a1 : Int32) : Option ((Nat → Int32)) :=
  cpg (0 : Int32) (a1 * M_size) M_size M_nf M_nc <|
  some (va_cpy M_fresh M_cells (0 : Int32).toNatClampNeg (a1 * M_size).toNatClampNeg M_size.toNatClampNeg)
def f_M_multiply_30 (M_nc M_nf : Nat) (M_modulus M_side M_size a2 a3 : Int32) (k15 : Int32 → (Nat → Int32) → Option ((Nat → Int32) × (Nat → Int32))) (v4 v5 : Int32) (M_cells M_fresh : Nat → Int32) : Nat → Int32 → Int32 → Option ((Nat → Int32) × (Nat → Int32))
  | 0, _, _ => none
  | fu + 1, v6, v7 =>
    if M_side ≤ v7 then
      nz M_modulus <|
      gd ((v4 * M_side) + v5) M_nf <|
      k15 (v5 + (1 : Int32)) (upd M_fresh ((v4 * M_side) + v5).toNatClampNeg (zrem v6 M_modulus))
    else
      (f_M_get M_nc M_side M_size M_cells a2 v4 v7).bind fun r1 =>
      (f_M_get M_nc M_side M_size M_cells a3 v7 v5).bind fun r2 =>
      nm (v6 + (r1 * r2)) fun v6_3 =>
      f_M_multiply_30 M_nc M_nf M_modulus M_side M_size a2 a3 k15 v4 v5 M_cells M_fresh fu v6_3 (v7 + (1 : Int32))
def f_M_multiply_15 (M_nc M_nf : Nat) (M_modulus M_side M_size a2 a3 : Int32) (k3 : Int32 → (Nat → Int32) → Option ((Nat → Int32) × (Nat → Int32))) (v4 : Int32) (M_cells : Nat → Int32) : Nat → Int32 → (Nat → Int32) → Option ((Nat → Int32) × (Nat → Int32))
  | 0, _, _ => none
  | fu + 1, v5, M_fresh =>
    if M_side ≤ v5 then
      k3 (v4 + (1 : Int32)) M_fresh
    else
      f_M_multiply_30 M_nc M_nf M_modulus M_side M_size a2 a3 (f_M_multiply_15 M_nc M_nf M_modulus M_side M_size a2 a3 k3 v4 M_cells fu) v4 v5 M_cells M_fresh zFU (0 : Int32) (0 : Int32)
def f_M_multiply_3 (M_nc M_nf : Nat) (M_modulus M_side M_size a1 a2 a3 : Int32) (M_cells : Nat → Int32) : Nat → Int32 → (Nat → Int32) → Option ((Nat → Int32) × (Nat → Int32))
  | 0, _, _ => none
  | fu + 1, v4, M_fresh =>
    if M_side ≤ v4 then
      (f_M_keepFresh M_nc M_nf M_size M_cells M_fresh a1).bind fun r4 =>
      some (r4, M_fresh)
    else
      f_M_multiply_15 M_nc M_nf M_modulus M_side M_size a2 a3 (f_M_multiply_3 M_nc M_nf M_modulus M_side M_size a1 a2 a3 M_cells fu) v4 M_cells zFU (0 : Int32) M_fresh
def f_M_multiply (M_nc M_nf : Nat) (M_modulus M_side M_size : Int32) (M_cells M_fresh : Nat → Int32) (a1 a2 a3 : Int32) : Option ((Nat → Int32) × (Nat → Int32)) :=
  f_M_multiply_3 M_nc M_nf M_modulus M_side M_size a1 a2 a3 M_cells zFU (0 : Int32) M_fresh
def f_M_turn_13 (M_nc M_nf : Nat) (M_side M_size a2 : Int32) (k2 : Int32 → (Nat → Int32) → Option ((Nat → Int32) × (Nat → Int32))) (v3 : Int32) (M_cells : Nat → Int32) : Nat → Int32 → (Nat → Int32) → Option ((Nat → Int32) × (Nat → Int32))
  | 0, _, _ => none
  | fu + 1, v4, M_fresh =>
    if M_side ≤ v4 then
      k2 (v3 + (1 : Int32)) M_fresh
    else
      (f_M_get M_nc M_side M_size M_cells a2 v4 v3).bind fun r1 =>
      gd ((v3 * M_side) + v4) M_nf <|
      f_M_turn_13 M_nc M_nf M_side M_size a2 k2 v3 M_cells fu (v4 + (1 : Int32)) (upd M_fresh ((v3 * M_side) + v4).toNatClampNeg r1)
def f_M_turn_2 (M_nc M_nf : Nat) (M_side M_size a1 a2 : Int32) (M_cells : Nat → Int32) : Nat → Int32 → (Nat → Int32) → Option ((Nat → Int32) × (Nat → Int32))
  | 0, _, _ => none
  | fu + 1, v3, M_fresh =>
    if M_side ≤ v3 then
      (f_M_keepFresh M_nc M_nf M_size M_cells M_fresh a1).bind fun r2 =>
      some (r2, M_fresh)
    else
      f_M_turn_13 M_nc M_nf M_side M_size a2 (f_M_turn_2 M_nc M_nf M_side M_size a1 a2 M_cells fu) v3 M_cells zFU (0 : Int32) M_fresh
def f_M_turn (M_nc M_nf : Nat) (M_side M_size : Int32) (M_cells M_fresh : Nat → Int32) (a1 a2 : Int32) : Option ((Nat → Int32) × (Nat → Int32)) :=
  f_M_turn_2 M_nc M_nf M_side M_size a1 a2 M_cells zFU (0 : Int32) M_fresh
def f_M_scale_3 (M_nc : Nat) (M_modulus M_size a1 a2 a3 : Int32) : Nat → Int32 → (Nat → Int32) → Option ((Nat → Int32))
  | 0, _, _ => none
  | fu + 1, v4, M_cells =>
    if M_size ≤ v4 then
      some M_cells
    else
      gd ((a2 * M_size) + v4) M_nc <|
      nz M_modulus <|
      gd ((a1 * M_size) + v4) M_nc <|
      f_M_scale_3 M_nc M_modulus M_size a1 a2 a3 fu (v4 + (1 : Int32)) (upd M_cells ((a1 * M_size) + v4).toNatClampNeg (zrem ((M_cells ((a2 * M_size) + v4).toNatClampNeg) * a3) M_modulus))
def f_M_scale (M_nc : Nat) (M_modulus M_size : Int32) (M_cells : Nat → Int32) (a1 a2 a3 : Int32) : Option ((Nat → Int32)) :=
  f_M_scale_3 M_nc M_modulus M_size a1 a2 a3 zFU (0 : Int32) M_cells
def f_M_apply (M_nc M_nf : Nat) (M_modulus M_side M_size : Int32) (M_cells M_fresh : Nat → Int32) (a1 a2 a3 a4 : Int32) : Option ((Nat → Int32) × (Nat → Int32)) :=
  if a1 = (0 : Int32) then
    (f_M_copy M_nc M_size M_cells a2 ((40 : Int32) + a4)).bind fun r1 =>
    some (r1, M_fresh)
  else
  if a1 = (1 : Int32) then
    (f_M_makeOne M_nc M_modulus M_side M_size M_cells a2).bind fun r2 =>
    some (r2, M_fresh)
  else
  if a1 = (2 : Int32) then
    (f_M_makeNought M_nc M_size M_cells a2).bind fun r3 =>
    some (r3, M_fresh)
  else
  if a1 = (3 : Int32) then
    (f_M_combine M_nc M_modulus M_size M_cells a2 a3 a4 (1 : Int32)).bind fun r4 =>
    some (r4, M_fresh)
  else
  if a1 = (4 : Int32) then
    (f_M_combine M_nc M_modulus M_size M_cells a2 a3 a4 (M_modulus - (1 : Int32))).bind fun r5 =>
    some (r5, M_fresh)
  else
  if a1 = (5 : Int32) then
    (f_M_multiply M_nc M_nf M_modulus M_side M_size M_cells M_fresh a2 a3 a4).bind fun r6 =>
    some (r6.1, r6.2)
  else
  if a1 = (6 : Int32) then
    (f_M_turn M_nc M_nf M_side M_size M_cells M_fresh a2 a3).bind fun r7 =>
    some (r7.1, r7.2)
  else
  (f_M_scale M_nc M_modulus M_size M_cells a2 a3 a4).bind fun r8 =>
  some (r8, M_fresh)
def f_X_isAllDone (X_instructionsDone C_length : Int32) : Option (Int32) :=
  (f_C_length C_length).bind fun r1 =>
  if X_instructionsDone = r1 then
    some (1 : Int32)
  else
    some (0 : Int32)
def f_X_run_33 (M_nc M_nf : Nat) (M_modulus M_side M_size : Int32) (C_instructions : Nat → Int32) (C_length : Int32) (v2 : Int32) : Nat → Int32 → Int32 → (Nat → Int32) → (Nat → Int32) → Option (Int32 × Int32 × (Nat → Int32) × (Nat → Int32))
  | 0, _, _, _, _ => none
  | fu + 1, v3, X_instructionsDone, M_cells, M_fresh =>
    if v2 ≤ v3 then
      (f_X_isAllDone X_instructionsDone C_length).bind fun r1 =>
      if r1 = 0 then
        some ((8 : Int32), X_instructionsDone, M_cells, M_fresh)
      else
        some ((0 : Int32), X_instructionsDone, M_cells, M_fresh)
    else
      (f_C_operation C_instructions X_instructionsDone).bind fun r2 =>
      (f_C_first C_instructions X_instructionsDone).bind fun r3 =>
      (f_C_second C_instructions X_instructionsDone).bind fun r4 =>
      (f_M_apply M_nc M_nf M_modulus M_side M_size M_cells M_fresh r2 X_instructionsDone r3 r4).bind fun r5 =>
      f_X_run_33 M_nc M_nf M_modulus M_side M_size C_instructions C_length v2 fu (v3 + (1 : Int32)) (X_instructionsDone + (1 : Int32)) r5.1 r5.2
def f_X_run (M_nc M_nf : Nat) (X_instructionsDone M_modulus M_side M_size : Int32) (M_cells M_fresh C_instructions : Nat → Int32) (C_length a1 : Int32) : Option (Int32 × Int32 × (Nat → Int32) × (Nat → Int32)) :=
  (f_X_hasCode C_length).bind fun r6 =>
  if r6 = 0 then
    some ((7 : Int32), X_instructionsDone, M_cells, M_fresh)
  else
    (f_C_length C_length).bind fun r7 =>
    nm (zmin (zmax a1 (0 : Int32)) (r7 - X_instructionsDone)) fun v2_8 =>
    f_X_run_33 M_nc M_nf M_modulus M_side M_size C_instructions C_length v2_8 zFU (0 : Int32) X_instructionsDone M_cells M_fresh
def f_M_raise_24 (M_nc M_nf : Nat) (M_modulus M_side M_size a1 a2 : Int32) : Nat → Int32 → (Nat → Int32) → (Nat → Int32) → Option ((Nat → Int32) × (Nat → Int32))
  | 0, _, _, _ => none
  | fu + 1, v3, M_cells, M_fresh =>
    if v3 < 0 then
      some (M_cells, M_fresh)
    else
      (f_M_multiply M_nc M_nf M_modulus M_side M_size M_cells M_fresh a1 a1 a1).bind fun r1 =>
      (f_X_isDigitOne a2 v3).bind fun r2 =>
      if r2 = 0 then
        f_M_raise_24 M_nc M_nf M_modulus M_side M_size a1 a2 fu (v3 + (-1 : Int32)) r1.1 r1.2
      else
        (f_M_multiply M_nc M_nf M_modulus M_side M_size r1.1 r1.2 a1 a1 (68 : Int32)).bind fun r3 =>
        f_M_raise_24 M_nc M_nf M_modulus M_side M_size a1 a2 fu (v3 + (-1 : Int32)) r3.1 r3.2
def f_M_raise (M_nc M_nf : Nat) (M_modulus M_side M_size : Int32) (M_cells M_fresh : Nat → Int32) (a1 a2 : Int32) : Option ((Nat → Int32) × (Nat → Int32)) :=
  if a2 = 0 then
    (f_M_makeOne M_nc M_modulus M_side M_size M_cells a1).bind fun r7 =>
    some (r7, M_fresh)
  else
    (f_M_copy M_nc M_size M_cells (68 : Int32) a1).bind fun r4 =>
    (f_X_topDigit a2).bind fun r5 =>
    nm (r5 - (1 : Int32)) fun v3_6 =>
    f_M_raise_24 M_nc M_nf M_modulus M_side M_size a1 a2 zFU v3_6 r4 M_fresh
def f_X_workOut_86 (M_nc M_nf : Nat) (M_modulus M_side M_size : Int32) (k5 : Int32 → Int32 → (Nat → Int32) → (Nat → Int32) → Option ((Nat → Int32) × (Nat → Int32))) (v1 v2 t0 t1 t2 t3 : Int32) (M_cells M_fresh : Nat → Int32) : Option ((Nat → Int32) × (Nat → Int32)) :=
  (f_M_apply M_nc M_nf M_modulus M_side M_size M_cells M_fresh t3 t2 t1 t0).bind fun r1 =>
  k5 (v1 + (1 : Int32)) (v2 + (1 : Int32)) r1.1 r1.2
def f_X_workOut_5 (M_nc M_nf : Nat) (M_modulus M_side M_size : Int32) (R_words : Nat → Int32) (R_length : Int32) : Nat → Int32 → Int32 → (Nat → Int32) → (Nat → Int32) → Option ((Nat → Int32) × (Nat → Int32))
  | 0, _, _, _, _ => none
  | fu + 1, v1, v2, M_cells, M_fresh =>
    (f_R_length R_length).bind fun r2 =>
    if r2 ≤ v2 then
      some (M_cells, M_fresh)
    else
      (f_R_operation R_words v2).bind fun r3 =>
      (f_R_number R_words v2).bind fun r4 =>
      (f_X_operandsOf r3).bind fun r5 =>
      nm (v1 - r5) fun v1_6 =>
      if r3 = (8 : Int32) then
        (f_M_raise M_nc M_nf M_modulus M_side M_size M_cells M_fresh v1_6 r4).bind fun r7 =>
        f_X_workOut_5 M_nc M_nf M_modulus M_side M_size R_words R_length fu (v1_6 + (1 : Int32)) (v2 + (1 : Int32)) r7.1 r7.2
      else
        if r5 = (2 : Int32) then
          f_X_workOut_86 M_nc M_nf M_modulus M_side M_size (f_X_workOut_5 M_nc M_nf M_modulus M_side M_size R_words R_length fu) v1_6 v2 (v1_6 + (1 : Int32)) v1_6 v1_6 r3 M_cells M_fresh
        else
          f_X_workOut_86 M_nc M_nf M_modulus M_side M_size (f_X_workOut_5 M_nc M_nf M_modulus M_side M_size R_words R_length fu) v1_6 v2 r4 v1_6 v1_6 r3 M_cells M_fresh
def f_X_workOut (M_nc M_nf : Nat) (M_modulus M_side M_size : Int32) (M_cells M_fresh R_words : Nat → Int32) (R_length : Int32) : Option ((Nat → Int32) × (Nat → Int32)) :=
  f_X_workOut_5 M_nc M_nf M_modulus M_side M_size R_words R_length zFU (44 : Int32) (0 : Int32) M_cells M_fresh
def f_X_evalDirect (M_nc M_nf : Nat) (X_isWorkedOut M_modulus M_side M_size : Int32) (M_cells M_fresh R_words : Nat → Int32) (R_length : Int32) : Option (Int32 × Int32 × (Nat → Int32) × (Nat → Int32)) :=
  (f_R_fault R_words R_length).bind fun r1 =>
  if r1 = 0 then
    (f_X_workOut M_nc M_nf M_modulus M_side M_size M_cells M_fresh R_words R_length).bind fun r2 =>
    (f_M_copy M_nc M_size r2.1 (69 : Int32) (44 : Int32)).bind fun r3 =>
    some ((0 : Int32), (1 : Int32), r3, r2.2)
  else
    some (r1, X_isWorkedOut, M_cells, M_fresh)
def f_X_out (M_nc : Nat) (X_instructionsDone M_side M_size : Int32) (M_cells : Nat → Int32) (C_length a1 a2 : Int32) : Option (Int32) :=
  (f_X_hasCode C_length).bind fun r1 =>
  if r1 = 0 then
    some (-1 : Int32)
  else
    (f_X_isAllDone X_instructionsDone C_length).bind fun r2 =>
    if r2 = 0 then
      some (-1 : Int32)
    else
      (f_M_hasCell M_side a1 a2).bind fun r3 =>
      if r3 = 0 then
        some (-1 : Int32)
      else
        (f_C_result C_length).bind fun r4 =>
        (f_M_get M_nc M_side M_size M_cells r4 a1 a2).bind fun r5 =>
        some r5
def f_X_outDirect (M_nc : Nat) (X_isWorkedOut M_side M_size : Int32) (M_cells : Nat → Int32) (a1 a2 : Int32) : Option (Int32) :=
  if X_isWorkedOut = 0 then
    some (-1 : Int32)
  else
    (f_M_hasCell M_side a1 a2).bind fun r1 =>
    if r1 = 0 then
      some (-1 : Int32)
    else
      (f_M_get M_nc M_side M_size M_cells (69 : Int32) a1 a2).bind fun r2 =>
      some r2
def f_C_instruction (C_instructions : Nat → Int32) (a1 : Int32) : Option (Int32) :=
  gd a1 40 <|
  some (C_instructions a1.toNatClampNeg)
def f_X_codeAt (C_instructions : Nat → Int32) (C_length a1 : Int32) : Option (Int32) :=
  if a1 < 0 then
    some (-1 : Int32)
  else
    (f_C_length C_length).bind fun r1 =>
    if r1 ≤ a1 then
      some (-1 : Int32)
    else
      (f_C_instruction C_instructions a1).bind fun r2 =>
      some r2
def f_X_codeSize (C_length : Int32) : Option (Int32) :=
  (f_X_hasCode C_length).bind fun r1 =>
  if r1 = 0 then
    some (-1 : Int32)
  else
    (f_C_length C_length).bind fun r2 =>
    some r2
def f_C_count_4 (C_instructions : Nat → Int32) (C_length a1 : Int32) : Nat → Int32 → Int32 → Option (Int32)
  | 0, _, _ => none
  | fu + 1, v2, v3 =>
    if C_length ≤ v3 then
      some v2
    else
      (f_C_operation C_instructions v3).bind fun r1 =>
      if r1 = a1 then
        f_C_count_4 C_instructions C_length a1 fu (v2 + (1 : Int32)) (v3 + (1 : Int32))
      else
        f_C_count_4 C_instructions C_length a1 fu v2 (v3 + (1 : Int32))
def f_C_count (C_instructions : Nat → Int32) (C_length a1 : Int32) : Option (Int32) :=
  f_C_count_4 C_instructions C_length a1 zFU (0 : Int32) (0 : Int32)
def f_X_products (C_instructions : Nat → Int32) (C_length : Int32) : Option (Int32) :=
  (f_X_hasCode C_length).bind fun r1 =>
  if r1 = 0 then
    some (-1 : Int32)
  else
    (f_C_count C_instructions C_length (5 : Int32)).bind fun r2 =>
    some r2
def f_R_clear (R_length : Int32) : Option (Int32) :=
  some (0 : Int32)
def f_X_reset_25 (M_nc : Nat) (M_size : Int32) (X_instructionsDone X_isWorkedOut R_length C_length : Int32) : Nat → Int32 → (Nat → Int32) → Option (Int32 × Int32 × (Nat → Int32) × Int32 × Int32)
  | 0, _, _ => none
  | fu + 1, v1, M_cells =>
    if (4 : Int32) ≤ v1 then
      some (X_instructionsDone, X_isWorkedOut, M_cells, R_length, C_length)
    else
      (f_M_makeNought M_nc M_size M_cells ((40 : Int32) + v1)).bind fun r1 =>
      f_X_reset_25 M_nc M_size X_instructionsDone X_isWorkedOut R_length C_length fu (v1 + (1 : Int32)) r1
def f_X_reset (M_nc : Nat) (X_instructionsDone X_isWorkedOut M_size : Int32) (M_cells : Nat → Int32) (R_length C_length : Int32) : Option (Int32 × Int32 × (Nat → Int32) × Int32 × Int32) :=
  (f_R_clear R_length).bind fun r2 =>
  (f_C_clear C_length).bind fun r3 =>
  (f_X_rewind X_instructionsDone).bind fun r4 =>
  f_X_reset_25 M_nc M_size r4 (0 : Int32) r2 r3 zFU (0 : Int32) M_cells
def f_N_in (a0 a1 a2 : Int32) : Option (Int32) :=
  if a0 < a1 then
    some (0 : Int32)
  else
    if a2 < a0 then
      some (0 : Int32)
    else
      some (1 : Int32)
def f_N_isPlace (N_n a1 a2 : Int32) : Option (Int32) :=
  (f_N_in a1 (0 : Int32) (N_n - (1 : Int32))).bind fun r1 =>
  if r1 = 0 then
    some (0 : Int32)
  else
    (f_N_in a2 (0 : Int32) (N_n - (1 : Int32))).bind fun r2 =>
    if r2 = 0 then
      some (0 : Int32)
    else
      some (1 : Int32)
def f_N_get (N_table : Nat → Int32) (a1 a2 a3 : Int32) : Option (Int32) :=
  gd ((((16 : Int32) * a1) + ((4 : Int32) * a2)) + a3) 1136 <|
  some (N_table ((((16 : Int32) * a1) + ((4 : Int32) * a2)) + a3).toNatClampNeg)
def f_N_put (N_table : Nat → Int32) (a1 a2 a3 a4 : Int32) : Option ((Nat → Int32)) :=
  gd ((((16 : Int32) * a1) + ((4 : Int32) * a2)) + a3) 1136 <|
  some (upd N_table ((((16 : Int32) * a1) + ((4 : Int32) * a2)) + a3).toNatClampNeg a4)
def f_N_mod (N_p a1 : Int32) : Option (Int32) :=
  nz N_p <|
  nm (zrem a1 N_p) fun v2_1 =>
  if 0 ≤ v2_1 then
    some v2_1
  else
    some (v2_1 + N_p)
def f_N_copy_2 (a1 a2 : Int32) : Nat → Int32 → (Nat → Int32) → Option ((Nat → Int32))
  | 0, _, _ => none
  | fu + 1, v3, N_table =>
    if (16 : Int32) ≤ v3 then
      some N_table
    else
      gd (((16 : Int32) * a1) + v3) 1136 <|
      gd (((16 : Int32) * a2) + v3) 1136 <|
      f_N_copy_2 a1 a2 fu (v3 + (1 : Int32)) (upd N_table (((16 : Int32) * a2) + v3).toNatClampNeg (N_table (((16 : Int32) * a1) + v3).toNatClampNeg))
def f_N_copy (N_table : Nat → Int32) (a1 a2 : Int32) : Option ((Nat → Int32)) :=
  f_N_copy_2 a1 a2 zFU (0 : Int32) N_table
def f_N_operate_198 (N_p : Int32) (k15 : Int32 → (Nat → Int32) → Option ((Nat → Int32))) (v6 v7 v8 : Int32) (N_table : Nat → Int32) : Option ((Nat → Int32)) :=
  (f_N_mod N_p v8).bind fun r1 =>
  (f_N_put N_table (29 : Int32) v6 v7 r1).bind fun r2 =>
  k15 (v7 + (1 : Int32)) r2
def f_N_operate_154 (N_p N_n a1 a2 a3 : Int32) (k15 : Int32 → (Nat → Int32) → Option ((Nat → Int32))) (v6 v7 : Int32) (N_table : Nat → Int32) : Nat → Int32 → Int32 → Option ((Nat → Int32))
  | 0, _, _ => none
  | fu + 1, v8, v9 =>
    if N_n ≤ v9 then
      f_N_operate_198 N_p k15 v6 v7 v8 N_table
    else
      if a1 = (5 : Int32) then
        (f_N_get N_table a2 v6 v9).bind fun r3 =>
        (f_N_get N_table a3 v9 v7).bind fun r4 =>
        nm (v8 + (r3 * r4)) fun v8_5 =>
        f_N_operate_154 N_p N_n a1 a2 a3 k15 v6 v7 N_table fu v8_5 (v9 + (1 : Int32))
      else
        f_N_operate_198 N_p k15 v6 v7 v8 N_table
def f_N_operate_151 (N_p N_n a1 a2 a3 : Int32) (k15 : Int32 → (Nat → Int32) → Option ((Nat → Int32))) (v6 v7 v8 : Int32) (N_table : Nat → Int32) : Option ((Nat → Int32)) :=
  f_N_operate_154 N_p N_n a1 a2 a3 k15 v6 v7 N_table zFU v8 (0 : Int32)
def f_N_operate_131 (N_p N_n a1 a2 a3 a4 : Int32) (k15 : Int32 → (Nat → Int32) → Option ((Nat → Int32))) (v6 v7 v8 : Int32) (N_table : Nat → Int32) : Option ((Nat → Int32)) :=
  if a1 = (7 : Int32) then
    (f_N_get N_table a2 v6 v7).bind fun r6 =>
    nm (a4 * r6) fun v8_7 =>
    f_N_operate_151 N_p N_n a1 a2 a3 k15 v6 v7 v8_7 N_table
  else
    f_N_operate_151 N_p N_n a1 a2 a3 k15 v6 v7 v8 N_table
def f_N_operate_114 (N_p N_n a1 a2 a3 a4 : Int32) (k15 : Int32 → (Nat → Int32) → Option ((Nat → Int32))) (v6 v7 v8 : Int32) (N_table : Nat → Int32) : Option ((Nat → Int32)) :=
  if a1 = (6 : Int32) then
    (f_N_get N_table a2 v7 v6).bind fun r8 =>
    f_N_operate_131 N_p N_n a1 a2 a3 a4 k15 v6 v7 r8 N_table
  else
    f_N_operate_131 N_p N_n a1 a2 a3 a4 k15 v6 v7 v8 N_table
def f_N_operate_88 (N_p N_n a1 a2 a3 a4 : Int32) (k15 : Int32 → (Nat → Int32) → Option ((Nat → Int32))) (v6 v7 v8 : Int32) (N_table : Nat → Int32) : Option ((Nat → Int32)) :=
  if a1 = (4 : Int32) then
    (f_N_get N_table a2 v6 v7).bind fun r9 =>
    (f_N_get N_table a3 v6 v7).bind fun r10 =>
    nm (r9 - r10) fun v8_11 =>
    f_N_operate_114 N_p N_n a1 a2 a3 a4 k15 v6 v7 v8_11 N_table
  else
    f_N_operate_114 N_p N_n a1 a2 a3 a4 k15 v6 v7 v8 N_table
def f_N_operate_62 (N_p N_n a1 a2 a3 a4 : Int32) (k15 : Int32 → (Nat → Int32) → Option ((Nat → Int32))) (v6 v7 v8 : Int32) (N_table : Nat → Int32) : Option ((Nat → Int32)) :=
  if a1 = (3 : Int32) then
    (f_N_get N_table a2 v6 v7).bind fun r12 =>
    (f_N_get N_table a3 v6 v7).bind fun r13 =>
    nm (r12 + r13) fun v8_14 =>
    f_N_operate_88 N_p N_n a1 a2 a3 a4 k15 v6 v7 v8_14 N_table
  else
    f_N_operate_88 N_p N_n a1 a2 a3 a4 k15 v6 v7 v8 N_table
def f_N_operate_60 (N_p N_n a1 a2 a3 a4 : Int32) (k15 : Int32 → (Nat → Int32) → Option ((Nat → Int32))) (v6 v7 t0 : Int32) (N_table : Nat → Int32) : Option ((Nat → Int32)) :=
  f_N_operate_62 N_p N_n a1 a2 a3 a4 k15 v6 v7 t0 N_table
def f_N_operate_43 (N_p N_n a1 a2 a3 a4 : Int32) (k15 : Int32 → (Nat → Int32) → Option ((Nat → Int32))) (v6 v7 v8 : Int32) (N_table : Nat → Int32) : Option ((Nat → Int32)) :=
  if a1 = (1 : Int32) then
    if v6 = v7 then
      f_N_operate_60 N_p N_n a1 a2 a3 a4 k15 v6 v7 (1 : Int32) N_table
    else
      f_N_operate_60 N_p N_n a1 a2 a3 a4 k15 v6 v7 (0 : Int32) N_table
  else
    f_N_operate_62 N_p N_n a1 a2 a3 a4 k15 v6 v7 v8 N_table
def f_N_operate_15 (N_p N_n a1 a2 a3 a4 : Int32) (k3 : Int32 → (Nat → Int32) → Option ((Nat → Int32))) (v6 : Int32) : Nat → Int32 → (Nat → Int32) → Option ((Nat → Int32))
  | 0, _, _ => none
  | fu + 1, v7, N_table =>
    if N_n ≤ v7 then
      k3 (v6 + (1 : Int32)) N_table
    else
      if a1 = 0 then
        (f_N_get N_table a4 v6 v7).bind fun r15 =>
        f_N_operate_43 N_p N_n a1 a2 a3 a4 (f_N_operate_15 N_p N_n a1 a2 a3 a4 k3 v6 fu) v6 v7 r15 N_table
      else
        f_N_operate_43 N_p N_n a1 a2 a3 a4 (f_N_operate_15 N_p N_n a1 a2 a3 a4 k3 v6 fu) v6 v7 (0 : Int32) N_table
def f_N_operate_3 (N_p N_n a1 a2 a3 a4 a5 : Int32) : Nat → Int32 → (Nat → Int32) → Option ((Nat → Int32))
  | 0, _, _ => none
  | fu + 1, v6, N_table =>
    if N_n ≤ v6 then
      (f_N_copy N_table (29 : Int32) a5).bind fun r16 =>
      some r16
    else
      f_N_operate_15 N_p N_n a1 a2 a3 a4 (f_N_operate_3 N_p N_n a1 a2 a3 a4 a5 fu) v6 zFU (0 : Int32) N_table
def f_N_operate (N_p N_n : Int32) (N_table : Nat → Int32) (a1 a2 a3 a4 a5 : Int32) : Option ((Nat → Int32)) :=
  f_N_operate_3 N_p N_n a1 a2 a3 a4 a5 zFU (0 : Int32) N_table
def f_N_raise_39 (N_p N_n : Int32) (k18 : Int32 → (Nat → Int32) → Option ((Nat → Int32))) (v3 : Int32) (N_table : Nat → Int32) : Option ((Nat → Int32)) :=
  (f_N_operate N_p N_n N_table (5 : Int32) (30 : Int32) (30 : Int32) (0 : Int32) (30 : Int32)).bind fun r1 =>
  nm (v3 / (2 : Int32)) fun v3_2 =>
  k18 v3_2 r1
def f_N_raise_18 (N_p N_n a1 : Int32) : Nat → Int32 → (Nat → Int32) → Option ((Nat → Int32))
  | 0, _, _ => none
  | fu + 1, v3, N_table =>
    if v3 ≤ 0 then
      some N_table
    else
      if (zrem v3 (2 : Int32)) = (1 : Int32) then
        (f_N_operate N_p N_n N_table (5 : Int32) a1 (30 : Int32) (0 : Int32) a1).bind fun r3 =>
        f_N_raise_39 N_p N_n (f_N_raise_18 N_p N_n a1 fu) v3 r3
      else
        f_N_raise_39 N_p N_n (f_N_raise_18 N_p N_n a1 fu) v3 N_table
def f_N_raise (N_p N_n : Int32) (N_table : Nat → Int32) (a1 a2 : Int32) : Option ((Nat → Int32)) :=
  (f_N_copy N_table a1 (30 : Int32)).bind fun r4 =>
  (f_N_operate N_p N_n r4 (1 : Int32) (0 : Int32) (0 : Int32) (0 : Int32) a1).bind fun r5 =>
  f_N_raise_18 N_p N_n a1 zFU a2 r5
def f_N_feed (N_words : Int32) (N_word : Nat → Int32) (N_compiled a1 : Int32) : Option (Int32 × Int32 × (Nat → Int32)) :=
  if (24 : Int32) ≤ N_words then
    some ((1 : Int32), N_words, N_word)
  else
    if N_compiled = 0 then
      gd N_words 24 <|
      some ((0 : Int32), (N_words + (1 : Int32)), (upd N_word N_words.toNatClampNeg a1))
    else
      some ((1 : Int32), N_words, N_word)
def f_N_setInput (N_p N_n : Int32) (N_table : Nat → Int32) (N_done a1 a2 a3 a4 : Int32) : Option (Int32 × (Nat → Int32) × Int32) :=
  (f_N_in a1 (0 : Int32) (3 : Int32)).bind fun r1 =>
  if r1 = 0 then
    some ((2 : Int32), N_table, N_done)
  else
    (f_N_isPlace N_n a2 a3).bind fun r2 =>
    if r2 = 0 then
      some ((2 : Int32), N_table, N_done)
    else
      (f_N_mod N_p a4).bind fun r3 =>
      (f_N_put N_table a1 a2 a3 r3).bind fun r4 =>
      some ((0 : Int32), r4, (0 : Int32))
def f_N_isTwo (a0 : Int32) : Option (Int32) :=
  (f_N_in a0 (3 : Int32) (5 : Int32)).bind fun r1 =>
  bz r1 <|
  some r1
def f_N_isOne (a0 : Int32) : Option (Int32) :=
  (f_N_in a0 (6 : Int32) (8 : Int32)).bind fun r1 =>
  bz r1 <|
  some r1
def f_N_isWord (a0 : Int32) : Option (Int32) :=
  nm (a0 / (100 : Int32)) fun v1_1 =>
  nm (zrem a0 (100 : Int32)) fun v2_2 =>
  (f_N_in a0 (0 : Int32) (899 : Int32)).bind fun r3 =>
  if r3 = 0 then
    some (0 : Int32)
  else
    if v1_1 = (7 : Int32) then
      some (1 : Int32)
    else
      if v1_1 = (8 : Int32) then
        some (1 : Int32)
      else
        if v1_1 = 0 then
          if (4 : Int32) ≤ v2_2 then
            some (0 : Int32)
          else
            some (1 : Int32)
        else
          if v2_2 = 0 then
            some (1 : Int32)
          else
            some (0 : Int32)
def f_N_fault_59 (k4 : Int32 → Int32 → Option (Int32)) (v1 v2 t0 : Int32) : Option (Int32) :=
  if t0 ≤ v1 then
    nm ((v1 - t0) + (1 : Int32)) fun v1_1 =>
    k4 v1_1 (v2 + (1 : Int32))
  else
    some (4 : Int32)
def f_N_fault_4 (N_words : Int32) (N_word : Nat → Int32) : Nat → Int32 → Int32 → Option (Int32)
  | 0, _, _ => none
  | fu + 1, v1, v2 =>
    if N_words ≤ v2 then
      if v1 = (1 : Int32) then
        some (0 : Int32)
      else
        some (5 : Int32)
    else
      gd v2 24 <|
      (f_N_isWord (N_word v2.toNatClampNeg)).bind fun r2 =>
      if r2 = 0 then
        some (3 : Int32)
      else
        gd v2 24 <|
        nm ((N_word v2.toNatClampNeg) / (100 : Int32)) fun v3_3 =>
        (f_N_isTwo v3_3).bind fun r4 =>
        if r4 = 0 then
          (f_N_isOne v3_3).bind fun r5 =>
          if r5 = 0 then
            f_N_fault_59 (f_N_fault_4 N_words N_word fu) v1 v2 (0 : Int32)
          else
            f_N_fault_59 (f_N_fault_4 N_words N_word fu) v1 v2 (1 : Int32)
        else
          f_N_fault_59 (f_N_fault_4 N_words N_word fu) v1 v2 (2 : Int32)
def f_N_fault (N_words : Int32) (N_word : Nat → Int32) : Option (Int32) :=
  f_N_fault_4 N_words N_word zFU (0 : Int32) (0 : Int32)
def f_N_evalDirect_122 (N_table : Nat → Int32) (N_hasDirect : Int32) : Nat → Int32 → (Nat → Int32) → Option (Int32 × (Nat → Int32) × (Nat → Int32) × Int32)
  | 0, _, _ => none
  | fu + 1, v3, N_direct =>
    if (16 : Int32) ≤ v3 then
      some ((0 : Int32), N_table, N_direct, (1 : Int32))
    else
      gd ((64 : Int32) + v3) 1136 <|
      gd v3 16 <|
      f_N_evalDirect_122 N_table N_hasDirect fu (v3 + (1 : Int32)) (upd N_direct v3.toNatClampNeg (N_table ((64 : Int32) + v3).toNatClampNeg))
def f_N_evalDirect_110 (k15 : Int32 → Int32 → (Nat → Int32) → Option (Int32 × (Nat → Int32) × (Nat → Int32) × Int32)) (v2 v3 : Int32) (N_table N_direct : Nat → Int32) (N_hasDirect : Int32) : Option (Int32 × (Nat → Int32) × (Nat → Int32) × Int32) :=
  nm (v2 + (1 : Int32)) fun v2_1 =>
  k15 v2_1 (v3 + (1 : Int32)) N_table
def f_N_evalDirect_59 (N_p N_n : Int32) (N_word : Nat → Int32) (k15 : Int32 → Int32 → (Nat → Int32) → Option (Int32 × (Nat → Int32) × (Nat → Int32) × Int32)) (v2 v3 v4 t0 : Int32) (N_table N_direct : Nat → Int32) (N_hasDirect : Int32) : Option (Int32 × (Nat → Int32) × (Nat → Int32) × Int32) :=
  nm (v2 - t0) fun v2_2 =>
  if v4 = (8 : Int32) then
    gd v3 24 <|
    (f_N_raise N_p N_n N_table v2_2 (zrem (N_word v3.toNatClampNeg) (100 : Int32))).bind fun r4 =>
    f_N_evalDirect_110 k15 v2_2 v3 r4 N_direct N_hasDirect
  else
    gd v3 24 <|
    (f_N_operate N_p N_n N_table v4 v2_2 (v2_2 + (1 : Int32)) (zrem (N_word v3.toNatClampNeg) (100 : Int32)) v2_2).bind fun r3 =>
    f_N_evalDirect_110 k15 v2_2 v3 r3 N_direct N_hasDirect
def f_N_evalDirect_15 (N_p N_n N_words : Int32) (N_word : Nat → Int32) (N_direct : Nat → Int32) (N_hasDirect : Int32) : Nat → Int32 → Int32 → (Nat → Int32) → Option (Int32 × (Nat → Int32) × (Nat → Int32) × Int32)
  | 0, _, _, _ => none
  | fu + 1, v2, v3, N_table =>
    if N_words ≤ v3 then
      f_N_evalDirect_122 N_table N_hasDirect zFU (0 : Int32) N_direct
    else
      gd v3 24 <|
      nm ((N_word v3.toNatClampNeg) / (100 : Int32)) fun v4_5 =>
      (f_N_isTwo v4_5).bind fun r6 =>
      if r6 = 0 then
        (f_N_isOne v4_5).bind fun r7 =>
        if r7 = 0 then
          f_N_evalDirect_59 N_p N_n N_word (f_N_evalDirect_15 N_p N_n N_words N_word N_direct N_hasDirect fu) v2 v3 v4_5 (0 : Int32) N_table N_direct N_hasDirect
        else
          f_N_evalDirect_59 N_p N_n N_word (f_N_evalDirect_15 N_p N_n N_words N_word N_direct N_hasDirect fu) v2 v3 v4_5 (1 : Int32) N_table N_direct N_hasDirect
      else
        f_N_evalDirect_59 N_p N_n N_word (f_N_evalDirect_15 N_p N_n N_words N_word N_direct N_hasDirect fu) v2 v3 v4_5 (2 : Int32) N_table N_direct N_hasDirect
def f_N_evalDirect (N_p N_n N_words : Int32) (N_word N_table N_direct : Nat → Int32) (N_hasDirect : Int32) : Option (Int32 × (Nat → Int32) × (Nat → Int32) × Int32) :=
  (f_N_fault N_words N_word).bind fun r8 =>
  if r8 ≤ 0 then
    f_N_evalDirect_15 N_p N_n N_words N_word N_direct N_hasDirect zFU (4 : Int32) (0 : Int32) N_table
  else
    some (r8, N_table, N_direct, N_hasDirect)
def f_N_write (N_size : Int32) (N_op N_a N_b N_x : Nat → Int32) (a1 a2 a3 a4 : Int32) : Option (Int32 × Int32 × (Nat → Int32) × (Nat → Int32) × (Nat → Int32) × (Nat → Int32)) :=
  gd N_size 48 <|
  gd N_size 48 <|
  gd N_size 48 <|
  gd N_size 48 <|
  some (((N_size + (1 : Int32)) - (1 : Int32)), (N_size + (1 : Int32)), (upd N_op N_size.toNatClampNeg a1), (upd N_a N_size.toNatClampNeg a2), (upd N_b N_size.toNatClampNeg a3), (upd N_x N_size.toNatClampNeg a4))
def f_N_highest_2 (a0 : Int32) : Nat → Int32 → Option (Int32)
  | 0, _ => none
  | fu + 1, v1 =>
    if a0 < ((2 : Int32) * v1) then
      some v1
    else
      nm ((2 : Int32) * v1) fun v1_1 =>
      f_N_highest_2 a0 fu v1_1
def f_N_highest (a0 : Int32) : Option (Int32) :=
  f_N_highest_2 a0 zFU (1 : Int32)
def f_N_steps_45 (k29 : Int32 → Int32 → Option (Int32)) (v1 v3 t0 t1 : Int32) : Option (Int32) :=
  nm (t1 + t0) fun v2_1 =>
  nm (v3 / (2 : Int32)) fun v3_2 =>
  k29 v2_1 v3_2
def f_N_steps_29 (v1 : Int32) : Nat → Int32 → Int32 → Option (Int32)
  | 0, _, _ => none
  | fu + 1, v2, v3 =>
    if v3 ≤ 0 then
      some v2
    else
      if (v1 &&& v3) = 0 then
        f_N_steps_45 (f_N_steps_29 v1 fu) v1 v3 (1 : Int32) v2
      else
        f_N_steps_45 (f_N_steps_29 v1 fu) v1 v3 (2 : Int32) v2
def f_N_steps (a0 : Int32) : Option (Int32) :=
  nm (zrem a0 (100 : Int32)) fun v1_3 =>
  if (a0 / (100 : Int32)) = (8 : Int32) then
    if v1_3 = 0 then
      some (1 : Int32)
    else
      (f_N_highest v1_3).bind fun r4 =>
      nm (r4 / (2 : Int32)) fun v3_5 =>
      f_N_steps_29 v1_3 zFU (0 : Int32) v3_5
  else
    some (1 : Int32)
def f_N_writePower_23 (a1 a2 : Int32) : Nat → Int32 → Int32 → Int32 → (Nat → Int32) → (Nat → Int32) → (Nat → Int32) → (Nat → Int32) → Option (Int32 × Int32 × (Nat → Int32) × (Nat → Int32) × (Nat → Int32) × (Nat → Int32))
  | 0, _, _, _, _, _, _, _ => none
  | fu + 1, v3, v4, N_size, N_op, N_a, N_b, N_x =>
    if v4 ≤ 0 then
      some (v3, N_size, N_op, N_a, N_b, N_x)
    else
      (f_N_write N_size N_op N_a N_b N_x (5 : Int32) v3 v3 (0 : Int32)).bind fun r1 =>
      if (a2 &&& v4) = 0 then
        nm (v4 / (2 : Int32)) fun v4_2 =>
        f_N_writePower_23 a1 a2 fu r1.1 v4_2 r1.2.1 r1.2.2.1 r1.2.2.2.1 r1.2.2.2.2.1 r1.2.2.2.2.2
      else
        (f_N_write r1.2.1 r1.2.2.1 r1.2.2.2.1 r1.2.2.2.2.1 r1.2.2.2.2.2 (5 : Int32) r1.1 a1 (0 : Int32)).bind fun r3 =>
        nm (v4 / (2 : Int32)) fun v4_4 =>
        f_N_writePower_23 a1 a2 fu r3.1 v4_4 r3.2.1 r3.2.2.1 r3.2.2.2.1 r3.2.2.2.2.1 r3.2.2.2.2.2
def f_N_writePower (N_size : Int32) (N_op N_a N_b N_x : Nat → Int32) (a1 a2 : Int32) : Option (Int32 × Int32 × (Nat → Int32) × (Nat → Int32) × (Nat → Int32) × (Nat → Int32)) :=
  if a2 = 0 then
    (f_N_write N_size N_op N_a N_b N_x (1 : Int32) (0 : Int32) (0 : Int32) (0 : Int32)).bind fun r7 =>
    some (r7.1, r7.2.1, r7.2.2.1, r7.2.2.2.1, r7.2.2.2.2.1, r7.2.2.2.2.2)
  else
    (f_N_highest a2).bind fun r5 =>
    nm (r5 / (2 : Int32)) fun v4_6 =>
    f_N_writePower_23 a1 a2 zFU a1 v4_6 N_size N_op N_a N_b N_x
def f_N_compile_49 (v1 N_compiled N_size : Int32) (N_op N_a N_b N_x : Nat → Int32) (N_outcome N_done : Int32) (N_there : Nat → Int32) : Option (Int32 × Int32 × Int32 × (Nat → Int32) × (Nat → Int32) × (Nat → Int32) × (Nat → Int32) × Int32 × Int32 × (Nat → Int32)) :=
  if v1 ≤ 0 then
    some ((6 : Int32), N_compiled, N_size, N_op, N_a, N_b, N_x, N_outcome, N_done, N_there)
  else
    some (v1, N_compiled, N_size, N_op, N_a, N_b, N_x, N_outcome, N_done, N_there)
def f_N_compile_226 (k70 : Int32 → Int32 → Int32 → (Nat → Int32) → (Nat → Int32) → (Nat → Int32) → (Nat → Int32) → (Nat → Int32) → Option (Int32 × Int32 × Int32 × (Nat → Int32) × (Nat → Int32) × (Nat → Int32) × (Nat → Int32) × Int32 × Int32 × (Nat → Int32))) (v3 v4 t0 t1 N_compiled N_size : Int32) (N_op N_a N_b N_x : Nat → Int32) (N_outcome N_done : Int32) (N_there : Nat → Int32) : Option (Int32 × Int32 × Int32 × (Nat → Int32) × (Nat → Int32) × (Nat → Int32) × (Nat → Int32) × Int32 × Int32 × (Nat → Int32)) :=
  gd t1 25 <|
  nm (v3 + (1 : Int32)) fun v3_1 =>
  k70 v3_1 (v4 + (1 : Int32)) N_size N_op N_a N_b N_x (upd N_there t1.toNatClampNeg t0)
def f_N_compile_129 (k70 : Int32 → Int32 → Int32 → (Nat → Int32) → (Nat → Int32) → (Nat → Int32) → (Nat → Int32) → (Nat → Int32) → Option (Int32 × Int32 × Int32 × (Nat → Int32) × (Nat → Int32) × (Nat → Int32) × (Nat → Int32) × Int32 × Int32 × (Nat → Int32))) (v4 v5 v6 t0 t1 N_compiled N_size : Int32) (N_op N_a N_b N_x : Nat → Int32) (N_outcome N_done : Int32) (N_there : Nat → Int32) : Option (Int32 × Int32 × Int32 × (Nat → Int32) × (Nat → Int32) × (Nat → Int32) × (Nat → Int32) × Int32 × Int32 × (Nat → Int32)) :=
  nm (t1 - t0) fun v3_2 =>
  if v5 = (8 : Int32) then
    gd v3_2 25 <|
    (f_N_writePower N_size N_op N_a N_b N_x (N_there v3_2.toNatClampNeg) v6).bind fun r8 =>
    f_N_compile_226 k70 v3_2 v4 r8.1 v3_2 N_compiled r8.2.1 r8.2.2.1 r8.2.2.2.1 r8.2.2.2.2.1 r8.2.2.2.2.2 N_outcome N_done N_there
  else
    (f_N_isTwo v5).bind fun r3 =>
    if r3 = 0 then
      (f_N_isOne v5).bind fun r4 =>
      if r4 = 0 then
        (f_N_write N_size N_op N_a N_b N_x v5 (0 : Int32) (0 : Int32) v6).bind fun r5 =>
        f_N_compile_226 k70 v3_2 v4 r5.1 v3_2 N_compiled r5.2.1 r5.2.2.1 r5.2.2.2.1 r5.2.2.2.2.1 r5.2.2.2.2.2 N_outcome N_done N_there
      else
        gd v3_2 25 <|
        (f_N_write N_size N_op N_a N_b N_x v5 (N_there v3_2.toNatClampNeg) (0 : Int32) v6).bind fun r6 =>
        f_N_compile_226 k70 v3_2 v4 r6.1 v3_2 N_compiled r6.2.1 r6.2.2.1 r6.2.2.2.1 r6.2.2.2.2.1 r6.2.2.2.2.2 N_outcome N_done N_there
    else
      gd v3_2 25 <|
      gd (v3_2 + (1 : Int32)) 25 <|
      (f_N_write N_size N_op N_a N_b N_x v5 (N_there v3_2.toNatClampNeg) (N_there (v3_2 + (1 : Int32)).toNatClampNeg) (0 : Int32)).bind fun r7 =>
      f_N_compile_226 k70 v3_2 v4 r7.1 v3_2 N_compiled r7.2.1 r7.2.2.1 r7.2.2.2.1 r7.2.2.2.2.1 r7.2.2.2.2.2 N_outcome N_done N_there
def f_N_compile_70 (N_words : Int32) (N_word : Nat → Int32) (N_compiled N_outcome N_done : Int32) : Nat → Int32 → Int32 → Int32 → (Nat → Int32) → (Nat → Int32) → (Nat → Int32) → (Nat → Int32) → (Nat → Int32) → Option (Int32 × Int32 × Int32 × (Nat → Int32) × (Nat → Int32) × (Nat → Int32) × (Nat → Int32) × Int32 × Int32 × (Nat → Int32))
  | 0, _, _, _, _, _, _, _, _ => none
  | fu + 1, v3, v4, N_size, N_op, N_a, N_b, N_x, N_there =>
    if N_words ≤ v4 then
      gd (0 : Int32) 25 <|
      some ((0 : Int32), (1 : Int32), N_size, N_op, N_a, N_b, N_x, (N_there (0 : Int32).toNatClampNeg), (0 : Int32), N_there)
    else
      gd v4 24 <|
      nm ((N_word v4.toNatClampNeg) / (100 : Int32)) fun v5_9 =>
      gd v4 24 <|
      nm (zrem (N_word v4.toNatClampNeg) (100 : Int32)) fun v6_10 =>
      (f_N_isTwo v5_9).bind fun r11 =>
      if r11 = 0 then
        (f_N_isOne v5_9).bind fun r12 =>
        if r12 = 0 then
          f_N_compile_129 (f_N_compile_70 N_words N_word N_compiled N_outcome N_done fu) v4 v5_9 v6_10 (0 : Int32) v3 N_compiled N_size N_op N_a N_b N_x N_outcome N_done N_there
        else
          f_N_compile_129 (f_N_compile_70 N_words N_word N_compiled N_outcome N_done fu) v4 v5_9 v6_10 (1 : Int32) v3 N_compiled N_size N_op N_a N_b N_x N_outcome N_done N_there
      else
        f_N_compile_129 (f_N_compile_70 N_words N_word N_compiled N_outcome N_done fu) v4 v5_9 v6_10 (2 : Int32) v3 N_compiled N_size N_op N_a N_b N_x N_outcome N_done N_there
def f_N_compile_39 (N_words : Int32) (N_word : Nat → Int32) (v1 v2 N_compiled N_size : Int32) (N_op N_a N_b N_x : Nat → Int32) (N_outcome N_done : Int32) (N_there : Nat → Int32) : Option (Int32 × Int32 × Int32 × (Nat → Int32) × (Nat → Int32) × (Nat → Int32) × (Nat → Int32) × Int32 × Int32 × (Nat → Int32)) :=
  if 0 < v1 then
    f_N_compile_49 v1 N_compiled N_size N_op N_a N_b N_x N_outcome N_done N_there
  else
    if v2 ≤ (40 : Int32) then
      f_N_compile_70 N_words N_word N_compiled N_outcome N_done zFU (0 : Int32) (0 : Int32) (0 : Int32) N_op N_a N_b N_x N_there
    else
      f_N_compile_49 v1 N_compiled N_size N_op N_a N_b N_x N_outcome N_done N_there
def f_N_compile_9 (N_words : Int32) (N_word : Nat → Int32) (v1 N_compiled N_size : Int32) (N_op N_a N_b N_x : Nat → Int32) (N_outcome N_done : Int32) (N_there : Nat → Int32) : Nat → Int32 → Int32 → Option (Int32 × Int32 × Int32 × (Nat → Int32) × (Nat → Int32) × (Nat → Int32) × (Nat → Int32) × Int32 × Int32 × (Nat → Int32))
  | 0, _, _ => none
  | fu + 1, v2, v3 =>
    if N_words ≤ v3 then
      f_N_compile_39 N_words N_word v1 v2 N_compiled N_size N_op N_a N_b N_x N_outcome N_done N_there
    else
      if v1 = 0 then
        gd v3 24 <|
        (f_N_steps (N_word v3.toNatClampNeg)).bind fun r13 =>
        nm (v2 + r13) fun v2_14 =>
        f_N_compile_9 N_words N_word v1 N_compiled N_size N_op N_a N_b N_x N_outcome N_done N_there fu v2_14 (v3 + (1 : Int32))
      else
        f_N_compile_39 N_words N_word v1 v2 N_compiled N_size N_op N_a N_b N_x N_outcome N_done N_there
def f_N_compile (N_words : Int32) (N_word : Nat → Int32) (N_compiled N_size : Int32) (N_op N_a N_b N_x : Nat → Int32) (N_outcome N_done : Int32) (N_there : Nat → Int32) : Option (Int32 × Int32 × Int32 × (Nat → Int32) × (Nat → Int32) × (Nat → Int32) × (Nat → Int32) × Int32 × Int32 × (Nat → Int32)) :=
  (f_N_fault N_words N_word).bind fun r15 =>
  f_N_compile_9 N_words N_word r15 N_compiled N_size N_op N_a N_b N_x N_outcome N_done N_there zFU (0 : Int32) (0 : Int32)
def f_N_value_3 (a1 a2 a3 a4 : Int32) (N_values : Int32) (N_vOp N_vA N_vB N_vX N_needed : Nat → Int32) : Nat → Int32 → Option (Int32 × Int32 × (Nat → Int32) × (Nat → Int32) × (Nat → Int32) × (Nat → Int32) × (Nat → Int32))
  | 0, _ => none
  | fu + 1, v5 =>
    if N_values ≤ v5 then
      gd N_values 48 <|
      gd N_values 48 <|
      gd N_values 48 <|
      gd N_values 48 <|
      gd N_values 48 <|
      some (((N_values + (1 : Int32)) - (1 : Int32)), (N_values + (1 : Int32)), (upd N_vOp N_values.toNatClampNeg a1), (upd N_vA N_values.toNatClampNeg a2), (upd N_vB N_values.toNatClampNeg a3), (upd N_vX N_values.toNatClampNeg a4), (upd N_needed N_values.toNatClampNeg (vp_nar .boolean (0 : Int32))))
    else
      gd v5 48 <|
      if (N_vOp v5.toNatClampNeg) = a1 then
        gd v5 48 <|
        if (N_vA v5.toNatClampNeg) = a2 then
          gd v5 48 <|
          if (N_vB v5.toNatClampNeg) = a3 then
            gd v5 48 <|
            if (N_vX v5.toNatClampNeg) = a4 then
              some (v5, N_values, N_vOp, N_vA, N_vB, N_vX, N_needed)
            else
              f_N_value_3 a1 a2 a3 a4 N_values N_vOp N_vA N_vB N_vX N_needed fu (v5 + (1 : Int32))
          else
            f_N_value_3 a1 a2 a3 a4 N_values N_vOp N_vA N_vB N_vX N_needed fu (v5 + (1 : Int32))
        else
          f_N_value_3 a1 a2 a3 a4 N_values N_vOp N_vA N_vB N_vX N_needed fu (v5 + (1 : Int32))
      else
        f_N_value_3 a1 a2 a3 a4 N_values N_vOp N_vA N_vB N_vX N_needed fu (v5 + (1 : Int32))
def f_N_value (N_values : Int32) (N_vOp N_vA N_vB N_vX N_needed : Nat → Int32) (a1 a2 a3 a4 : Int32) : Option (Int32 × Int32 × (Nat → Int32) × (Nat → Int32) × (Nat → Int32) × (Nat → Int32) × (Nat → Int32)) :=
  f_N_value_3 a1 a2 a3 a4 N_values N_vOp N_vA N_vB N_vX N_needed zFU (0 : Int32)
def f_N_noughts (N_values : Int32) (N_vOp N_vA N_vB N_vX N_needed : Nat → Int32) : Option (Int32 × Int32 × (Nat → Int32) × (Nat → Int32) × (Nat → Int32) × (Nat → Int32) × (Nat → Int32)) :=
  (f_N_value N_values N_vOp N_vA N_vB N_vX N_needed (2 : Int32) (-1 : Int32) (-1 : Int32) (0 : Int32)).bind fun r1 =>
  some (r1.1, r1.2.1, r1.2.2.1, r1.2.2.2.1, r1.2.2.2.2.1, r1.2.2.2.2.2.1, r1.2.2.2.2.2.2)
def f_N_added (N_values : Int32) (N_vOp N_vA N_vB N_vX N_needed : Nat → Int32) (a1 a2 : Int32) : Option (Int32 × Int32 × (Nat → Int32) × (Nat → Int32) × (Nat → Int32) × (Nat → Int32) × (Nat → Int32)) :=
  gd a2 48 <|
  if (N_vOp a2.toNatClampNeg) = (2 : Int32) then
    some (a1, N_values, N_vOp, N_vA, N_vB, N_vX, N_needed)
  else
    gd a1 48 <|
    if (N_vOp a1.toNatClampNeg) = (2 : Int32) then
      some (a2, N_values, N_vOp, N_vA, N_vB, N_vX, N_needed)
    else
      if a2 ≤ a1 then
        (f_N_value N_values N_vOp N_vA N_vB N_vX N_needed (3 : Int32) a2 a1 (0 : Int32)).bind fun r1 =>
        some (r1.1, r1.2.1, r1.2.2.1, r1.2.2.2.1, r1.2.2.2.2.1, r1.2.2.2.2.2.1, r1.2.2.2.2.2.2)
      else
        (f_N_value N_values N_vOp N_vA N_vB N_vX N_needed (3 : Int32) a1 a2 (0 : Int32)).bind fun r2 =>
        some (r2.1, r2.2.1, r2.2.2.1, r2.2.2.2.1, r2.2.2.2.2.1, r2.2.2.2.2.2.1, r2.2.2.2.2.2.2)
def f_N_less (N_values : Int32) (N_vOp N_vA N_vB N_vX N_needed : Nat → Int32) (a1 a2 : Int32) : Option (Int32 × Int32 × (Nat → Int32) × (Nat → Int32) × (Nat → Int32) × (Nat → Int32) × (Nat → Int32)) :=
  gd a2 48 <|
  if (N_vOp a2.toNatClampNeg) = (2 : Int32) then
    some (a1, N_values, N_vOp, N_vA, N_vB, N_vX, N_needed)
  else
    if a1 = a2 then
      (f_N_noughts N_values N_vOp N_vA N_vB N_vX N_needed).bind fun r2 =>
      some (r2.1, r2.2.1, r2.2.2.1, r2.2.2.2.1, r2.2.2.2.2.1, r2.2.2.2.2.2.1, r2.2.2.2.2.2.2)
    else
      (f_N_value N_values N_vOp N_vA N_vB N_vX N_needed (4 : Int32) a1 a2 (0 : Int32)).bind fun r1 =>
      some (r1.1, r1.2.1, r1.2.2.1, r1.2.2.2.1, r1.2.2.2.2.1, r1.2.2.2.2.2.1, r1.2.2.2.2.2.2)
def f_N_times_20 (N_values : Int32) (N_vOp N_vA N_vB N_vX N_needed : Nat → Int32) : Option (Int32 × Int32 × (Nat → Int32) × (Nat → Int32) × (Nat → Int32) × (Nat → Int32) × (Nat → Int32)) :=
  (f_N_noughts N_values N_vOp N_vA N_vB N_vX N_needed).bind fun r1 =>
  some (r1.1, r1.2.1, r1.2.2.1, r1.2.2.2.1, r1.2.2.2.2.1, r1.2.2.2.2.2.1, r1.2.2.2.2.2.2)
def f_N_times (N_values : Int32) (N_vOp N_vA N_vB N_vX N_needed : Nat → Int32) (a1 a2 : Int32) : Option (Int32 × Int32 × (Nat → Int32) × (Nat → Int32) × (Nat → Int32) × (Nat → Int32) × (Nat → Int32)) :=
  gd a1 48 <|
  if (N_vOp a1.toNatClampNeg) = (2 : Int32) then
    f_N_times_20 N_values N_vOp N_vA N_vB N_vX N_needed
  else
    gd a2 48 <|
    if (N_vOp a2.toNatClampNeg) = (2 : Int32) then
      f_N_times_20 N_values N_vOp N_vA N_vB N_vX N_needed
    else
      gd a2 48 <|
      if (N_vOp a2.toNatClampNeg) = (1 : Int32) then
        some (a1, N_values, N_vOp, N_vA, N_vB, N_vX, N_needed)
      else
        gd a1 48 <|
        if (N_vOp a1.toNatClampNeg) = (1 : Int32) then
          some (a2, N_values, N_vOp, N_vA, N_vB, N_vX, N_needed)
        else
          (f_N_value N_values N_vOp N_vA N_vB N_vX N_needed (5 : Int32) a1 a2 (0 : Int32)).bind fun r2 =>
          some (r2.1, r2.2.1, r2.2.2.1, r2.2.2.2.1, r2.2.2.2.2.1, r2.2.2.2.2.2.1, r2.2.2.2.2.2.2)
def f_N_turned (N_values : Int32) (N_vOp N_vA N_vB N_vX N_needed : Nat → Int32) (a1 : Int32) : Option (Int32 × Int32 × (Nat → Int32) × (Nat → Int32) × (Nat → Int32) × (Nat → Int32) × (Nat → Int32)) :=
  gd a1 48 <|
  if (N_vOp a1.toNatClampNeg) = (1 : Int32) then
    some (a1, N_values, N_vOp, N_vA, N_vB, N_vX, N_needed)
  else
    gd a1 48 <|
    if (N_vOp a1.toNatClampNeg) = (2 : Int32) then
      some (a1, N_values, N_vOp, N_vA, N_vB, N_vX, N_needed)
    else
      gd a1 48 <|
      if (N_vOp a1.toNatClampNeg) = (6 : Int32) then
        gd a1 48 <|
        some ((N_vA a1.toNatClampNeg), N_values, N_vOp, N_vA, N_vB, N_vX, N_needed)
      else
        (f_N_value N_values N_vOp N_vA N_vB N_vX N_needed (6 : Int32) a1 (-1 : Int32) (0 : Int32)).bind fun r1 =>
        some (r1.1, r1.2.1, r1.2.2.1, r1.2.2.2.1, r1.2.2.2.2.1, r1.2.2.2.2.2.1, r1.2.2.2.2.2.2)
def f_N_scaled_21 (N_values : Int32) (N_vOp N_vA N_vB N_vX N_needed : Nat → Int32) : Option (Int32 × Int32 × (Nat → Int32) × (Nat → Int32) × (Nat → Int32) × (Nat → Int32) × (Nat → Int32)) :=
  (f_N_noughts N_values N_vOp N_vA N_vB N_vX N_needed).bind fun r1 =>
  some (r1.1, r1.2.1, r1.2.2.1, r1.2.2.2.1, r1.2.2.2.2.1, r1.2.2.2.2.2.1, r1.2.2.2.2.2.2)
def f_N_scaled (N_p N_values : Int32) (N_vOp N_vA N_vB N_vX N_needed : Nat → Int32) (a1 a2 : Int32) : Option (Int32 × Int32 × (Nat → Int32) × (Nat → Int32) × (Nat → Int32) × (Nat → Int32) × (Nat → Int32)) :=
  nz N_p <|
  nm (zrem a2 N_p) fun v3_2 =>
  if v3_2 = 0 then
    f_N_scaled_21 N_values N_vOp N_vA N_vB N_vX N_needed
  else
    gd a1 48 <|
    if (N_vOp a1.toNatClampNeg) = (2 : Int32) then
      f_N_scaled_21 N_values N_vOp N_vA N_vB N_vX N_needed
    else
      if v3_2 = (1 : Int32) then
        some (a1, N_values, N_vOp, N_vA, N_vB, N_vX, N_needed)
      else
        gd a1 48 <|
        if (N_vOp a1.toNatClampNeg) = (7 : Int32) then
          gd a1 48 <|
          nz N_p <|
          nm (zrem ((N_vX a1.toNatClampNeg) * v3_2) N_p) fun v4_3 =>
          if v4_3 = 0 then
            (f_N_noughts N_values N_vOp N_vA N_vB N_vX N_needed).bind fun r5 =>
            some (r5.1, r5.2.1, r5.2.2.1, r5.2.2.2.1, r5.2.2.2.2.1, r5.2.2.2.2.2.1, r5.2.2.2.2.2.2)
          else
            if v4_3 = (1 : Int32) then
              gd a1 48 <|
              some ((N_vA a1.toNatClampNeg), N_values, N_vOp, N_vA, N_vB, N_vX, N_needed)
            else
              gd a1 48 <|
              (f_N_value N_values N_vOp N_vA N_vB N_vX N_needed (7 : Int32) (N_vA a1.toNatClampNeg) (-1 : Int32) v4_3).bind fun r4 =>
              some (r4.1, r4.2.1, r4.2.2.1, r4.2.2.2.1, r4.2.2.2.2.1, r4.2.2.2.2.2.1, r4.2.2.2.2.2.2)
        else
          (f_N_value N_values N_vOp N_vA N_vB N_vX N_needed (7 : Int32) a1 (-1 : Int32) v3_2).bind fun r6 =>
          some (r6.1, r6.2.1, r6.2.2.1, r6.2.2.2.1, r6.2.2.2.2.1, r6.2.2.2.2.2.1, r6.2.2.2.2.2.2)
def f_N_valueOfInstruction (N_p : Int32) (N_op N_a N_b N_x : Nat → Int32) (N_values : Int32) (N_vOp N_vA N_vB N_vX N_needed N_valueOf : Nat → Int32) (a1 : Int32) : Option (Int32 × Int32 × (Nat → Int32) × (Nat → Int32) × (Nat → Int32) × (Nat → Int32) × (Nat → Int32)) :=
  gd a1 48 <|
  gd (N_a a1.toNatClampNeg) 48 <|
  nm (N_valueOf (N_a a1.toNatClampNeg).toNatClampNeg) fun v2_1 =>
  gd a1 48 <|
  gd (N_b a1.toNatClampNeg) 48 <|
  nm (N_valueOf (N_b a1.toNatClampNeg).toNatClampNeg) fun v3_2 =>
  gd a1 48 <|
  if (N_op a1.toNatClampNeg) = (3 : Int32) then
    (f_N_added N_values N_vOp N_vA N_vB N_vX N_needed v2_1 v3_2).bind fun r8 =>
    some (r8.1, r8.2.1, r8.2.2.1, r8.2.2.2.1, r8.2.2.2.2.1, r8.2.2.2.2.2.1, r8.2.2.2.2.2.2)
  else
    gd a1 48 <|
    if (N_op a1.toNatClampNeg) = (4 : Int32) then
      (f_N_less N_values N_vOp N_vA N_vB N_vX N_needed v2_1 v3_2).bind fun r7 =>
      some (r7.1, r7.2.1, r7.2.2.1, r7.2.2.2.1, r7.2.2.2.2.1, r7.2.2.2.2.2.1, r7.2.2.2.2.2.2)
    else
      gd a1 48 <|
      if (N_op a1.toNatClampNeg) = (5 : Int32) then
        (f_N_times N_values N_vOp N_vA N_vB N_vX N_needed v2_1 v3_2).bind fun r6 =>
        some (r6.1, r6.2.1, r6.2.2.1, r6.2.2.2.1, r6.2.2.2.2.1, r6.2.2.2.2.2.1, r6.2.2.2.2.2.2)
      else
        gd a1 48 <|
        if (N_op a1.toNatClampNeg) = (6 : Int32) then
          (f_N_turned N_values N_vOp N_vA N_vB N_vX N_needed v2_1).bind fun r5 =>
          some (r5.1, r5.2.1, r5.2.2.1, r5.2.2.2.1, r5.2.2.2.2.1, r5.2.2.2.2.2.1, r5.2.2.2.2.2.2)
        else
          gd a1 48 <|
          if (N_op a1.toNatClampNeg) = (7 : Int32) then
            gd a1 48 <|
            (f_N_scaled N_p N_values N_vOp N_vA N_vB N_vX N_needed v2_1 (N_x a1.toNatClampNeg)).bind fun r4 =>
            some (r4.1, r4.2.1, r4.2.2.1, r4.2.2.2.1, r4.2.2.2.2.1, r4.2.2.2.2.2.1, r4.2.2.2.2.2.2)
          else
            gd a1 48 <|
            gd a1 48 <|
            (f_N_value N_values N_vOp N_vA N_vB N_vX N_needed (N_op a1.toNatClampNeg) (-1 : Int32) (-1 : Int32) (N_x a1.toNatClampNeg)).bind fun r3 =>
            some (r3.1, r3.2.1, r3.2.2.1, r3.2.2.2.1, r3.2.2.2.2.1, r3.2.2.2.2.2.1, r3.2.2.2.2.2.2)
def f_N_optimise_218 (k141 : Int32 → Int32 → (Nat → Int32) → (Nat → Int32) → (Nat → Int32) → (Nat → Int32) → (Nat → Int32) → Option (Int32 × Int32 × (Nat → Int32) × (Nat → Int32) × (Nat → Int32) × (Nat → Int32) × Int32 × Int32 × Int32 × (Nat → Int32) × (Nat → Int32) × (Nat → Int32) × (Nat → Int32) × (Nat → Int32) × (Nat → Int32) × (Nat → Int32))) (v1 t0 t1 t2 t4 N_size : Int32) (N_op N_a N_b N_x : Nat → Int32) (N_outcome N_done N_values : Int32) (N_vOp N_vA N_vB N_vX N_needed N_valueOf N_place : Nat → Int32) : Option (Int32 × Int32 × (Nat → Int32) × (Nat → Int32) × (Nat → Int32) × (Nat → Int32) × Int32 × Int32 × Int32 × (Nat → Int32) × (Nat → Int32) × (Nat → Int32) × (Nat → Int32) × (Nat → Int32) × (Nat → Int32) × (Nat → Int32)) :=
  gd v1 48 <|
  (f_N_write N_size N_op N_a N_b N_x t2 t1 t0 (N_vX v1.toNatClampNeg)).bind fun r1 =>
  gd t4 48 <|
  k141 (v1 + (1 : Int32)) r1.2.1 r1.2.2.1 r1.2.2.2.1 r1.2.2.2.2.1 r1.2.2.2.2.2 (upd N_place t4.toNatClampNeg r1.1)
def f_N_optimise_194 (k141 : Int32 → Int32 → (Nat → Int32) → (Nat → Int32) → (Nat → Int32) → (Nat → Int32) → (Nat → Int32) → Option (Int32 × Int32 × (Nat → Int32) × (Nat → Int32) × (Nat → Int32) × (Nat → Int32) × Int32 × Int32 × Int32 × (Nat → Int32) × (Nat → Int32) × (Nat → Int32) × (Nat → Int32) × (Nat → Int32) × (Nat → Int32) × (Nat → Int32))) (v1 t0 t1 t3 N_size : Int32) (N_op N_a N_b N_x : Nat → Int32) (N_outcome N_done N_values : Int32) (N_vOp N_vA N_vB N_vX N_needed N_valueOf N_place : Nat → Int32) : Option (Int32 × Int32 × (Nat → Int32) × (Nat → Int32) × (Nat → Int32) × (Nat → Int32) × Int32 × Int32 × Int32 × (Nat → Int32) × (Nat → Int32) × (Nat → Int32) × (Nat → Int32) × (Nat → Int32) × (Nat → Int32) × (Nat → Int32)) :=
  gd v1 48 <|
  if 0 ≤ (N_vB v1.toNatClampNeg) then
    gd v1 48 <|
    gd (N_vB v1.toNatClampNeg) 48 <|
    f_N_optimise_218 k141 v1 (N_place (N_vB v1.toNatClampNeg).toNatClampNeg) t0 t1 t3 N_size N_op N_a N_b N_x N_outcome N_done N_values N_vOp N_vA N_vB N_vX N_needed N_valueOf N_place
  else
    f_N_optimise_218 k141 v1 (0 : Int32) t0 t1 t3 N_size N_op N_a N_b N_x N_outcome N_done N_values N_vOp N_vA N_vB N_vX N_needed N_valueOf N_place
def f_N_optimise_141 (N_outcome N_done N_values : Int32) (N_vOp N_vA N_vB N_vX N_needed N_valueOf : Nat → Int32) : Nat → Int32 → Int32 → (Nat → Int32) → (Nat → Int32) → (Nat → Int32) → (Nat → Int32) → (Nat → Int32) → Option (Int32 × Int32 × (Nat → Int32) × (Nat → Int32) × (Nat → Int32) × (Nat → Int32) × Int32 × Int32 × Int32 × (Nat → Int32) × (Nat → Int32) × (Nat → Int32) × (Nat → Int32) × (Nat → Int32) × (Nat → Int32) × (Nat → Int32))
  | 0, _, _, _, _, _, _, _ => none
  | fu + 1, v1, N_size, N_op, N_a, N_b, N_x, N_place =>
    if N_values ≤ v1 then
      some ((0 : Int32), N_size, N_op, N_a, N_b, N_x, (N_size - (1 : Int32)), (0 : Int32), N_values, N_vOp, N_vA, N_vB, N_vX, N_needed, N_valueOf, N_place)
    else
      gd v1 48 <|
      if (N_needed v1.toNatClampNeg) = 0 then
        f_N_optimise_141 N_outcome N_done N_values N_vOp N_vA N_vB N_vX N_needed N_valueOf fu (v1 + (1 : Int32)) N_size N_op N_a N_b N_x N_place
      else
        gd v1 48 <|
        gd v1 48 <|
        if 0 ≤ (N_vA v1.toNatClampNeg) then
          gd v1 48 <|
          gd (N_vA v1.toNatClampNeg) 48 <|
          f_N_optimise_194 (f_N_optimise_141 N_outcome N_done N_values N_vOp N_vA N_vB N_vX N_needed N_valueOf fu) v1 (N_place (N_vA v1.toNatClampNeg).toNatClampNeg) (N_vOp v1.toNatClampNeg) v1 N_size N_op N_a N_b N_x N_outcome N_done N_values N_vOp N_vA N_vB N_vX N_needed N_valueOf N_place
        else
          f_N_optimise_194 (f_N_optimise_141 N_outcome N_done N_values N_vOp N_vA N_vB N_vX N_needed N_valueOf fu) v1 (0 : Int32) (N_vOp v1.toNatClampNeg) v1 N_size N_op N_a N_b N_x N_outcome N_done N_values N_vOp N_vA N_vB N_vX N_needed N_valueOf N_place
def f_N_optimise_98 (k64 : Int32 → (Nat → Int32) → Option (Int32 × Int32 × (Nat → Int32) × (Nat → Int32) × (Nat → Int32) × (Nat → Int32) × Int32 × Int32 × Int32 × (Nat → Int32) × (Nat → Int32) × (Nat → Int32) × (Nat → Int32) × (Nat → Int32) × (Nat → Int32) × (Nat → Int32))) (v1 N_size : Int32) (N_op N_a N_b N_x : Nat → Int32) (N_outcome N_done N_values : Int32) (N_vOp N_vA N_vB N_vX N_needed N_valueOf N_place : Nat → Int32) : Option (Int32 × Int32 × (Nat → Int32) × (Nat → Int32) × (Nat → Int32) × (Nat → Int32) × Int32 × Int32 × Int32 × (Nat → Int32) × (Nat → Int32) × (Nat → Int32) × (Nat → Int32) × (Nat → Int32) × (Nat → Int32) × (Nat → Int32)) :=
  gd v1 48 <|
  if (N_needed v1.toNatClampNeg) = 0 then
    k64 (v1 + (-1 : Int32)) N_needed
  else
    gd v1 48 <|
    if (N_vB v1.toNatClampNeg) < 0 then
      k64 (v1 + (-1 : Int32)) N_needed
    else
      gd v1 48 <|
      gd (N_vB v1.toNatClampNeg) 48 <|
      k64 (v1 + (-1 : Int32)) (upd N_needed (N_vB v1.toNatClampNeg).toNatClampNeg (vp_nar .boolean (1 : Int32)))
def f_N_optimise_64 (N_size : Int32) (N_op N_a N_b N_x : Nat → Int32) (N_outcome N_done N_values : Int32) (N_vOp N_vA N_vB N_vX N_valueOf N_place : Nat → Int32) : Nat → Int32 → (Nat → Int32) → Option (Int32 × Int32 × (Nat → Int32) × (Nat → Int32) × (Nat → Int32) × (Nat → Int32) × Int32 × Int32 × Int32 × (Nat → Int32) × (Nat → Int32) × (Nat → Int32) × (Nat → Int32) × (Nat → Int32) × (Nat → Int32) × (Nat → Int32))
  | 0, _, _ => none
  | fu + 1, v1, N_needed =>
    if v1 < 0 then
      f_N_optimise_141 N_outcome N_done N_values N_vOp N_vA N_vB N_vX N_needed N_valueOf zFU (0 : Int32) (0 : Int32) N_op N_a N_b N_x N_place
    else
      gd v1 48 <|
      if (N_needed v1.toNatClampNeg) = 0 then
        f_N_optimise_98 (f_N_optimise_64 N_size N_op N_a N_b N_x N_outcome N_done N_values N_vOp N_vA N_vB N_vX N_valueOf N_place fu) v1 N_size N_op N_a N_b N_x N_outcome N_done N_values N_vOp N_vA N_vB N_vX N_needed N_valueOf N_place
      else
        gd v1 48 <|
        if (N_vA v1.toNatClampNeg) < 0 then
          f_N_optimise_98 (f_N_optimise_64 N_size N_op N_a N_b N_x N_outcome N_done N_values N_vOp N_vA N_vB N_vX N_valueOf N_place fu) v1 N_size N_op N_a N_b N_x N_outcome N_done N_values N_vOp N_vA N_vB N_vX N_needed N_valueOf N_place
        else
          gd v1 48 <|
          gd (N_vA v1.toNatClampNeg) 48 <|
          f_N_optimise_98 (f_N_optimise_64 N_size N_op N_a N_b N_x N_outcome N_done N_values N_vOp N_vA N_vB N_vX N_valueOf N_place fu) v1 N_size N_op N_a N_b N_x N_outcome N_done N_values N_vOp N_vA N_vB N_vX (upd N_needed (N_vA v1.toNatClampNeg).toNatClampNeg (vp_nar .boolean (1 : Int32))) N_valueOf N_place
def f_N_optimise_17 (N_p : Int32) (N_size : Int32) (N_op N_a N_b N_x : Nat → Int32) (N_outcome N_done : Int32) (N_place : Nat → Int32) : Nat → Int32 → Int32 → (Nat → Int32) → (Nat → Int32) → (Nat → Int32) → (Nat → Int32) → (Nat → Int32) → (Nat → Int32) → Option (Int32 × Int32 × (Nat → Int32) × (Nat → Int32) × (Nat → Int32) × (Nat → Int32) × Int32 × Int32 × Int32 × (Nat → Int32) × (Nat → Int32) × (Nat → Int32) × (Nat → Int32) × (Nat → Int32) × (Nat → Int32) × (Nat → Int32))
  | 0, _, _, _, _, _, _, _, _ => none
  | fu + 1, v1, N_values, N_vOp, N_vA, N_vB, N_vX, N_needed, N_valueOf =>
    if N_size ≤ v1 then
      gd N_outcome 48 <|
      gd (N_valueOf N_outcome.toNatClampNeg) 48 <|
      nm (N_values - (1 : Int32)) fun v1_2 =>
      f_N_optimise_64 N_size N_op N_a N_b N_x N_outcome N_done N_values N_vOp N_vA N_vB N_vX N_valueOf N_place zFU v1_2 (upd N_needed (N_valueOf N_outcome.toNatClampNeg).toNatClampNeg (vp_nar .boolean (1 : Int32)))
    else
      (f_N_valueOfInstruction N_p N_op N_a N_b N_x N_values N_vOp N_vA N_vB N_vX N_needed N_valueOf v1).bind fun r3 =>
      gd v1 48 <|
      f_N_optimise_17 N_p N_size N_op N_a N_b N_x N_outcome N_done N_place fu (v1 + (1 : Int32)) r3.2.1 r3.2.2.1 r3.2.2.2.1 r3.2.2.2.2.1 r3.2.2.2.2.2.1 r3.2.2.2.2.2.2 (upd N_valueOf v1.toNatClampNeg r3.1)
def f_N_optimise (N_p N_compiled N_size : Int32) (N_op N_a N_b N_x : Nat → Int32) (N_outcome N_done N_values : Int32) (N_vOp N_vA N_vB N_vX N_needed N_valueOf N_place : Nat → Int32) : Option (Int32 × Int32 × (Nat → Int32) × (Nat → Int32) × (Nat → Int32) × (Nat → Int32) × Int32 × Int32 × Int32 × (Nat → Int32) × (Nat → Int32) × (Nat → Int32) × (Nat → Int32) × (Nat → Int32) × (Nat → Int32) × (Nat → Int32)) :=
  if N_compiled = 0 then
    some ((7 : Int32), N_size, N_op, N_a, N_b, N_x, N_outcome, N_done, N_values, N_vOp, N_vA, N_vB, N_vX, N_needed, N_valueOf, N_place)
  else
    f_N_optimise_17 N_p N_size N_op N_a N_b N_x N_outcome N_done N_place zFU (0 : Int32) (0 : Int32) N_vOp N_vA N_vB N_vX N_needed N_valueOf
def f_N_run_97 (N_size : Int32) (N_table : Nat → Int32) (N_done : Int32) : Option (Int32 × (Nat → Int32) × Int32) :=
  if N_done = N_size then
    some ((0 : Int32), N_table, N_done)
  else
    some ((8 : Int32), N_table, N_done)
def f_N_run_12 (N_p N_n N_size : Int32) (N_op N_a N_b N_x : Nat → Int32) (a1 : Int32) : Nat → Int32 → (Nat → Int32) → Int32 → Option (Int32 × (Nat → Int32) × Int32)
  | 0, _, _, _ => none
  | fu + 1, v2, N_table, N_done =>
    if a1 ≤ v2 then
      f_N_run_97 N_size N_table N_done
    else
      if N_size ≤ N_done then
        f_N_run_97 N_size N_table N_done
      else
        gd N_done 48 <|
        gd N_done 48 <|
        gd N_done 48 <|
        gd N_done 48 <|
        (f_N_operate N_p N_n N_table (N_op N_done.toNatClampNeg) ((31 : Int32) + (N_a N_done.toNatClampNeg)) ((31 : Int32) + (N_b N_done.toNatClampNeg)) (N_x N_done.toNatClampNeg) ((31 : Int32) + N_done)).bind fun r1 =>
        f_N_run_12 N_p N_n N_size N_op N_a N_b N_x a1 fu (v2 + (1 : Int32)) r1 (N_done + (1 : Int32))
def f_N_run (N_p N_n : Int32) (N_table : Nat → Int32) (N_compiled N_size : Int32) (N_op N_a N_b N_x : Nat → Int32) (N_done a1 : Int32) : Option (Int32 × (Nat → Int32) × Int32) :=
  if N_compiled = 0 then
    some ((7 : Int32), N_table, N_done)
  else
    f_N_run_12 N_p N_n N_size N_op N_a N_b N_x a1 zFU (0 : Int32) N_table N_done
def f_N_out (N_n : Int32) (N_table : Nat → Int32) (N_compiled N_size N_outcome N_done a1 a2 : Int32) : Option (Int32) :=
  if N_compiled = 0 then
    some (-1 : Int32)
  else
    if N_done = N_size then
      (f_N_isPlace N_n a1 a2).bind fun r1 =>
      if r1 = 0 then
        some (-1 : Int32)
      else
        (f_N_get N_table ((31 : Int32) + N_outcome) a1 a2).bind fun r2 =>
        some r2
    else
      some (-1 : Int32)
def f_N_outDirect (N_n : Int32) (N_direct : Nat → Int32) (N_hasDirect a1 a2 : Int32) : Option (Int32) :=
  if N_hasDirect = 0 then
    some (-1 : Int32)
  else
    (f_N_isPlace N_n a1 a2).bind fun r1 =>
    if r1 = 0 then
      some (-1 : Int32)
    else
      gd (((4 : Int32) * a1) + a2) 16 <|
      some (N_direct (((4 : Int32) * a1) + a2).toNatClampNeg)
def f_N_codeAt_126 (N_op : Nat → Int32) (a1 : Int32) (t0 : Int32) : Option (Int32) :=
  gd a1 48 <|
  some (((10000 : Int32) * (N_op a1.toNatClampNeg)) + t0)
def f_N_codeAt (N_compiled N_size : Int32) (N_op N_a N_b N_x : Nat → Int32) (a1 : Int32) : Option (Int32) :=
  if N_compiled = 0 then
    some (-1 : Int32)
  else
    (f_N_in a1 (0 : Int32) (N_size - (1 : Int32))).bind fun r1 =>
    if r1 = 0 then
      some (-1 : Int32)
    else
      gd a1 48 <|
      if (N_op a1.toNatClampNeg) = 0 then
        gd a1 48 <|
        f_N_codeAt_126 N_op a1 (N_x a1.toNatClampNeg)
      else
        gd a1 48 <|
        if (N_op a1.toNatClampNeg) = (7 : Int32) then
          gd a1 48 <|
          gd a1 48 <|
          f_N_codeAt_126 N_op a1 (((100 : Int32) * (N_a a1.toNatClampNeg)) + (N_x a1.toNatClampNeg))
        else
          gd a1 48 <|
          (f_N_isTwo (N_op a1.toNatClampNeg)).bind fun r2 =>
          if r2 = 0 then
            gd a1 48 <|
            if (N_op a1.toNatClampNeg) = (6 : Int32) then
              gd a1 48 <|
              f_N_codeAt_126 N_op a1 ((100 : Int32) * (N_a a1.toNatClampNeg))
            else
              f_N_codeAt_126 N_op a1 (0 : Int32)
          else
            gd a1 48 <|
            gd a1 48 <|
            f_N_codeAt_126 N_op a1 (((100 : Int32) * (N_a a1.toNatClampNeg)) + (N_b a1.toNatClampNeg))
def f_N_codeSize (N_compiled N_size : Int32) : Option (Int32) :=
  if N_compiled = 0 then
    some (-1 : Int32)
  else
    some N_size
def f_N_products_4 (N_compiled N_size : Int32) (N_op : Nat → Int32) : Nat → Int32 → Int32 → Option (Int32)
  | 0, _, _ => none
  | fu + 1, v1, v2 =>
    if N_size ≤ v2 then
      if N_compiled = 0 then
        some (-1 : Int32)
      else
        some v1
    else
      gd v2 48 <|
      if (N_op v2.toNatClampNeg) = (5 : Int32) then
        nm (v1 + (1 : Int32)) fun v1_1 =>
        f_N_products_4 N_compiled N_size N_op fu v1_1 (v2 + (1 : Int32))
      else
        f_N_products_4 N_compiled N_size N_op fu v1 (v2 + (1 : Int32))
def f_N_products (N_compiled N_size : Int32) (N_op : Nat → Int32) : Option (Int32) :=
  f_N_products_4 N_compiled N_size N_op zFU (0 : Int32) (0 : Int32)
def f_N_reset_27 (N_words N_hasDirect N_compiled N_size N_done : Int32) : Nat → Int32 → (Nat → Int32) → Option (Int32 × (Nat → Int32) × Int32 × Int32 × Int32 × Int32)
  | 0, _, _ => none
  | fu + 1, v1, N_table =>
    if (64 : Int32) ≤ v1 then
      some (N_words, N_table, N_hasDirect, N_compiled, N_size, N_done)
    else
      gd v1 1136 <|
      f_N_reset_27 N_words N_hasDirect N_compiled N_size N_done fu (v1 + (1 : Int32)) (upd N_table v1.toNatClampNeg (0 : Int32))
def f_N_reset (N_words : Int32) (N_table : Nat → Int32) (N_hasDirect N_compiled N_size N_done : Int32) : Option (Int32 × (Nat → Int32) × Int32 × Int32 × Int32 × Int32) :=
  f_N_reset_27 (0 : Int32) (0 : Int32) (0 : Int32) (0 : Int32) (0 : Int32) zFU (0 : Int32) N_table
