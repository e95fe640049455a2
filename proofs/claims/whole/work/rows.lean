section
-- ===== PART A: goes FIRST, ahead of the names: the tables' words, and 'selects' of the private methods out of them =====
/-- a private method of a class that the tables say can be made, by its rows of tables_1 -/
def lw_okq (q : MethodName × Nat) : Prop := (q.1.cls ≠ "java/lang/invoke/MethodHandle" ∧ q.1.cls ≠ "java/lang/invoke/VarHandle") ∧ Cond.instantiable q.1.cls q.2 ∈ tables_1 ∧ Cond.privateMethod q.1 ∈ tables_1 ∧ Cond.instanceMethod q.1 ∈ tables_1
theorem lw_p0 : lw_okq (⟨"SquareCode", "hasCode", "()Z"⟩, 7) := ⟨⟨by decide +kernel, by decide +kernel⟩, List.mem_of_getElem? (i := 12) (by decide +kernel), List.mem_of_getElem? (i := 134) (by decide +kernel), List.mem_of_getElem? (i := 135) (by decide +kernel)⟩
theorem lw_p1 : lw_okq (⟨"SquareCode", "rewind", "()V"⟩, 7) := ⟨⟨by decide +kernel, by decide +kernel⟩, List.mem_of_getElem? (i := 12) (by decide +kernel), List.mem_of_getElem? (i := 161) (by decide +kernel), List.mem_of_getElem? (i := 162) (by decide +kernel)⟩
theorem lw_p2 : lw_okq (⟨"SquareCode$Compiler", "instructionsFor", "(IIILSquareCode$Code;)I"⟩, 1) := ⟨⟨by decide +kernel, by decide +kernel⟩, List.mem_of_getElem? (i := 69) (by decide +kernel), List.mem_of_getElem? (i := 218) (by decide +kernel), List.mem_of_getElem? (i := 219) (by decide +kernel)⟩
theorem lw_p3 : lw_okq (⟨"SquareCode$Optimiser", "value", "(III)I"⟩, 5) := ⟨⟨by decide +kernel, by decide +kernel⟩, List.mem_of_getElem? (i := 79) (by decide +kernel), List.mem_of_getElem? (i := 258) (by decide +kernel), List.mem_of_getElem? (i := 259) (by decide +kernel)⟩
theorem lw_p4 : lw_okq (⟨"SquareCode$Optimiser", "sum", "(II)I"⟩, 5) := ⟨⟨by decide +kernel, by decide +kernel⟩, List.mem_of_getElem? (i := 79) (by decide +kernel), List.mem_of_getElem? (i := 262) (by decide +kernel), List.mem_of_getElem? (i := 263) (by decide +kernel)⟩
theorem lw_p5 : lw_okq (⟨"SquareCode$Optimiser", "is", "(II)Z"⟩, 5) := ⟨⟨by decide +kernel, by decide +kernel⟩, List.mem_of_getElem? (i := 79) (by decide +kernel), List.mem_of_getElem? (i := 266) (by decide +kernel), List.mem_of_getElem? (i := 267) (by decide +kernel)⟩
theorem lw_p6 : lw_okq (⟨"SquareCode$Optimiser", "difference", "(II)I"⟩, 5) := ⟨⟨by decide +kernel, by decide +kernel⟩, List.mem_of_getElem? (i := 79) (by decide +kernel), List.mem_of_getElem? (i := 281) (by decide +kernel), List.mem_of_getElem? (i := 282) (by decide +kernel)⟩
theorem lw_p7 : lw_okq (⟨"SquareCode$Optimiser", "nought", "()I"⟩, 5) := ⟨⟨by decide +kernel, by decide +kernel⟩, List.mem_of_getElem? (i := 79) (by decide +kernel), List.mem_of_getElem? (i := 285) (by decide +kernel), List.mem_of_getElem? (i := 286) (by decide +kernel)⟩
theorem lw_p8 : lw_okq (⟨"SquareCode$Optimiser", "product", "(II)I"⟩, 5) := ⟨⟨by decide +kernel, by decide +kernel⟩, List.mem_of_getElem? (i := 79) (by decide +kernel), List.mem_of_getElem? (i := 289) (by decide +kernel), List.mem_of_getElem? (i := 290) (by decide +kernel)⟩
theorem lw_p9 : lw_okq (⟨"SquareCode$Optimiser", "turned", "(I)I"⟩, 5) := ⟨⟨by decide +kernel, by decide +kernel⟩, List.mem_of_getElem? (i := 79) (by decide +kernel), List.mem_of_getElem? (i := 293) (by decide +kernel), List.mem_of_getElem? (i := 294) (by decide +kernel)⟩
theorem lw_p10 : lw_okq (⟨"SquareCode$Optimiser", "scaled", "(II)I"⟩, 5) := ⟨⟨by decide +kernel, by decide +kernel⟩, List.mem_of_getElem? (i := 79) (by decide +kernel), List.mem_of_getElem? (i := 297) (by decide +kernel), List.mem_of_getElem? (i := 298) (by decide +kernel)⟩
theorem lw_p11 : lw_okq (⟨"SquareCode$Optimiser", "markNeeded", "(I)V"⟩, 5) := ⟨⟨by decide +kernel, by decide +kernel⟩, List.mem_of_getElem? (i := 79) (by decide +kernel), List.mem_of_getElem? (i := 305) (by decide +kernel), List.mem_of_getElem? (i := 306) (by decide +kernel)⟩
theorem lw_p12 : lw_okq (⟨"SquareCode$Optimiser", "rewrite", "(LSquareCode$Code;)V"⟩, 5) := ⟨⟨by decide +kernel, by decide +kernel⟩, List.mem_of_getElem? (i := 79) (by decide +kernel), List.mem_of_getElem? (i := 310) (by decide +kernel), List.mem_of_getElem? (i := 311) (by decide +kernel)⟩
theorem lw_p13 : lw_okq (⟨"SquareCode$Optimiser", "rewritten", "(ILSquareCode$Code;)I"⟩, 5) := ⟨⟨by decide +kernel, by decide +kernel⟩, List.mem_of_getElem? (i := 79) (by decide +kernel), List.mem_of_getElem? (i := 314) (by decide +kernel), List.mem_of_getElem? (i := 315) (by decide +kernel)⟩
theorem lw_p14 : lw_okq (⟨"SquareCode$Matrices", "makeOne", "(I)V"⟩, 5) := ⟨⟨by decide +kernel, by decide +kernel⟩, List.mem_of_getElem? (i := 20) (by decide +kernel), List.mem_of_getElem? (i := 339) (by decide +kernel), List.mem_of_getElem? (i := 340) (by decide +kernel)⟩
theorem lw_p15 : lw_okq (⟨"SquareCode$Matrices", "combine", "(IIII)V"⟩, 5) := ⟨⟨by decide +kernel, by decide +kernel⟩, List.mem_of_getElem? (i := 20) (by decide +kernel), List.mem_of_getElem? (i := 348) (by decide +kernel), List.mem_of_getElem? (i := 349) (by decide +kernel)⟩
def lw_privs_1 : List (MethodName × Nat) := [(⟨"SquareCode", "hasCode", "()Z"⟩, 7), (⟨"SquareCode", "rewind", "()V"⟩, 7), (⟨"SquareCode$Compiler", "instructionsFor", "(IIILSquareCode$Code;)I"⟩, 1), (⟨"SquareCode$Optimiser", "value", "(III)I"⟩, 5), (⟨"SquareCode$Optimiser", "sum", "(II)I"⟩, 5), (⟨"SquareCode$Optimiser", "is", "(II)Z"⟩, 5), (⟨"SquareCode$Optimiser", "difference", "(II)I"⟩, 5), (⟨"SquareCode$Optimiser", "nought", "()I"⟩, 5), (⟨"SquareCode$Optimiser", "product", "(II)I"⟩, 5), (⟨"SquareCode$Optimiser", "turned", "(I)I"⟩, 5), (⟨"SquareCode$Optimiser", "scaled", "(II)I"⟩, 5), (⟨"SquareCode$Optimiser", "markNeeded", "(I)V"⟩, 5), (⟨"SquareCode$Optimiser", "rewrite", "(LSquareCode$Code;)V"⟩, 5), (⟨"SquareCode$Optimiser", "rewritten", "(ILSquareCode$Code;)I"⟩, 5), (⟨"SquareCode$Matrices", "makeOne", "(I)V"⟩, 5), (⟨"SquareCode$Matrices", "combine", "(IIII)V"⟩, 5)]
theorem lw_r1 : ∀ q ∈ lw_privs_1, lw_okq q := List.forall_mem_cons.mpr ⟨lw_p0, List.forall_mem_cons.mpr ⟨lw_p1, List.forall_mem_cons.mpr ⟨lw_p2, List.forall_mem_cons.mpr ⟨lw_p3, List.forall_mem_cons.mpr ⟨lw_p4, List.forall_mem_cons.mpr ⟨lw_p5, List.forall_mem_cons.mpr ⟨lw_p6, List.forall_mem_cons.mpr ⟨lw_p7, List.forall_mem_cons.mpr ⟨lw_p8, List.forall_mem_cons.mpr ⟨lw_p9, List.forall_mem_cons.mpr ⟨lw_p10, List.forall_mem_cons.mpr ⟨lw_p11, List.forall_mem_cons.mpr ⟨lw_p12, List.forall_mem_cons.mpr ⟨lw_p13, List.forall_mem_cons.mpr ⟨lw_p14, List.forall_mem_cons.mpr ⟨lw_p15, fun _ h => absurd h List.not_mem_nil⟩⟩⟩⟩⟩⟩⟩⟩⟩⟩⟩⟩⟩⟩⟩⟩
theorem lw_p16 : lw_okq (⟨"SquareCode$Matrices", "multiply", "(III)V"⟩, 5) := ⟨⟨by decide +kernel, by decide +kernel⟩, List.mem_of_getElem? (i := 20) (by decide +kernel), List.mem_of_getElem? (i := 352) (by decide +kernel), List.mem_of_getElem? (i := 353) (by decide +kernel)⟩
theorem lw_p17 : lw_okq (⟨"SquareCode$Matrices", "keepFresh", "(I)V"⟩, 5) := ⟨⟨by decide +kernel, by decide +kernel⟩, List.mem_of_getElem? (i := 20) (by decide +kernel), List.mem_of_getElem? (i := 360) (by decide +kernel), List.mem_of_getElem? (i := 361) (by decide +kernel)⟩
theorem lw_p18 : lw_okq (⟨"SquareCode$Matrices", "turn", "(II)V"⟩, 5) := ⟨⟨by decide +kernel, by decide +kernel⟩, List.mem_of_getElem? (i := 20) (by decide +kernel), List.mem_of_getElem? (i := 364) (by decide +kernel), List.mem_of_getElem? (i := 365) (by decide +kernel)⟩
theorem lw_p19 : lw_okq (⟨"SquareCode$Matrices", "scale", "(III)V"⟩, 5) := ⟨⟨by decide +kernel, by decide +kernel⟩, List.mem_of_getElem? (i := 20) (by decide +kernel), List.mem_of_getElem? (i := 368) (by decide +kernel), List.mem_of_getElem? (i := 369) (by decide +kernel)⟩
theorem lw_p20 : lw_okq (⟨"SquareCode", "isAllDone", "()Z"⟩, 7) := ⟨⟨by decide +kernel, by decide +kernel⟩, List.mem_of_getElem? (i := 12) (by decide +kernel), List.mem_of_getElem? (i := 372) (by decide +kernel), List.mem_of_getElem? (i := 373) (by decide +kernel)⟩
theorem lw_p21 : lw_okq (⟨"SquareCode", "workOut", "()V"⟩, 7) := ⟨⟨by decide +kernel, by decide +kernel⟩, List.mem_of_getElem? (i := 12) (by decide +kernel), List.mem_of_getElem? (i := 380) (by decide +kernel), List.mem_of_getElem? (i := 381) (by decide +kernel)⟩
theorem lw_p22 : lw_okq (⟨"SquareCodeModel", "isPlace", "(II)Z"⟩, 24) := ⟨⟨by decide +kernel, by decide +kernel⟩, List.mem_of_getElem? (i := 439) (by decide +kernel), List.mem_of_getElem? (i := 529) (by decide +kernel), List.mem_of_getElem? (i := 530) (by decide +kernel)⟩
theorem lw_p23 : lw_okq (⟨"SquareCodeModel", "mod", "(I)I"⟩, 24) := ⟨⟨by decide +kernel, by decide +kernel⟩, List.mem_of_getElem? (i := 439) (by decide +kernel), List.mem_of_getElem? (i := 533) (by decide +kernel), List.mem_of_getElem? (i := 534) (by decide +kernel)⟩
theorem lw_p24 : lw_okq (⟨"SquareCodeModel", "put", "(IIII)V"⟩, 24) := ⟨⟨by decide +kernel, by decide +kernel⟩, List.mem_of_getElem? (i := 439) (by decide +kernel), List.mem_of_getElem? (i := 537) (by decide +kernel), List.mem_of_getElem? (i := 538) (by decide +kernel)⟩
theorem lw_p25 : lw_okq (⟨"SquareCodeModel", "fault", "()I"⟩, 24) := ⟨⟨by decide +kernel, by decide +kernel⟩, List.mem_of_getElem? (i := 439) (by decide +kernel), List.mem_of_getElem? (i := 545) (by decide +kernel), List.mem_of_getElem? (i := 546) (by decide +kernel)⟩
theorem lw_p26 : lw_okq (⟨"SquareCodeModel", "raise", "(II)V"⟩, 24) := ⟨⟨by decide +kernel, by decide +kernel⟩, List.mem_of_getElem? (i := 439) (by decide +kernel), List.mem_of_getElem? (i := 558) (by decide +kernel), List.mem_of_getElem? (i := 559) (by decide +kernel)⟩
theorem lw_p27 : lw_okq (⟨"SquareCodeModel", "copy", "(II)V"⟩, 24) := ⟨⟨by decide +kernel, by decide +kernel⟩, List.mem_of_getElem? (i := 439) (by decide +kernel), List.mem_of_getElem? (i := 562) (by decide +kernel), List.mem_of_getElem? (i := 563) (by decide +kernel)⟩
theorem lw_p28 : lw_okq (⟨"SquareCodeModel", "operate", "(IIIII)V"⟩, 24) := ⟨⟨by decide +kernel, by decide +kernel⟩, List.mem_of_getElem? (i := 439) (by decide +kernel), List.mem_of_getElem? (i := 566) (by decide +kernel), List.mem_of_getElem? (i := 567) (by decide +kernel)⟩
theorem lw_p29 : lw_okq (⟨"SquareCodeModel", "get", "(III)I"⟩, 24) := ⟨⟨by decide +kernel, by decide +kernel⟩, List.mem_of_getElem? (i := 439) (by decide +kernel), List.mem_of_getElem? (i := 570) (by decide +kernel), List.mem_of_getElem? (i := 571) (by decide +kernel)⟩
theorem lw_p30 : lw_okq (⟨"SquareCodeModel", "writePower", "(II)I"⟩, 24) := ⟨⟨by decide +kernel, by decide +kernel⟩, List.mem_of_getElem? (i := 439) (by decide +kernel), List.mem_of_getElem? (i := 584) (by decide +kernel), List.mem_of_getElem? (i := 585) (by decide +kernel)⟩
theorem lw_p31 : lw_okq (⟨"SquareCodeModel", "write", "(IIII)I"⟩, 24) := ⟨⟨by decide +kernel, by decide +kernel⟩, List.mem_of_getElem? (i := 439) (by decide +kernel), List.mem_of_getElem? (i := 588) (by decide +kernel), List.mem_of_getElem? (i := 589) (by decide +kernel)⟩
def lw_privs_2 : List (MethodName × Nat) := [(⟨"SquareCode$Matrices", "multiply", "(III)V"⟩, 5), (⟨"SquareCode$Matrices", "keepFresh", "(I)V"⟩, 5), (⟨"SquareCode$Matrices", "turn", "(II)V"⟩, 5), (⟨"SquareCode$Matrices", "scale", "(III)V"⟩, 5), (⟨"SquareCode", "isAllDone", "()Z"⟩, 7), (⟨"SquareCode", "workOut", "()V"⟩, 7), (⟨"SquareCodeModel", "isPlace", "(II)Z"⟩, 24), (⟨"SquareCodeModel", "mod", "(I)I"⟩, 24), (⟨"SquareCodeModel", "put", "(IIII)V"⟩, 24), (⟨"SquareCodeModel", "fault", "()I"⟩, 24), (⟨"SquareCodeModel", "raise", "(II)V"⟩, 24), (⟨"SquareCodeModel", "copy", "(II)V"⟩, 24), (⟨"SquareCodeModel", "operate", "(IIIII)V"⟩, 24), (⟨"SquareCodeModel", "get", "(III)I"⟩, 24), (⟨"SquareCodeModel", "writePower", "(II)I"⟩, 24), (⟨"SquareCodeModel", "write", "(IIII)I"⟩, 24)]
theorem lw_r2 : ∀ q ∈ lw_privs_2, lw_okq q := List.forall_mem_cons.mpr ⟨lw_p16, List.forall_mem_cons.mpr ⟨lw_p17, List.forall_mem_cons.mpr ⟨lw_p18, List.forall_mem_cons.mpr ⟨lw_p19, List.forall_mem_cons.mpr ⟨lw_p20, List.forall_mem_cons.mpr ⟨lw_p21, List.forall_mem_cons.mpr ⟨lw_p22, List.forall_mem_cons.mpr ⟨lw_p23, List.forall_mem_cons.mpr ⟨lw_p24, List.forall_mem_cons.mpr ⟨lw_p25, List.forall_mem_cons.mpr ⟨lw_p26, List.forall_mem_cons.mpr ⟨lw_p27, List.forall_mem_cons.mpr ⟨lw_p28, List.forall_mem_cons.mpr ⟨lw_p29, List.forall_mem_cons.mpr ⟨lw_p30, List.forall_mem_cons.mpr ⟨lw_p31, fun _ h => absurd h List.not_mem_nil⟩⟩⟩⟩⟩⟩⟩⟩⟩⟩⟩⟩⟩⟩⟩⟩
theorem lw_p32 : lw_okq (⟨"SquareCodeModel", "valueOfInstruction", "(I)I"⟩, 24) := ⟨⟨by decide +kernel, by decide +kernel⟩, List.mem_of_getElem? (i := 439) (by decide +kernel), List.mem_of_getElem? (i := 596) (by decide +kernel), List.mem_of_getElem? (i := 597) (by decide +kernel)⟩
theorem lw_p33 : lw_okq (⟨"SquareCodeModel", "added", "(II)I"⟩, 24) := ⟨⟨by decide +kernel, by decide +kernel⟩, List.mem_of_getElem? (i := 439) (by decide +kernel), List.mem_of_getElem? (i := 600) (by decide +kernel), List.mem_of_getElem? (i := 601) (by decide +kernel)⟩
theorem lw_p34 : lw_okq (⟨"SquareCodeModel", "value", "(IIII)I"⟩, 24) := ⟨⟨by decide +kernel, by decide +kernel⟩, List.mem_of_getElem? (i := 439) (by decide +kernel), List.mem_of_getElem? (i := 604) (by decide +kernel), List.mem_of_getElem? (i := 605) (by decide +kernel)⟩
theorem lw_p35 : lw_okq (⟨"SquareCodeModel", "less", "(II)I"⟩, 24) := ⟨⟨by decide +kernel, by decide +kernel⟩, List.mem_of_getElem? (i := 439) (by decide +kernel), List.mem_of_getElem? (i := 608) (by decide +kernel), List.mem_of_getElem? (i := 609) (by decide +kernel)⟩
theorem lw_p36 : lw_okq (⟨"SquareCodeModel", "noughts", "()I"⟩, 24) := ⟨⟨by decide +kernel, by decide +kernel⟩, List.mem_of_getElem? (i := 439) (by decide +kernel), List.mem_of_getElem? (i := 612) (by decide +kernel), List.mem_of_getElem? (i := 613) (by decide +kernel)⟩
theorem lw_p37 : lw_okq (⟨"SquareCodeModel", "times", "(II)I"⟩, 24) := ⟨⟨by decide +kernel, by decide +kernel⟩, List.mem_of_getElem? (i := 439) (by decide +kernel), List.mem_of_getElem? (i := 616) (by decide +kernel), List.mem_of_getElem? (i := 617) (by decide +kernel)⟩
theorem lw_p38 : lw_okq (⟨"SquareCodeModel", "turned", "(I)I"⟩, 24) := ⟨⟨by decide +kernel, by decide +kernel⟩, List.mem_of_getElem? (i := 439) (by decide +kernel), List.mem_of_getElem? (i := 620) (by decide +kernel), List.mem_of_getElem? (i := 621) (by decide +kernel)⟩
theorem lw_p39 : lw_okq (⟨"SquareCodeModel", "scaled", "(II)I"⟩, 24) := ⟨⟨by decide +kernel, by decide +kernel⟩, List.mem_of_getElem? (i := 439) (by decide +kernel), List.mem_of_getElem? (i := 624) (by decide +kernel), List.mem_of_getElem? (i := 625) (by decide +kernel)⟩
def lw_privs_3 : List (MethodName × Nat) := [(⟨"SquareCodeModel", "valueOfInstruction", "(I)I"⟩, 24), (⟨"SquareCodeModel", "added", "(II)I"⟩, 24), (⟨"SquareCodeModel", "value", "(IIII)I"⟩, 24), (⟨"SquareCodeModel", "less", "(II)I"⟩, 24), (⟨"SquareCodeModel", "noughts", "()I"⟩, 24), (⟨"SquareCodeModel", "times", "(II)I"⟩, 24), (⟨"SquareCodeModel", "turned", "(I)I"⟩, 24), (⟨"SquareCodeModel", "scaled", "(II)I"⟩, 24)]
theorem lw_r3 : ∀ q ∈ lw_privs_3, lw_okq q := List.forall_mem_cons.mpr ⟨lw_p32, List.forall_mem_cons.mpr ⟨lw_p33, List.forall_mem_cons.mpr ⟨lw_p34, List.forall_mem_cons.mpr ⟨lw_p35, List.forall_mem_cons.mpr ⟨lw_p36, List.forall_mem_cons.mpr ⟨lw_p37, List.forall_mem_cons.mpr ⟨lw_p38, List.forall_mem_cons.mpr ⟨lw_p39, fun _ h => absurd h List.not_mem_nil⟩⟩⟩⟩⟩⟩⟩⟩
def lw_privs : List (MethodName × Nat) := lw_privs_1 ++ (lw_privs_2 ++ (lw_privs_3))
def lw_tbl : List Cond := k2_sels lw_privs ++ tables_1
theorem lw_privs_ok : ∀ q ∈ lw_privs, lw_okq q := by
  show ∀ q ∈ lw_privs_1 ++ (lw_privs_2 ++ (lw_privs_3)), lw_okq q
  exact List.forall_mem_append.mpr ⟨lw_r1, List.forall_mem_append.mpr ⟨lw_r2, lw_r3⟩⟩
end
section
abbrev R_C : String := "SquareCode$Code"
def T_C : u_T := fun k => match k with
  | 0 => ("SquareCode$Code", "instructions", "[I", true)
  | _ => ("SquareCode$Code", "length", "I", false)
def ty_C : Nat → FieldType := fun k => match k with
  | 0 => .array .int
  | _ => .int
theorem nm_C : ∀ a, a < 2 → ∀ b, b < 2 → a ≠ b → (T_C a).2.1 ≠ (T_C b).2.1 := by decide +kernel
theorem tyo_C : ∀ k, k < 2 → parseFieldDescriptor (T_C k).2.2.1 = some (ty_C k) := by decide +kernel
abbrev R_P : String := "SquareCode$Compiler"
def T_P : u_T := fun k => match k with
  | _ => ("SquareCode$Compiler", "registers", "[I", true)
def ty_P : Nat → FieldType := fun k => match k with
  | _ => .array .int
theorem nm_P : ∀ a, a < 1 → ∀ b, b < 1 → a ≠ b → (T_P a).2.1 ≠ (T_P b).2.1 := by decide +kernel
theorem tyo_P : ∀ k, k < 1 → parseFieldDescriptor (T_P k).2.2.1 = some (ty_P k) := by decide +kernel
abbrev R_M : String := "SquareCode$Matrices"
def T_M : u_T := fun k => match k with
  | 0 => ("SquareCode$Matrices", "modulus", "I", true)
  | 1 => ("SquareCode$Matrices", "side", "I", true)
  | 2 => ("SquareCode$Matrices", "size", "I", true)
  | 3 => ("SquareCode$Matrices", "cells", "[I", true)
  | _ => ("SquareCode$Matrices", "fresh", "[I", true)
def ty_M : Nat → FieldType := fun k => match k with
  | 0 => .int
  | 1 => .int
  | 2 => .int
  | 3 => .array .int
  | _ => .array .int
theorem nm_M : ∀ a, a < 5 → ∀ b, b < 5 → a ≠ b → (T_M a).2.1 ≠ (T_M b).2.1 := by decide +kernel
theorem tyo_M : ∀ k, k < 5 → parseFieldDescriptor (T_M k).2.2.1 = some (ty_M k) := by decide +kernel
abbrev R_O : String := "SquareCode$Optimiser"
def T_O : u_T := fun k => match k with
  | 0 => ("SquareCode$Optimiser", "modulus", "I", true)
  | 1 => ("SquareCode$Optimiser", "values", "LSquareCode$Code;", true)
  | 2 => ("SquareCode$Optimiser", "valueOf", "[I", true)
  | 3 => ("SquareCode$Optimiser", "isNeeded", "[Z", true)
  | _ => ("SquareCode$Optimiser", "registerOf", "[I", true)
def ty_O : Nat → FieldType := fun k => match k with
  | 0 => .int
  | 1 => .object "SquareCode$Code"
  | 2 => .array .int
  | 3 => .array .boolean
  | _ => .array .int
theorem nm_O : ∀ a, a < 5 → ∀ b, b < 5 → a ≠ b → (T_O a).2.1 ≠ (T_O b).2.1 := by decide +kernel
theorem tyo_O : ∀ k, k < 5 → parseFieldDescriptor (T_O k).2.2.1 = some (ty_O k) := by decide +kernel
abbrev R_R : String := "SquareCode$Source"
def T_R : u_T := fun k => match k with
  | 0 => ("SquareCode$Source", "words", "[I", true)
  | _ => ("SquareCode$Source", "length", "I", false)
def ty_R : Nat → FieldType := fun k => match k with
  | 0 => .array .int
  | _ => .int
theorem nm_R : ∀ a, a < 2 → ∀ b, b < 2 → a ≠ b → (T_R a).2.1 ≠ (T_R b).2.1 := by decide +kernel
theorem tyo_R : ∀ k, k < 2 → parseFieldDescriptor (T_R k).2.2.1 = some (ty_R k) := by decide +kernel
abbrev R_X : String := "SquareCode"
def T_X : u_T := fun k => match k with
  | 0 => ("SquareCode", "matrices", "LSquareCode$Matrices;", true)
  | 1 => ("SquareCode", "source", "LSquareCode$Source;", true)
  | 2 => ("SquareCode", "code", "LSquareCode$Code;", true)
  | 3 => ("SquareCode", "compiler", "LSquareCode$Compiler;", true)
  | 4 => ("SquareCode", "optimiser", "LSquareCode$Optimiser;", true)
  | 5 => ("SquareCode", "instructionsDone", "I", false)
  | _ => ("SquareCode", "isWorkedOut", "Z", false)
def ty_X : Nat → FieldType := fun k => match k with
  | 0 => .object "SquareCode$Matrices"
  | 1 => .object "SquareCode$Source"
  | 2 => .object "SquareCode$Code"
  | 3 => .object "SquareCode$Compiler"
  | 4 => .object "SquareCode$Optimiser"
  | 5 => .int
  | _ => .boolean
theorem nm_X : ∀ a, a < 7 → ∀ b, b < 7 → a ≠ b → (T_X a).2.1 ≠ (T_X b).2.1 := by decide +kernel
theorem tyo_X : ∀ k, k < 7 → parseFieldDescriptor (T_X k).2.2.1 = some (ty_X k) := by decide +kernel
abbrev R_N : String := "SquareCodeModel"
def T_N : u_T := fun k => match k with
  | 0 => ("SquareCodeModel", "p", "I", true)
  | 1 => ("SquareCodeModel", "n", "I", true)
  | 2 => ("SquareCodeModel", "words", "I", false)
  | 3 => ("SquareCodeModel", "word", "[I", true)
  | 4 => ("SquareCodeModel", "table", "[I", true)
  | 5 => ("SquareCodeModel", "direct", "[I", true)
  | 6 => ("SquareCodeModel", "hasDirect", "Z", false)
  | 7 => ("SquareCodeModel", "compiled", "Z", false)
  | 8 => ("SquareCodeModel", "size", "I", false)
  | 9 => ("SquareCodeModel", "op", "[I", true)
  | 10 => ("SquareCodeModel", "a", "[I", true)
  | 11 => ("SquareCodeModel", "b", "[I", true)
  | 12 => ("SquareCodeModel", "x", "[I", true)
  | 13 => ("SquareCodeModel", "outcome", "I", false)
  | 14 => ("SquareCodeModel", "done", "I", false)
  | 15 => ("SquareCodeModel", "there", "[I", true)
  | 16 => ("SquareCodeModel", "values", "I", false)
  | 17 => ("SquareCodeModel", "vOp", "[I", true)
  | 18 => ("SquareCodeModel", "vA", "[I", true)
  | 19 => ("SquareCodeModel", "vB", "[I", true)
  | 20 => ("SquareCodeModel", "vX", "[I", true)
  | 21 => ("SquareCodeModel", "needed", "[Z", true)
  | 22 => ("SquareCodeModel", "valueOf", "[I", true)
  | _ => ("SquareCodeModel", "place", "[I", true)
def ty_N : Nat → FieldType := fun k => match k with
  | 0 => .int
  | 1 => .int
  | 2 => .int
  | 3 => .array .int
  | 4 => .array .int
  | 5 => .array .int
  | 6 => .boolean
  | 7 => .boolean
  | 8 => .int
  | 9 => .array .int
  | 10 => .array .int
  | 11 => .array .int
  | 12 => .array .int
  | 13 => .int
  | 14 => .int
  | 15 => .array .int
  | 16 => .int
  | 17 => .array .int
  | 18 => .array .int
  | 19 => .array .int
  | 20 => .array .int
  | 21 => .array .boolean
  | 22 => .array .int
  | _ => .array .int
theorem nm_N : ∀ a, a < 24 → ∀ b, b < 24 → a ≠ b → (T_N a).2.1 ≠ (T_N b).2.1 := by decide +kernel
theorem tyo_N : ∀ k, k < 24 → parseFieldDescriptor (T_N k).2.2.1 = some (ty_N k) := by decide +kernel
abbrev zCl : List vw_C := [(R_C, T_C, 2), (R_P, T_P, 1), (R_M, T_M, 5), (R_O, T_O, 5), (R_R, T_R, 2), (R_X, T_X, 7), (R_N, T_N, 24)]
abbrev y_X_init : MethodName := ⟨"SquareCode", "<init>", "(II)V"⟩
abbrev y_X_feed : MethodName := ⟨"SquareCode", "feed", "(I)I"⟩
abbrev y_X_setInput : MethodName := ⟨"SquareCode", "setInput", "(IIII)I"⟩
abbrev y_X_compile : MethodName := ⟨"SquareCode", "compile", "()I"⟩
abbrev y_X_optimise : MethodName := ⟨"SquareCode", "optimise", "()I"⟩
abbrev y_X_run : MethodName := ⟨"SquareCode", "run", "(I)I"⟩
abbrev y_X_evalDirect : MethodName := ⟨"SquareCode", "evalDirect", "()I"⟩
abbrev y_X_out : MethodName := ⟨"SquareCode", "out", "(II)I"⟩
abbrev y_X_outDirect : MethodName := ⟨"SquareCode", "outDirect", "(II)I"⟩
abbrev y_X_codeAt : MethodName := ⟨"SquareCode", "codeAt", "(I)I"⟩
abbrev y_X_codeSize : MethodName := ⟨"SquareCode", "codeSize", "()I"⟩
abbrev y_X_products : MethodName := ⟨"SquareCode", "products", "()I"⟩
abbrev y_X_reset : MethodName := ⟨"SquareCode", "reset", "()V"⟩
abbrev y_X_hasCode : MethodName := ⟨"SquareCode", "hasCode", "()Z"⟩
abbrev y_X_isAllDone : MethodName := ⟨"SquareCode", "isAllDone", "()Z"⟩
abbrev y_X_rewind : MethodName := ⟨"SquareCode", "rewind", "()V"⟩
abbrev y_X_workOut : MethodName := ⟨"SquareCode", "workOut", "()V"⟩
abbrev y_X_operandsOf : MethodName := ⟨"SquareCode", "operandsOf", "(I)I"⟩
abbrev y_X_topDigit : MethodName := ⟨"SquareCode", "topDigit", "(I)I"⟩
abbrev y_X_isDigitOne : MethodName := ⟨"SquareCode", "isDigitOne", "(II)Z"⟩
abbrev y_N_init : MethodName := ⟨"SquareCodeModel", "<init>", "(II)V"⟩
abbrev y_N_in : MethodName := ⟨"SquareCodeModel", "in", "(III)Z"⟩
abbrev y_N_isPlace : MethodName := ⟨"SquareCodeModel", "isPlace", "(II)Z"⟩
abbrev y_N_get : MethodName := ⟨"SquareCodeModel", "get", "(III)I"⟩
abbrev y_N_put : MethodName := ⟨"SquareCodeModel", "put", "(IIII)V"⟩
abbrev y_N_mod : MethodName := ⟨"SquareCodeModel", "mod", "(I)I"⟩
abbrev y_N_copy : MethodName := ⟨"SquareCodeModel", "copy", "(II)V"⟩
abbrev y_N_operate : MethodName := ⟨"SquareCodeModel", "operate", "(IIIII)V"⟩
abbrev y_N_raise : MethodName := ⟨"SquareCodeModel", "raise", "(II)V"⟩
abbrev y_N_feed : MethodName := ⟨"SquareCodeModel", "feed", "(I)I"⟩
abbrev y_N_setInput : MethodName := ⟨"SquareCodeModel", "setInput", "(IIII)I"⟩
abbrev y_N_isTwo : MethodName := ⟨"SquareCodeModel", "isTwo", "(I)Z"⟩
abbrev y_N_isOne : MethodName := ⟨"SquareCodeModel", "isOne", "(I)Z"⟩
abbrev y_N_isWord : MethodName := ⟨"SquareCodeModel", "isWord", "(I)Z"⟩
abbrev y_N_fault : MethodName := ⟨"SquareCodeModel", "fault", "()I"⟩
abbrev y_N_evalDirect : MethodName := ⟨"SquareCodeModel", "evalDirect", "()I"⟩
abbrev y_N_write : MethodName := ⟨"SquareCodeModel", "write", "(IIII)I"⟩
abbrev y_N_highest : MethodName := ⟨"SquareCodeModel", "highest", "(I)I"⟩
abbrev y_N_steps : MethodName := ⟨"SquareCodeModel", "steps", "(I)I"⟩
abbrev y_N_writePower : MethodName := ⟨"SquareCodeModel", "writePower", "(II)I"⟩
abbrev y_N_compile : MethodName := ⟨"SquareCodeModel", "compile", "()I"⟩
abbrev y_N_value : MethodName := ⟨"SquareCodeModel", "value", "(IIII)I"⟩
abbrev y_N_noughts : MethodName := ⟨"SquareCodeModel", "noughts", "()I"⟩
abbrev y_N_added : MethodName := ⟨"SquareCodeModel", "added", "(II)I"⟩
abbrev y_N_less : MethodName := ⟨"SquareCodeModel", "less", "(II)I"⟩
abbrev y_N_times : MethodName := ⟨"SquareCodeModel", "times", "(II)I"⟩
abbrev y_N_turned : MethodName := ⟨"SquareCodeModel", "turned", "(I)I"⟩
abbrev y_N_scaled : MethodName := ⟨"SquareCodeModel", "scaled", "(II)I"⟩
abbrev y_N_valueOfInstruction : MethodName := ⟨"SquareCodeModel", "valueOfInstruction", "(I)I"⟩
abbrev y_N_optimise : MethodName := ⟨"SquareCodeModel", "optimise", "()I"⟩
abbrev y_N_run : MethodName := ⟨"SquareCodeModel", "run", "(I)I"⟩
abbrev y_N_out : MethodName := ⟨"SquareCodeModel", "out", "(II)I"⟩
abbrev y_N_outDirect : MethodName := ⟨"SquareCodeModel", "outDirect", "(II)I"⟩
abbrev y_N_codeAt : MethodName := ⟨"SquareCodeModel", "codeAt", "(I)I"⟩
abbrev y_N_codeSize : MethodName := ⟨"SquareCodeModel", "codeSize", "()I"⟩
abbrev y_N_products : MethodName := ⟨"SquareCodeModel", "products", "()I"⟩
abbrev y_N_reset : MethodName := ⟨"SquareCodeModel", "reset", "()V"⟩
abbrev y_C_init : MethodName := ⟨"SquareCode$Code", "<init>", "()V"⟩
abbrev y_C_length : MethodName := ⟨"SquareCode$Code", "length", "()I"⟩
abbrev y_C_clear : MethodName := ⟨"SquareCode$Code", "clear", "()V"⟩
abbrev y_C_instruction : MethodName := ⟨"SquareCode$Code", "instruction", "(I)I"⟩
abbrev y_C_operation : MethodName := ⟨"SquareCode$Code", "operation", "(I)I"⟩
abbrev y_C_first : MethodName := ⟨"SquareCode$Code", "first", "(I)I"⟩
abbrev y_C_second : MethodName := ⟨"SquareCode$Code", "second", "(I)I"⟩
abbrev y_C_result : MethodName := ⟨"SquareCode$Code", "result", "()I"⟩
abbrev y_C_count : MethodName := ⟨"SquareCode$Code", "count", "(I)I"⟩
abbrev y_C_append : MethodName := ⟨"SquareCode$Code", "append", "(III)I"⟩
abbrev y_C_findOrAppend : MethodName := ⟨"SquareCode$Code", "findOrAppend", "(III)I"⟩
abbrev y_C_packed : MethodName := ⟨"SquareCode$Code", "packed", "(III)I"⟩
abbrev y_P_init : MethodName := ⟨"SquareCode$Compiler", "<init>", "()V"⟩
abbrev y_P_translate : MethodName := ⟨"SquareCode$Compiler", "translate", "(LSquareCode$Source;LSquareCode$Code;)V"⟩
abbrev y_P_instructionsFor : MethodName := ⟨"SquareCode$Compiler", "instructionsFor", "(IIILSquareCode$Code;)I"⟩
abbrev y_P_powerOf : MethodName := ⟨"SquareCode$Compiler", "powerOf", "(IILSquareCode$Code;)I"⟩
abbrev y_M_init : MethodName := ⟨"SquareCode$Matrices", "<init>", "(II)V"⟩
abbrev y_M_hasCell : MethodName := ⟨"SquareCode$Matrices", "hasCell", "(II)Z"⟩
abbrev y_M_get : MethodName := ⟨"SquareCode$Matrices", "get", "(III)I"⟩
abbrev y_M_put : MethodName := ⟨"SquareCode$Matrices", "put", "(IIII)V"⟩
abbrev y_M_apply : MethodName := ⟨"SquareCode$Matrices", "apply", "(IIII)V"⟩
abbrev y_M_copy : MethodName := ⟨"SquareCode$Matrices", "copy", "(II)V"⟩
abbrev y_M_makeNought : MethodName := ⟨"SquareCode$Matrices", "makeNought", "(I)V"⟩
abbrev y_M_makeOne : MethodName := ⟨"SquareCode$Matrices", "makeOne", "(I)V"⟩
abbrev y_M_combine : MethodName := ⟨"SquareCode$Matrices", "combine", "(IIII)V"⟩
abbrev y_M_multiply : MethodName := ⟨"SquareCode$Matrices", "multiply", "(III)V"⟩
abbrev y_M_turn : MethodName := ⟨"SquareCode$Matrices", "turn", "(II)V"⟩
abbrev y_M_keepFresh : MethodName := ⟨"SquareCode$Matrices", "keepFresh", "(I)V"⟩
abbrev y_M_scale : MethodName := ⟨"SquareCode$Matrices", "scale", "(III)V"⟩
abbrev y_M_raise : MethodName := ⟨"SquareCode$Matrices", "raise", "(II)V"⟩
abbrev y_O_init : MethodName := ⟨"SquareCode$Optimiser", "<init>", "(I)V"⟩
abbrev y_O_improve : MethodName := ⟨"SquareCode$Optimiser", "improve", "(LSquareCode$Code;)V"⟩
abbrev y_O_value : MethodName := ⟨"SquareCode$Optimiser", "value", "(III)I"⟩
abbrev y_O_is : MethodName := ⟨"SquareCode$Optimiser", "is", "(II)Z"⟩
abbrev y_O_nought : MethodName := ⟨"SquareCode$Optimiser", "nought", "()I"⟩
abbrev y_O_sum : MethodName := ⟨"SquareCode$Optimiser", "sum", "(II)I"⟩
abbrev y_O_difference : MethodName := ⟨"SquareCode$Optimiser", "difference", "(II)I"⟩
abbrev y_O_product : MethodName := ⟨"SquareCode$Optimiser", "product", "(II)I"⟩
abbrev y_O_turned : MethodName := ⟨"SquareCode$Optimiser", "turned", "(I)I"⟩
abbrev y_O_scaled : MethodName := ⟨"SquareCode$Optimiser", "scaled", "(II)I"⟩
abbrev y_O_markNeeded : MethodName := ⟨"SquareCode$Optimiser", "markNeeded", "(I)V"⟩
abbrev y_O_rewrite : MethodName := ⟨"SquareCode$Optimiser", "rewrite", "(LSquareCode$Code;)V"⟩
abbrev y_O_rewritten : MethodName := ⟨"SquareCode$Optimiser", "rewritten", "(ILSquareCode$Code;)I"⟩
abbrev y_R_init : MethodName := ⟨"SquareCode$Source", "<init>", "()V"⟩
abbrev y_R_length : MethodName := ⟨"SquareCode$Source", "length", "()I"⟩
abbrev y_R_isFull : MethodName := ⟨"SquareCode$Source", "isFull", "()Z"⟩
abbrev y_R_append : MethodName := ⟨"SquareCode$Source", "append", "(I)V"⟩
abbrev y_R_clear : MethodName := ⟨"SquareCode$Source", "clear", "()V"⟩
abbrev y_R_operation : MethodName := ⟨"SquareCode$Source", "operation", "(I)I"⟩
abbrev y_R_number : MethodName := ⟨"SquareCode$Source", "number", "(I)I"⟩
abbrev y_R_fault : MethodName := ⟨"SquareCode$Source", "fault", "()I"⟩
abbrev y_R_instructionsNeeded : MethodName := ⟨"SquareCode$Source", "instructionsNeeded", "()I"⟩
abbrev y_R_powerInstructions : MethodName := ⟨"SquareCode$Source", "powerInstructions", "(I)I"⟩
abbrev y_R_isWord : MethodName := ⟨"SquareCode$Source", "isWord", "(I)Z"⟩
abbrev y_L_cell : MethodName := ⟨"SquareCodeLaw", "cell", "([II)I"⟩
abbrev y_L_law : MethodName := ⟨"SquareCodeLaw", "law", "([I)Z"⟩
abbrev y_JM_floorMod : MethodName := ⟨"java/lang/Math", "floorMod", "(II)I"⟩
abbrev y_JI_bitCount : MethodName := ⟨"java/lang/Integer", "bitCount", "(I)I"⟩
end
section
/-! Words: one list for all methods. -/
def zW : List Cond := lw_tbl.filter goodWord
theorem zin (i : Nat) {w : Cond} (h : tables_1[i]? = some w) (hg : goodWord w = true) : w ∈ zW := List.mem_filter.mpr ⟨List.mem_append_right _ (List.mem_of_getElem? h), hg⟩
theorem zinS (i : Nat) {w : Cond} (h : (k2_sels lw_privs)[i]? = some w) (hg : goodWord w = true) : w ∈ zW := List.mem_filter.mpr ⟨List.mem_append_left _ (List.mem_of_getElem? h), hg⟩
theorem z_good {w : Cond} (h : w ∈ zW) : GoodIn zW (w :: zW) := fun x hx => by
  have hx : x ∈ zW := (List.mem_cons.mp hx).elim (fun e => e ▸ h) id
  exact ⟨hx, good_of_word (List.mem_filter.mp hx).2⟩
theorem z_tail {w : Cond} {args : Array Value} {s : State} (h : ∀ x ∈ w :: zW, x.before args s = true) : ∀ x ∈ zW, x.before args s = true := fun x hx => h x (List.mem_cons_of_mem _ hx)
abbrev zHd (y : MethodName) (n : Nat) : Prop := y.cls ≠ "java/lang/invoke/MethodHandle" ∧ y.cls ≠ "java/lang/invoke/VarHandle" ∧ (parseMethodDescriptor y.desc).map (fun d => d.parameters.length) = some n
def zVW (y : MethodName) (b : ByteArray) (ml : Nat) (ret : Option FieldType) (n : Nat) : Prop := Cond.code y b ml ret ∈ zW ∧ Cond.initialized y.cls ∈ zW ∧ Cond.instanceMethod y ∈ zW ∧ Cond.selects y.cls y y ∈ zW ∧ zHd y n
def zSW (y : MethodName) (b : ByteArray) (ml : Nat) (ret : Option FieldType) (n : Nat) : Prop := Cond.code y b ml ret ∈ zW ∧ Cond.initialized y.cls ∈ zW ∧ Cond.static y ∈ zW ∧ zHd y n
def zIW (y : MethodName) (b : ByteArray) (ml : Nat) (n : Nat) : Prop := Cond.code y b ml none ∈ zW ∧ Cond.initialized y.cls ∈ zW ∧ Cond.instanceMethod y ∈ zW ∧ y.name = "<init>" ∧ zHd y n
def zNl : List (String × Nat × MethodName) := [("SquareCode$Source", 27, ⟨"SquareCode", "operandsOf", "(I)I"⟩), ("SquareCode$Source", 36, ⟨"SquareCode", "topDigit", "(I)I"⟩), ("SquareCode$Compiler", 30, ⟨"SquareCode", "operandsOf", "(I)I"⟩), ("SquareCode$Compiler", 48, ⟨"SquareCode", "topDigit", "(I)I"⟩), ("SquareCode$Compiler", 51, ⟨"SquareCode", "isDigitOne", "(II)Z"⟩), ("SquareCode$Optimiser", 99, ⟨"SquareCode", "operandsOf", "(I)I"⟩), ("SquareCode$Matrices", 75, ⟨"SquareCode", "topDigit", "(I)I"⟩), ("SquareCode$Matrices", 79, ⟨"SquareCode", "isDigitOne", "(II)Z"⟩)]
def zNest (U : State) : Prop := ∀ q ∈ zNl, va_Nw (.methodLinkNest q.1 q.2.1 q.2.2 "SquareCode") U
theorem zNestOf (j : Nat) {q : String × Nat × MethodName} {s : State} (hN : zNest s) (h : zNl[j]? = some q) : va_Nw (.methodLinkNest q.1 q.2.1 q.2.2 "SquareCode") s := hN q (List.mem_of_getElem? h)
theorem zNest.warm {s U : State} (hW : s.WarmedH U.vm) (h : zNest s) : zNest U := fun q hq => va_Nw.warmM hW (h q hq)
theorem zNest.same {s U : State} (hv : s.vm = U.vm) (h : zNest s) : zNest U := fun q hq => va_Nw.same rfl hv (h q hq)
/-! My own rows over the kit: pure guards, contracts over a fixed picture, calls with the frame put back in order. -/
def zFU : Nat := 4096
def nm {α β : Type} (x : α) (k : α → Option β) : Option β := k x
def gd {β : Type} (i : Int32) (n : Nat) (k : Option β) : Option β := if i < 0 ∨ n ≤ i.toNatClampNeg then none else k
def nz {β : Type} (y : Int32) (k : Option β) : Option β := if y = 0 then none else k
def cpg {β : Type} (sp dp n : Int32) (n0 n1 : Nat) (k : Option β) : Option β := if sp < 0 ∨ dp < 0 ∨ n < 0 ∨ n0 < sp.toNatClampNeg + n.toNatClampNeg ∨ n1 < dp.toNatClampNeg + n.toNatClampNeg then none else k
def zrem (x y : Int32) : Int32 := x - x / y * y
def zmin (x y : Int32) : Int32 := if y < x then y else x
def zmax (x y : Int32) : Int32 := if x < y then y else x
def zushr (x y : Int32) : Int32 := (x.toUInt32 >>> (y.toUInt32 &&& Int32.toUInt32 31)).toInt32
theorem nm_some {α β : Type} {x : α} {k : α → Option β} {z : β} (h : nm x k = some z) : ∃ u, u = x ∧ k u = some z := ⟨x, rfl, h⟩
theorem gd_some {β : Type} {i : Int32} {n : Nat} {k : Option β} {z : β} (h : gd i n k = some z) : vp_in i n ∧ k = some z := by
  unfold gd at h
  by_cases hc : i < 0 ∨ n ≤ i.toNatClampNeg
  · rw [if_pos hc] at h; cases h
  · rw [if_neg hc] at h; exact ⟨hc, h⟩
theorem nz_some {β : Type} {y : Int32} {k : Option β} {z : β} (h : nz y k = some z) : ¬ y = 0 ∧ k = some z := by
  unfold nz at h
  by_cases hc : y = 0
  · rw [if_pos hc] at h; cases h
  · rw [if_neg hc] at h; exact ⟨hc, h⟩
theorem cpg_some {β : Type} {sp dp n : Int32} {n0 n1 : Nat} {k : Option β} {z : β} (h : cpg sp dp n n0 n1 k = some z) : ¬ sp < 0 ∧ ¬ dp < 0 ∧ ¬ n < 0 ∧ sp.toNatClampNeg + n.toNatClampNeg ≤ n0 ∧ dp.toNatClampNeg + n.toNatClampNeg ≤ n1 ∧ k = some z := by
  unfold cpg at h
  by_cases hc : sp < 0 ∨ dp < 0 ∨ n < 0 ∨ n0 < sp.toNatClampNeg + n.toNatClampNeg ∨ n1 < dp.toNatClampNeg + n.toNatClampNeg
  · rw [if_pos hc] at h; cases h
  · rw [if_neg hc] at h
    refine ⟨fun h1 => hc (Or.inl h1), fun h1 => hc (Or.inr (Or.inl h1)), fun h1 => hc (Or.inr (Or.inr (Or.inl h1))), ?_, ?_, h⟩
    · exact Nat.le_of_not_lt fun h1 => hc (Or.inr (Or.inr (Or.inr (Or.inl h1))))
    · exact Nat.le_of_not_lt fun h1 => hc (Or.inr (Or.inr (Or.inr (Or.inr h1))))
theorem ob {α β : Type} {o : Option α} {f : α → Option β} {z : β} (h : o.bind f = some z) : ∃ r, o = some r ∧ f r = some z := by
  cases o with
  | none => cases h
  | some r => exact ⟨r, rfl, h⟩
theorem z_ne {x c : Int32} {k : Int} (hk : c.toInt = k) (h : ¬ x = c) : ¬ x.toInt = k := fun e => h (Int32.toInt_inj.mp (e.trans hk.symm))
theorem z_fm {α β : Type} {f : α → Option β} {l : List α} {r : List β} (h : l.map f = r.map some) : l.filterMap f = r := by
  induction l generalizing r with
  | nil => cases r with
    | nil => rfl
    | cons a r => cases h
  | cons a l ih => cases r with
    | nil => cases h
    | cons b r =>
      simp only [List.map_cons, List.cons.injEq] at h
      rw [List.filterMap_cons, h.1, ih h.2]
/-- a contract out of a walk, also for a class some of whose methods have entries, where this one has none -/
theorem zofW {l : Launch} {y : MethodName} {ws ws' : List Cond} {rm : Room} {Pc : Array Value → State → Prop} {Qc : Array Value → State → Outcome → State → Prop} {mc ms : Nat} {free : Addr → Prop} {cc : ByteArray} {maxL : Nat} {ret : Option FieldType}
    (hy : plainFor y = true) (hw : ws = Cond.code y cc maxL ret :: ws')
    (body : ∀ p e s m args below meth c s₁, BodyLoose p l y (headSpec ws rm) cc maxL ret e s m args below meth c s₁ → c.maxLocals = maxL → Pc args s →
      W p l e (headSpec ws rm).room s m args below meth c s.heap [] 0 0 (MQ below Qc args s mc ms free) (entryFrame m args maxL)) : Met l y ws rm Pc Qc mc ms free := by
  refine MetFree.of_bodySF (code := cc) (maxLocals := maxL) (ret := ret) hy (fun args s m h hn => ?_) (fun p e s m args below meth c s₁ B hml hP _ => ?_)
  · obtain ⟨meth, c, h1, h2, h3, h4, h5, h6, -, -⟩ := Cond.code_spec hn (atoms_spec (ws := ws) h _ (by rw [hw]; exact List.mem_cons_self))
    exact ⟨meth, c, h1, h2, h3, h4, h5, h6⟩
  · have hh : s₁.heap = s.heap := by rw [B.state]; rfl
    obtain ⟨t, a1, o, b1, b2, b3, b4⟩ := body p e s m args below meth c s₁ B hml hP s₁ hh (Stand.of_body B)
    exact ⟨t, o, a1, b1, b2, b3, b4⟩
abbrev zT (kI kZ : ClassId) : List (ClassId × FieldType) := [(kI, .int), (kZ, .boolean)]
def zP (D : va_G) (kI kZ : ClassId) (ws : va_W) (sz : Nat) (U : State) : Prop := U.heap.size = sz ∧ va_P D zCl ws U.heap ∧ va_K D zCl (zT kI kZ) U ∧ va_D (fun _ => True) ws ∧ zNest U
def zB (D : va_G) (kI kZ : ClassId) (A : Nat → Prop) (ws : va_W) (_ : Unit) (t : State) : Prop := va_P D zCl ws t.heap ∧ va_K D zCl (zT kI kZ) t ∧ va_D A ws
/-- a method that answers r and turns the cells w into w' -/
def zMi (l : Launch) (D : va_G) (kI kZ : ClassId) (y : MethodName) (cc : ByteArray) (maxL : Nat) (ret : Option FieldType) (fr lo : Nat) (av : List Value) (w w' : va_W) (r : Int32) : Prop :=
  ∀ sz : Nat, Met l y (Cond.code y cc maxL ret :: zW) { frames := fr, cells := 0, slots := 0, locals := lo } (va_Pc av (zP D kI kZ w sz)) (va_Qi (fun (z : Int32) (_ : Unit) => z = r) (zB D kI kZ (va_A w sz) w') (va_A w sz)) 0 0 (va_A w sz)
/-- a method that answers nothing and turns the cells w into w' -/
def zMv (l : Launch) (D : va_G) (kI kZ : ClassId) (y : MethodName) (cc : ByteArray) (maxL : Nat) (ret : Option FieldType) (fr lo : Nat) (av : List Value) (w w' : va_W) : Prop :=
  ∀ sz : Nat, Met l y (Cond.code y cc maxL ret :: zW) { frames := fr, cells := 0, slots := 0, locals := lo } (va_Pc av (zP D kI kZ w sz)) (va_Qv (fun (_ : Unit) => True) (zB D kI kZ (va_A w sz) w') (va_A w sz)) 0 0 (va_A w sz)
theorem zMi.of {l : Launch} {D : va_G} {kI kZ : ClassId} {y : MethodName} {fr lo : Nat} {av : List Value} {w w' : va_W} {r : Int32} {cc : ByteArray} {maxL : Nat} {ty : FieldType}
    (hy : plainFor y = true) (hle : (lg_sl av).length ≤ maxL)
    (body : ∀ (p : Program) (e : Env) (R : Room) (s : State) (m : MethodId) (args : Array Value) (below : List Frame) (meth : Method) (c : Code) (Q : State → Prop) (A : Nat → Prop),
      R = { frames := fr, cells := 0, slots := 0, locals := lo } → p.tables.exec = Jvm.exec → c.code = cc → c.maxLocals = maxL → (∀ x ∈ zW, x.before args s = true) → s.vm.findClass y.cls = some m.cls → (∀ q : Nat, s.heap.size ≤ q → A q) → va_K D zCl (zT kI kZ) s → zNest s →
      (∀ (H : Heap) (locs : List Loc) (pc : Nat) (ls : Array Slot) (v : Int32), decode cc pc = .ok (.ireturn, 1) → narrow ty (.int v) = .int v → v = r → va_P D zCl w' H → va_D A w' → va_S A s.heap H locs → W p l e R s m args below meth c H locs 0 0 Q (F0 m pc ls [.int v])) →
      ∀ (ls : Array Slot) (H : Heap), lv_has ls maxL (lv_args 0 av) → va_P D zCl w H → va_D A w → va_S A s.heap H [] → W p l e R s m args below meth c H [] 0 0 Q (F0 m 0 ls [])) : zMi l D kI kZ y cc maxL (some ty) fr lo av w w' r := by
  intro sz
  refine zofW (cc := cc) (maxL := maxL) (ret := some ty) hy rfl ?_
  intro p e s m args below meth c s₁ B hml hv
  obtain ⟨rfl, hsz, hP, hK, hD0, hN⟩ := hv
  have hx := B.exec
  have hb := B.bytes
  have hr := B.returns
  have hts := z_tail (atoms_spec (ws := Cond.code y cc maxL (some ty) :: zW) B.pre)
  have hown : s.vm.findClass y.cls = some m.cls := findClass_of_methodNamed B.named
  have hlocks := B.notSynchronized
  subst hsz
  have hD := hD0.self (sz := s.heap.size)
  have hl := lv_entry av (n := maxL) hle
  rw [lg_entry_eq]
  exact body p e _ s m _ below meth c _ (va_A w s.heap.size) rfl hx hb hml hts hown (fun q h => Or.inr h) hK hN
    (fun H locs pc ls v hd hn hv hP hD hS => W.zret hx hb hr hn (fun t ht hW => ⟨⟨v, (), rfl, hv, by rw [ht]; exact hP, va_K.moved hW.alike hK, hD⟩, hS.F ht⟩) hS.2.2 hd hlocks) _ _ hl hP hD va_S.rf
theorem zMv.of {l : Launch} {D : va_G} {kI kZ : ClassId} {y : MethodName} {fr lo : Nat} {av : List Value} {w w' : va_W} {cc : ByteArray} {maxL : Nat}
    (hy : plainFor y = true) (hle : (lg_sl av).length ≤ maxL)
    (body : ∀ (p : Program) (e : Env) (R : Room) (s : State) (m : MethodId) (args : Array Value) (below : List Frame) (meth : Method) (c : Code) (Q : State → Prop) (A : Nat → Prop),
      R = { frames := fr, cells := 0, slots := 0, locals := lo } → p.tables.exec = Jvm.exec → c.code = cc → c.maxLocals = maxL → (∀ x ∈ zW, x.before args s = true) → s.vm.findClass y.cls = some m.cls → (∀ q : Nat, s.heap.size ≤ q → A q) → va_K D zCl (zT kI kZ) s → zNest s →
      (∀ (H : Heap) (locs : List Loc) (pc : Nat) (ls : Array Slot), decode cc pc = .ok (.return_, 1) → va_P D zCl w' H → va_D A w' → va_S A s.heap H locs → W p l e R s m args below meth c H locs 0 0 Q (F0 m pc ls [])) →
      ∀ (ls : Array Slot) (H : Heap), lv_has ls maxL (lv_args 0 av) → va_P D zCl w H → va_D A w → va_S A s.heap H [] → W p l e R s m args below meth c H [] 0 0 Q (F0 m 0 ls [])) : zMv l D kI kZ y cc maxL none fr lo av w w' := by
  intro sz
  refine zofW (cc := cc) (maxL := maxL) (ret := none) hy rfl ?_
  intro p e s m args below meth c s₁ B hml hv
  obtain ⟨rfl, hsz, hP, hK, hD0, hN⟩ := hv
  have hx := B.exec
  have hb := B.bytes
  have hr := B.returns
  have hts := z_tail (atoms_spec (ws := Cond.code y cc maxL none :: zW) B.pre)
  have hown : s.vm.findClass y.cls = some m.cls := findClass_of_methodNamed B.named
  have hlocks := B.notSynchronized
  subst hsz
  have hD := hD0.self (sz := s.heap.size)
  have hl := lv_entry av (n := maxL) hle
  rw [lg_entry_eq]
  exact body p e _ s m _ below meth c _ (va_A w s.heap.size) rfl hx hb hml hts hown (fun q h => Or.inr h) hK hN
    (fun H locs pc ls hd hP hD hS => W.vret hx hb hr (fun t ht hW => ⟨⟨(), rfl, trivial, by rw [ht]; exact hP, va_K.moved hW.alike hK, hD⟩, hS.F ht⟩) hS.2.2 hd hlocks) _ _ hl hP hD va_S.rf
section ZRows
variable {p : Program} {l : Launch} {e : Env} {R : Room} {s : State} {m : MethodId} {args : Array Value} {below : List Frame} {meth : Method} {c : Code} {H : Heap} {locs : List Loc} {Q : State → Prop}
variable {cc : ByteArray} {pc : Nat} {ls : Array Slot} {rest : List Value} {cells slots : Nat}
theorem z_top {x y : Int32} (e1 : y = x) (k : W p l e R s m args below meth c H locs cells slots Q (F0 m pc ls (.int y :: rest))) : W p l e R s m args below meth c H locs cells slots Q (F0 m pc ls (.int x :: rest)) := e1 ▸ k
theorem z_irem (hexec : p.tables.exec = Jvm.exec) (hb : c.code = cc) {x y : Int32} (hdg : decode cc pc = .ok (.irem, 1)) (hne : ¬ y = 0)
    (k : W p l e R s m args below meth c H locs cells slots Q (F0 m (pc + 1) ls (.int (zrem x y) :: rest))) : W p l e R s m args below meth c H locs cells slots Q (F0 m pc ls (.int y :: .int x :: rest)) := lv_irem hexec hb hdg hne k
theorem zP_blind {D : va_G} {kI kZ : ClassId} {av : List Value} {w : va_W} {sz : Nat} : FrameBlind (va_Pc av (zP D kI kZ w sz)) := fun a U g mk q => by
  obtain ⟨q0, q1, qP, qK, qD, qN⟩ := q
  exact ⟨q0, q1, qP, va_K.moved (u := U) (U := U.calling g mk a) (Vm.Alike.refl U.vm) qK, qD, zNest.same (s := U) (U := U.calling g mk a) rfl qN⟩
theorem z_pre {D : va_G} {kI kZ : ClassId} {As : List Value} {ws wc : va_W} {A : Nat → Prop} (hK : va_K D zCl (zT kI kZ) s) (hP : va_P D zCl ws H) (hD : va_D A ws) (hN : zNest s) (isC : List Nat) (hn : va_nd isC = true) (hC : isC.map (fun i => ws[i]?) = wc.map some) : PreS s H (va_Pc As (zP D kI kZ wc H.size)) As :=
  ⟨zP_blind, fun U hU hW => ⟨rfl, by rw [hU], by rw [hU]; exact hP.sub isC (z_fm hC), va_K.moved hW.alike hK, (hD.sub isC hn hC).weaken (fun _ _ _ _ => trivial), zNest.warm hW hN⟩⟩
theorem z_preV {D : va_G} {kI kZ : ClassId} {As : List Value} {ws wc : va_W} {A : Nat → Prop} {b q0 ci N : Nat} {C : String} {T : u_T} {fs : List Value} (hK : va_K D zCl (zT kI kZ) s) (hP : va_P D zCl ws H) (hD : va_D A ws) (hN : zNest s) (hc : zCl[ci]? = some (C, T, N)) (he : ws[q0]? = some (b, .inr (ci, fs))) (isC : List Nat) (hn : va_nd isC = true) (hC : isC.map (fun i => ws[i]?) = wc.map some) : PreV s H C b (va_Pc (.ref b :: As) (zP D kI kZ wc H.size)) As :=
  ⟨zP_blind, va_recv hK hP hc he, (z_pre hK hP hD hN isC hn hC).2⟩
/-- behind a call that answers an int -/
theorem z_ci {st0 : List Value} {a : Array Value} {A : Nat → Prop} {H0 : Heap} {D : va_G} {kI kZ : ClassId} {ws wc wr w1 w2 : va_W} {r : Int32}
    (hr : va_Run p l e R s m args below meth c H locs 0 0 0 0 (F0 m pc ls st0) rest (va_Qi (fun (z : Int32) (_ : Unit) => z = r) (zB D kI kZ (va_A wc H.size) w1) (va_A wc H.size) a) (va_A wc H.size))
    (hP : va_P D zCl ws H) (hD : va_D A ws) (hS : va_S A H0 H locs) (hA : ∀ q : Nat, H0.size ≤ q → A q) (isC isR pm : List Nat) (hC : isC.map (fun i => ws[i]?) = wc.map some) (hR : isR.map (fun i => ws[i]?) = wr.map some) (hn : va_nd isR = true) (hdis : ∀ i ∈ isR, i ∉ isC) (hpm : pm.map (fun i => (wr ++ w1)[i]?) = w2.map some) (hpn : va_nd pm = true)
    (kk : ∀ (H1 : Heap) (locs1 : List Loc), va_P D zCl w2 H1 → va_D A w2 → va_S A H0 H1 locs1 → W p l e R s m args below meth c H1 locs1 0 0 Q (F0 m (pc + 3) ls (.int r :: rest))) : W p l e R s m args below meth c H locs 0 0 Q (F0 m pc ls st0) := by
  have hFc := va_free (wc := wc) hD hS hA isC hC
  refine va_calli hr hS (fun q _ h => hFc q h) hFc (fun z u t H1 locs1 ht hvm h5 hB hz1 hk1 hS => ?_)
  obtain ⟨hP1, hK1, hD1⟩ := hB
  rw [ht] at hP1
  obtain ⟨hP, hD⟩ := va_join hP hD isC isR hC hR hn hdis hk1 hFc hP1 hD1
  subst h5
  exact kk H1 locs1 (hP.sub pm (z_fm hpm)) (hD.sub pm hpn hpm) hS
/-- behind a call that answers nothing -/
theorem z_cv {st0 : List Value} {a : Array Value} {A : Nat → Prop} {H0 : Heap} {D : va_G} {kI kZ : ClassId} {ws wc wr w1 w2 : va_W}
    (hr : va_Run p l e R s m args below meth c H locs 0 0 0 0 (F0 m pc ls st0) rest (va_Qv (fun (_ : Unit) => True) (zB D kI kZ (va_A wc H.size) w1) (va_A wc H.size) a) (va_A wc H.size))
    (hP : va_P D zCl ws H) (hD : va_D A ws) (hS : va_S A H0 H locs) (hA : ∀ q : Nat, H0.size ≤ q → A q) (isC isR pm : List Nat) (hC : isC.map (fun i => ws[i]?) = wc.map some) (hR : isR.map (fun i => ws[i]?) = wr.map some) (hn : va_nd isR = true) (hdis : ∀ i ∈ isR, i ∉ isC) (hpm : pm.map (fun i => (wr ++ w1)[i]?) = w2.map some) (hpn : va_nd pm = true)
    (kk : ∀ (H1 : Heap) (locs1 : List Loc), va_P D zCl w2 H1 → va_D A w2 → va_S A H0 H1 locs1 → W p l e R s m args below meth c H1 locs1 0 0 Q (F0 m (pc + 3) ls rest)) : W p l e R s m args below meth c H locs 0 0 Q (F0 m pc ls st0) := by
  have hFc := va_free (wc := wc) hD hS hA isC hC
  refine va_callv hr hS (fun q _ h => hFc q h) hFc (fun u t H1 locs1 ht hvm h5 hB hz1 hk1 hS => ?_)
  obtain ⟨hP1, hK1, hD1⟩ := hB
  rw [ht] at hP1
  obtain ⟨hP, hD⟩ := va_join hP hD isC isR hC hR hn hdis hk1 hFc hP1 hD1
  exact kk H1 locs1 (hP.sub pm (z_fm hpm)) (hD.sub pm hpn hpm) hS
theorem z_cwV {own : String} {index : Nat} {y : MethodName} {bytes : ByteArray} {maxL n fr lo : Nat} {ret : Option FieldType} (hts : ∀ w ∈ zW, w.before args s = true) (hm : zVW y bytes maxL ret n) (hl : Cond.methodLink own index y ∈ zW) (hR : fr + 1 ≤ R.frames ∧ 8 + (maxL + 11) + lo ≤ R.locals) : CallW R s args own y.cls index y bytes maxL ret (Cond.code y bytes maxL ret :: zW) { frames := fr, cells := 0, slots := 0, locals := lo } 0 0 n :=
  ⟨callB_of n hts (z_good hm.1) rfl rfl rfl (hts _ hm.2.1) (hts _ hl) hm.2.2.2.2 hR, hts _ hm.2.2.1, hts _ hm.2.2.2.1⟩
theorem z_cwS {own : String} {index : Nat} {y : MethodName} {bytes : ByteArray} {maxL n fr lo : Nat} {ret : Option FieldType} (hts : ∀ w ∈ zW, w.before args s = true) (hm : zSW y bytes maxL ret n) (hl : Cond.methodLink own index y ∈ zW) (hR : fr + 1 ≤ R.frames ∧ 8 + (maxL + 11) + lo ≤ R.locals) : CallB R s args own index y bytes maxL ret (Cond.code y bytes maxL ret :: zW) { frames := fr, cells := 0, slots := 0, locals := lo } 0 0 n ∧ (Cond.static y).before args s = true :=
  ⟨callB_of n hts (z_good hm.1) rfl rfl rfl (hts _ hm.2.1) (hts _ hl) hm.2.2.2 hR, hts _ hm.2.2.1⟩
theorem z_cwN {own : String} {index : Nat} {y : MethodName} {bytes : ByteArray} {maxL n fr lo : Nat} {ret : Option FieldType} (hts : ∀ w ∈ zW, w.before args s = true) (hm : zSW y bytes maxL ret n) (hl : va_Nw (.methodLinkNest own index y "SquareCode") s) (hR : fr + 1 ≤ R.frames ∧ 8 + (maxL + 11) + lo ≤ R.locals) : va_CN R s args own index y "SquareCode" bytes maxL ret (Cond.code y bytes maxL ret :: zW) { frames := fr, cells := 0, slots := 0, locals := lo } 0 0 n ∧ (Cond.static y).before args s = true ∧ True :=
  ⟨va_cnB n hts (z_good hm.1) rfl rfl rfl hl (hts _ hm.2.1) hm.2.2.2 hR, hts _ hm.2.2.1, trivial⟩
theorem z_cwI {own : String} {index : Nat} {y : MethodName} {bytes : ByteArray} {maxL n fr ce sl lo : Nat} (hts : ∀ w ∈ zW, w.before args s = true) (hm : zIW y bytes maxL n) (hl : Cond.methodLink own index y ∈ zW) (hR : fr + 1 ≤ R.frames ∧ 8 + (maxL + 11) + lo ≤ R.locals) : CallB R s args own index y bytes maxL none (Cond.code y bytes maxL none :: zW) { frames := fr, cells := ce, slots := sl, locals := lo } ce sl n ∧ y.name = "<init>" ∧ (Cond.instanceMethod y).before args s = true :=
  ⟨callB_of n hts (z_good hm.1) rfl rfl rfl (hts _ hm.2.1) (hts _ hl) hm.2.2.2.2 hR, hm.2.2.2.1, hts _ hm.2.2.1⟩
theorem z_min (hexec : p.tables.exec = Jvm.exec) (hb : c.code = cc) (hml : c.maxLocals = ls.size) {own : String} {index : Nat} (hown : s.vm.findClass own = some m.cls) (hlink : (Cond.methodLink own index Lib.Math.min.name).before args s = true) (hstat : (Cond.static Lib.Math.min.name).before args s = true) (hini : (Cond.initialized "java/lang/Math").before args s = true) (hcode : (Cond.code Lib.Math.min.name Lib.Math.min.code 2 (some .int)).before args s = true)
    (hframes : 1 ≤ R.frames) (hlocals : (rest.map fun v => v.category).sum + 13 ≤ R.locals) (hc : cells ≤ R.cells) (hs : slots ≤ R.slots) {x y : Int32} (hdg : decode cc pc = .ok (.invokestatic index, 3))
    (kk : W p l e R s m args below meth c H locs cells slots Q (F0 m (pc + 3) ls (.int (zmin x y) :: rest))) : W p l e R s m args below meth c H locs cells slots Q (F0 m pc ls (.int y :: .int x :: rest)) := va_mmin hexec hb hml hown hlink hstat hini hcode hframes hlocals hc hs hdg kk
theorem z_max (hexec : p.tables.exec = Jvm.exec) (hb : c.code = cc) (hml : c.maxLocals = ls.size) {own : String} {index : Nat} (hown : s.vm.findClass own = some m.cls) (hlink : (Cond.methodLink own index Lib.Math.max.name).before args s = true) (hstat : (Cond.static Lib.Math.max.name).before args s = true) (hini : (Cond.initialized "java/lang/Math").before args s = true) (hcode : (Cond.code Lib.Math.max.name Lib.Math.max.code 2 (some .int)).before args s = true)
    (hframes : 1 ≤ R.frames) (hlocals : (rest.map fun v => v.category).sum + 13 ≤ R.locals) (hc : cells ≤ R.cells) (hs : slots ≤ R.slots) {x y : Int32} (hdg : decode cc pc = .ok (.invokestatic index, 3))
    (kk : W p l e R s m args below meth c H locs cells slots Q (F0 m (pc + 3) ls (.int (zmax x y) :: rest))) : W p l e R s m args below meth c H locs cells slots Q (F0 m pc ls (.int y :: .int x :: rest)) := va_mmax hexec hb hml hown hlink hstat hini hcode hframes hlocals hc hs hdg kk
end ZRows
end
section
theorem kw_1 : Cond.initialized "SquareCode" ∈ zW := zin 1 (by decide +kernel) (by decide +kernel)
theorem kw_2 : Cond.initialized "SquareCode$Matrices" ∈ zW := zin 2 (by decide +kernel) (by decide +kernel)
theorem kw_3 : Cond.initialized "SquareCode$Source" ∈ zW := zin 3 (by decide +kernel) (by decide +kernel)
theorem kw_4 : Cond.initialized "SquareCode$Code" ∈ zW := zin 4 (by decide +kernel) (by decide +kernel)
theorem kw_5 : Cond.initialized "SquareCode$Compiler" ∈ zW := zin 5 (by decide +kernel) (by decide +kernel)
theorem kw_6 : Cond.initialized "SquareCode$Optimiser" ∈ zW := zin 6 (by decide +kernel) (by decide +kernel)
theorem kw_7 : Cond.initialized "SquareCodeModel" ∈ zW := zin 7 (by decide +kernel) (by decide +kernel)
theorem kw_8 : Cond.initialized "java/lang/Math" ∈ zW := zin 8 (by decide +kernel) (by decide +kernel)
theorem kw_9 : Cond.initialized "java/lang/Integer" ∈ zW := zin 9 (by decide +kernel) (by decide +kernel)
theorem kw_10 : Cond.initialized "java/lang/System" ∈ zW := zin 10 (by decide +kernel) (by decide +kernel)
theorem kw_25 : Cond.fieldLink "SquareCode$Matrices" 9 "SquareCode$Matrices" "modulus" "I" ∈ zW := zin 25 (by decide +kernel) (by decide +kernel)
theorem kw_26 : Cond.fieldLink "SquareCode$Matrices" 15 "SquareCode$Matrices" "side" "I" ∈ zW := zin 26 (by decide +kernel) (by decide +kernel)
theorem kw_27 : Cond.fieldLink "SquareCode$Matrices" 18 "SquareCode$Matrices" "size" "I" ∈ zW := zin 27 (by decide +kernel) (by decide +kernel)
theorem kw_28 : Cond.fieldLink "SquareCode$Matrices" 21 "SquareCode$Matrices" "cells" "[I" ∈ zW := zin 28 (by decide +kernel) (by decide +kernel)
theorem kw_29 : Cond.fieldLink "SquareCode$Matrices" 25 "SquareCode$Matrices" "fresh" "[I" ∈ zW := zin 29 (by decide +kernel) (by decide +kernel)
theorem kw_48 : Cond.fieldLink "SquareCode$Source" 9 "SquareCode$Source" "words" "[I" ∈ zW := zin 48 (by decide +kernel) (by decide +kernel)
theorem kw_49 : Cond.fieldLink "SquareCode$Source" 15 "SquareCode$Source" "length" "I" ∈ zW := zin 49 (by decide +kernel) (by decide +kernel)
theorem kw_61 : Cond.fieldLink "SquareCode$Code" 9 "SquareCode$Code" "instructions" "[I" ∈ zW := zin 61 (by decide +kernel) (by decide +kernel)
theorem kw_62 : Cond.fieldLink "SquareCode$Code" 15 "SquareCode$Code" "length" "I" ∈ zW := zin 62 (by decide +kernel) (by decide +kernel)
theorem kw_74 : Cond.fieldLink "SquareCode$Compiler" 9 "SquareCode$Compiler" "registers" "[I" ∈ zW := zin 74 (by decide +kernel) (by decide +kernel)
theorem kw_86 : Cond.fieldLink "SquareCode$Optimiser" 9 "SquareCode$Optimiser" "modulus" "I" ∈ zW := zin 86 (by decide +kernel) (by decide +kernel)
theorem kw_87 : Cond.fieldLink "SquareCode$Optimiser" 18 "SquareCode$Optimiser" "values" "LSquareCode$Code;" ∈ zW := zin 87 (by decide +kernel) (by decide +kernel)
theorem kw_88 : Cond.fieldLink "SquareCode$Optimiser" 22 "SquareCode$Optimiser" "valueOf" "[I" ∈ zW := zin 88 (by decide +kernel) (by decide +kernel)
theorem kw_89 : Cond.fieldLink "SquareCode$Optimiser" 26 "SquareCode$Optimiser" "isNeeded" "[Z" ∈ zW := zin 89 (by decide +kernel) (by decide +kernel)
theorem kw_90 : Cond.fieldLink "SquareCode$Optimiser" 30 "SquareCode$Optimiser" "registerOf" "[I" ∈ zW := zin 90 (by decide +kernel) (by decide +kernel)
theorem kw_103 : Cond.fieldLink "SquareCode" 14 "SquareCode" "matrices" "LSquareCode$Matrices;" ∈ zW := zin 103 (by decide +kernel) (by decide +kernel)
theorem kw_104 : Cond.fieldLink "SquareCode" 21 "SquareCode" "source" "LSquareCode$Source;" ∈ zW := zin 104 (by decide +kernel) (by decide +kernel)
theorem kw_105 : Cond.fieldLink "SquareCode" 28 "SquareCode" "code" "LSquareCode$Code;" ∈ zW := zin 105 (by decide +kernel) (by decide +kernel)
theorem kw_106 : Cond.fieldLink "SquareCode" 35 "SquareCode" "compiler" "LSquareCode$Compiler;" ∈ zW := zin 106 (by decide +kernel) (by decide +kernel)
theorem kw_107 : Cond.fieldLink "SquareCode" 44 "SquareCode" "optimiser" "LSquareCode$Optimiser;" ∈ zW := zin 107 (by decide +kernel) (by decide +kernel)
theorem kw_108 : Cond.fieldLink "SquareCode" 48 "SquareCode" "instructionsDone" "I" ∈ zW := zin 108 (by decide +kernel) (by decide +kernel)
theorem kw_109 : Cond.fieldLink "SquareCode" 52 "SquareCode" "isWorkedOut" "Z" ∈ zW := zin 109 (by decide +kernel) (by decide +kernel)
theorem kw_129 : Cond.methodLink "SquareCode" 56 y_R_isFull ∈ zW := zin 129 (by decide +kernel) (by decide +kernel)
theorem kw_130 : Cond.instanceMethod y_R_isFull ∈ zW := zin 130 (by decide +kernel) (by decide +kernel)
theorem kw_131 : Cond.selects "SquareCode$Source" y_R_isFull y_R_isFull ∈ zW := zin 131 (by decide +kernel) (by decide +kernel)
theorem kw_132 : Cond.code y_R_isFull prog_6_method_3_code 1 (some .boolean) ∈ zW := zin 132 (by decide +kernel) (by decide +kernel)
theorem kw_133 : Cond.methodLink "SquareCode" 60 y_X_hasCode ∈ zW := zin 133 (by decide +kernel) (by decide +kernel)
theorem kw_135 : Cond.instanceMethod y_X_hasCode ∈ zW := zin 135 (by decide +kernel) (by decide +kernel)
theorem kw_136 : Cond.code y_X_hasCode prog_1_method_14_code 1 (some .boolean) ∈ zW := zin 136 (by decide +kernel) (by decide +kernel)
theorem kw_137 : Cond.methodLink "SquareCode" 98 y_C_length ∈ zW := zin 137 (by decide +kernel) (by decide +kernel)
theorem kw_138 : Cond.instanceMethod y_C_length ∈ zW := zin 138 (by decide +kernel) (by decide +kernel)
theorem kw_139 : Cond.selects "SquareCode$Code" y_C_length y_C_length ∈ zW := zin 139 (by decide +kernel) (by decide +kernel)
theorem kw_140 : Cond.code y_C_length prog_2_method_2_code 1 (some .int) ∈ zW := zin 140 (by decide +kernel) (by decide +kernel)
theorem kw_141 : Cond.methodLink "SquareCode" 63 y_R_append ∈ zW := zin 141 (by decide +kernel) (by decide +kernel)
theorem kw_142 : Cond.instanceMethod y_R_append ∈ zW := zin 142 (by decide +kernel) (by decide +kernel)
theorem kw_143 : Cond.selects "SquareCode$Source" y_R_append y_R_append ∈ zW := zin 143 (by decide +kernel) (by decide +kernel)
theorem kw_144 : Cond.code y_R_append prog_6_method_4_code 2 none ∈ zW := zin 144 (by decide +kernel) (by decide +kernel)
theorem kw_149 : Cond.methodLink "SquareCode" 66 y_M_hasCell ∈ zW := zin 149 (by decide +kernel) (by decide +kernel)
theorem kw_150 : Cond.instanceMethod y_M_hasCell ∈ zW := zin 150 (by decide +kernel) (by decide +kernel)
theorem kw_151 : Cond.selects "SquareCode$Matrices" y_M_hasCell y_M_hasCell ∈ zW := zin 151 (by decide +kernel) (by decide +kernel)
theorem kw_152 : Cond.code y_M_hasCell prog_4_method_2_code 3 (some .boolean) ∈ zW := zin 152 (by decide +kernel) (by decide +kernel)
theorem kw_153 : Cond.methodLink "SquareCode" 70 y_M_put ∈ zW := zin 153 (by decide +kernel) (by decide +kernel)
theorem kw_154 : Cond.instanceMethod y_M_put ∈ zW := zin 154 (by decide +kernel) (by decide +kernel)
theorem kw_155 : Cond.selects "SquareCode$Matrices" y_M_put y_M_put ∈ zW := zin 155 (by decide +kernel) (by decide +kernel)
theorem kw_156 : Cond.code y_M_put prog_4_method_4_code 5 none ∈ zW := zin 156 (by decide +kernel) (by decide +kernel)
theorem kw_157 : Cond.methodLink "SquareCode$Matrices" 28 y_JM_floorMod ∈ zW := zin 157 (by decide +kernel) (by decide +kernel)
theorem kw_158 : Cond.static y_JM_floorMod ∈ zW := zin 158 (by decide +kernel) (by decide +kernel)
theorem kw_159 : Cond.code y_JM_floorMod prog_10_method_50_code 3 (some .int) ∈ zW := zin 159 (by decide +kernel) (by decide +kernel)
theorem kw_160 : Cond.methodLink "SquareCode" 74 y_X_rewind ∈ zW := zin 160 (by decide +kernel) (by decide +kernel)
theorem kw_162 : Cond.instanceMethod y_X_rewind ∈ zW := zin 162 (by decide +kernel) (by decide +kernel)
theorem kw_163 : Cond.code y_X_rewind prog_1_method_16_code 1 none ∈ zW := zin 163 (by decide +kernel) (by decide +kernel)
theorem kw_168 : Cond.methodLink "SquareCode" 77 y_R_fault ∈ zW := zin 168 (by decide +kernel) (by decide +kernel)
theorem kw_169 : Cond.instanceMethod y_R_fault ∈ zW := zin 169 (by decide +kernel) (by decide +kernel)
theorem kw_170 : Cond.selects "SquareCode$Source" y_R_fault y_R_fault ∈ zW := zin 170 (by decide +kernel) (by decide +kernel)
theorem kw_171 : Cond.code y_R_fault prog_6_method_8_code 4 (some .int) ∈ zW := zin 171 (by decide +kernel) (by decide +kernel)
theorem kw_172 : Cond.methodLink "SquareCode$Source" 19 y_R_isWord ∈ zW := zin 172 (by decide +kernel) (by decide +kernel)
theorem kw_173 : Cond.static y_R_isWord ∈ zW := zin 173 (by decide +kernel) (by decide +kernel)
theorem kw_174 : Cond.code y_R_isWord prog_6_method_11_code 2 (some .boolean) ∈ zW := zin 174 (by decide +kernel) (by decide +kernel)
theorem kw_175 : Cond.methodLink "SquareCode$Source" 23 y_R_operation ∈ zW := zin 175 (by decide +kernel) (by decide +kernel)
theorem kw_176 : Cond.instanceMethod y_R_operation ∈ zW := zin 176 (by decide +kernel) (by decide +kernel)
theorem kw_177 : Cond.selects "SquareCode$Source" y_R_operation y_R_operation ∈ zW := zin 177 (by decide +kernel) (by decide +kernel)
theorem kw_178 : Cond.code y_R_operation prog_6_method_6_code 2 (some .int) ∈ zW := zin 178 (by decide +kernel) (by decide +kernel)
theorem kw_180 : Cond.static y_X_operandsOf ∈ zW := zin 180 (by decide +kernel) (by decide +kernel)
theorem kw_181 : Cond.code y_X_operandsOf prog_1_method_18_code 1 (some .int) ∈ zW := zin 181 (by decide +kernel) (by decide +kernel)
theorem kw_182 : Cond.methodLink "SquareCode" 81 y_R_instructionsNeeded ∈ zW := zin 182 (by decide +kernel) (by decide +kernel)
theorem kw_183 : Cond.instanceMethod y_R_instructionsNeeded ∈ zW := zin 183 (by decide +kernel) (by decide +kernel)
theorem kw_184 : Cond.selects "SquareCode$Source" y_R_instructionsNeeded y_R_instructionsNeeded ∈ zW := zin 184 (by decide +kernel) (by decide +kernel)
theorem kw_185 : Cond.code y_R_instructionsNeeded prog_6_method_9_code 3 (some .int) ∈ zW := zin 185 (by decide +kernel) (by decide +kernel)
theorem kw_186 : Cond.methodLink "SquareCode$Source" 30 y_R_number ∈ zW := zin 186 (by decide +kernel) (by decide +kernel)
theorem kw_187 : Cond.instanceMethod y_R_number ∈ zW := zin 187 (by decide +kernel) (by decide +kernel)
theorem kw_188 : Cond.selects "SquareCode$Source" y_R_number y_R_number ∈ zW := zin 188 (by decide +kernel) (by decide +kernel)
theorem kw_189 : Cond.code y_R_number prog_6_method_7_code 2 (some .int) ∈ zW := zin 189 (by decide +kernel) (by decide +kernel)
theorem kw_190 : Cond.methodLink "SquareCode$Source" 33 y_R_powerInstructions ∈ zW := zin 190 (by decide +kernel) (by decide +kernel)
theorem kw_191 : Cond.static y_R_powerInstructions ∈ zW := zin 191 (by decide +kernel) (by decide +kernel)
theorem kw_192 : Cond.code y_R_powerInstructions prog_6_method_10_code 1 (some .int) ∈ zW := zin 192 (by decide +kernel) (by decide +kernel)
theorem kw_194 : Cond.static y_X_topDigit ∈ zW := zin 194 (by decide +kernel) (by decide +kernel)
theorem kw_195 : Cond.code y_X_topDigit prog_1_method_19_code 3 (some .int) ∈ zW := zin 195 (by decide +kernel) (by decide +kernel)
theorem kw_196 : Cond.methodLink "SquareCode$Source" 39 y_JI_bitCount ∈ zW := zin 196 (by decide +kernel) (by decide +kernel)
theorem kw_197 : Cond.static y_JI_bitCount ∈ zW := zin 197 (by decide +kernel) (by decide +kernel)
theorem kw_198 : Cond.code y_JI_bitCount prog_9_method_49_code 1 (some .int) ∈ zW := zin 198 (by decide +kernel) (by decide +kernel)
theorem kw_199 : Cond.constant "java/lang/Integer" 265 (1431655765) ∈ zW := zin 199 (by decide +kernel) (by decide +kernel)
theorem kw_200 : Cond.constant "java/lang/Integer" 266 (858993459) ∈ zW := zin 200 (by decide +kernel) (by decide +kernel)
theorem kw_201 : Cond.constant "java/lang/Integer" 267 (252645135) ∈ zW := zin 201 (by decide +kernel) (by decide +kernel)
theorem kw_202 : Cond.methodLink "SquareCode" 84 y_P_translate ∈ zW := zin 202 (by decide +kernel) (by decide +kernel)
theorem kw_203 : Cond.instanceMethod y_P_translate ∈ zW := zin 203 (by decide +kernel) (by decide +kernel)
theorem kw_204 : Cond.selects "SquareCode$Compiler" y_P_translate y_P_translate ∈ zW := zin 204 (by decide +kernel) (by decide +kernel)
theorem kw_205 : Cond.code y_P_translate prog_3_method_2_code 6 none ∈ zW := zin 205 (by decide +kernel) (by decide +kernel)
theorem kw_206 : Cond.methodLink "SquareCode$Compiler" 15 y_C_clear ∈ zW := zin 206 (by decide +kernel) (by decide +kernel)
theorem kw_207 : Cond.instanceMethod y_C_clear ∈ zW := zin 207 (by decide +kernel) (by decide +kernel)
theorem kw_208 : Cond.selects "SquareCode$Code" y_C_clear y_C_clear ∈ zW := zin 208 (by decide +kernel) (by decide +kernel)
theorem kw_209 : Cond.code y_C_clear prog_2_method_3_code 1 none ∈ zW := zin 209 (by decide +kernel) (by decide +kernel)
theorem kw_210 : Cond.methodLink "SquareCode$Compiler" 20 y_R_length ∈ zW := zin 210 (by decide +kernel) (by decide +kernel)
theorem kw_211 : Cond.instanceMethod y_R_length ∈ zW := zin 211 (by decide +kernel) (by decide +kernel)
theorem kw_212 : Cond.selects "SquareCode$Source" y_R_length y_R_length ∈ zW := zin 212 (by decide +kernel) (by decide +kernel)
theorem kw_213 : Cond.code y_R_length prog_6_method_2_code 1 (some .int) ∈ zW := zin 213 (by decide +kernel) (by decide +kernel)
theorem kw_214 : Cond.methodLink "SquareCode$Compiler" 26 y_R_operation ∈ zW := zin 214 (by decide +kernel) (by decide +kernel)
theorem kw_216 : Cond.methodLink "SquareCode$Compiler" 33 y_R_number ∈ zW := zin 216 (by decide +kernel) (by decide +kernel)
theorem kw_217 : Cond.methodLink "SquareCode$Compiler" 36 y_P_instructionsFor ∈ zW := zin 217 (by decide +kernel) (by decide +kernel)
theorem kw_219 : Cond.instanceMethod y_P_instructionsFor ∈ zW := zin 219 (by decide +kernel) (by decide +kernel)
theorem kw_220 : Cond.code y_P_instructionsFor prog_3_method_3_code 5 (some .int) ∈ zW := zin 220 (by decide +kernel) (by decide +kernel)
theorem kw_221 : Cond.methodLink "SquareCode$Compiler" 40 y_C_append ∈ zW := zin 221 (by decide +kernel) (by decide +kernel)
theorem kw_222 : Cond.instanceMethod y_C_append ∈ zW := zin 222 (by decide +kernel) (by decide +kernel)
theorem kw_223 : Cond.selects "SquareCode$Code" y_C_append y_C_append ∈ zW := zin 223 (by decide +kernel) (by decide +kernel)
theorem kw_224 : Cond.code y_C_append prog_2_method_10_code 4 (some .int) ∈ zW := zin 224 (by decide +kernel) (by decide +kernel)
theorem kw_225 : Cond.methodLink "SquareCode$Code" 23 y_C_packed ∈ zW := zin 225 (by decide +kernel) (by decide +kernel)
theorem kw_226 : Cond.static y_C_packed ∈ zW := zin 226 (by decide +kernel) (by decide +kernel)
theorem kw_227 : Cond.code y_C_packed prog_2_method_12_code 3 (some .int) ∈ zW := zin 227 (by decide +kernel) (by decide +kernel)
theorem kw_228 : Cond.methodLink "SquareCode$Compiler" 44 y_P_powerOf ∈ zW := zin 228 (by decide +kernel) (by decide +kernel)
theorem kw_229 : Cond.static y_P_powerOf ∈ zW := zin 229 (by decide +kernel) (by decide +kernel)
theorem kw_230 : Cond.code y_P_powerOf prog_3_method_4_code 5 (some .int) ∈ zW := zin 230 (by decide +kernel) (by decide +kernel)
theorem kw_233 : Cond.static y_X_isDigitOne ∈ zW := zin 233 (by decide +kernel) (by decide +kernel)
theorem kw_234 : Cond.code y_X_isDigitOne prog_1_method_20_code 2 (some .boolean) ∈ zW := zin 234 (by decide +kernel) (by decide +kernel)
theorem kw_239 : Cond.methodLink "SquareCode" 88 y_O_improve ∈ zW := zin 239 (by decide +kernel) (by decide +kernel)
theorem kw_240 : Cond.instanceMethod y_O_improve ∈ zW := zin 240 (by decide +kernel) (by decide +kernel)
theorem kw_241 : Cond.selects "SquareCode$Optimiser" y_O_improve y_O_improve ∈ zW := zin 241 (by decide +kernel) (by decide +kernel)
theorem kw_242 : Cond.code y_O_improve prog_5_method_2_code 3 none ∈ zW := zin 242 (by decide +kernel) (by decide +kernel)
theorem kw_243 : Cond.methodLink "SquareCode$Optimiser" 33 y_C_clear ∈ zW := zin 243 (by decide +kernel) (by decide +kernel)
theorem kw_244 : Cond.methodLink "SquareCode$Optimiser" 36 y_C_length ∈ zW := zin 244 (by decide +kernel) (by decide +kernel)
theorem kw_245 : Cond.methodLink "SquareCode$Optimiser" 40 y_C_operation ∈ zW := zin 245 (by decide +kernel) (by decide +kernel)
theorem kw_246 : Cond.instanceMethod y_C_operation ∈ zW := zin 246 (by decide +kernel) (by decide +kernel)
theorem kw_247 : Cond.selects "SquareCode$Code" y_C_operation y_C_operation ∈ zW := zin 247 (by decide +kernel) (by decide +kernel)
theorem kw_248 : Cond.code y_C_operation prog_2_method_5_code 2 (some .int) ∈ zW := zin 248 (by decide +kernel) (by decide +kernel)
theorem kw_249 : Cond.methodLink "SquareCode$Optimiser" 44 y_C_first ∈ zW := zin 249 (by decide +kernel) (by decide +kernel)
theorem kw_250 : Cond.instanceMethod y_C_first ∈ zW := zin 250 (by decide +kernel) (by decide +kernel)
theorem kw_251 : Cond.selects "SquareCode$Code" y_C_first y_C_first ∈ zW := zin 251 (by decide +kernel) (by decide +kernel)
theorem kw_252 : Cond.code y_C_first prog_2_method_6_code 2 (some .int) ∈ zW := zin 252 (by decide +kernel) (by decide +kernel)
theorem kw_253 : Cond.methodLink "SquareCode$Optimiser" 47 y_C_second ∈ zW := zin 253 (by decide +kernel) (by decide +kernel)
theorem kw_254 : Cond.instanceMethod y_C_second ∈ zW := zin 254 (by decide +kernel) (by decide +kernel)
theorem kw_255 : Cond.selects "SquareCode$Code" y_C_second y_C_second ∈ zW := zin 255 (by decide +kernel) (by decide +kernel)
theorem kw_256 : Cond.code y_C_second prog_2_method_7_code 2 (some .int) ∈ zW := zin 256 (by decide +kernel) (by decide +kernel)
theorem kw_257 : Cond.methodLink "SquareCode$Optimiser" 50 y_O_value ∈ zW := zin 257 (by decide +kernel) (by decide +kernel)
theorem kw_259 : Cond.instanceMethod y_O_value ∈ zW := zin 259 (by decide +kernel) (by decide +kernel)
theorem kw_260 : Cond.code y_O_value prog_5_method_3_code 4 (some .int) ∈ zW := zin 260 (by decide +kernel) (by decide +kernel)
theorem kw_261 : Cond.methodLink "SquareCode$Optimiser" 65 y_O_sum ∈ zW := zin 261 (by decide +kernel) (by decide +kernel)
theorem kw_263 : Cond.instanceMethod y_O_sum ∈ zW := zin 263 (by decide +kernel) (by decide +kernel)
theorem kw_264 : Cond.code y_O_sum prog_5_method_6_code 3 (some .int) ∈ zW := zin 264 (by decide +kernel) (by decide +kernel)
theorem kw_265 : Cond.methodLink "SquareCode$Optimiser" 84 y_O_is ∈ zW := zin 265 (by decide +kernel) (by decide +kernel)
theorem kw_267 : Cond.instanceMethod y_O_is ∈ zW := zin 267 (by decide +kernel) (by decide +kernel)
theorem kw_268 : Cond.code y_O_is prog_5_method_4_code 3 (some .boolean) ∈ zW := zin 268 (by decide +kernel) (by decide +kernel)
theorem kw_269 : Cond.methodLink "SquareCode$Optimiser" 88 ⟨"java/lang/Math", "min", "(II)I"⟩ ∈ zW := zin 269 (by decide +kernel) (by decide +kernel)
theorem kw_270 : Cond.static ⟨"java/lang/Math", "min", "(II)I"⟩ ∈ zW := zin 270 (by decide +kernel) (by decide +kernel)
theorem kw_271 : Cond.code ⟨"java/lang/Math", "min", "(II)I"⟩ prog_10_method_69_code 2 ((some .int)) ∈ zW := zin 271 (by decide +kernel) (by decide +kernel)
theorem kw_272 : Cond.methodLink "SquareCode$Optimiser" 93 ⟨"java/lang/Math", "max", "(II)I"⟩ ∈ zW := zin 272 (by decide +kernel) (by decide +kernel)
theorem kw_273 : Cond.static ⟨"java/lang/Math", "max", "(II)I"⟩ ∈ zW := zin 273 (by decide +kernel) (by decide +kernel)
theorem kw_274 : Cond.code ⟨"java/lang/Math", "max", "(II)I"⟩ prog_10_method_65_code 2 ((some .int)) ∈ zW := zin 274 (by decide +kernel) (by decide +kernel)
theorem kw_275 : Cond.methodLink "SquareCode$Optimiser" 81 y_C_findOrAppend ∈ zW := zin 275 (by decide +kernel) (by decide +kernel)
theorem kw_276 : Cond.instanceMethod y_C_findOrAppend ∈ zW := zin 276 (by decide +kernel) (by decide +kernel)
theorem kw_277 : Cond.selects "SquareCode$Code" y_C_findOrAppend y_C_findOrAppend ∈ zW := zin 277 (by decide +kernel) (by decide +kernel)
theorem kw_278 : Cond.code y_C_findOrAppend prog_2_method_11_code 6 (some .int) ∈ zW := zin 278 (by decide +kernel) (by decide +kernel)
theorem kw_279 : Cond.methodLink "SquareCode$Code" 27 y_C_append ∈ zW := zin 279 (by decide +kernel) (by decide +kernel)
theorem kw_280 : Cond.methodLink "SquareCode$Optimiser" 69 y_O_difference ∈ zW := zin 280 (by decide +kernel) (by decide +kernel)
theorem kw_282 : Cond.instanceMethod y_O_difference ∈ zW := zin 282 (by decide +kernel) (by decide +kernel)
theorem kw_283 : Cond.code y_O_difference prog_5_method_7_code 3 (some .int) ∈ zW := zin 283 (by decide +kernel) (by decide +kernel)
theorem kw_284 : Cond.methodLink "SquareCode$Optimiser" 96 y_O_nought ∈ zW := zin 284 (by decide +kernel) (by decide +kernel)
theorem kw_286 : Cond.instanceMethod y_O_nought ∈ zW := zin 286 (by decide +kernel) (by decide +kernel)
theorem kw_287 : Cond.code y_O_nought prog_5_method_5_code 1 (some .int) ∈ zW := zin 287 (by decide +kernel) (by decide +kernel)
theorem kw_288 : Cond.methodLink "SquareCode$Optimiser" 72 y_O_product ∈ zW := zin 288 (by decide +kernel) (by decide +kernel)
theorem kw_290 : Cond.instanceMethod y_O_product ∈ zW := zin 290 (by decide +kernel) (by decide +kernel)
theorem kw_291 : Cond.code y_O_product prog_5_method_8_code 3 (some .int) ∈ zW := zin 291 (by decide +kernel) (by decide +kernel)
theorem kw_292 : Cond.methodLink "SquareCode$Optimiser" 75 y_O_turned ∈ zW := zin 292 (by decide +kernel) (by decide +kernel)
theorem kw_294 : Cond.instanceMethod y_O_turned ∈ zW := zin 294 (by decide +kernel) (by decide +kernel)
theorem kw_295 : Cond.code y_O_turned prog_5_method_9_code 2 (some .int) ∈ zW := zin 295 (by decide +kernel) (by decide +kernel)
theorem kw_296 : Cond.methodLink "SquareCode$Optimiser" 78 y_O_scaled ∈ zW := zin 296 (by decide +kernel) (by decide +kernel)
theorem kw_298 : Cond.instanceMethod y_O_scaled ∈ zW := zin 298 (by decide +kernel) (by decide +kernel)
theorem kw_299 : Cond.code y_O_scaled prog_5_method_10_code 6 (some .int) ∈ zW := zin 299 (by decide +kernel) (by decide +kernel)
theorem kw_300 : Cond.methodLink "SquareCode$Optimiser" 54 y_C_result ∈ zW := zin 300 (by decide +kernel) (by decide +kernel)
theorem kw_301 : Cond.instanceMethod y_C_result ∈ zW := zin 301 (by decide +kernel) (by decide +kernel)
theorem kw_302 : Cond.selects "SquareCode$Code" y_C_result y_C_result ∈ zW := zin 302 (by decide +kernel) (by decide +kernel)
theorem kw_303 : Cond.code y_C_result prog_2_method_8_code 1 (some .int) ∈ zW := zin 303 (by decide +kernel) (by decide +kernel)
theorem kw_304 : Cond.methodLink "SquareCode$Optimiser" 57 y_O_markNeeded ∈ zW := zin 304 (by decide +kernel) (by decide +kernel)
theorem kw_306 : Cond.instanceMethod y_O_markNeeded ∈ zW := zin 306 (by decide +kernel) (by decide +kernel)
theorem kw_307 : Cond.code y_O_markNeeded prog_5_method_11_code 4 none ∈ zW := zin 307 (by decide +kernel) (by decide +kernel)
theorem kw_309 : Cond.methodLink "SquareCode$Optimiser" 61 y_O_rewrite ∈ zW := zin 309 (by decide +kernel) (by decide +kernel)
theorem kw_311 : Cond.instanceMethod y_O_rewrite ∈ zW := zin 311 (by decide +kernel) (by decide +kernel)
theorem kw_312 : Cond.code y_O_rewrite prog_5_method_12_code 3 none ∈ zW := zin 312 (by decide +kernel) (by decide +kernel)
theorem kw_313 : Cond.methodLink "SquareCode$Optimiser" 102 y_O_rewritten ∈ zW := zin 313 (by decide +kernel) (by decide +kernel)
theorem kw_315 : Cond.instanceMethod y_O_rewritten ∈ zW := zin 315 (by decide +kernel) (by decide +kernel)
theorem kw_316 : Cond.code y_O_rewritten prog_5_method_13_code 7 (some .int) ∈ zW := zin 316 (by decide +kernel) (by decide +kernel)
theorem kw_317 : Cond.methodLink "SquareCode$Optimiser" 106 y_C_append ∈ zW := zin 317 (by decide +kernel) (by decide +kernel)
theorem kw_322 : Cond.methodLink "SquareCode" 92 ⟨"java/lang/Math", "max", "(II)I"⟩ ∈ zW := zin 322 (by decide +kernel) (by decide +kernel)
theorem kw_323 : Cond.methodLink "SquareCode" 101 ⟨"java/lang/Math", "min", "(II)I"⟩ ∈ zW := zin 323 (by decide +kernel) (by decide +kernel)
theorem kw_324 : Cond.methodLink "SquareCode" 104 y_C_operation ∈ zW := zin 324 (by decide +kernel) (by decide +kernel)
theorem kw_325 : Cond.methodLink "SquareCode" 108 y_C_first ∈ zW := zin 325 (by decide +kernel) (by decide +kernel)
theorem kw_326 : Cond.methodLink "SquareCode" 111 y_C_second ∈ zW := zin 326 (by decide +kernel) (by decide +kernel)
theorem kw_327 : Cond.methodLink "SquareCode" 114 y_M_apply ∈ zW := zin 327 (by decide +kernel) (by decide +kernel)
theorem kw_328 : Cond.instanceMethod y_M_apply ∈ zW := zin 328 (by decide +kernel) (by decide +kernel)
theorem kw_329 : Cond.selects "SquareCode$Matrices" y_M_apply y_M_apply ∈ zW := zin 329 (by decide +kernel) (by decide +kernel)
theorem kw_330 : Cond.code y_M_apply prog_4_method_5_code 5 none ∈ zW := zin 330 (by decide +kernel) (by decide +kernel)
theorem kw_331 : Cond.methodLink "SquareCode$Matrices" 34 y_M_copy ∈ zW := zin 331 (by decide +kernel) (by decide +kernel)
theorem kw_332 : Cond.instanceMethod y_M_copy ∈ zW := zin 332 (by decide +kernel) (by decide +kernel)
theorem kw_333 : Cond.selects "SquareCode$Matrices" y_M_copy y_M_copy ∈ zW := zin 333 (by decide +kernel) (by decide +kernel)
theorem kw_334 : Cond.code y_M_copy prog_4_method_6_code 3 none ∈ zW := zin 334 (by decide +kernel) (by decide +kernel)
theorem kw_335 : Cond.methodLink "SquareCode$Matrices" 59 arraycopyName ∈ zW := zin 335 (by decide +kernel) (by decide +kernel)
theorem kw_336 : Cond.static arraycopyName ∈ zW := zin 336 (by decide +kernel) (by decide +kernel)
theorem kw_337 : Cond.native arraycopyName ∈ zW := zin 337 (by decide +kernel) (by decide +kernel)
theorem kw_338 : Cond.methodLink "SquareCode$Matrices" 38 y_M_makeOne ∈ zW := zin 338 (by decide +kernel) (by decide +kernel)
theorem kw_340 : Cond.instanceMethod y_M_makeOne ∈ zW := zin 340 (by decide +kernel) (by decide +kernel)
theorem kw_341 : Cond.code y_M_makeOne prog_4_method_8_code 3 none ∈ zW := zin 341 (by decide +kernel) (by decide +kernel)
theorem kw_342 : Cond.methodLink "SquareCode$Matrices" 42 y_M_makeNought ∈ zW := zin 342 (by decide +kernel) (by decide +kernel)
theorem kw_343 : Cond.instanceMethod y_M_makeNought ∈ zW := zin 343 (by decide +kernel) (by decide +kernel)
theorem kw_344 : Cond.selects "SquareCode$Matrices" y_M_makeNought y_M_makeNought ∈ zW := zin 344 (by decide +kernel) (by decide +kernel)
theorem kw_345 : Cond.code y_M_makeNought prog_4_method_7_code 3 none ∈ zW := zin 345 (by decide +kernel) (by decide +kernel)
theorem kw_346 : Cond.methodLink "SquareCode$Matrices" 65 y_M_put ∈ zW := zin 346 (by decide +kernel) (by decide +kernel)
theorem kw_347 : Cond.methodLink "SquareCode$Matrices" 45 y_M_combine ∈ zW := zin 347 (by decide +kernel) (by decide +kernel)
theorem kw_349 : Cond.instanceMethod y_M_combine ∈ zW := zin 349 (by decide +kernel) (by decide +kernel)
theorem kw_350 : Cond.code y_M_combine prog_4_method_9_code 7 none ∈ zW := zin 350 (by decide +kernel) (by decide +kernel)
theorem kw_351 : Cond.methodLink "SquareCode$Matrices" 49 y_M_multiply ∈ zW := zin 351 (by decide +kernel) (by decide +kernel)
theorem kw_353 : Cond.instanceMethod y_M_multiply ∈ zW := zin 353 (by decide +kernel) (by decide +kernel)
theorem kw_354 : Cond.code y_M_multiply prog_4_method_10_code 8 none ∈ zW := zin 354 (by decide +kernel) (by decide +kernel)
theorem kw_355 : Cond.methodLink "SquareCode$Matrices" 68 y_M_get ∈ zW := zin 355 (by decide +kernel) (by decide +kernel)
theorem kw_356 : Cond.instanceMethod y_M_get ∈ zW := zin 356 (by decide +kernel) (by decide +kernel)
theorem kw_357 : Cond.selects "SquareCode$Matrices" y_M_get y_M_get ∈ zW := zin 357 (by decide +kernel) (by decide +kernel)
theorem kw_358 : Cond.code y_M_get prog_4_method_3_code 4 (some .int) ∈ zW := zin 358 (by decide +kernel) (by decide +kernel)
theorem kw_359 : Cond.methodLink "SquareCode$Matrices" 72 y_M_keepFresh ∈ zW := zin 359 (by decide +kernel) (by decide +kernel)
theorem kw_361 : Cond.instanceMethod y_M_keepFresh ∈ zW := zin 361 (by decide +kernel) (by decide +kernel)
theorem kw_362 : Cond.code y_M_keepFresh prog_4_method_12_code 2 none ∈ zW := zin 362 (by decide +kernel) (by decide +kernel)
theorem kw_363 : Cond.methodLink "SquareCode$Matrices" 53 y_M_turn ∈ zW := zin 363 (by decide +kernel) (by decide +kernel)
theorem kw_365 : Cond.instanceMethod y_M_turn ∈ zW := zin 365 (by decide +kernel) (by decide +kernel)
theorem kw_366 : Cond.code y_M_turn prog_4_method_11_code 5 none ∈ zW := zin 366 (by decide +kernel) (by decide +kernel)
theorem kw_367 : Cond.methodLink "SquareCode$Matrices" 56 y_M_scale ∈ zW := zin 367 (by decide +kernel) (by decide +kernel)
theorem kw_369 : Cond.instanceMethod y_M_scale ∈ zW := zin 369 (by decide +kernel) (by decide +kernel)
theorem kw_370 : Cond.code y_M_scale prog_4_method_13_code 5 none ∈ zW := zin 370 (by decide +kernel) (by decide +kernel)
theorem kw_371 : Cond.methodLink "SquareCode" 117 y_X_isAllDone ∈ zW := zin 371 (by decide +kernel) (by decide +kernel)
theorem kw_373 : Cond.instanceMethod y_X_isAllDone ∈ zW := zin 373 (by decide +kernel) (by decide +kernel)
theorem kw_374 : Cond.code y_X_isAllDone prog_1_method_15_code 1 (some .boolean) ∈ zW := zin 374 (by decide +kernel) (by decide +kernel)
theorem kw_379 : Cond.methodLink "SquareCode" 120 y_X_workOut ∈ zW := zin 379 (by decide +kernel) (by decide +kernel)
theorem kw_381 : Cond.instanceMethod y_X_workOut ∈ zW := zin 381 (by decide +kernel) (by decide +kernel)
theorem kw_382 : Cond.code y_X_workOut prog_1_method_17_code 6 none ∈ zW := zin 382 (by decide +kernel) (by decide +kernel)
theorem kw_383 : Cond.methodLink "SquareCode" 146 y_R_length ∈ zW := zin 383 (by decide +kernel) (by decide +kernel)
theorem kw_384 : Cond.methodLink "SquareCode" 147 y_R_operation ∈ zW := zin 384 (by decide +kernel) (by decide +kernel)
theorem kw_385 : Cond.methodLink "SquareCode" 148 y_R_number ∈ zW := zin 385 (by decide +kernel) (by decide +kernel)
theorem kw_386 : Cond.methodLink "SquareCode" 151 y_X_operandsOf ∈ zW := zin 386 (by decide +kernel) (by decide +kernel)
theorem kw_387 : Cond.methodLink "SquareCode" 154 y_M_raise ∈ zW := zin 387 (by decide +kernel) (by decide +kernel)
theorem kw_388 : Cond.instanceMethod y_M_raise ∈ zW := zin 388 (by decide +kernel) (by decide +kernel)
theorem kw_389 : Cond.selects "SquareCode$Matrices" y_M_raise y_M_raise ∈ zW := zin 389 (by decide +kernel) (by decide +kernel)
theorem kw_390 : Cond.code y_M_raise prog_4_method_14_code 4 none ∈ zW := zin 390 (by decide +kernel) (by decide +kernel)
theorem kw_393 : Cond.methodLink "SquareCode" 123 y_M_copy ∈ zW := zin 393 (by decide +kernel) (by decide +kernel)
theorem kw_398 : Cond.methodLink "SquareCode" 126 y_C_result ∈ zW := zin 398 (by decide +kernel) (by decide +kernel)
theorem kw_399 : Cond.methodLink "SquareCode" 129 y_M_get ∈ zW := zin 399 (by decide +kernel) (by decide +kernel)
theorem kw_408 : Cond.methodLink "SquareCode" 133 y_C_instruction ∈ zW := zin 408 (by decide +kernel) (by decide +kernel)
theorem kw_409 : Cond.instanceMethod y_C_instruction ∈ zW := zin 409 (by decide +kernel) (by decide +kernel)
theorem kw_410 : Cond.selects "SquareCode$Code" y_C_instruction y_C_instruction ∈ zW := zin 410 (by decide +kernel) (by decide +kernel)
theorem kw_411 : Cond.code y_C_instruction prog_2_method_4_code 2 (some .int) ∈ zW := zin 411 (by decide +kernel) (by decide +kernel)
theorem kw_420 : Cond.methodLink "SquareCode" 136 y_C_count ∈ zW := zin 420 (by decide +kernel) (by decide +kernel)
theorem kw_421 : Cond.instanceMethod y_C_count ∈ zW := zin 421 (by decide +kernel) (by decide +kernel)
theorem kw_422 : Cond.selects "SquareCode$Code" y_C_count y_C_count ∈ zW := zin 422 (by decide +kernel) (by decide +kernel)
theorem kw_423 : Cond.code y_C_count prog_2_method_9_code 4 (some .int) ∈ zW := zin 423 (by decide +kernel) (by decide +kernel)
theorem kw_424 : Cond.methodLink "SquareCode$Code" 19 y_C_operation ∈ zW := zin 424 (by decide +kernel) (by decide +kernel)
theorem kw_429 : Cond.methodLink "SquareCode" 139 y_R_clear ∈ zW := zin 429 (by decide +kernel) (by decide +kernel)
theorem kw_430 : Cond.instanceMethod y_R_clear ∈ zW := zin 430 (by decide +kernel) (by decide +kernel)
theorem kw_431 : Cond.selects "SquareCode$Source" y_R_clear y_R_clear ∈ zW := zin 431 (by decide +kernel) (by decide +kernel)
theorem kw_432 : Cond.code y_R_clear prog_6_method_5_code 1 none ∈ zW := zin 432 (by decide +kernel) (by decide +kernel)
theorem kw_433 : Cond.methodLink "SquareCode" 142 y_C_clear ∈ zW := zin 433 (by decide +kernel) (by decide +kernel)
theorem kw_434 : Cond.methodLink "SquareCode" 143 y_M_makeNought ∈ zW := zin 434 (by decide +kernel) (by decide +kernel)
theorem kw_444 : Cond.fieldLink "SquareCodeModel" 56 "SquareCodeModel" "p" "I" ∈ zW := zin 444 (by decide +kernel) (by decide +kernel)
theorem kw_445 : Cond.fieldLink "SquareCodeModel" 60 "SquareCodeModel" "n" "I" ∈ zW := zin 445 (by decide +kernel) (by decide +kernel)
theorem kw_446 : Cond.fieldLink "SquareCodeModel" 87 "SquareCodeModel" "words" "I" ∈ zW := zin 446 (by decide +kernel) (by decide +kernel)
theorem kw_447 : Cond.fieldLink "SquareCodeModel" 7 "SquareCodeModel" "word" "[I" ∈ zW := zin 447 (by decide +kernel) (by decide +kernel)
theorem kw_448 : Cond.fieldLink "SquareCodeModel" 13 "SquareCodeModel" "table" "[I" ∈ zW := zin 448 (by decide +kernel) (by decide +kernel)
theorem kw_449 : Cond.fieldLink "SquareCodeModel" 16 "SquareCodeModel" "direct" "[I" ∈ zW := zin 449 (by decide +kernel) (by decide +kernel)
theorem kw_450 : Cond.fieldLink "SquareCodeModel" 118 "SquareCodeModel" "hasDirect" "Z" ∈ zW := zin 450 (by decide +kernel) (by decide +kernel)
theorem kw_451 : Cond.fieldLink "SquareCodeModel" 90 "SquareCodeModel" "compiled" "Z" ∈ zW := zin 451 (by decide +kernel) (by decide +kernel)
theorem kw_452 : Cond.fieldLink "SquareCodeModel" 121 "SquareCodeModel" "size" "I" ∈ zW := zin 452 (by decide +kernel) (by decide +kernel)
theorem kw_453 : Cond.fieldLink "SquareCodeModel" 19 "SquareCodeModel" "op" "[I" ∈ zW := zin 453 (by decide +kernel) (by decide +kernel)
theorem kw_454 : Cond.fieldLink "SquareCodeModel" 22 "SquareCodeModel" "a" "[I" ∈ zW := zin 454 (by decide +kernel) (by decide +kernel)
theorem kw_455 : Cond.fieldLink "SquareCodeModel" 25 "SquareCodeModel" "b" "[I" ∈ zW := zin 455 (by decide +kernel) (by decide +kernel)
theorem kw_456 : Cond.fieldLink "SquareCodeModel" 28 "SquareCodeModel" "x" "[I" ∈ zW := zin 456 (by decide +kernel) (by decide +kernel)
theorem kw_457 : Cond.fieldLink "SquareCodeModel" 138 "SquareCodeModel" "outcome" "I" ∈ zW := zin 457 (by decide +kernel) (by decide +kernel)
theorem kw_458 : Cond.fieldLink "SquareCodeModel" 98 "SquareCodeModel" "done" "I" ∈ zW := zin 458 (by decide +kernel) (by decide +kernel)
theorem kw_459 : Cond.fieldLink "SquareCodeModel" 31 "SquareCodeModel" "there" "[I" ∈ zW := zin 459 (by decide +kernel) (by decide +kernel)
theorem kw_460 : Cond.fieldLink "SquareCodeModel" 141 "SquareCodeModel" "values" "I" ∈ zW := zin 460 (by decide +kernel) (by decide +kernel)
theorem kw_461 : Cond.fieldLink "SquareCodeModel" 34 "SquareCodeModel" "vOp" "[I" ∈ zW := zin 461 (by decide +kernel) (by decide +kernel)
theorem kw_462 : Cond.fieldLink "SquareCodeModel" 37 "SquareCodeModel" "vA" "[I" ∈ zW := zin 462 (by decide +kernel) (by decide +kernel)
theorem kw_463 : Cond.fieldLink "SquareCodeModel" 40 "SquareCodeModel" "vB" "[I" ∈ zW := zin 463 (by decide +kernel) (by decide +kernel)
theorem kw_464 : Cond.fieldLink "SquareCodeModel" 43 "SquareCodeModel" "vX" "[I" ∈ zW := zin 464 (by decide +kernel) (by decide +kernel)
theorem kw_465 : Cond.fieldLink "SquareCodeModel" 46 "SquareCodeModel" "needed" "[Z" ∈ zW := zin 465 (by decide +kernel) (by decide +kernel)
theorem kw_466 : Cond.fieldLink "SquareCodeModel" 50 "SquareCodeModel" "valueOf" "[I" ∈ zW := zin 466 (by decide +kernel) (by decide +kernel)
theorem kw_467 : Cond.fieldLink "SquareCodeModel" 53 "SquareCodeModel" "place" "[I" ∈ zW := zin 467 (by decide +kernel) (by decide +kernel)
theorem kw_525 : Cond.methodLink "SquareCodeModel" 63 y_N_in ∈ zW := zin 525 (by decide +kernel) (by decide +kernel)
theorem kw_526 : Cond.static y_N_in ∈ zW := zin 526 (by decide +kernel) (by decide +kernel)
theorem kw_527 : Cond.code y_N_in prog_8_method_2_code 3 (some .boolean) ∈ zW := zin 527 (by decide +kernel) (by decide +kernel)
theorem kw_528 : Cond.methodLink "SquareCodeModel" 94 y_N_isPlace ∈ zW := zin 528 (by decide +kernel) (by decide +kernel)
theorem kw_530 : Cond.instanceMethod y_N_isPlace ∈ zW := zin 530 (by decide +kernel) (by decide +kernel)
theorem kw_531 : Cond.code y_N_isPlace prog_8_method_3_code 3 (some .boolean) ∈ zW := zin 531 (by decide +kernel) (by decide +kernel)
theorem kw_532 : Cond.methodLink "SquareCodeModel" 71 y_N_mod ∈ zW := zin 532 (by decide +kernel) (by decide +kernel)
theorem kw_534 : Cond.instanceMethod y_N_mod ∈ zW := zin 534 (by decide +kernel) (by decide +kernel)
theorem kw_535 : Cond.code y_N_mod prog_8_method_6_code 3 (some .int) ∈ zW := zin 535 (by decide +kernel) (by decide +kernel)
theorem kw_536 : Cond.methodLink "SquareCodeModel" 75 y_N_put ∈ zW := zin 536 (by decide +kernel) (by decide +kernel)
theorem kw_538 : Cond.instanceMethod y_N_put ∈ zW := zin 538 (by decide +kernel) (by decide +kernel)
theorem kw_539 : Cond.code y_N_put prog_8_method_5_code 5 none ∈ zW := zin 539 (by decide +kernel) (by decide +kernel)
theorem kw_544 : Cond.methodLink "SquareCodeModel" 111 y_N_fault ∈ zW := zin 544 (by decide +kernel) (by decide +kernel)
theorem kw_546 : Cond.instanceMethod y_N_fault ∈ zW := zin 546 (by decide +kernel) (by decide +kernel)
theorem kw_547 : Cond.code y_N_fault prog_8_method_15_code 5 (some .int) ∈ zW := zin 547 (by decide +kernel) (by decide +kernel)
theorem kw_548 : Cond.methodLink "SquareCodeModel" 101 y_N_isWord ∈ zW := zin 548 (by decide +kernel) (by decide +kernel)
theorem kw_549 : Cond.static y_N_isWord ∈ zW := zin 549 (by decide +kernel) (by decide +kernel)
theorem kw_550 : Cond.code y_N_isWord prog_8_method_14_code 3 (some .boolean) ∈ zW := zin 550 (by decide +kernel) (by decide +kernel)
theorem kw_551 : Cond.methodLink "SquareCodeModel" 105 y_N_isTwo ∈ zW := zin 551 (by decide +kernel) (by decide +kernel)
theorem kw_552 : Cond.static y_N_isTwo ∈ zW := zin 552 (by decide +kernel) (by decide +kernel)
theorem kw_553 : Cond.code y_N_isTwo prog_8_method_12_code 1 (some .boolean) ∈ zW := zin 553 (by decide +kernel) (by decide +kernel)
theorem kw_554 : Cond.methodLink "SquareCodeModel" 108 y_N_isOne ∈ zW := zin 554 (by decide +kernel) (by decide +kernel)
theorem kw_555 : Cond.static y_N_isOne ∈ zW := zin 555 (by decide +kernel) (by decide +kernel)
theorem kw_556 : Cond.code y_N_isOne prog_8_method_13_code 1 (some .boolean) ∈ zW := zin 556 (by decide +kernel) (by decide +kernel)
theorem kw_557 : Cond.methodLink "SquareCodeModel" 115 y_N_raise ∈ zW := zin 557 (by decide +kernel) (by decide +kernel)
theorem kw_559 : Cond.instanceMethod y_N_raise ∈ zW := zin 559 (by decide +kernel) (by decide +kernel)
theorem kw_560 : Cond.code y_N_raise prog_8_method_9_code 4 none ∈ zW := zin 560 (by decide +kernel) (by decide +kernel)
theorem kw_561 : Cond.methodLink "SquareCodeModel" 79 y_N_copy ∈ zW := zin 561 (by decide +kernel) (by decide +kernel)
theorem kw_563 : Cond.instanceMethod y_N_copy ∈ zW := zin 563 (by decide +kernel) (by decide +kernel)
theorem kw_564 : Cond.code y_N_copy prog_8_method_7_code 4 none ∈ zW := zin 564 (by decide +kernel) (by decide +kernel)
theorem kw_565 : Cond.methodLink "SquareCodeModel" 83 y_N_operate ∈ zW := zin 565 (by decide +kernel) (by decide +kernel)
theorem kw_567 : Cond.instanceMethod y_N_operate ∈ zW := zin 567 (by decide +kernel) (by decide +kernel)
theorem kw_568 : Cond.code y_N_operate prog_8_method_8_code 10 none ∈ zW := zin 568 (by decide +kernel) (by decide +kernel)
theorem kw_569 : Cond.methodLink "SquareCodeModel" 67 y_N_get ∈ zW := zin 569 (by decide +kernel) (by decide +kernel)
theorem kw_571 : Cond.instanceMethod y_N_get ∈ zW := zin 571 (by decide +kernel) (by decide +kernel)
theorem kw_572 : Cond.code y_N_get prog_8_method_4_code 4 (some .int) ∈ zW := zin 572 (by decide +kernel) (by decide +kernel)
theorem kw_577 : Cond.methodLink "SquareCodeModel" 131 y_N_steps ∈ zW := zin 577 (by decide +kernel) (by decide +kernel)
theorem kw_578 : Cond.static y_N_steps ∈ zW := zin 578 (by decide +kernel) (by decide +kernel)
theorem kw_579 : Cond.code y_N_steps prog_8_method_19_code 4 (some .int) ∈ zW := zin 579 (by decide +kernel) (by decide +kernel)
theorem kw_580 : Cond.methodLink "SquareCodeModel" 124 y_N_highest ∈ zW := zin 580 (by decide +kernel) (by decide +kernel)
theorem kw_581 : Cond.static y_N_highest ∈ zW := zin 581 (by decide +kernel) (by decide +kernel)
theorem kw_582 : Cond.code y_N_highest prog_8_method_18_code 2 (some .int) ∈ zW := zin 582 (by decide +kernel) (by decide +kernel)
theorem kw_583 : Cond.methodLink "SquareCodeModel" 134 y_N_writePower ∈ zW := zin 583 (by decide +kernel) (by decide +kernel)
theorem kw_585 : Cond.instanceMethod y_N_writePower ∈ zW := zin 585 (by decide +kernel) (by decide +kernel)
theorem kw_586 : Cond.code y_N_writePower prog_8_method_20_code 5 (some .int) ∈ zW := zin 586 (by decide +kernel) (by decide +kernel)
theorem kw_587 : Cond.methodLink "SquareCodeModel" 127 y_N_write ∈ zW := zin 587 (by decide +kernel) (by decide +kernel)
theorem kw_589 : Cond.instanceMethod y_N_write ∈ zW := zin 589 (by decide +kernel) (by decide +kernel)
theorem kw_590 : Cond.code y_N_write prog_8_method_17_code 5 (some .int) ∈ zW := zin 590 (by decide +kernel) (by decide +kernel)
theorem kw_595 : Cond.methodLink "SquareCodeModel" 165 y_N_valueOfInstruction ∈ zW := zin 595 (by decide +kernel) (by decide +kernel)
theorem kw_597 : Cond.instanceMethod y_N_valueOfInstruction ∈ zW := zin 597 (by decide +kernel) (by decide +kernel)
theorem kw_598 : Cond.code y_N_valueOfInstruction prog_8_method_29_code 4 (some .int) ∈ zW := zin 598 (by decide +kernel) (by decide +kernel)
theorem kw_599 : Cond.methodLink "SquareCodeModel" 150 y_N_added ∈ zW := zin 599 (by decide +kernel) (by decide +kernel)
theorem kw_601 : Cond.instanceMethod y_N_added ∈ zW := zin 601 (by decide +kernel) (by decide +kernel)
theorem kw_602 : Cond.code y_N_added prog_8_method_24_code 3 (some .int) ∈ zW := zin 602 (by decide +kernel) (by decide +kernel)
theorem kw_603 : Cond.methodLink "SquareCodeModel" 144 y_N_value ∈ zW := zin 603 (by decide +kernel) (by decide +kernel)
theorem kw_605 : Cond.instanceMethod y_N_value ∈ zW := zin 605 (by decide +kernel) (by decide +kernel)
theorem kw_606 : Cond.code y_N_value prog_8_method_22_code 6 (some .int) ∈ zW := zin 606 (by decide +kernel) (by decide +kernel)
theorem kw_607 : Cond.methodLink "SquareCodeModel" 153 y_N_less ∈ zW := zin 607 (by decide +kernel) (by decide +kernel)
theorem kw_609 : Cond.instanceMethod y_N_less ∈ zW := zin 609 (by decide +kernel) (by decide +kernel)
theorem kw_610 : Cond.code y_N_less prog_8_method_25_code 3 (some .int) ∈ zW := zin 610 (by decide +kernel) (by decide +kernel)
theorem kw_611 : Cond.methodLink "SquareCodeModel" 147 y_N_noughts ∈ zW := zin 611 (by decide +kernel) (by decide +kernel)
theorem kw_613 : Cond.instanceMethod y_N_noughts ∈ zW := zin 613 (by decide +kernel) (by decide +kernel)
theorem kw_614 : Cond.code y_N_noughts prog_8_method_23_code 1 (some .int) ∈ zW := zin 614 (by decide +kernel) (by decide +kernel)
theorem kw_615 : Cond.methodLink "SquareCodeModel" 156 y_N_times ∈ zW := zin 615 (by decide +kernel) (by decide +kernel)
theorem kw_617 : Cond.instanceMethod y_N_times ∈ zW := zin 617 (by decide +kernel) (by decide +kernel)
theorem kw_618 : Cond.code y_N_times prog_8_method_26_code 3 (some .int) ∈ zW := zin 618 (by decide +kernel) (by decide +kernel)
theorem kw_619 : Cond.methodLink "SquareCodeModel" 159 y_N_turned ∈ zW := zin 619 (by decide +kernel) (by decide +kernel)
theorem kw_621 : Cond.instanceMethod y_N_turned ∈ zW := zin 621 (by decide +kernel) (by decide +kernel)
theorem kw_622 : Cond.code y_N_turned prog_8_method_27_code 2 (some .int) ∈ zW := zin 622 (by decide +kernel) (by decide +kernel)
theorem kw_623 : Cond.methodLink "SquareCodeModel" 162 y_N_scaled ∈ zW := zin 623 (by decide +kernel) (by decide +kernel)
theorem kw_625 : Cond.instanceMethod y_N_scaled ∈ zW := zin 625 (by decide +kernel) (by decide +kernel)
theorem kw_626 : Cond.code y_N_scaled prog_8_method_28_code 5 (some .int) ∈ zW := zin 626 (by decide +kernel) (by decide +kernel)
theorem mw_C_length : zVW y_C_length prog_2_method_2_code 1 ((some .int)) 0 := ⟨kw_140, kw_4, kw_138, kw_139, ⟨by decide +kernel, by decide +kernel, by decide +kernel⟩⟩
theorem mw_R_isFull : zVW y_R_isFull prog_6_method_3_code 1 ((some .boolean)) 0 := ⟨kw_132, kw_3, kw_130, kw_131, ⟨by decide +kernel, by decide +kernel, by decide +kernel⟩⟩
theorem mw_X_hasCode : zVW y_X_hasCode prog_1_method_14_code 1 ((some .boolean)) 0 := ⟨kw_136, kw_1, kw_135, (zinS 0 (by decide +kernel) (by decide +kernel)), ⟨by decide +kernel, by decide +kernel, by decide +kernel⟩⟩
theorem mw_R_append : zVW y_R_append prog_6_method_4_code 2 none 1 := ⟨kw_144, kw_3, kw_142, kw_143, ⟨by decide +kernel, by decide +kernel, by decide +kernel⟩⟩
theorem mw_JM_floorMod : zSW y_JM_floorMod prog_10_method_50_code 3 ((some .int)) 2 := ⟨kw_159, kw_8, kw_158, ⟨by decide +kernel, by decide +kernel, by decide +kernel⟩⟩
theorem mw_M_hasCell : zVW y_M_hasCell prog_4_method_2_code 3 ((some .boolean)) 2 := ⟨kw_152, kw_2, kw_150, kw_151, ⟨by decide +kernel, by decide +kernel, by decide +kernel⟩⟩
theorem mw_M_put : zVW y_M_put prog_4_method_4_code 5 none 4 := ⟨kw_156, kw_2, kw_154, kw_155, ⟨by decide +kernel, by decide +kernel, by decide +kernel⟩⟩
theorem mw_X_rewind : zVW y_X_rewind prog_1_method_16_code 1 none 0 := ⟨kw_163, kw_1, kw_162, (zinS 1 (by decide +kernel) (by decide +kernel)), ⟨by decide +kernel, by decide +kernel, by decide +kernel⟩⟩
theorem mw_R_isWord : zSW y_R_isWord prog_6_method_11_code 2 ((some .boolean)) 1 := ⟨kw_174, kw_3, kw_173, ⟨by decide +kernel, by decide +kernel, by decide +kernel⟩⟩
theorem mw_R_operation : zVW y_R_operation prog_6_method_6_code 2 ((some .int)) 1 := ⟨kw_178, kw_3, kw_176, kw_177, ⟨by decide +kernel, by decide +kernel, by decide +kernel⟩⟩
theorem mw_X_operandsOf : zSW y_X_operandsOf prog_1_method_18_code 1 ((some .int)) 1 := ⟨kw_181, kw_1, kw_180, ⟨by decide +kernel, by decide +kernel, by decide +kernel⟩⟩
theorem mw_X_topDigit : zSW y_X_topDigit prog_1_method_19_code 3 ((some .int)) 1 := ⟨kw_195, kw_1, kw_194, ⟨by decide +kernel, by decide +kernel, by decide +kernel⟩⟩
theorem mw_JI_bitCount : zSW y_JI_bitCount prog_9_method_49_code 1 ((some .int)) 1 := ⟨kw_198, kw_9, kw_197, ⟨by decide +kernel, by decide +kernel, by decide +kernel⟩⟩
theorem mw_R_number : zVW y_R_number prog_6_method_7_code 2 ((some .int)) 1 := ⟨kw_189, kw_3, kw_187, kw_188, ⟨by decide +kernel, by decide +kernel, by decide +kernel⟩⟩
theorem mw_R_powerInstructions : zSW y_R_powerInstructions prog_6_method_10_code 1 ((some .int)) 1 := ⟨kw_192, kw_3, kw_191, ⟨by decide +kernel, by decide +kernel, by decide +kernel⟩⟩
theorem mw_C_packed : zSW y_C_packed prog_2_method_12_code 3 ((some .int)) 3 := ⟨kw_227, kw_4, kw_226, ⟨by decide +kernel, by decide +kernel, by decide +kernel⟩⟩
theorem mw_C_append : zVW y_C_append prog_2_method_10_code 4 ((some .int)) 3 := ⟨kw_224, kw_4, kw_222, kw_223, ⟨by decide +kernel, by decide +kernel, by decide +kernel⟩⟩
theorem mw_X_isDigitOne : zSW y_X_isDigitOne prog_1_method_20_code 2 ((some .boolean)) 2 := ⟨kw_234, kw_1, kw_233, ⟨by decide +kernel, by decide +kernel, by decide +kernel⟩⟩
theorem mw_P_powerOf : zSW y_P_powerOf prog_3_method_4_code 5 ((some .int)) 3 := ⟨kw_230, kw_5, kw_229, ⟨by decide +kernel, by decide +kernel, by decide +kernel⟩⟩
theorem mw_R_length : zVW y_R_length prog_6_method_2_code 1 ((some .int)) 0 := ⟨kw_213, kw_3, kw_211, kw_212, ⟨by decide +kernel, by decide +kernel, by decide +kernel⟩⟩
theorem mw_P_instructionsFor : zVW y_P_instructionsFor prog_3_method_3_code 5 ((some .int)) 4 := ⟨kw_220, kw_5, kw_219, (zinS 2 (by decide +kernel) (by decide +kernel)), ⟨by decide +kernel, by decide +kernel, by decide +kernel⟩⟩
theorem mw_C_clear : zVW y_C_clear prog_2_method_3_code 1 none 0 := ⟨kw_209, kw_4, kw_207, kw_208, ⟨by decide +kernel, by decide +kernel, by decide +kernel⟩⟩
theorem mw_R_fault : zVW y_R_fault prog_6_method_8_code 4 ((some .int)) 0 := ⟨kw_171, kw_3, kw_169, kw_170, ⟨by decide +kernel, by decide +kernel, by decide +kernel⟩⟩
theorem mw_R_instructionsNeeded : zVW y_R_instructionsNeeded prog_6_method_9_code 3 ((some .int)) 0 := ⟨kw_185, kw_3, kw_183, kw_184, ⟨by decide +kernel, by decide +kernel, by decide +kernel⟩⟩
theorem mw_P_translate : zVW y_P_translate prog_3_method_2_code 6 none 2 := ⟨kw_205, kw_5, kw_203, kw_204, ⟨by decide +kernel, by decide +kernel, by decide +kernel⟩⟩
theorem mw_C_operation : zVW y_C_operation prog_2_method_5_code 2 ((some .int)) 1 := ⟨kw_248, kw_4, kw_246, kw_247, ⟨by decide +kernel, by decide +kernel, by decide +kernel⟩⟩
theorem mw_O_is : zVW y_O_is prog_5_method_4_code 3 ((some .boolean)) 2 := ⟨kw_268, kw_6, kw_267, (zinS 5 (by decide +kernel) (by decide +kernel)), ⟨by decide +kernel, by decide +kernel, by decide +kernel⟩⟩
theorem mw_C_findOrAppend : zVW y_C_findOrAppend prog_2_method_11_code 6 ((some .int)) 3 := ⟨kw_278, kw_4, kw_276, kw_277, ⟨by decide +kernel, by decide +kernel, by decide +kernel⟩⟩
theorem mw_O_nought : zVW y_O_nought prog_5_method_5_code 1 ((some .int)) 0 := ⟨kw_287, kw_6, kw_286, (zinS 7 (by decide +kernel) (by decide +kernel)), ⟨by decide +kernel, by decide +kernel, by decide +kernel⟩⟩
theorem mw_C_first : zVW y_C_first prog_2_method_6_code 2 ((some .int)) 1 := ⟨kw_252, kw_4, kw_250, kw_251, ⟨by decide +kernel, by decide +kernel, by decide +kernel⟩⟩
theorem mw_C_second : zVW y_C_second prog_2_method_7_code 2 ((some .int)) 1 := ⟨kw_256, kw_4, kw_254, kw_255, ⟨by decide +kernel, by decide +kernel, by decide +kernel⟩⟩
theorem mw_O_sum : zVW y_O_sum prog_5_method_6_code 3 ((some .int)) 2 := ⟨kw_264, kw_6, kw_263, (zinS 4 (by decide +kernel) (by decide +kernel)), ⟨by decide +kernel, by decide +kernel, by decide +kernel⟩⟩
theorem mw_O_difference : zVW y_O_difference prog_5_method_7_code 3 ((some .int)) 2 := ⟨kw_283, kw_6, kw_282, (zinS 6 (by decide +kernel) (by decide +kernel)), ⟨by decide +kernel, by decide +kernel, by decide +kernel⟩⟩
theorem mw_O_product : zVW y_O_product prog_5_method_8_code 3 ((some .int)) 2 := ⟨kw_291, kw_6, kw_290, (zinS 8 (by decide +kernel) (by decide +kernel)), ⟨by decide +kernel, by decide +kernel, by decide +kernel⟩⟩
theorem mw_O_turned : zVW y_O_turned prog_5_method_9_code 2 ((some .int)) 1 := ⟨kw_295, kw_6, kw_294, (zinS 9 (by decide +kernel) (by decide +kernel)), ⟨by decide +kernel, by decide +kernel, by decide +kernel⟩⟩
theorem mw_O_scaled : zVW y_O_scaled prog_5_method_10_code 6 ((some .int)) 2 := ⟨kw_299, kw_6, kw_298, (zinS 10 (by decide +kernel) (by decide +kernel)), ⟨by decide +kernel, by decide +kernel, by decide +kernel⟩⟩
theorem mw_O_rewritten : zVW y_O_rewritten prog_5_method_13_code 7 ((some .int)) 2 := ⟨kw_316, kw_6, kw_315, (zinS 13 (by decide +kernel) (by decide +kernel)), ⟨by decide +kernel, by decide +kernel, by decide +kernel⟩⟩
theorem mw_C_result : zVW y_C_result prog_2_method_8_code 1 ((some .int)) 0 := ⟨kw_303, kw_4, kw_301, kw_302, ⟨by decide +kernel, by decide +kernel, by decide +kernel⟩⟩
theorem mw_O_markNeeded : zVW y_O_markNeeded prog_5_method_11_code 4 none 1 := ⟨kw_307, kw_6, kw_306, (zinS 11 (by decide +kernel) (by decide +kernel)), ⟨by decide +kernel, by decide +kernel, by decide +kernel⟩⟩
theorem mw_O_rewrite : zVW y_O_rewrite prog_5_method_12_code 3 none 1 := ⟨kw_312, kw_6, kw_311, (zinS 12 (by decide +kernel) (by decide +kernel)), ⟨by decide +kernel, by decide +kernel, by decide +kernel⟩⟩
theorem mw_O_value : zVW y_O_value prog_5_method_3_code 4 ((some .int)) 3 := ⟨kw_260, kw_6, kw_259, (zinS 3 (by decide +kernel) (by decide +kernel)), ⟨by decide +kernel, by decide +kernel, by decide +kernel⟩⟩
theorem mw_O_improve : zVW y_O_improve prog_5_method_2_code 3 none 1 := ⟨kw_242, kw_6, kw_240, kw_241, ⟨by decide +kernel, by decide +kernel, by decide +kernel⟩⟩
theorem mw_M_makeNought : zVW y_M_makeNought prog_4_method_7_code 3 none 1 := ⟨kw_345, kw_2, kw_343, kw_344, ⟨by decide +kernel, by decide +kernel, by decide +kernel⟩⟩
theorem mw_M_get : zVW y_M_get prog_4_method_3_code 4 ((some .int)) 3 := ⟨kw_358, kw_2, kw_356, kw_357, ⟨by decide +kernel, by decide +kernel, by decide +kernel⟩⟩
theorem mw_M_keepFresh : zVW y_M_keepFresh prog_4_method_12_code 2 none 1 := ⟨kw_362, kw_2, kw_361, (zinS 17 (by decide +kernel) (by decide +kernel)), ⟨by decide +kernel, by decide +kernel, by decide +kernel⟩⟩
theorem mw_M_copy : zVW y_M_copy prog_4_method_6_code 3 none 2 := ⟨kw_334, kw_2, kw_332, kw_333, ⟨by decide +kernel, by decide +kernel, by decide +kernel⟩⟩
theorem mw_M_makeOne : zVW y_M_makeOne prog_4_method_8_code 3 none 1 := ⟨kw_341, kw_2, kw_340, (zinS 14 (by decide +kernel) (by decide +kernel)), ⟨by decide +kernel, by decide +kernel, by decide +kernel⟩⟩
theorem mw_M_combine : zVW y_M_combine prog_4_method_9_code 7 none 4 := ⟨kw_350, kw_2, kw_349, (zinS 15 (by decide +kernel) (by decide +kernel)), ⟨by decide +kernel, by decide +kernel, by decide +kernel⟩⟩
theorem mw_M_multiply : zVW y_M_multiply prog_4_method_10_code 8 none 3 := ⟨kw_354, kw_2, kw_353, (zinS 16 (by decide +kernel) (by decide +kernel)), ⟨by decide +kernel, by decide +kernel, by decide +kernel⟩⟩
theorem mw_M_turn : zVW y_M_turn prog_4_method_11_code 5 none 2 := ⟨kw_366, kw_2, kw_365, (zinS 18 (by decide +kernel) (by decide +kernel)), ⟨by decide +kernel, by decide +kernel, by decide +kernel⟩⟩
theorem mw_M_scale : zVW y_M_scale prog_4_method_13_code 5 none 3 := ⟨kw_370, kw_2, kw_369, (zinS 19 (by decide +kernel) (by decide +kernel)), ⟨by decide +kernel, by decide +kernel, by decide +kernel⟩⟩
theorem mw_X_isAllDone : zVW y_X_isAllDone prog_1_method_15_code 1 ((some .boolean)) 0 := ⟨kw_374, kw_1, kw_373, (zinS 20 (by decide +kernel) (by decide +kernel)), ⟨by decide +kernel, by decide +kernel, by decide +kernel⟩⟩
theorem mw_M_apply : zVW y_M_apply prog_4_method_5_code 5 none 4 := ⟨kw_330, kw_2, kw_328, kw_329, ⟨by decide +kernel, by decide +kernel, by decide +kernel⟩⟩
theorem mw_M_raise : zVW y_M_raise prog_4_method_14_code 4 none 2 := ⟨kw_390, kw_2, kw_388, kw_389, ⟨by decide +kernel, by decide +kernel, by decide +kernel⟩⟩
theorem mw_X_workOut : zVW y_X_workOut prog_1_method_17_code 6 none 0 := ⟨kw_382, kw_1, kw_381, (zinS 21 (by decide +kernel) (by decide +kernel)), ⟨by decide +kernel, by decide +kernel, by decide +kernel⟩⟩
theorem mw_C_instruction : zVW y_C_instruction prog_2_method_4_code 2 ((some .int)) 1 := ⟨kw_411, kw_4, kw_409, kw_410, ⟨by decide +kernel, by decide +kernel, by decide +kernel⟩⟩
theorem mw_C_count : zVW y_C_count prog_2_method_9_code 4 ((some .int)) 1 := ⟨kw_423, kw_4, kw_421, kw_422, ⟨by decide +kernel, by decide +kernel, by decide +kernel⟩⟩
theorem mw_R_clear : zVW y_R_clear prog_6_method_5_code 1 none 0 := ⟨kw_432, kw_3, kw_430, kw_431, ⟨by decide +kernel, by decide +kernel, by decide +kernel⟩⟩
theorem mw_N_in : zSW y_N_in prog_8_method_2_code 3 ((some .boolean)) 3 := ⟨kw_527, kw_7, kw_526, ⟨by decide +kernel, by decide +kernel, by decide +kernel⟩⟩
theorem mw_N_mod : zVW y_N_mod prog_8_method_6_code 3 ((some .int)) 1 := ⟨kw_535, kw_7, kw_534, (zinS 23 (by decide +kernel) (by decide +kernel)), ⟨by decide +kernel, by decide +kernel, by decide +kernel⟩⟩
theorem mw_N_put : zVW y_N_put prog_8_method_5_code 5 none 4 := ⟨kw_539, kw_7, kw_538, (zinS 24 (by decide +kernel) (by decide +kernel)), ⟨by decide +kernel, by decide +kernel, by decide +kernel⟩⟩
theorem mw_N_get : zVW y_N_get prog_8_method_4_code 4 ((some .int)) 3 := ⟨kw_572, kw_7, kw_571, (zinS 29 (by decide +kernel) (by decide +kernel)), ⟨by decide +kernel, by decide +kernel, by decide +kernel⟩⟩
theorem mw_N_copy : zVW y_N_copy prog_8_method_7_code 4 none 2 := ⟨kw_564, kw_7, kw_563, (zinS 27 (by decide +kernel) (by decide +kernel)), ⟨by decide +kernel, by decide +kernel, by decide +kernel⟩⟩
theorem mw_N_operate : zVW y_N_operate prog_8_method_8_code 10 none 5 := ⟨kw_568, kw_7, kw_567, (zinS 28 (by decide +kernel) (by decide +kernel)), ⟨by decide +kernel, by decide +kernel, by decide +kernel⟩⟩
theorem mw_N_isPlace : zVW y_N_isPlace prog_8_method_3_code 3 ((some .boolean)) 2 := ⟨kw_531, kw_7, kw_530, (zinS 22 (by decide +kernel) (by decide +kernel)), ⟨by decide +kernel, by decide +kernel, by decide +kernel⟩⟩
theorem mw_N_isWord : zSW y_N_isWord prog_8_method_14_code 3 ((some .boolean)) 1 := ⟨kw_550, kw_7, kw_549, ⟨by decide +kernel, by decide +kernel, by decide +kernel⟩⟩
theorem mw_N_isTwo : zSW y_N_isTwo prog_8_method_12_code 1 ((some .boolean)) 1 := ⟨kw_553, kw_7, kw_552, ⟨by decide +kernel, by decide +kernel, by decide +kernel⟩⟩
theorem mw_N_isOne : zSW y_N_isOne prog_8_method_13_code 1 ((some .boolean)) 1 := ⟨kw_556, kw_7, kw_555, ⟨by decide +kernel, by decide +kernel, by decide +kernel⟩⟩
theorem mw_N_raise : zVW y_N_raise prog_8_method_9_code 4 none 2 := ⟨kw_560, kw_7, kw_559, (zinS 26 (by decide +kernel) (by decide +kernel)), ⟨by decide +kernel, by decide +kernel, by decide +kernel⟩⟩
theorem mw_N_fault : zVW y_N_fault prog_8_method_15_code 5 ((some .int)) 0 := ⟨kw_547, kw_7, kw_546, (zinS 25 (by decide +kernel) (by decide +kernel)), ⟨by decide +kernel, by decide +kernel, by decide +kernel⟩⟩
theorem mw_N_highest : zSW y_N_highest prog_8_method_18_code 2 ((some .int)) 1 := ⟨kw_582, kw_7, kw_581, ⟨by decide +kernel, by decide +kernel, by decide +kernel⟩⟩
theorem mw_N_write : zVW y_N_write prog_8_method_17_code 5 ((some .int)) 4 := ⟨kw_590, kw_7, kw_589, (zinS 31 (by decide +kernel) (by decide +kernel)), ⟨by decide +kernel, by decide +kernel, by decide +kernel⟩⟩
theorem mw_N_writePower : zVW y_N_writePower prog_8_method_20_code 5 ((some .int)) 2 := ⟨kw_586, kw_7, kw_585, (zinS 30 (by decide +kernel) (by decide +kernel)), ⟨by decide +kernel, by decide +kernel, by decide +kernel⟩⟩
theorem mw_N_steps : zSW y_N_steps prog_8_method_19_code 4 ((some .int)) 1 := ⟨kw_579, kw_7, kw_578, ⟨by decide +kernel, by decide +kernel, by decide +kernel⟩⟩
theorem mw_N_value : zVW y_N_value prog_8_method_22_code 6 ((some .int)) 4 := ⟨kw_606, kw_7, kw_605, (zinS 34 (by decide +kernel) (by decide +kernel)), ⟨by decide +kernel, by decide +kernel, by decide +kernel⟩⟩
theorem mw_N_noughts : zVW y_N_noughts prog_8_method_23_code 1 ((some .int)) 0 := ⟨kw_614, kw_7, kw_613, (zinS 36 (by decide +kernel) (by decide +kernel)), ⟨by decide +kernel, by decide +kernel, by decide +kernel⟩⟩
theorem mw_N_scaled : zVW y_N_scaled prog_8_method_28_code 5 ((some .int)) 2 := ⟨kw_626, kw_7, kw_625, (zinS 39 (by decide +kernel) (by decide +kernel)), ⟨by decide +kernel, by decide +kernel, by decide +kernel⟩⟩
theorem mw_N_turned : zVW y_N_turned prog_8_method_27_code 2 ((some .int)) 1 := ⟨kw_622, kw_7, kw_621, (zinS 38 (by decide +kernel) (by decide +kernel)), ⟨by decide +kernel, by decide +kernel, by decide +kernel⟩⟩
theorem mw_N_times : zVW y_N_times prog_8_method_26_code 3 ((some .int)) 2 := ⟨kw_618, kw_7, kw_617, (zinS 37 (by decide +kernel) (by decide +kernel)), ⟨by decide +kernel, by decide +kernel, by decide +kernel⟩⟩
theorem mw_N_less : zVW y_N_less prog_8_method_25_code 3 ((some .int)) 2 := ⟨kw_610, kw_7, kw_609, (zinS 35 (by decide +kernel) (by decide +kernel)), ⟨by decide +kernel, by decide +kernel, by decide +kernel⟩⟩
theorem mw_N_added : zVW y_N_added prog_8_method_24_code 3 ((some .int)) 2 := ⟨kw_602, kw_7, kw_601, (zinS 33 (by decide +kernel) (by decide +kernel)), ⟨by decide +kernel, by decide +kernel, by decide +kernel⟩⟩
theorem mw_N_valueOfInstruction : zVW y_N_valueOfInstruction prog_8_method_29_code 4 ((some .int)) 1 := ⟨kw_598, kw_7, kw_597, (zinS 32 (by decide +kernel) (by decide +kernel)), ⟨by decide +kernel, by decide +kernel, by decide +kernel⟩⟩
end
section
theorem in_C : ∀ w ∈ u_ws R_C T_C 2, w ∈ zW := by decide +kernel
theorem in_P : ∀ w ∈ u_ws R_P T_P 1, w ∈ zW := by decide +kernel
theorem in_M : ∀ w ∈ u_ws R_M T_M 5, w ∈ zW := by decide +kernel
theorem in_O : ∀ w ∈ u_ws R_O T_O 5, w ∈ zW := by decide +kernel
theorem in_R : ∀ w ∈ u_ws R_R T_R 2, w ∈ zW := by decide +kernel
theorem in_X : ∀ w ∈ u_ws R_X T_X 7, w ∈ zW := by decide +kernel
theorem in_N : ∀ w ∈ u_ws R_N T_N 24, w ∈ zW := by decide +kernel
end
section
theorem d_JM_floorMod_0 : decode prog_10_method_50_code 0 = .ok (.iload_n 0, 1) := by decide +kernel
theorem d_JM_floorMod_1 : decode prog_10_method_50_code 1 = .ok (.iload_n 1, 1) := by decide +kernel
theorem d_JM_floorMod_2 : decode prog_10_method_50_code 2 = .ok (.irem, 1) := by decide +kernel
theorem d_JM_floorMod_3 : decode prog_10_method_50_code 3 = .ok (.istore_n 2, 1) := by decide +kernel
theorem d_JM_floorMod_4 : decode prog_10_method_50_code 4 = .ok (.iload_n 0, 1) := by decide +kernel
theorem d_JM_floorMod_5 : decode prog_10_method_50_code 5 = .ok (.iload_n 1, 1) := by decide +kernel
theorem d_JM_floorMod_6 : decode prog_10_method_50_code 6 = .ok (.ixor, 1) := by decide +kernel
theorem d_JM_floorMod_7 : decode prog_10_method_50_code 7 = .ok (.ifCond .ge 11, 3) := by decide +kernel
theorem d_JM_floorMod_10 : decode prog_10_method_50_code 10 = .ok (.iload_n 2, 1) := by decide +kernel
theorem d_JM_floorMod_11 : decode prog_10_method_50_code 11 = .ok (.ifCond .eq 7, 3) := by decide +kernel
theorem d_JM_floorMod_14 : decode prog_10_method_50_code 14 = .ok (.iload_n 2, 1) := by decide +kernel
theorem d_JM_floorMod_15 : decode prog_10_method_50_code 15 = .ok (.iload_n 1, 1) := by decide +kernel
theorem d_JM_floorMod_16 : decode prog_10_method_50_code 16 = .ok (.iadd, 1) := by decide +kernel
theorem d_JM_floorMod_17 : decode prog_10_method_50_code 17 = .ok (.ireturn, 1) := by decide +kernel
theorem d_JM_floorMod_18 : decode prog_10_method_50_code 18 = .ok (.iload_n 2, 1) := by decide +kernel
theorem d_JM_floorMod_19 : decode prog_10_method_50_code 19 = .ok (.ireturn, 1) := by decide +kernel
theorem d_JI_bitCount_0 : decode prog_9_method_49_code 0 = .ok (.iload_n 0, 1) := by decide +kernel
theorem d_JI_bitCount_1 : decode prog_9_method_49_code 1 = .ok (.iload_n 0, 1) := by decide +kernel
theorem d_JI_bitCount_2 : decode prog_9_method_49_code 2 = .ok (.iconst 1, 1) := by decide +kernel
theorem d_JI_bitCount_3 : decode prog_9_method_49_code 3 = .ok (.iushr, 1) := by decide +kernel
theorem d_JI_bitCount_4 : decode prog_9_method_49_code 4 = .ok (.ldc_w 265, 3) := by decide +kernel
theorem d_JI_bitCount_7 : decode prog_9_method_49_code 7 = .ok (.iand, 1) := by decide +kernel
theorem d_JI_bitCount_8 : decode prog_9_method_49_code 8 = .ok (.isub, 1) := by decide +kernel
theorem d_JI_bitCount_9 : decode prog_9_method_49_code 9 = .ok (.istore_n 0, 1) := by decide +kernel
theorem d_JI_bitCount_10 : decode prog_9_method_49_code 10 = .ok (.iload_n 0, 1) := by decide +kernel
theorem d_JI_bitCount_11 : decode prog_9_method_49_code 11 = .ok (.ldc_w 266, 3) := by decide +kernel
theorem d_JI_bitCount_14 : decode prog_9_method_49_code 14 = .ok (.iand, 1) := by decide +kernel
theorem d_JI_bitCount_15 : decode prog_9_method_49_code 15 = .ok (.iload_n 0, 1) := by decide +kernel
theorem d_JI_bitCount_16 : decode prog_9_method_49_code 16 = .ok (.iconst 2, 1) := by decide +kernel
theorem d_JI_bitCount_17 : decode prog_9_method_49_code 17 = .ok (.iushr, 1) := by decide +kernel
theorem d_JI_bitCount_18 : decode prog_9_method_49_code 18 = .ok (.ldc_w 266, 3) := by decide +kernel
theorem d_JI_bitCount_21 : decode prog_9_method_49_code 21 = .ok (.iand, 1) := by decide +kernel
theorem d_JI_bitCount_22 : decode prog_9_method_49_code 22 = .ok (.iadd, 1) := by decide +kernel
theorem d_JI_bitCount_23 : decode prog_9_method_49_code 23 = .ok (.istore_n 0, 1) := by decide +kernel
theorem d_JI_bitCount_24 : decode prog_9_method_49_code 24 = .ok (.iload_n 0, 1) := by decide +kernel
theorem d_JI_bitCount_25 : decode prog_9_method_49_code 25 = .ok (.iload_n 0, 1) := by decide +kernel
theorem d_JI_bitCount_26 : decode prog_9_method_49_code 26 = .ok (.iconst 4, 1) := by decide +kernel
theorem d_JI_bitCount_27 : decode prog_9_method_49_code 27 = .ok (.iushr, 1) := by decide +kernel
theorem d_JI_bitCount_28 : decode prog_9_method_49_code 28 = .ok (.iadd, 1) := by decide +kernel
theorem d_JI_bitCount_29 : decode prog_9_method_49_code 29 = .ok (.ldc_w 267, 3) := by decide +kernel
theorem d_JI_bitCount_32 : decode prog_9_method_49_code 32 = .ok (.iand, 1) := by decide +kernel
theorem d_JI_bitCount_33 : decode prog_9_method_49_code 33 = .ok (.istore_n 0, 1) := by decide +kernel
theorem d_JI_bitCount_34 : decode prog_9_method_49_code 34 = .ok (.iload_n 0, 1) := by decide +kernel
theorem d_JI_bitCount_35 : decode prog_9_method_49_code 35 = .ok (.iload_n 0, 1) := by decide +kernel
theorem d_JI_bitCount_36 : decode prog_9_method_49_code 36 = .ok (.bipush 8, 2) := by decide +kernel
theorem d_JI_bitCount_38 : decode prog_9_method_49_code 38 = .ok (.iushr, 1) := by decide +kernel
theorem d_JI_bitCount_39 : decode prog_9_method_49_code 39 = .ok (.iadd, 1) := by decide +kernel
theorem d_JI_bitCount_40 : decode prog_9_method_49_code 40 = .ok (.istore_n 0, 1) := by decide +kernel
theorem d_JI_bitCount_41 : decode prog_9_method_49_code 41 = .ok (.iload_n 0, 1) := by decide +kernel
theorem d_JI_bitCount_42 : decode prog_9_method_49_code 42 = .ok (.iload_n 0, 1) := by decide +kernel
theorem d_JI_bitCount_43 : decode prog_9_method_49_code 43 = .ok (.bipush 16, 2) := by decide +kernel
theorem d_JI_bitCount_45 : decode prog_9_method_49_code 45 = .ok (.iushr, 1) := by decide +kernel
theorem d_JI_bitCount_46 : decode prog_9_method_49_code 46 = .ok (.iadd, 1) := by decide +kernel
theorem d_JI_bitCount_47 : decode prog_9_method_49_code 47 = .ok (.istore_n 0, 1) := by decide +kernel
theorem d_JI_bitCount_48 : decode prog_9_method_49_code 48 = .ok (.iload_n 0, 1) := by decide +kernel
theorem d_JI_bitCount_49 : decode prog_9_method_49_code 49 = .ok (.bipush 63, 2) := by decide +kernel
theorem d_JI_bitCount_51 : decode prog_9_method_49_code 51 = .ok (.iand, 1) := by decide +kernel
theorem d_JI_bitCount_52 : decode prog_9_method_49_code 52 = .ok (.ireturn, 1) := by decide +kernel
theorem d_C_length_0 : decode prog_2_method_2_code 0 = .ok (.aload_n 0, 1) := by decide +kernel
theorem d_C_length_1 : decode prog_2_method_2_code 1 = .ok (.getfield 15, 3) := by decide +kernel
theorem d_C_length_4 : decode prog_2_method_2_code 4 = .ok (.ireturn, 1) := by decide +kernel
theorem d_C_clear_0 : decode prog_2_method_3_code 0 = .ok (.aload_n 0, 1) := by decide +kernel
theorem d_C_clear_1 : decode prog_2_method_3_code 1 = .ok (.iconst 0, 1) := by decide +kernel
theorem d_C_clear_2 : decode prog_2_method_3_code 2 = .ok (.putfield 15, 3) := by decide +kernel
theorem d_C_clear_5 : decode prog_2_method_3_code 5 = .ok (.return_, 1) := by decide +kernel
theorem d_C_packed_0 : decode prog_2_method_12_code 0 = .ok (.iload_n 0, 1) := by decide +kernel
theorem d_C_packed_1 : decode prog_2_method_12_code 1 = .ok (.bipush 100, 2) := by decide +kernel
theorem d_C_packed_3 : decode prog_2_method_12_code 3 = .ok (.imul, 1) := by decide +kernel
theorem d_C_packed_4 : decode prog_2_method_12_code 4 = .ok (.iload_n 1, 1) := by decide +kernel
theorem d_C_packed_5 : decode prog_2_method_12_code 5 = .ok (.iadd, 1) := by decide +kernel
theorem d_C_packed_6 : decode prog_2_method_12_code 6 = .ok (.bipush 100, 2) := by decide +kernel
theorem d_C_packed_8 : decode prog_2_method_12_code 8 = .ok (.imul, 1) := by decide +kernel
theorem d_C_packed_9 : decode prog_2_method_12_code 9 = .ok (.iload_n 2, 1) := by decide +kernel
theorem d_C_packed_10 : decode prog_2_method_12_code 10 = .ok (.iadd, 1) := by decide +kernel
theorem d_C_packed_11 : decode prog_2_method_12_code 11 = .ok (.ireturn, 1) := by decide +kernel
theorem d_C_append_0 : decode prog_2_method_10_code 0 = .ok (.aload_n 0, 1) := by decide +kernel
theorem d_C_append_1 : decode prog_2_method_10_code 1 = .ok (.getfield 9, 3) := by decide +kernel
theorem d_C_append_4 : decode prog_2_method_10_code 4 = .ok (.aload_n 0, 1) := by decide +kernel
theorem d_C_append_5 : decode prog_2_method_10_code 5 = .ok (.getfield 15, 3) := by decide +kernel
theorem d_C_append_8 : decode prog_2_method_10_code 8 = .ok (.iload_n 1, 1) := by decide +kernel
theorem d_C_append_9 : decode prog_2_method_10_code 9 = .ok (.iload_n 2, 1) := by decide +kernel
theorem d_C_append_10 : decode prog_2_method_10_code 10 = .ok (.iload_n 3, 1) := by decide +kernel
theorem d_C_append_11 : decode prog_2_method_10_code 11 = .ok (.invokestatic 23, 3) := by decide +kernel
theorem d_C_append_14 : decode prog_2_method_10_code 14 = .ok (.iastore, 1) := by decide +kernel
theorem d_C_append_15 : decode prog_2_method_10_code 15 = .ok (.aload_n 0, 1) := by decide +kernel
theorem d_C_append_16 : decode prog_2_method_10_code 16 = .ok (.dup, 1) := by decide +kernel
theorem d_C_append_17 : decode prog_2_method_10_code 17 = .ok (.getfield 15, 3) := by decide +kernel
theorem d_C_append_20 : decode prog_2_method_10_code 20 = .ok (.iconst 1, 1) := by decide +kernel
theorem d_C_append_21 : decode prog_2_method_10_code 21 = .ok (.iadd, 1) := by decide +kernel
theorem d_C_append_22 : decode prog_2_method_10_code 22 = .ok (.putfield 15, 3) := by decide +kernel
theorem d_C_append_25 : decode prog_2_method_10_code 25 = .ok (.aload_n 0, 1) := by decide +kernel
theorem d_C_append_26 : decode prog_2_method_10_code 26 = .ok (.getfield 15, 3) := by decide +kernel
theorem d_C_append_29 : decode prog_2_method_10_code 29 = .ok (.iconst 1, 1) := by decide +kernel
theorem d_C_append_30 : decode prog_2_method_10_code 30 = .ok (.isub, 1) := by decide +kernel
theorem d_C_append_31 : decode prog_2_method_10_code 31 = .ok (.ireturn, 1) := by decide +kernel
theorem d_C_operation_0 : decode prog_2_method_5_code 0 = .ok (.aload_n 0, 1) := by decide +kernel
theorem d_C_operation_1 : decode prog_2_method_5_code 1 = .ok (.getfield 9, 3) := by decide +kernel
theorem d_C_operation_4 : decode prog_2_method_5_code 4 = .ok (.iload_n 1, 1) := by decide +kernel
theorem d_C_operation_5 : decode prog_2_method_5_code 5 = .ok (.iaload, 1) := by decide +kernel
theorem d_C_operation_6 : decode prog_2_method_5_code 6 = .ok (.sipush 10000, 3) := by decide +kernel
theorem d_C_operation_9 : decode prog_2_method_5_code 9 = .ok (.idiv, 1) := by decide +kernel
theorem d_C_operation_10 : decode prog_2_method_5_code 10 = .ok (.ireturn, 1) := by decide +kernel
theorem d_C_first_0 : decode prog_2_method_6_code 0 = .ok (.aload_n 0, 1) := by decide +kernel
theorem d_C_first_1 : decode prog_2_method_6_code 1 = .ok (.getfield 9, 3) := by decide +kernel
theorem d_C_first_4 : decode prog_2_method_6_code 4 = .ok (.iload_n 1, 1) := by decide +kernel
theorem d_C_first_5 : decode prog_2_method_6_code 5 = .ok (.iaload, 1) := by decide +kernel
theorem d_C_first_6 : decode prog_2_method_6_code 6 = .ok (.bipush 100, 2) := by decide +kernel
theorem d_C_first_8 : decode prog_2_method_6_code 8 = .ok (.idiv, 1) := by decide +kernel
theorem d_C_first_9 : decode prog_2_method_6_code 9 = .ok (.bipush 100, 2) := by decide +kernel
theorem d_C_first_11 : decode prog_2_method_6_code 11 = .ok (.irem, 1) := by decide +kernel
theorem d_C_first_12 : decode prog_2_method_6_code 12 = .ok (.ireturn, 1) := by decide +kernel
theorem d_C_second_0 : decode prog_2_method_7_code 0 = .ok (.aload_n 0, 1) := by decide +kernel
theorem d_C_second_1 : decode prog_2_method_7_code 1 = .ok (.getfield 9, 3) := by decide +kernel
theorem d_C_second_4 : decode prog_2_method_7_code 4 = .ok (.iload_n 1, 1) := by decide +kernel
theorem d_C_second_5 : decode prog_2_method_7_code 5 = .ok (.iaload, 1) := by decide +kernel
theorem d_C_second_6 : decode prog_2_method_7_code 6 = .ok (.bipush 100, 2) := by decide +kernel
theorem d_C_second_8 : decode prog_2_method_7_code 8 = .ok (.irem, 1) := by decide +kernel
theorem d_C_second_9 : decode prog_2_method_7_code 9 = .ok (.ireturn, 1) := by decide +kernel
theorem d_C_findOrAppend_0 : decode prog_2_method_11_code 0 = .ok (.iload_n 1, 1) := by decide +kernel
theorem d_C_findOrAppend_1 : decode prog_2_method_11_code 1 = .ok (.iload_n 2, 1) := by decide +kernel
theorem d_C_findOrAppend_2 : decode prog_2_method_11_code 2 = .ok (.iload_n 3, 1) := by decide +kernel
theorem d_C_findOrAppend_3 : decode prog_2_method_11_code 3 = .ok (.invokestatic 23, 3) := by decide +kernel
theorem d_C_findOrAppend_6 : decode prog_2_method_11_code 6 = .ok (.istore 4, 2) := by decide +kernel
theorem d_C_findOrAppend_8 : decode prog_2_method_11_code 8 = .ok (.iconst 0, 1) := by decide +kernel
theorem d_C_findOrAppend_9 : decode prog_2_method_11_code 9 = .ok (.istore 5, 2) := by decide +kernel
theorem d_C_findOrAppend_11 : decode prog_2_method_11_code 11 = .ok (.iload 5, 2) := by decide +kernel
theorem d_C_findOrAppend_13 : decode prog_2_method_11_code 13 = .ok (.aload_n 0, 1) := by decide +kernel
theorem d_C_findOrAppend_14 : decode prog_2_method_11_code 14 = .ok (.getfield 15, 3) := by decide +kernel
theorem d_C_findOrAppend_17 : decode prog_2_method_11_code 17 = .ok (.if_icmp .ge 24, 3) := by decide +kernel
theorem d_C_findOrAppend_20 : decode prog_2_method_11_code 20 = .ok (.aload_n 0, 1) := by decide +kernel
theorem d_C_findOrAppend_21 : decode prog_2_method_11_code 21 = .ok (.getfield 9, 3) := by decide +kernel
theorem d_C_findOrAppend_24 : decode prog_2_method_11_code 24 = .ok (.iload 5, 2) := by decide +kernel
theorem d_C_findOrAppend_26 : decode prog_2_method_11_code 26 = .ok (.iaload, 1) := by decide +kernel
theorem d_C_findOrAppend_27 : decode prog_2_method_11_code 27 = .ok (.iload 4, 2) := by decide +kernel
theorem d_C_findOrAppend_29 : decode prog_2_method_11_code 29 = .ok (.if_icmp .ne 6, 3) := by decide +kernel
theorem d_C_findOrAppend_32 : decode prog_2_method_11_code 32 = .ok (.iload 5, 2) := by decide +kernel
theorem d_C_findOrAppend_34 : decode prog_2_method_11_code 34 = .ok (.ireturn, 1) := by decide +kernel
theorem d_C_findOrAppend_35 : decode prog_2_method_11_code 35 = .ok (.iinc 5 1, 3) := by decide +kernel
theorem d_C_findOrAppend_38 : decode prog_2_method_11_code 38 = .ok (.goto (-27), 3) := by decide +kernel
theorem d_C_findOrAppend_41 : decode prog_2_method_11_code 41 = .ok (.aload_n 0, 1) := by decide +kernel
theorem d_C_findOrAppend_42 : decode prog_2_method_11_code 42 = .ok (.iload_n 1, 1) := by decide +kernel
theorem d_C_findOrAppend_43 : decode prog_2_method_11_code 43 = .ok (.iload_n 2, 1) := by decide +kernel
theorem d_C_findOrAppend_44 : decode prog_2_method_11_code 44 = .ok (.iload_n 3, 1) := by decide +kernel
theorem d_C_findOrAppend_45 : decode prog_2_method_11_code 45 = .ok (.invokevirtual 27, 3) := by decide +kernel
theorem d_C_findOrAppend_48 : decode prog_2_method_11_code 48 = .ok (.ireturn, 1) := by decide +kernel
theorem d_C_result_0 : decode prog_2_method_8_code 0 = .ok (.aload_n 0, 1) := by decide +kernel
theorem d_C_result_1 : decode prog_2_method_8_code 1 = .ok (.getfield 15, 3) := by decide +kernel
theorem d_C_result_4 : decode prog_2_method_8_code 4 = .ok (.iconst 1, 1) := by decide +kernel
theorem d_C_result_5 : decode prog_2_method_8_code 5 = .ok (.isub, 1) := by decide +kernel
theorem d_C_result_6 : decode prog_2_method_8_code 6 = .ok (.ireturn, 1) := by decide +kernel
theorem d_C_instruction_0 : decode prog_2_method_4_code 0 = .ok (.aload_n 0, 1) := by decide +kernel
theorem d_C_instruction_1 : decode prog_2_method_4_code 1 = .ok (.getfield 9, 3) := by decide +kernel
theorem d_C_instruction_4 : decode prog_2_method_4_code 4 = .ok (.iload_n 1, 1) := by decide +kernel
theorem d_C_instruction_5 : decode prog_2_method_4_code 5 = .ok (.iaload, 1) := by decide +kernel
theorem d_C_instruction_6 : decode prog_2_method_4_code 6 = .ok (.ireturn, 1) := by decide +kernel
theorem d_C_count_0 : decode prog_2_method_9_code 0 = .ok (.iconst 0, 1) := by decide +kernel
theorem d_C_count_1 : decode prog_2_method_9_code 1 = .ok (.istore_n 2, 1) := by decide +kernel
theorem d_C_count_2 : decode prog_2_method_9_code 2 = .ok (.iconst 0, 1) := by decide +kernel
theorem d_C_count_3 : decode prog_2_method_9_code 3 = .ok (.istore_n 3, 1) := by decide +kernel
theorem d_C_count_4 : decode prog_2_method_9_code 4 = .ok (.iload_n 3, 1) := by decide +kernel
theorem d_C_count_5 : decode prog_2_method_9_code 5 = .ok (.aload_n 0, 1) := by decide +kernel
theorem d_C_count_6 : decode prog_2_method_9_code 6 = .ok (.getfield 15, 3) := by decide +kernel
theorem d_C_count_9 : decode prog_2_method_9_code 9 = .ok (.if_icmp .ge 21, 3) := by decide +kernel
theorem d_C_count_12 : decode prog_2_method_9_code 12 = .ok (.aload_n 0, 1) := by decide +kernel
theorem d_C_count_13 : decode prog_2_method_9_code 13 = .ok (.iload_n 3, 1) := by decide +kernel
theorem d_C_count_14 : decode prog_2_method_9_code 14 = .ok (.invokevirtual 19, 3) := by decide +kernel
theorem d_C_count_17 : decode prog_2_method_9_code 17 = .ok (.iload_n 1, 1) := by decide +kernel
theorem d_C_count_18 : decode prog_2_method_9_code 18 = .ok (.if_icmp .ne 6, 3) := by decide +kernel
theorem d_C_count_21 : decode prog_2_method_9_code 21 = .ok (.iinc 2 1, 3) := by decide +kernel
theorem d_C_count_24 : decode prog_2_method_9_code 24 = .ok (.iinc 3 1, 3) := by decide +kernel
theorem d_C_count_27 : decode prog_2_method_9_code 27 = .ok (.goto (-23), 3) := by decide +kernel
theorem d_C_count_30 : decode prog_2_method_9_code 30 = .ok (.iload_n 2, 1) := by decide +kernel
theorem d_C_count_31 : decode prog_2_method_9_code 31 = .ok (.ireturn, 1) := by decide +kernel
theorem d_R_isFull_0 : decode prog_6_method_3_code 0 = .ok (.aload_n 0, 1) := by decide +kernel
theorem d_R_isFull_1 : decode prog_6_method_3_code 1 = .ok (.getfield 15, 3) := by decide +kernel
theorem d_R_isFull_4 : decode prog_6_method_3_code 4 = .ok (.bipush 24, 2) := by decide +kernel
theorem d_R_isFull_6 : decode prog_6_method_3_code 6 = .ok (.if_icmp .lt 7, 3) := by decide +kernel
theorem d_R_isFull_9 : decode prog_6_method_3_code 9 = .ok (.iconst 1, 1) := by decide +kernel
theorem d_R_isFull_10 : decode prog_6_method_3_code 10 = .ok (.goto 4, 3) := by decide +kernel
theorem d_R_isFull_13 : decode prog_6_method_3_code 13 = .ok (.iconst 0, 1) := by decide +kernel
theorem d_R_isFull_14 : decode prog_6_method_3_code 14 = .ok (.ireturn, 1) := by decide +kernel
theorem d_R_append_0 : decode prog_6_method_4_code 0 = .ok (.aload_n 0, 1) := by decide +kernel
theorem d_R_append_1 : decode prog_6_method_4_code 1 = .ok (.getfield 9, 3) := by decide +kernel
theorem d_R_append_4 : decode prog_6_method_4_code 4 = .ok (.aload_n 0, 1) := by decide +kernel
theorem d_R_append_5 : decode prog_6_method_4_code 5 = .ok (.getfield 15, 3) := by decide +kernel
theorem d_R_append_8 : decode prog_6_method_4_code 8 = .ok (.iload_n 1, 1) := by decide +kernel
theorem d_R_append_9 : decode prog_6_method_4_code 9 = .ok (.iastore, 1) := by decide +kernel
theorem d_R_append_10 : decode prog_6_method_4_code 10 = .ok (.aload_n 0, 1) := by decide +kernel
theorem d_R_append_11 : decode prog_6_method_4_code 11 = .ok (.dup, 1) := by decide +kernel
theorem d_R_append_12 : decode prog_6_method_4_code 12 = .ok (.getfield 15, 3) := by decide +kernel
theorem d_R_append_15 : decode prog_6_method_4_code 15 = .ok (.iconst 1, 1) := by decide +kernel
theorem d_R_append_16 : decode prog_6_method_4_code 16 = .ok (.iadd, 1) := by decide +kernel
theorem d_R_append_17 : decode prog_6_method_4_code 17 = .ok (.putfield 15, 3) := by decide +kernel
theorem d_R_append_20 : decode prog_6_method_4_code 20 = .ok (.return_, 1) := by decide +kernel
theorem d_R_isWord_0 : decode prog_6_method_11_code 0 = .ok (.iload_n 0, 1) := by decide +kernel
theorem d_R_isWord_1 : decode prog_6_method_11_code 1 = .ok (.ifCond .ge 5, 3) := by decide +kernel
theorem d_R_isWord_4 : decode prog_6_method_11_code 4 = .ok (.iconst 0, 1) := by decide +kernel
theorem d_R_isWord_5 : decode prog_6_method_11_code 5 = .ok (.ireturn, 1) := by decide +kernel
theorem d_R_isWord_6 : decode prog_6_method_11_code 6 = .ok (.iload_n 0, 1) := by decide +kernel
theorem d_R_isWord_7 : decode prog_6_method_11_code 7 = .ok (.bipush 100, 2) := by decide +kernel
theorem d_R_isWord_9 : decode prog_6_method_11_code 9 = .ok (.irem, 1) := by decide +kernel
theorem d_R_isWord_10 : decode prog_6_method_11_code 10 = .ok (.istore_n 1, 1) := by decide +kernel
theorem d_R_isWord_11 : decode prog_6_method_11_code 11 = .ok (.iload_n 0, 1) := by decide +kernel
theorem d_R_isWord_12 : decode prog_6_method_11_code 12 = .ok (.bipush 100, 2) := by decide +kernel
theorem d_R_isWord_14 : decode prog_6_method_11_code 14 = .ok (.idiv, 1) := by decide +kernel
theorem d_R_isWord_15 : decode prog_6_method_11_code 15 = .ok (.tableswitch 72 0 8 #[49, 60, 60, 60, 60, 60, 60, 70, 70], 49) := by decide +kernel
theorem d_R_isWord_64 : decode prog_6_method_11_code 64 = .ok (.iload_n 1, 1) := by decide +kernel
theorem d_R_isWord_65 : decode prog_6_method_11_code 65 = .ok (.iconst 4, 1) := by decide +kernel
theorem d_R_isWord_66 : decode prog_6_method_11_code 66 = .ok (.if_icmp .ge 7, 3) := by decide +kernel
theorem d_R_isWord_69 : decode prog_6_method_11_code 69 = .ok (.iconst 1, 1) := by decide +kernel
theorem d_R_isWord_70 : decode prog_6_method_11_code 70 = .ok (.goto 4, 3) := by decide +kernel
theorem d_R_isWord_73 : decode prog_6_method_11_code 73 = .ok (.iconst 0, 1) := by decide +kernel
theorem d_R_isWord_74 : decode prog_6_method_11_code 74 = .ok (.ireturn, 1) := by decide +kernel
theorem d_R_isWord_75 : decode prog_6_method_11_code 75 = .ok (.iload_n 1, 1) := by decide +kernel
theorem d_R_isWord_76 : decode prog_6_method_11_code 76 = .ok (.ifCond .ne 7, 3) := by decide +kernel
theorem d_R_isWord_79 : decode prog_6_method_11_code 79 = .ok (.iconst 1, 1) := by decide +kernel
theorem d_R_isWord_80 : decode prog_6_method_11_code 80 = .ok (.goto 4, 3) := by decide +kernel
theorem d_R_isWord_83 : decode prog_6_method_11_code 83 = .ok (.iconst 0, 1) := by decide +kernel
theorem d_R_isWord_84 : decode prog_6_method_11_code 84 = .ok (.ireturn, 1) := by decide +kernel
theorem d_R_isWord_85 : decode prog_6_method_11_code 85 = .ok (.iconst 1, 1) := by decide +kernel
theorem d_R_isWord_86 : decode prog_6_method_11_code 86 = .ok (.ireturn, 1) := by decide +kernel
theorem d_R_isWord_87 : decode prog_6_method_11_code 87 = .ok (.iconst 0, 1) := by decide +kernel
theorem d_R_isWord_88 : decode prog_6_method_11_code 88 = .ok (.ireturn, 1) := by decide +kernel
theorem d_R_operation_0 : decode prog_6_method_6_code 0 = .ok (.aload_n 0, 1) := by decide +kernel
theorem d_R_operation_1 : decode prog_6_method_6_code 1 = .ok (.getfield 9, 3) := by decide +kernel
theorem d_R_operation_4 : decode prog_6_method_6_code 4 = .ok (.iload_n 1, 1) := by decide +kernel
theorem d_R_operation_5 : decode prog_6_method_6_code 5 = .ok (.iaload, 1) := by decide +kernel
theorem d_R_operation_6 : decode prog_6_method_6_code 6 = .ok (.bipush 100, 2) := by decide +kernel
theorem d_R_operation_8 : decode prog_6_method_6_code 8 = .ok (.idiv, 1) := by decide +kernel
theorem d_R_operation_9 : decode prog_6_method_6_code 9 = .ok (.ireturn, 1) := by decide +kernel
theorem d_R_fault_0 : decode prog_6_method_8_code 0 = .ok (.iconst 0, 1) := by decide +kernel
theorem d_R_fault_1 : decode prog_6_method_8_code 1 = .ok (.istore_n 1, 1) := by decide +kernel
theorem d_R_fault_2 : decode prog_6_method_8_code 2 = .ok (.iconst 0, 1) := by decide +kernel
theorem d_R_fault_3 : decode prog_6_method_8_code 3 = .ok (.istore_n 2, 1) := by decide +kernel
theorem d_R_fault_4 : decode prog_6_method_8_code 4 = .ok (.iload_n 2, 1) := by decide +kernel
theorem d_R_fault_5 : decode prog_6_method_8_code 5 = .ok (.aload_n 0, 1) := by decide +kernel
theorem d_R_fault_6 : decode prog_6_method_8_code 6 = .ok (.getfield 15, 3) := by decide +kernel
theorem d_R_fault_9 : decode prog_6_method_8_code 9 = .ok (.if_icmp .ge 45, 3) := by decide +kernel
theorem d_R_fault_12 : decode prog_6_method_8_code 12 = .ok (.aload_n 0, 1) := by decide +kernel
theorem d_R_fault_13 : decode prog_6_method_8_code 13 = .ok (.getfield 9, 3) := by decide +kernel
theorem d_R_fault_16 : decode prog_6_method_8_code 16 = .ok (.iload_n 2, 1) := by decide +kernel
theorem d_R_fault_17 : decode prog_6_method_8_code 17 = .ok (.iaload, 1) := by decide +kernel
theorem d_R_fault_18 : decode prog_6_method_8_code 18 = .ok (.invokestatic 19, 3) := by decide +kernel
theorem d_R_fault_21 : decode prog_6_method_8_code 21 = .ok (.ifCond .ne 5, 3) := by decide +kernel
theorem d_R_fault_24 : decode prog_6_method_8_code 24 = .ok (.iconst 3, 1) := by decide +kernel
theorem d_R_fault_25 : decode prog_6_method_8_code 25 = .ok (.ireturn, 1) := by decide +kernel
theorem d_R_fault_26 : decode prog_6_method_8_code 26 = .ok (.aload_n 0, 1) := by decide +kernel
theorem d_R_fault_27 : decode prog_6_method_8_code 27 = .ok (.iload_n 2, 1) := by decide +kernel
theorem d_R_fault_28 : decode prog_6_method_8_code 28 = .ok (.invokevirtual 23, 3) := by decide +kernel
theorem d_R_fault_31 : decode prog_6_method_8_code 31 = .ok (.invokestatic 27, 3) := by decide +kernel
theorem d_R_fault_34 : decode prog_6_method_8_code 34 = .ok (.istore_n 3, 1) := by decide +kernel
theorem d_R_fault_35 : decode prog_6_method_8_code 35 = .ok (.iload_n 1, 1) := by decide +kernel
theorem d_R_fault_36 : decode prog_6_method_8_code 36 = .ok (.iload_n 3, 1) := by decide +kernel
theorem d_R_fault_37 : decode prog_6_method_8_code 37 = .ok (.if_icmp .ge 5, 3) := by decide +kernel
theorem d_R_fault_40 : decode prog_6_method_8_code 40 = .ok (.iconst 4, 1) := by decide +kernel
theorem d_R_fault_41 : decode prog_6_method_8_code 41 = .ok (.ireturn, 1) := by decide +kernel
theorem d_R_fault_42 : decode prog_6_method_8_code 42 = .ok (.iload_n 1, 1) := by decide +kernel
theorem d_R_fault_43 : decode prog_6_method_8_code 43 = .ok (.iconst 1, 1) := by decide +kernel
theorem d_R_fault_44 : decode prog_6_method_8_code 44 = .ok (.iload_n 3, 1) := by decide +kernel
theorem d_R_fault_45 : decode prog_6_method_8_code 45 = .ok (.isub, 1) := by decide +kernel
theorem d_R_fault_46 : decode prog_6_method_8_code 46 = .ok (.iadd, 1) := by decide +kernel
theorem d_R_fault_47 : decode prog_6_method_8_code 47 = .ok (.istore_n 1, 1) := by decide +kernel
theorem d_R_fault_48 : decode prog_6_method_8_code 48 = .ok (.iinc 2 1, 3) := by decide +kernel
theorem d_R_fault_51 : decode prog_6_method_8_code 51 = .ok (.goto (-47), 3) := by decide +kernel
theorem d_R_fault_54 : decode prog_6_method_8_code 54 = .ok (.iload_n 1, 1) := by decide +kernel
theorem d_R_fault_55 : decode prog_6_method_8_code 55 = .ok (.iconst 1, 1) := by decide +kernel
theorem d_R_fault_56 : decode prog_6_method_8_code 56 = .ok (.if_icmp .ne 7, 3) := by decide +kernel
theorem d_R_fault_59 : decode prog_6_method_8_code 59 = .ok (.iconst 0, 1) := by decide +kernel
theorem d_R_fault_60 : decode prog_6_method_8_code 60 = .ok (.goto 4, 3) := by decide +kernel
theorem d_R_fault_63 : decode prog_6_method_8_code 63 = .ok (.iconst 5, 1) := by decide +kernel
theorem d_R_fault_64 : decode prog_6_method_8_code 64 = .ok (.ireturn, 1) := by decide +kernel
theorem d_R_number_0 : decode prog_6_method_7_code 0 = .ok (.aload_n 0, 1) := by decide +kernel
theorem d_R_number_1 : decode prog_6_method_7_code 1 = .ok (.getfield 9, 3) := by decide +kernel
theorem d_R_number_4 : decode prog_6_method_7_code 4 = .ok (.iload_n 1, 1) := by decide +kernel
theorem d_R_number_5 : decode prog_6_method_7_code 5 = .ok (.iaload, 1) := by decide +kernel
theorem d_R_number_6 : decode prog_6_method_7_code 6 = .ok (.bipush 100, 2) := by decide +kernel
theorem d_R_number_8 : decode prog_6_method_7_code 8 = .ok (.irem, 1) := by decide +kernel
theorem d_R_number_9 : decode prog_6_method_7_code 9 = .ok (.ireturn, 1) := by decide +kernel
theorem d_R_powerInstructions_0 : decode prog_6_method_10_code 0 = .ok (.iload_n 0, 1) := by decide +kernel
theorem d_R_powerInstructions_1 : decode prog_6_method_10_code 1 = .ok (.ifCond .ne 5, 3) := by decide +kernel
theorem d_R_powerInstructions_4 : decode prog_6_method_10_code 4 = .ok (.iconst 1, 1) := by decide +kernel
theorem d_R_powerInstructions_5 : decode prog_6_method_10_code 5 = .ok (.ireturn, 1) := by decide +kernel
theorem d_R_powerInstructions_6 : decode prog_6_method_10_code 6 = .ok (.iload_n 0, 1) := by decide +kernel
theorem d_R_powerInstructions_7 : decode prog_6_method_10_code 7 = .ok (.invokestatic 36, 3) := by decide +kernel
theorem d_R_powerInstructions_10 : decode prog_6_method_10_code 10 = .ok (.iload_n 0, 1) := by decide +kernel
theorem d_R_powerInstructions_11 : decode prog_6_method_10_code 11 = .ok (.invokestatic 39, 3) := by decide +kernel
theorem d_R_powerInstructions_14 : decode prog_6_method_10_code 14 = .ok (.iadd, 1) := by decide +kernel
theorem d_R_powerInstructions_15 : decode prog_6_method_10_code 15 = .ok (.iconst 1, 1) := by decide +kernel
theorem d_R_powerInstructions_16 : decode prog_6_method_10_code 16 = .ok (.isub, 1) := by decide +kernel
theorem d_R_powerInstructions_17 : decode prog_6_method_10_code 17 = .ok (.ireturn, 1) := by decide +kernel
theorem d_R_instructionsNeeded_0 : decode prog_6_method_9_code 0 = .ok (.iconst 0, 1) := by decide +kernel
theorem d_R_instructionsNeeded_1 : decode prog_6_method_9_code 1 = .ok (.istore_n 1, 1) := by decide +kernel
theorem d_R_instructionsNeeded_2 : decode prog_6_method_9_code 2 = .ok (.iconst 0, 1) := by decide +kernel
theorem d_R_instructionsNeeded_3 : decode prog_6_method_9_code 3 = .ok (.istore_n 2, 1) := by decide +kernel
theorem d_R_instructionsNeeded_4 : decode prog_6_method_9_code 4 = .ok (.iload_n 2, 1) := by decide +kernel
theorem d_R_instructionsNeeded_5 : decode prog_6_method_9_code 5 = .ok (.aload_n 0, 1) := by decide +kernel
theorem d_R_instructionsNeeded_6 : decode prog_6_method_9_code 6 = .ok (.getfield 15, 3) := by decide +kernel
theorem d_R_instructionsNeeded_9 : decode prog_6_method_9_code 9 = .ok (.if_icmp .ge 34, 3) := by decide +kernel
theorem d_R_instructionsNeeded_12 : decode prog_6_method_9_code 12 = .ok (.iload_n 1, 1) := by decide +kernel
theorem d_R_instructionsNeeded_13 : decode prog_6_method_9_code 13 = .ok (.aload_n 0, 1) := by decide +kernel
theorem d_R_instructionsNeeded_14 : decode prog_6_method_9_code 14 = .ok (.iload_n 2, 1) := by decide +kernel
theorem d_R_instructionsNeeded_15 : decode prog_6_method_9_code 15 = .ok (.invokevirtual 23, 3) := by decide +kernel
theorem d_R_instructionsNeeded_18 : decode prog_6_method_9_code 18 = .ok (.bipush 8, 2) := by decide +kernel
theorem d_R_instructionsNeeded_20 : decode prog_6_method_9_code 20 = .ok (.if_icmp .ne 14, 3) := by decide +kernel
theorem d_R_instructionsNeeded_23 : decode prog_6_method_9_code 23 = .ok (.aload_n 0, 1) := by decide +kernel
theorem d_R_instructionsNeeded_24 : decode prog_6_method_9_code 24 = .ok (.iload_n 2, 1) := by decide +kernel
theorem d_R_instructionsNeeded_25 : decode prog_6_method_9_code 25 = .ok (.invokevirtual 30, 3) := by decide +kernel
theorem d_R_instructionsNeeded_28 : decode prog_6_method_9_code 28 = .ok (.invokestatic 33, 3) := by decide +kernel
theorem d_R_instructionsNeeded_31 : decode prog_6_method_9_code 31 = .ok (.goto 4, 3) := by decide +kernel
theorem d_R_instructionsNeeded_34 : decode prog_6_method_9_code 34 = .ok (.iconst 1, 1) := by decide +kernel
theorem d_R_instructionsNeeded_35 : decode prog_6_method_9_code 35 = .ok (.iadd, 1) := by decide +kernel
theorem d_R_instructionsNeeded_36 : decode prog_6_method_9_code 36 = .ok (.istore_n 1, 1) := by decide +kernel
theorem d_R_instructionsNeeded_37 : decode prog_6_method_9_code 37 = .ok (.iinc 2 1, 3) := by decide +kernel
theorem d_R_instructionsNeeded_40 : decode prog_6_method_9_code 40 = .ok (.goto (-36), 3) := by decide +kernel
theorem d_R_instructionsNeeded_43 : decode prog_6_method_9_code 43 = .ok (.iload_n 1, 1) := by decide +kernel
theorem d_R_instructionsNeeded_44 : decode prog_6_method_9_code 44 = .ok (.ireturn, 1) := by decide +kernel
theorem d_R_length_0 : decode prog_6_method_2_code 0 = .ok (.aload_n 0, 1) := by decide +kernel
theorem d_R_length_1 : decode prog_6_method_2_code 1 = .ok (.getfield 15, 3) := by decide +kernel
theorem d_R_length_4 : decode prog_6_method_2_code 4 = .ok (.ireturn, 1) := by decide +kernel
theorem d_R_clear_0 : decode prog_6_method_5_code 0 = .ok (.aload_n 0, 1) := by decide +kernel
theorem d_R_clear_1 : decode prog_6_method_5_code 1 = .ok (.iconst 0, 1) := by decide +kernel
theorem d_R_clear_2 : decode prog_6_method_5_code 2 = .ok (.putfield 15, 3) := by decide +kernel
theorem d_R_clear_5 : decode prog_6_method_5_code 5 = .ok (.return_, 1) := by decide +kernel
theorem d_M_hasCell_0 : decode prog_4_method_2_code 0 = .ok (.iload_n 1, 1) := by decide +kernel
theorem d_M_hasCell_1 : decode prog_4_method_2_code 1 = .ok (.ifCond .lt 27, 3) := by decide +kernel
theorem d_M_hasCell_4 : decode prog_4_method_2_code 4 = .ok (.iload_n 1, 1) := by decide +kernel
theorem d_M_hasCell_5 : decode prog_4_method_2_code 5 = .ok (.aload_n 0, 1) := by decide +kernel
theorem d_M_hasCell_6 : decode prog_4_method_2_code 6 = .ok (.getfield 15, 3) := by decide +kernel
theorem d_M_hasCell_9 : decode prog_4_method_2_code 9 = .ok (.if_icmp .ge 19, 3) := by decide +kernel
theorem d_M_hasCell_12 : decode prog_4_method_2_code 12 = .ok (.iload_n 2, 1) := by decide +kernel
theorem d_M_hasCell_13 : decode prog_4_method_2_code 13 = .ok (.ifCond .lt 15, 3) := by decide +kernel
theorem d_M_hasCell_16 : decode prog_4_method_2_code 16 = .ok (.iload_n 2, 1) := by decide +kernel
theorem d_M_hasCell_17 : decode prog_4_method_2_code 17 = .ok (.aload_n 0, 1) := by decide +kernel
theorem d_M_hasCell_18 : decode prog_4_method_2_code 18 = .ok (.getfield 15, 3) := by decide +kernel
theorem d_M_hasCell_21 : decode prog_4_method_2_code 21 = .ok (.if_icmp .ge 7, 3) := by decide +kernel
theorem d_M_hasCell_24 : decode prog_4_method_2_code 24 = .ok (.iconst 1, 1) := by decide +kernel
theorem d_M_hasCell_25 : decode prog_4_method_2_code 25 = .ok (.goto 4, 3) := by decide +kernel
theorem d_M_hasCell_28 : decode prog_4_method_2_code 28 = .ok (.iconst 0, 1) := by decide +kernel
theorem d_M_hasCell_29 : decode prog_4_method_2_code 29 = .ok (.ireturn, 1) := by decide +kernel
theorem d_M_put_0 : decode prog_4_method_4_code 0 = .ok (.aload_n 0, 1) := by decide +kernel
theorem d_M_put_1 : decode prog_4_method_4_code 1 = .ok (.getfield 21, 3) := by decide +kernel
theorem d_M_put_4 : decode prog_4_method_4_code 4 = .ok (.iload_n 1, 1) := by decide +kernel
theorem d_M_put_5 : decode prog_4_method_4_code 5 = .ok (.aload_n 0, 1) := by decide +kernel
theorem d_M_put_6 : decode prog_4_method_4_code 6 = .ok (.getfield 18, 3) := by decide +kernel
theorem d_M_put_9 : decode prog_4_method_4_code 9 = .ok (.imul, 1) := by decide +kernel
theorem d_M_put_10 : decode prog_4_method_4_code 10 = .ok (.iload_n 2, 1) := by decide +kernel
theorem d_M_put_11 : decode prog_4_method_4_code 11 = .ok (.aload_n 0, 1) := by decide +kernel
theorem d_M_put_12 : decode prog_4_method_4_code 12 = .ok (.getfield 15, 3) := by decide +kernel
theorem d_M_put_15 : decode prog_4_method_4_code 15 = .ok (.imul, 1) := by decide +kernel
theorem d_M_put_16 : decode prog_4_method_4_code 16 = .ok (.iadd, 1) := by decide +kernel
theorem d_M_put_17 : decode prog_4_method_4_code 17 = .ok (.iload_n 3, 1) := by decide +kernel
theorem d_M_put_18 : decode prog_4_method_4_code 18 = .ok (.iadd, 1) := by decide +kernel
theorem d_M_put_19 : decode prog_4_method_4_code 19 = .ok (.iload 4, 2) := by decide +kernel
theorem d_M_put_21 : decode prog_4_method_4_code 21 = .ok (.aload_n 0, 1) := by decide +kernel
theorem d_M_put_22 : decode prog_4_method_4_code 22 = .ok (.getfield 9, 3) := by decide +kernel
theorem d_M_put_25 : decode prog_4_method_4_code 25 = .ok (.invokestatic 28, 3) := by decide +kernel
theorem d_M_put_28 : decode prog_4_method_4_code 28 = .ok (.iastore, 1) := by decide +kernel
theorem d_M_put_29 : decode prog_4_method_4_code 29 = .ok (.return_, 1) := by decide +kernel
theorem d_M_copy_0 : decode prog_4_method_6_code 0 = .ok (.aload_n 0, 1) := by decide +kernel
theorem d_M_copy_1 : decode prog_4_method_6_code 1 = .ok (.getfield 21, 3) := by decide +kernel
theorem d_M_copy_4 : decode prog_4_method_6_code 4 = .ok (.iload_n 2, 1) := by decide +kernel
theorem d_M_copy_5 : decode prog_4_method_6_code 5 = .ok (.aload_n 0, 1) := by decide +kernel
theorem d_M_copy_6 : decode prog_4_method_6_code 6 = .ok (.getfield 18, 3) := by decide +kernel
theorem d_M_copy_9 : decode prog_4_method_6_code 9 = .ok (.imul, 1) := by decide +kernel
theorem d_M_copy_10 : decode prog_4_method_6_code 10 = .ok (.aload_n 0, 1) := by decide +kernel
theorem d_M_copy_11 : decode prog_4_method_6_code 11 = .ok (.getfield 21, 3) := by decide +kernel
theorem d_M_copy_14 : decode prog_4_method_6_code 14 = .ok (.iload_n 1, 1) := by decide +kernel
theorem d_M_copy_15 : decode prog_4_method_6_code 15 = .ok (.aload_n 0, 1) := by decide +kernel
theorem d_M_copy_16 : decode prog_4_method_6_code 16 = .ok (.getfield 18, 3) := by decide +kernel
theorem d_M_copy_19 : decode prog_4_method_6_code 19 = .ok (.imul, 1) := by decide +kernel
theorem d_M_copy_20 : decode prog_4_method_6_code 20 = .ok (.aload_n 0, 1) := by decide +kernel
theorem d_M_copy_21 : decode prog_4_method_6_code 21 = .ok (.getfield 18, 3) := by decide +kernel
theorem d_M_copy_24 : decode prog_4_method_6_code 24 = .ok (.invokestatic 59, 3) := by decide +kernel
theorem d_M_copy_27 : decode prog_4_method_6_code 27 = .ok (.return_, 1) := by decide +kernel
theorem d_M_makeNought_0 : decode prog_4_method_7_code 0 = .ok (.iconst 0, 1) := by decide +kernel
theorem d_M_makeNought_1 : decode prog_4_method_7_code 1 = .ok (.istore_n 2, 1) := by decide +kernel
theorem d_M_makeNought_2 : decode prog_4_method_7_code 2 = .ok (.iload_n 2, 1) := by decide +kernel
theorem d_M_makeNought_3 : decode prog_4_method_7_code 3 = .ok (.aload_n 0, 1) := by decide +kernel
theorem d_M_makeNought_4 : decode prog_4_method_7_code 4 = .ok (.getfield 18, 3) := by decide +kernel
theorem d_M_makeNought_7 : decode prog_4_method_7_code 7 = .ok (.if_icmp .ge 23, 3) := by decide +kernel
theorem d_M_makeNought_10 : decode prog_4_method_7_code 10 = .ok (.aload_n 0, 1) := by decide +kernel
theorem d_M_makeNought_11 : decode prog_4_method_7_code 11 = .ok (.getfield 21, 3) := by decide +kernel
theorem d_M_makeNought_14 : decode prog_4_method_7_code 14 = .ok (.iload_n 1, 1) := by decide +kernel
theorem d_M_makeNought_15 : decode prog_4_method_7_code 15 = .ok (.aload_n 0, 1) := by decide +kernel
theorem d_M_makeNought_16 : decode prog_4_method_7_code 16 = .ok (.getfield 18, 3) := by decide +kernel
theorem d_M_makeNought_19 : decode prog_4_method_7_code 19 = .ok (.imul, 1) := by decide +kernel
theorem d_M_makeNought_20 : decode prog_4_method_7_code 20 = .ok (.iload_n 2, 1) := by decide +kernel
theorem d_M_makeNought_21 : decode prog_4_method_7_code 21 = .ok (.iadd, 1) := by decide +kernel
theorem d_M_makeNought_22 : decode prog_4_method_7_code 22 = .ok (.iconst 0, 1) := by decide +kernel
theorem d_M_makeNought_23 : decode prog_4_method_7_code 23 = .ok (.iastore, 1) := by decide +kernel
theorem d_M_makeNought_24 : decode prog_4_method_7_code 24 = .ok (.iinc 2 1, 3) := by decide +kernel
theorem d_M_makeNought_27 : decode prog_4_method_7_code 27 = .ok (.goto (-25), 3) := by decide +kernel
theorem d_M_makeNought_30 : decode prog_4_method_7_code 30 = .ok (.return_, 1) := by decide +kernel
theorem d_M_makeOne_0 : decode prog_4_method_8_code 0 = .ok (.aload_n 0, 1) := by decide +kernel
theorem d_M_makeOne_1 : decode prog_4_method_8_code 1 = .ok (.iload_n 1, 1) := by decide +kernel
theorem d_M_makeOne_2 : decode prog_4_method_8_code 2 = .ok (.invokevirtual 42, 3) := by decide +kernel
theorem d_M_makeOne_5 : decode prog_4_method_8_code 5 = .ok (.iconst 0, 1) := by decide +kernel
theorem d_M_makeOne_6 : decode prog_4_method_8_code 6 = .ok (.istore_n 2, 1) := by decide +kernel
theorem d_M_makeOne_7 : decode prog_4_method_8_code 7 = .ok (.iload_n 2, 1) := by decide +kernel
theorem d_M_makeOne_8 : decode prog_4_method_8_code 8 = .ok (.aload_n 0, 1) := by decide +kernel
theorem d_M_makeOne_9 : decode prog_4_method_8_code 9 = .ok (.getfield 15, 3) := by decide +kernel
theorem d_M_makeOne_12 : decode prog_4_method_8_code 12 = .ok (.if_icmp .ge 17, 3) := by decide +kernel
theorem d_M_makeOne_15 : decode prog_4_method_8_code 15 = .ok (.aload_n 0, 1) := by decide +kernel
theorem d_M_makeOne_16 : decode prog_4_method_8_code 16 = .ok (.iload_n 1, 1) := by decide +kernel
theorem d_M_makeOne_17 : decode prog_4_method_8_code 17 = .ok (.iload_n 2, 1) := by decide +kernel
theorem d_M_makeOne_18 : decode prog_4_method_8_code 18 = .ok (.iload_n 2, 1) := by decide +kernel
theorem d_M_makeOne_19 : decode prog_4_method_8_code 19 = .ok (.iconst 1, 1) := by decide +kernel
theorem d_M_makeOne_20 : decode prog_4_method_8_code 20 = .ok (.invokevirtual 65, 3) := by decide +kernel
theorem d_M_makeOne_23 : decode prog_4_method_8_code 23 = .ok (.iinc 2 1, 3) := by decide +kernel
theorem d_M_makeOne_26 : decode prog_4_method_8_code 26 = .ok (.goto (-19), 3) := by decide +kernel
theorem d_M_makeOne_29 : decode prog_4_method_8_code 29 = .ok (.return_, 1) := by decide +kernel
theorem d_M_combine_0 : decode prog_4_method_9_code 0 = .ok (.iconst 0, 1) := by decide +kernel
theorem d_M_combine_1 : decode prog_4_method_9_code 1 = .ok (.istore 5, 2) := by decide +kernel
theorem d_M_combine_3 : decode prog_4_method_9_code 3 = .ok (.iload 5, 2) := by decide +kernel
theorem d_M_combine_5 : decode prog_4_method_9_code 5 = .ok (.aload_n 0, 1) := by decide +kernel
theorem d_M_combine_6 : decode prog_4_method_9_code 6 = .ok (.getfield 18, 3) := by decide +kernel
theorem d_M_combine_9 : decode prog_4_method_9_code 9 = .ok (.if_icmp .ge 64, 3) := by decide +kernel
theorem d_M_combine_12 : decode prog_4_method_9_code 12 = .ok (.aload_n 0, 1) := by decide +kernel
theorem d_M_combine_13 : decode prog_4_method_9_code 13 = .ok (.getfield 21, 3) := by decide +kernel
theorem d_M_combine_16 : decode prog_4_method_9_code 16 = .ok (.iload_n 2, 1) := by decide +kernel
theorem d_M_combine_17 : decode prog_4_method_9_code 17 = .ok (.aload_n 0, 1) := by decide +kernel
theorem d_M_combine_18 : decode prog_4_method_9_code 18 = .ok (.getfield 18, 3) := by decide +kernel
theorem d_M_combine_21 : decode prog_4_method_9_code 21 = .ok (.imul, 1) := by decide +kernel
theorem d_M_combine_22 : decode prog_4_method_9_code 22 = .ok (.iload 5, 2) := by decide +kernel
theorem d_M_combine_24 : decode prog_4_method_9_code 24 = .ok (.iadd, 1) := by decide +kernel
theorem d_M_combine_25 : decode prog_4_method_9_code 25 = .ok (.iaload, 1) := by decide +kernel
theorem d_M_combine_26 : decode prog_4_method_9_code 26 = .ok (.iload 4, 2) := by decide +kernel
theorem d_M_combine_28 : decode prog_4_method_9_code 28 = .ok (.aload_n 0, 1) := by decide +kernel
theorem d_M_combine_29 : decode prog_4_method_9_code 29 = .ok (.getfield 21, 3) := by decide +kernel
theorem d_M_combine_32 : decode prog_4_method_9_code 32 = .ok (.iload_n 3, 1) := by decide +kernel
theorem d_M_combine_33 : decode prog_4_method_9_code 33 = .ok (.aload_n 0, 1) := by decide +kernel
theorem d_M_combine_34 : decode prog_4_method_9_code 34 = .ok (.getfield 18, 3) := by decide +kernel
theorem d_M_combine_37 : decode prog_4_method_9_code 37 = .ok (.imul, 1) := by decide +kernel
theorem d_M_combine_38 : decode prog_4_method_9_code 38 = .ok (.iload 5, 2) := by decide +kernel
theorem d_M_combine_40 : decode prog_4_method_9_code 40 = .ok (.iadd, 1) := by decide +kernel
theorem d_M_combine_41 : decode prog_4_method_9_code 41 = .ok (.iaload, 1) := by decide +kernel
theorem d_M_combine_42 : decode prog_4_method_9_code 42 = .ok (.imul, 1) := by decide +kernel
theorem d_M_combine_43 : decode prog_4_method_9_code 43 = .ok (.iadd, 1) := by decide +kernel
theorem d_M_combine_44 : decode prog_4_method_9_code 44 = .ok (.istore 6, 2) := by decide +kernel
theorem d_M_combine_46 : decode prog_4_method_9_code 46 = .ok (.aload_n 0, 1) := by decide +kernel
theorem d_M_combine_47 : decode prog_4_method_9_code 47 = .ok (.getfield 21, 3) := by decide +kernel
theorem d_M_combine_50 : decode prog_4_method_9_code 50 = .ok (.iload_n 1, 1) := by decide +kernel
theorem d_M_combine_51 : decode prog_4_method_9_code 51 = .ok (.aload_n 0, 1) := by decide +kernel
theorem d_M_combine_52 : decode prog_4_method_9_code 52 = .ok (.getfield 18, 3) := by decide +kernel
theorem d_M_combine_55 : decode prog_4_method_9_code 55 = .ok (.imul, 1) := by decide +kernel
theorem d_M_combine_56 : decode prog_4_method_9_code 56 = .ok (.iload 5, 2) := by decide +kernel
theorem d_M_combine_58 : decode prog_4_method_9_code 58 = .ok (.iadd, 1) := by decide +kernel
theorem d_M_combine_59 : decode prog_4_method_9_code 59 = .ok (.iload 6, 2) := by decide +kernel
theorem d_M_combine_61 : decode prog_4_method_9_code 61 = .ok (.aload_n 0, 1) := by decide +kernel
theorem d_M_combine_62 : decode prog_4_method_9_code 62 = .ok (.getfield 9, 3) := by decide +kernel
theorem d_M_combine_65 : decode prog_4_method_9_code 65 = .ok (.irem, 1) := by decide +kernel
theorem d_M_combine_66 : decode prog_4_method_9_code 66 = .ok (.iastore, 1) := by decide +kernel
theorem d_M_combine_67 : decode prog_4_method_9_code 67 = .ok (.iinc 5 1, 3) := by decide +kernel
theorem d_M_combine_70 : decode prog_4_method_9_code 70 = .ok (.goto (-67), 3) := by decide +kernel
theorem d_M_combine_73 : decode prog_4_method_9_code 73 = .ok (.return_, 1) := by decide +kernel
theorem d_M_get_0 : decode prog_4_method_3_code 0 = .ok (.aload_n 0, 1) := by decide +kernel
theorem d_M_get_1 : decode prog_4_method_3_code 1 = .ok (.getfield 21, 3) := by decide +kernel
theorem d_M_get_4 : decode prog_4_method_3_code 4 = .ok (.iload_n 1, 1) := by decide +kernel
theorem d_M_get_5 : decode prog_4_method_3_code 5 = .ok (.aload_n 0, 1) := by decide +kernel
theorem d_M_get_6 : decode prog_4_method_3_code 6 = .ok (.getfield 18, 3) := by decide +kernel
theorem d_M_get_9 : decode prog_4_method_3_code 9 = .ok (.imul, 1) := by decide +kernel
theorem d_M_get_10 : decode prog_4_method_3_code 10 = .ok (.iload_n 2, 1) := by decide +kernel
theorem d_M_get_11 : decode prog_4_method_3_code 11 = .ok (.aload_n 0, 1) := by decide +kernel
theorem d_M_get_12 : decode prog_4_method_3_code 12 = .ok (.getfield 15, 3) := by decide +kernel
theorem d_M_get_15 : decode prog_4_method_3_code 15 = .ok (.imul, 1) := by decide +kernel
theorem d_M_get_16 : decode prog_4_method_3_code 16 = .ok (.iadd, 1) := by decide +kernel
theorem d_M_get_17 : decode prog_4_method_3_code 17 = .ok (.iload_n 3, 1) := by decide +kernel
theorem d_M_get_18 : decode prog_4_method_3_code 18 = .ok (.iadd, 1) := by decide +kernel
theorem d_M_get_19 : decode prog_4_method_3_code 19 = .ok (.iaload, 1) := by decide +kernel
theorem d_M_get_20 : decode prog_4_method_3_code 20 = .ok (.ireturn, 1) := by decide +kernel
theorem d_M_keepFresh_0 : decode prog_4_method_12_code 0 = .ok (.aload_n 0, 1) := by decide +kernel
theorem d_M_keepFresh_1 : decode prog_4_method_12_code 1 = .ok (.getfield 25, 3) := by decide +kernel
theorem d_M_keepFresh_4 : decode prog_4_method_12_code 4 = .ok (.iconst 0, 1) := by decide +kernel
theorem d_M_keepFresh_5 : decode prog_4_method_12_code 5 = .ok (.aload_n 0, 1) := by decide +kernel
theorem d_M_keepFresh_6 : decode prog_4_method_12_code 6 = .ok (.getfield 21, 3) := by decide +kernel
theorem d_M_keepFresh_9 : decode prog_4_method_12_code 9 = .ok (.iload_n 1, 1) := by decide +kernel
theorem d_M_keepFresh_10 : decode prog_4_method_12_code 10 = .ok (.aload_n 0, 1) := by decide +kernel
theorem d_M_keepFresh_11 : decode prog_4_method_12_code 11 = .ok (.getfield 18, 3) := by decide +kernel
theorem d_M_keepFresh_14 : decode prog_4_method_12_code 14 = .ok (.imul, 1) := by decide +kernel
theorem d_M_keepFresh_15 : decode prog_4_method_12_code 15 = .ok (.aload_n 0, 1) := by decide +kernel
theorem d_M_keepFresh_16 : decode prog_4_method_12_code 16 = .ok (.getfield 18, 3) := by decide +kernel
theorem d_M_keepFresh_19 : decode prog_4_method_12_code 19 = .ok (.invokestatic 59, 3) := by decide +kernel
theorem d_M_keepFresh_22 : decode prog_4_method_12_code 22 = .ok (.return_, 1) := by decide +kernel
theorem d_M_multiply_0 : decode prog_4_method_10_code 0 = .ok (.iconst 0, 1) := by decide +kernel
theorem d_M_multiply_1 : decode prog_4_method_10_code 1 = .ok (.istore 4, 2) := by decide +kernel
theorem d_M_multiply_3 : decode prog_4_method_10_code 3 = .ok (.iload 4, 2) := by decide +kernel
theorem d_M_multiply_5 : decode prog_4_method_10_code 5 = .ok (.aload_n 0, 1) := by decide +kernel
theorem d_M_multiply_6 : decode prog_4_method_10_code 6 = .ok (.getfield 15, 3) := by decide +kernel
theorem d_M_multiply_9 : decode prog_4_method_10_code 9 = .ok (.if_icmp .ge 94, 3) := by decide +kernel
theorem d_M_multiply_12 : decode prog_4_method_10_code 12 = .ok (.iconst 0, 1) := by decide +kernel
theorem d_M_multiply_13 : decode prog_4_method_10_code 13 = .ok (.istore 5, 2) := by decide +kernel
theorem d_M_multiply_15 : decode prog_4_method_10_code 15 = .ok (.iload 5, 2) := by decide +kernel
theorem d_M_multiply_17 : decode prog_4_method_10_code 17 = .ok (.aload_n 0, 1) := by decide +kernel
theorem d_M_multiply_18 : decode prog_4_method_10_code 18 = .ok (.getfield 15, 3) := by decide +kernel
theorem d_M_multiply_21 : decode prog_4_method_10_code 21 = .ok (.if_icmp .ge 76, 3) := by decide +kernel
theorem d_M_multiply_24 : decode prog_4_method_10_code 24 = .ok (.iconst 0, 1) := by decide +kernel
theorem d_M_multiply_25 : decode prog_4_method_10_code 25 = .ok (.istore 6, 2) := by decide +kernel
theorem d_M_multiply_27 : decode prog_4_method_10_code 27 = .ok (.iconst 0, 1) := by decide +kernel
theorem d_M_multiply_28 : decode prog_4_method_10_code 28 = .ok (.istore 7, 2) := by decide +kernel
theorem d_M_multiply_30 : decode prog_4_method_10_code 30 = .ok (.iload 7, 2) := by decide +kernel
theorem d_M_multiply_32 : decode prog_4_method_10_code 32 = .ok (.aload_n 0, 1) := by decide +kernel
theorem d_M_multiply_33 : decode prog_4_method_10_code 33 = .ok (.getfield 15, 3) := by decide +kernel
theorem d_M_multiply_36 : decode prog_4_method_10_code 36 = .ok (.if_icmp .ge 33, 3) := by decide +kernel
theorem d_M_multiply_39 : decode prog_4_method_10_code 39 = .ok (.iload 6, 2) := by decide +kernel
theorem d_M_multiply_41 : decode prog_4_method_10_code 41 = .ok (.aload_n 0, 1) := by decide +kernel
theorem d_M_multiply_42 : decode prog_4_method_10_code 42 = .ok (.iload_n 2, 1) := by decide +kernel
theorem d_M_multiply_43 : decode prog_4_method_10_code 43 = .ok (.iload 4, 2) := by decide +kernel
theorem d_M_multiply_45 : decode prog_4_method_10_code 45 = .ok (.iload 7, 2) := by decide +kernel
theorem d_M_multiply_47 : decode prog_4_method_10_code 47 = .ok (.invokevirtual 68, 3) := by decide +kernel
theorem d_M_multiply_50 : decode prog_4_method_10_code 50 = .ok (.aload_n 0, 1) := by decide +kernel
theorem d_M_multiply_51 : decode prog_4_method_10_code 51 = .ok (.iload_n 3, 1) := by decide +kernel
theorem d_M_multiply_52 : decode prog_4_method_10_code 52 = .ok (.iload 7, 2) := by decide +kernel
theorem d_M_multiply_54 : decode prog_4_method_10_code 54 = .ok (.iload 5, 2) := by decide +kernel
theorem d_M_multiply_56 : decode prog_4_method_10_code 56 = .ok (.invokevirtual 68, 3) := by decide +kernel
theorem d_M_multiply_59 : decode prog_4_method_10_code 59 = .ok (.imul, 1) := by decide +kernel
theorem d_M_multiply_60 : decode prog_4_method_10_code 60 = .ok (.iadd, 1) := by decide +kernel
theorem d_M_multiply_61 : decode prog_4_method_10_code 61 = .ok (.istore 6, 2) := by decide +kernel
theorem d_M_multiply_63 : decode prog_4_method_10_code 63 = .ok (.iinc 7 1, 3) := by decide +kernel
theorem d_M_multiply_66 : decode prog_4_method_10_code 66 = .ok (.goto (-36), 3) := by decide +kernel
theorem d_M_multiply_69 : decode prog_4_method_10_code 69 = .ok (.aload_n 0, 1) := by decide +kernel
theorem d_M_multiply_70 : decode prog_4_method_10_code 70 = .ok (.getfield 25, 3) := by decide +kernel
theorem d_M_multiply_73 : decode prog_4_method_10_code 73 = .ok (.iload 4, 2) := by decide +kernel
theorem d_M_multiply_75 : decode prog_4_method_10_code 75 = .ok (.aload_n 0, 1) := by decide +kernel
theorem d_M_multiply_76 : decode prog_4_method_10_code 76 = .ok (.getfield 15, 3) := by decide +kernel
theorem d_M_multiply_79 : decode prog_4_method_10_code 79 = .ok (.imul, 1) := by decide +kernel
theorem d_M_multiply_80 : decode prog_4_method_10_code 80 = .ok (.iload 5, 2) := by decide +kernel
theorem d_M_multiply_82 : decode prog_4_method_10_code 82 = .ok (.iadd, 1) := by decide +kernel
theorem d_M_multiply_83 : decode prog_4_method_10_code 83 = .ok (.iload 6, 2) := by decide +kernel
theorem d_M_multiply_85 : decode prog_4_method_10_code 85 = .ok (.aload_n 0, 1) := by decide +kernel
theorem d_M_multiply_86 : decode prog_4_method_10_code 86 = .ok (.getfield 9, 3) := by decide +kernel
theorem d_M_multiply_89 : decode prog_4_method_10_code 89 = .ok (.irem, 1) := by decide +kernel
theorem d_M_multiply_90 : decode prog_4_method_10_code 90 = .ok (.iastore, 1) := by decide +kernel
theorem d_M_multiply_91 : decode prog_4_method_10_code 91 = .ok (.iinc 5 1, 3) := by decide +kernel
theorem d_M_multiply_94 : decode prog_4_method_10_code 94 = .ok (.goto (-79), 3) := by decide +kernel
theorem d_M_multiply_97 : decode prog_4_method_10_code 97 = .ok (.iinc 4 1, 3) := by decide +kernel
theorem d_M_multiply_100 : decode prog_4_method_10_code 100 = .ok (.goto (-97), 3) := by decide +kernel
theorem d_M_multiply_103 : decode prog_4_method_10_code 103 = .ok (.aload_n 0, 1) := by decide +kernel
theorem d_M_multiply_104 : decode prog_4_method_10_code 104 = .ok (.iload_n 1, 1) := by decide +kernel
theorem d_M_multiply_105 : decode prog_4_method_10_code 105 = .ok (.invokevirtual 72, 3) := by decide +kernel
theorem d_M_multiply_108 : decode prog_4_method_10_code 108 = .ok (.return_, 1) := by decide +kernel
theorem d_M_turn_0 : decode prog_4_method_11_code 0 = .ok (.iconst 0, 1) := by decide +kernel
theorem d_M_turn_1 : decode prog_4_method_11_code 1 = .ok (.istore_n 3, 1) := by decide +kernel
theorem d_M_turn_2 : decode prog_4_method_11_code 2 = .ok (.iload_n 3, 1) := by decide +kernel
theorem d_M_turn_3 : decode prog_4_method_11_code 3 = .ok (.aload_n 0, 1) := by decide +kernel
theorem d_M_turn_4 : decode prog_4_method_11_code 4 = .ok (.getfield 15, 3) := by decide +kernel
theorem d_M_turn_7 : decode prog_4_method_11_code 7 = .ok (.if_icmp .ge 49, 3) := by decide +kernel
theorem d_M_turn_10 : decode prog_4_method_11_code 10 = .ok (.iconst 0, 1) := by decide +kernel
theorem d_M_turn_11 : decode prog_4_method_11_code 11 = .ok (.istore 4, 2) := by decide +kernel
theorem d_M_turn_13 : decode prog_4_method_11_code 13 = .ok (.iload 4, 2) := by decide +kernel
theorem d_M_turn_15 : decode prog_4_method_11_code 15 = .ok (.aload_n 0, 1) := by decide +kernel
theorem d_M_turn_16 : decode prog_4_method_11_code 16 = .ok (.getfield 15, 3) := by decide +kernel
theorem d_M_turn_19 : decode prog_4_method_11_code 19 = .ok (.if_icmp .ge 31, 3) := by decide +kernel
theorem d_M_turn_22 : decode prog_4_method_11_code 22 = .ok (.aload_n 0, 1) := by decide +kernel
theorem d_M_turn_23 : decode prog_4_method_11_code 23 = .ok (.getfield 25, 3) := by decide +kernel
theorem d_M_turn_26 : decode prog_4_method_11_code 26 = .ok (.iload_n 3, 1) := by decide +kernel
theorem d_M_turn_27 : decode prog_4_method_11_code 27 = .ok (.aload_n 0, 1) := by decide +kernel
theorem d_M_turn_28 : decode prog_4_method_11_code 28 = .ok (.getfield 15, 3) := by decide +kernel
theorem d_M_turn_31 : decode prog_4_method_11_code 31 = .ok (.imul, 1) := by decide +kernel
theorem d_M_turn_32 : decode prog_4_method_11_code 32 = .ok (.iload 4, 2) := by decide +kernel
theorem d_M_turn_34 : decode prog_4_method_11_code 34 = .ok (.iadd, 1) := by decide +kernel
theorem d_M_turn_35 : decode prog_4_method_11_code 35 = .ok (.aload_n 0, 1) := by decide +kernel
theorem d_M_turn_36 : decode prog_4_method_11_code 36 = .ok (.iload_n 2, 1) := by decide +kernel
theorem d_M_turn_37 : decode prog_4_method_11_code 37 = .ok (.iload 4, 2) := by decide +kernel
theorem d_M_turn_39 : decode prog_4_method_11_code 39 = .ok (.iload_n 3, 1) := by decide +kernel
theorem d_M_turn_40 : decode prog_4_method_11_code 40 = .ok (.invokevirtual 68, 3) := by decide +kernel
theorem d_M_turn_43 : decode prog_4_method_11_code 43 = .ok (.iastore, 1) := by decide +kernel
theorem d_M_turn_44 : decode prog_4_method_11_code 44 = .ok (.iinc 4 1, 3) := by decide +kernel
theorem d_M_turn_47 : decode prog_4_method_11_code 47 = .ok (.goto (-34), 3) := by decide +kernel
theorem d_M_turn_50 : decode prog_4_method_11_code 50 = .ok (.iinc 3 1, 3) := by decide +kernel
theorem d_M_turn_53 : decode prog_4_method_11_code 53 = .ok (.goto (-51), 3) := by decide +kernel
theorem d_M_turn_56 : decode prog_4_method_11_code 56 = .ok (.aload_n 0, 1) := by decide +kernel
theorem d_M_turn_57 : decode prog_4_method_11_code 57 = .ok (.iload_n 1, 1) := by decide +kernel
theorem d_M_turn_58 : decode prog_4_method_11_code 58 = .ok (.invokevirtual 72, 3) := by decide +kernel
theorem d_M_turn_61 : decode prog_4_method_11_code 61 = .ok (.return_, 1) := by decide +kernel
theorem d_M_scale_0 : decode prog_4_method_13_code 0 = .ok (.iconst 0, 1) := by decide +kernel
theorem d_M_scale_1 : decode prog_4_method_13_code 1 = .ok (.istore 4, 2) := by decide +kernel
theorem d_M_scale_3 : decode prog_4_method_13_code 3 = .ok (.iload 4, 2) := by decide +kernel
theorem d_M_scale_5 : decode prog_4_method_13_code 5 = .ok (.aload_n 0, 1) := by decide +kernel
theorem d_M_scale_6 : decode prog_4_method_13_code 6 = .ok (.getfield 18, 3) := by decide +kernel
theorem d_M_scale_9 : decode prog_4_method_13_code 9 = .ok (.if_icmp .ge 44, 3) := by decide +kernel
theorem d_M_scale_12 : decode prog_4_method_13_code 12 = .ok (.aload_n 0, 1) := by decide +kernel
theorem d_M_scale_13 : decode prog_4_method_13_code 13 = .ok (.getfield 21, 3) := by decide +kernel
theorem d_M_scale_16 : decode prog_4_method_13_code 16 = .ok (.iload_n 1, 1) := by decide +kernel
theorem d_M_scale_17 : decode prog_4_method_13_code 17 = .ok (.aload_n 0, 1) := by decide +kernel
theorem d_M_scale_18 : decode prog_4_method_13_code 18 = .ok (.getfield 18, 3) := by decide +kernel
theorem d_M_scale_21 : decode prog_4_method_13_code 21 = .ok (.imul, 1) := by decide +kernel
theorem d_M_scale_22 : decode prog_4_method_13_code 22 = .ok (.iload 4, 2) := by decide +kernel
theorem d_M_scale_24 : decode prog_4_method_13_code 24 = .ok (.iadd, 1) := by decide +kernel
theorem d_M_scale_25 : decode prog_4_method_13_code 25 = .ok (.aload_n 0, 1) := by decide +kernel
theorem d_M_scale_26 : decode prog_4_method_13_code 26 = .ok (.getfield 21, 3) := by decide +kernel
theorem d_M_scale_29 : decode prog_4_method_13_code 29 = .ok (.iload_n 2, 1) := by decide +kernel
theorem d_M_scale_30 : decode prog_4_method_13_code 30 = .ok (.aload_n 0, 1) := by decide +kernel
theorem d_M_scale_31 : decode prog_4_method_13_code 31 = .ok (.getfield 18, 3) := by decide +kernel
theorem d_M_scale_34 : decode prog_4_method_13_code 34 = .ok (.imul, 1) := by decide +kernel
theorem d_M_scale_35 : decode prog_4_method_13_code 35 = .ok (.iload 4, 2) := by decide +kernel
theorem d_M_scale_37 : decode prog_4_method_13_code 37 = .ok (.iadd, 1) := by decide +kernel
theorem d_M_scale_38 : decode prog_4_method_13_code 38 = .ok (.iaload, 1) := by decide +kernel
theorem d_M_scale_39 : decode prog_4_method_13_code 39 = .ok (.iload_n 3, 1) := by decide +kernel
theorem d_M_scale_40 : decode prog_4_method_13_code 40 = .ok (.imul, 1) := by decide +kernel
theorem d_M_scale_41 : decode prog_4_method_13_code 41 = .ok (.aload_n 0, 1) := by decide +kernel
theorem d_M_scale_42 : decode prog_4_method_13_code 42 = .ok (.getfield 9, 3) := by decide +kernel
theorem d_M_scale_45 : decode prog_4_method_13_code 45 = .ok (.irem, 1) := by decide +kernel
theorem d_M_scale_46 : decode prog_4_method_13_code 46 = .ok (.iastore, 1) := by decide +kernel
theorem d_M_scale_47 : decode prog_4_method_13_code 47 = .ok (.iinc 4 1, 3) := by decide +kernel
theorem d_M_scale_50 : decode prog_4_method_13_code 50 = .ok (.goto (-47), 3) := by decide +kernel
theorem d_M_scale_53 : decode prog_4_method_13_code 53 = .ok (.return_, 1) := by decide +kernel
theorem d_M_apply_0 : decode prog_4_method_5_code 0 = .ok (.iload_n 1, 1) := by decide +kernel
theorem d_M_apply_1 : decode prog_4_method_5_code 1 = .ok (.tableswitch 121 0 6 #[43, 56, 64, 72, 84, 101, 112], 43) := by decide +kernel
theorem d_M_apply_44 : decode prog_4_method_5_code 44 = .ok (.aload_n 0, 1) := by decide +kernel
theorem d_M_apply_45 : decode prog_4_method_5_code 45 = .ok (.iload_n 2, 1) := by decide +kernel
theorem d_M_apply_46 : decode prog_4_method_5_code 46 = .ok (.bipush 40, 2) := by decide +kernel
theorem d_M_apply_48 : decode prog_4_method_5_code 48 = .ok (.iload 4, 2) := by decide +kernel
theorem d_M_apply_50 : decode prog_4_method_5_code 50 = .ok (.iadd, 1) := by decide +kernel
theorem d_M_apply_51 : decode prog_4_method_5_code 51 = .ok (.invokevirtual 34, 3) := by decide +kernel
theorem d_M_apply_54 : decode prog_4_method_5_code 54 = .ok (.goto 76, 3) := by decide +kernel
theorem d_M_apply_57 : decode prog_4_method_5_code 57 = .ok (.aload_n 0, 1) := by decide +kernel
theorem d_M_apply_58 : decode prog_4_method_5_code 58 = .ok (.iload_n 2, 1) := by decide +kernel
theorem d_M_apply_59 : decode prog_4_method_5_code 59 = .ok (.invokevirtual 38, 3) := by decide +kernel
theorem d_M_apply_62 : decode prog_4_method_5_code 62 = .ok (.goto 68, 3) := by decide +kernel
theorem d_M_apply_65 : decode prog_4_method_5_code 65 = .ok (.aload_n 0, 1) := by decide +kernel
theorem d_M_apply_66 : decode prog_4_method_5_code 66 = .ok (.iload_n 2, 1) := by decide +kernel
theorem d_M_apply_67 : decode prog_4_method_5_code 67 = .ok (.invokevirtual 42, 3) := by decide +kernel
theorem d_M_apply_70 : decode prog_4_method_5_code 70 = .ok (.goto 60, 3) := by decide +kernel
theorem d_M_apply_73 : decode prog_4_method_5_code 73 = .ok (.aload_n 0, 1) := by decide +kernel
theorem d_M_apply_74 : decode prog_4_method_5_code 74 = .ok (.iload_n 2, 1) := by decide +kernel
theorem d_M_apply_75 : decode prog_4_method_5_code 75 = .ok (.iload_n 3, 1) := by decide +kernel
theorem d_M_apply_76 : decode prog_4_method_5_code 76 = .ok (.iload 4, 2) := by decide +kernel
theorem d_M_apply_78 : decode prog_4_method_5_code 78 = .ok (.iconst 1, 1) := by decide +kernel
theorem d_M_apply_79 : decode prog_4_method_5_code 79 = .ok (.invokevirtual 45, 3) := by decide +kernel
theorem d_M_apply_82 : decode prog_4_method_5_code 82 = .ok (.goto 48, 3) := by decide +kernel
theorem d_M_apply_85 : decode prog_4_method_5_code 85 = .ok (.aload_n 0, 1) := by decide +kernel
theorem d_M_apply_86 : decode prog_4_method_5_code 86 = .ok (.iload_n 2, 1) := by decide +kernel
theorem d_M_apply_87 : decode prog_4_method_5_code 87 = .ok (.iload_n 3, 1) := by decide +kernel
theorem d_M_apply_88 : decode prog_4_method_5_code 88 = .ok (.iload 4, 2) := by decide +kernel
theorem d_M_apply_90 : decode prog_4_method_5_code 90 = .ok (.aload_n 0, 1) := by decide +kernel
theorem d_M_apply_91 : decode prog_4_method_5_code 91 = .ok (.getfield 9, 3) := by decide +kernel
theorem d_M_apply_94 : decode prog_4_method_5_code 94 = .ok (.iconst 1, 1) := by decide +kernel
theorem d_M_apply_95 : decode prog_4_method_5_code 95 = .ok (.isub, 1) := by decide +kernel
theorem d_M_apply_96 : decode prog_4_method_5_code 96 = .ok (.invokevirtual 45, 3) := by decide +kernel
theorem d_M_apply_99 : decode prog_4_method_5_code 99 = .ok (.goto 31, 3) := by decide +kernel
theorem d_M_apply_102 : decode prog_4_method_5_code 102 = .ok (.aload_n 0, 1) := by decide +kernel
theorem d_M_apply_103 : decode prog_4_method_5_code 103 = .ok (.iload_n 2, 1) := by decide +kernel
theorem d_M_apply_104 : decode prog_4_method_5_code 104 = .ok (.iload_n 3, 1) := by decide +kernel
theorem d_M_apply_105 : decode prog_4_method_5_code 105 = .ok (.iload 4, 2) := by decide +kernel
theorem d_M_apply_107 : decode prog_4_method_5_code 107 = .ok (.invokevirtual 49, 3) := by decide +kernel
theorem d_M_apply_110 : decode prog_4_method_5_code 110 = .ok (.goto 20, 3) := by decide +kernel
theorem d_M_apply_113 : decode prog_4_method_5_code 113 = .ok (.aload_n 0, 1) := by decide +kernel
theorem d_M_apply_114 : decode prog_4_method_5_code 114 = .ok (.iload_n 2, 1) := by decide +kernel
theorem d_M_apply_115 : decode prog_4_method_5_code 115 = .ok (.iload_n 3, 1) := by decide +kernel
theorem d_M_apply_116 : decode prog_4_method_5_code 116 = .ok (.invokevirtual 53, 3) := by decide +kernel
theorem d_M_apply_119 : decode prog_4_method_5_code 119 = .ok (.goto 11, 3) := by decide +kernel
theorem d_M_apply_122 : decode prog_4_method_5_code 122 = .ok (.aload_n 0, 1) := by decide +kernel
theorem d_M_apply_123 : decode prog_4_method_5_code 123 = .ok (.iload_n 2, 1) := by decide +kernel
theorem d_M_apply_124 : decode prog_4_method_5_code 124 = .ok (.iload_n 3, 1) := by decide +kernel
theorem d_M_apply_125 : decode prog_4_method_5_code 125 = .ok (.iload 4, 2) := by decide +kernel
theorem d_M_apply_127 : decode prog_4_method_5_code 127 = .ok (.invokevirtual 56, 3) := by decide +kernel
theorem d_M_apply_130 : decode prog_4_method_5_code 130 = .ok (.return_, 1) := by decide +kernel
theorem d_M_raise_0 : decode prog_4_method_14_code 0 = .ok (.iload_n 2, 1) := by decide +kernel
theorem d_M_raise_1 : decode prog_4_method_14_code 1 = .ok (.ifCond .ne 9, 3) := by decide +kernel
theorem d_M_raise_4 : decode prog_4_method_14_code 4 = .ok (.aload_n 0, 1) := by decide +kernel
theorem d_M_raise_5 : decode prog_4_method_14_code 5 = .ok (.iload_n 1, 1) := by decide +kernel
theorem d_M_raise_6 : decode prog_4_method_14_code 6 = .ok (.invokevirtual 38, 3) := by decide +kernel
theorem d_M_raise_9 : decode prog_4_method_14_code 9 = .ok (.return_, 1) := by decide +kernel
theorem d_M_raise_10 : decode prog_4_method_14_code 10 = .ok (.aload_n 0, 1) := by decide +kernel
theorem d_M_raise_11 : decode prog_4_method_14_code 11 = .ok (.bipush 68, 2) := by decide +kernel
theorem d_M_raise_13 : decode prog_4_method_14_code 13 = .ok (.iload_n 1, 1) := by decide +kernel
theorem d_M_raise_14 : decode prog_4_method_14_code 14 = .ok (.invokevirtual 34, 3) := by decide +kernel
theorem d_M_raise_17 : decode prog_4_method_14_code 17 = .ok (.iload_n 2, 1) := by decide +kernel
theorem d_M_raise_18 : decode prog_4_method_14_code 18 = .ok (.invokestatic 75, 3) := by decide +kernel
theorem d_M_raise_21 : decode prog_4_method_14_code 21 = .ok (.iconst 1, 1) := by decide +kernel
theorem d_M_raise_22 : decode prog_4_method_14_code 22 = .ok (.isub, 1) := by decide +kernel
theorem d_M_raise_23 : decode prog_4_method_14_code 23 = .ok (.istore_n 3, 1) := by decide +kernel
theorem d_M_raise_24 : decode prog_4_method_14_code 24 = .ok (.iload_n 3, 1) := by decide +kernel
theorem d_M_raise_25 : decode prog_4_method_14_code 25 = .ok (.ifCond .lt 32, 3) := by decide +kernel
theorem d_M_raise_28 : decode prog_4_method_14_code 28 = .ok (.aload_n 0, 1) := by decide +kernel
theorem d_M_raise_29 : decode prog_4_method_14_code 29 = .ok (.iload_n 1, 1) := by decide +kernel
theorem d_M_raise_30 : decode prog_4_method_14_code 30 = .ok (.iload_n 1, 1) := by decide +kernel
theorem d_M_raise_31 : decode prog_4_method_14_code 31 = .ok (.iload_n 1, 1) := by decide +kernel
theorem d_M_raise_32 : decode prog_4_method_14_code 32 = .ok (.invokevirtual 49, 3) := by decide +kernel
theorem d_M_raise_35 : decode prog_4_method_14_code 35 = .ok (.iload_n 2, 1) := by decide +kernel
theorem d_M_raise_36 : decode prog_4_method_14_code 36 = .ok (.iload_n 3, 1) := by decide +kernel
theorem d_M_raise_37 : decode prog_4_method_14_code 37 = .ok (.invokestatic 79, 3) := by decide +kernel
theorem d_M_raise_40 : decode prog_4_method_14_code 40 = .ok (.ifCond .eq 11, 3) := by decide +kernel
theorem d_M_raise_43 : decode prog_4_method_14_code 43 = .ok (.aload_n 0, 1) := by decide +kernel
theorem d_M_raise_44 : decode prog_4_method_14_code 44 = .ok (.iload_n 1, 1) := by decide +kernel
theorem d_M_raise_45 : decode prog_4_method_14_code 45 = .ok (.iload_n 1, 1) := by decide +kernel
theorem d_M_raise_46 : decode prog_4_method_14_code 46 = .ok (.bipush 68, 2) := by decide +kernel
theorem d_M_raise_48 : decode prog_4_method_14_code 48 = .ok (.invokevirtual 49, 3) := by decide +kernel
theorem d_M_raise_51 : decode prog_4_method_14_code 51 = .ok (.iinc 3 (-1), 3) := by decide +kernel
theorem d_M_raise_54 : decode prog_4_method_14_code 54 = .ok (.goto (-30), 3) := by decide +kernel
theorem d_M_raise_57 : decode prog_4_method_14_code 57 = .ok (.return_, 1) := by decide +kernel
end
section
theorem d_P_powerOf_0 : decode prog_3_method_4_code 0 = .ok (.iload_n 1, 1) := by decide +kernel
theorem d_P_powerOf_1 : decode prog_3_method_4_code 1 = .ok (.ifCond .ne 11, 3) := by decide +kernel
theorem d_P_powerOf_4 : decode prog_3_method_4_code 4 = .ok (.aload_n 2, 1) := by decide +kernel
theorem d_P_powerOf_5 : decode prog_3_method_4_code 5 = .ok (.iconst 1, 1) := by decide +kernel
theorem d_P_powerOf_6 : decode prog_3_method_4_code 6 = .ok (.iconst 0, 1) := by decide +kernel
theorem d_P_powerOf_7 : decode prog_3_method_4_code 7 = .ok (.iconst 0, 1) := by decide +kernel
theorem d_P_powerOf_8 : decode prog_3_method_4_code 8 = .ok (.invokevirtual 40, 3) := by decide +kernel
theorem d_P_powerOf_11 : decode prog_3_method_4_code 11 = .ok (.ireturn, 1) := by decide +kernel
theorem d_P_powerOf_12 : decode prog_3_method_4_code 12 = .ok (.iload_n 0, 1) := by decide +kernel
theorem d_P_powerOf_13 : decode prog_3_method_4_code 13 = .ok (.istore_n 3, 1) := by decide +kernel
theorem d_P_powerOf_14 : decode prog_3_method_4_code 14 = .ok (.iload_n 1, 1) := by decide +kernel
theorem d_P_powerOf_15 : decode prog_3_method_4_code 15 = .ok (.invokestatic 48, 3) := by decide +kernel
theorem d_P_powerOf_18 : decode prog_3_method_4_code 18 = .ok (.iconst 1, 1) := by decide +kernel
theorem d_P_powerOf_19 : decode prog_3_method_4_code 19 = .ok (.isub, 1) := by decide +kernel
theorem d_P_powerOf_20 : decode prog_3_method_4_code 20 = .ok (.istore 4, 2) := by decide +kernel
theorem d_P_powerOf_22 : decode prog_3_method_4_code 22 = .ok (.iload 4, 2) := by decide +kernel
theorem d_P_powerOf_24 : decode prog_3_method_4_code 24 = .ok (.ifCond .lt 34, 3) := by decide +kernel
theorem d_P_powerOf_27 : decode prog_3_method_4_code 27 = .ok (.aload_n 2, 1) := by decide +kernel
theorem d_P_powerOf_28 : decode prog_3_method_4_code 28 = .ok (.iconst 5, 1) := by decide +kernel
theorem d_P_powerOf_29 : decode prog_3_method_4_code 29 = .ok (.iload_n 3, 1) := by decide +kernel
theorem d_P_powerOf_30 : decode prog_3_method_4_code 30 = .ok (.iload_n 3, 1) := by decide +kernel
theorem d_P_powerOf_31 : decode prog_3_method_4_code 31 = .ok (.invokevirtual 40, 3) := by decide +kernel
theorem d_P_powerOf_34 : decode prog_3_method_4_code 34 = .ok (.istore_n 3, 1) := by decide +kernel
theorem d_P_powerOf_35 : decode prog_3_method_4_code 35 = .ok (.iload_n 1, 1) := by decide +kernel
theorem d_P_powerOf_36 : decode prog_3_method_4_code 36 = .ok (.iload 4, 2) := by decide +kernel
theorem d_P_powerOf_38 : decode prog_3_method_4_code 38 = .ok (.invokestatic 51, 3) := by decide +kernel
theorem d_P_powerOf_41 : decode prog_3_method_4_code 41 = .ok (.ifCond .eq 11, 3) := by decide +kernel
theorem d_P_powerOf_44 : decode prog_3_method_4_code 44 = .ok (.aload_n 2, 1) := by decide +kernel
theorem d_P_powerOf_45 : decode prog_3_method_4_code 45 = .ok (.iconst 5, 1) := by decide +kernel
theorem d_P_powerOf_46 : decode prog_3_method_4_code 46 = .ok (.iload_n 3, 1) := by decide +kernel
theorem d_P_powerOf_47 : decode prog_3_method_4_code 47 = .ok (.iload_n 0, 1) := by decide +kernel
theorem d_P_powerOf_48 : decode prog_3_method_4_code 48 = .ok (.invokevirtual 40, 3) := by decide +kernel
theorem d_P_powerOf_51 : decode prog_3_method_4_code 51 = .ok (.istore_n 3, 1) := by decide +kernel
theorem d_P_powerOf_52 : decode prog_3_method_4_code 52 = .ok (.iinc 4 (-1), 3) := by decide +kernel
theorem d_P_powerOf_55 : decode prog_3_method_4_code 55 = .ok (.goto (-33), 3) := by decide +kernel
theorem d_P_powerOf_58 : decode prog_3_method_4_code 58 = .ok (.iload_n 3, 1) := by decide +kernel
theorem d_P_powerOf_59 : decode prog_3_method_4_code 59 = .ok (.ireturn, 1) := by decide +kernel
theorem d_P_instructionsFor_0 : decode prog_3_method_3_code 0 = .ok (.iload_n 1, 1) := by decide +kernel
theorem d_P_instructionsFor_1 : decode prog_3_method_3_code 1 = .ok (.tableswitch 94 0 8 #[51, 51, 51, 60, 60, 60, 94, 94, 81], 51) := by decide +kernel
theorem d_P_instructionsFor_52 : decode prog_3_method_3_code 52 = .ok (.aload 4, 2) := by decide +kernel
theorem d_P_instructionsFor_54 : decode prog_3_method_3_code 54 = .ok (.iload_n 1, 1) := by decide +kernel
theorem d_P_instructionsFor_55 : decode prog_3_method_3_code 55 = .ok (.iconst 0, 1) := by decide +kernel
theorem d_P_instructionsFor_56 : decode prog_3_method_3_code 56 = .ok (.iload_n 2, 1) := by decide +kernel
theorem d_P_instructionsFor_57 : decode prog_3_method_3_code 57 = .ok (.invokevirtual 40, 3) := by decide +kernel
theorem d_P_instructionsFor_60 : decode prog_3_method_3_code 60 = .ok (.ireturn, 1) := by decide +kernel
theorem d_P_instructionsFor_61 : decode prog_3_method_3_code 61 = .ok (.aload 4, 2) := by decide +kernel
theorem d_P_instructionsFor_63 : decode prog_3_method_3_code 63 = .ok (.iload_n 1, 1) := by decide +kernel
theorem d_P_instructionsFor_64 : decode prog_3_method_3_code 64 = .ok (.aload_n 0, 1) := by decide +kernel
theorem d_P_instructionsFor_65 : decode prog_3_method_3_code 65 = .ok (.getfield 9, 3) := by decide +kernel
theorem d_P_instructionsFor_68 : decode prog_3_method_3_code 68 = .ok (.iload_n 3, 1) := by decide +kernel
theorem d_P_instructionsFor_69 : decode prog_3_method_3_code 69 = .ok (.iaload, 1) := by decide +kernel
theorem d_P_instructionsFor_70 : decode prog_3_method_3_code 70 = .ok (.aload_n 0, 1) := by decide +kernel
theorem d_P_instructionsFor_71 : decode prog_3_method_3_code 71 = .ok (.getfield 9, 3) := by decide +kernel
theorem d_P_instructionsFor_74 : decode prog_3_method_3_code 74 = .ok (.iload_n 3, 1) := by decide +kernel
theorem d_P_instructionsFor_75 : decode prog_3_method_3_code 75 = .ok (.iconst 1, 1) := by decide +kernel
theorem d_P_instructionsFor_76 : decode prog_3_method_3_code 76 = .ok (.iadd, 1) := by decide +kernel
theorem d_P_instructionsFor_77 : decode prog_3_method_3_code 77 = .ok (.iaload, 1) := by decide +kernel
theorem d_P_instructionsFor_78 : decode prog_3_method_3_code 78 = .ok (.invokevirtual 40, 3) := by decide +kernel
theorem d_P_instructionsFor_81 : decode prog_3_method_3_code 81 = .ok (.ireturn, 1) := by decide +kernel
theorem d_P_instructionsFor_82 : decode prog_3_method_3_code 82 = .ok (.aload_n 0, 1) := by decide +kernel
theorem d_P_instructionsFor_83 : decode prog_3_method_3_code 83 = .ok (.getfield 9, 3) := by decide +kernel
theorem d_P_instructionsFor_86 : decode prog_3_method_3_code 86 = .ok (.iload_n 3, 1) := by decide +kernel
theorem d_P_instructionsFor_87 : decode prog_3_method_3_code 87 = .ok (.iaload, 1) := by decide +kernel
theorem d_P_instructionsFor_88 : decode prog_3_method_3_code 88 = .ok (.iload_n 2, 1) := by decide +kernel
theorem d_P_instructionsFor_89 : decode prog_3_method_3_code 89 = .ok (.aload 4, 2) := by decide +kernel
theorem d_P_instructionsFor_91 : decode prog_3_method_3_code 91 = .ok (.invokestatic 44, 3) := by decide +kernel
theorem d_P_instructionsFor_94 : decode prog_3_method_3_code 94 = .ok (.ireturn, 1) := by decide +kernel
theorem d_P_instructionsFor_95 : decode prog_3_method_3_code 95 = .ok (.aload 4, 2) := by decide +kernel
theorem d_P_instructionsFor_97 : decode prog_3_method_3_code 97 = .ok (.iload_n 1, 1) := by decide +kernel
theorem d_P_instructionsFor_98 : decode prog_3_method_3_code 98 = .ok (.aload_n 0, 1) := by decide +kernel
theorem d_P_instructionsFor_99 : decode prog_3_method_3_code 99 = .ok (.getfield 9, 3) := by decide +kernel
theorem d_P_instructionsFor_102 : decode prog_3_method_3_code 102 = .ok (.iload_n 3, 1) := by decide +kernel
theorem d_P_instructionsFor_103 : decode prog_3_method_3_code 103 = .ok (.iaload, 1) := by decide +kernel
theorem d_P_instructionsFor_104 : decode prog_3_method_3_code 104 = .ok (.iload_n 2, 1) := by decide +kernel
theorem d_P_instructionsFor_105 : decode prog_3_method_3_code 105 = .ok (.invokevirtual 40, 3) := by decide +kernel
theorem d_P_instructionsFor_108 : decode prog_3_method_3_code 108 = .ok (.ireturn, 1) := by decide +kernel
theorem d_P_translate_0 : decode prog_3_method_2_code 0 = .ok (.aload_n 2, 1) := by decide +kernel
theorem d_P_translate_1 : decode prog_3_method_2_code 1 = .ok (.invokevirtual 15, 3) := by decide +kernel
theorem d_P_translate_4 : decode prog_3_method_2_code 4 = .ok (.iconst 0, 1) := by decide +kernel
theorem d_P_translate_5 : decode prog_3_method_2_code 5 = .ok (.istore_n 3, 1) := by decide +kernel
theorem d_P_translate_6 : decode prog_3_method_2_code 6 = .ok (.iconst 0, 1) := by decide +kernel
theorem d_P_translate_7 : decode prog_3_method_2_code 7 = .ok (.istore 4, 2) := by decide +kernel
theorem d_P_translate_9 : decode prog_3_method_2_code 9 = .ok (.iload 4, 2) := by decide +kernel
theorem d_P_translate_11 : decode prog_3_method_2_code 11 = .ok (.aload_n 1, 1) := by decide +kernel
theorem d_P_translate_12 : decode prog_3_method_2_code 12 = .ok (.invokevirtual 20, 3) := by decide +kernel
theorem d_P_translate_15 : decode prog_3_method_2_code 15 = .ok (.if_icmp .ge 48, 3) := by decide +kernel
theorem d_P_translate_18 : decode prog_3_method_2_code 18 = .ok (.aload_n 1, 1) := by decide +kernel
theorem d_P_translate_19 : decode prog_3_method_2_code 19 = .ok (.iload 4, 2) := by decide +kernel
theorem d_P_translate_21 : decode prog_3_method_2_code 21 = .ok (.invokevirtual 26, 3) := by decide +kernel
theorem d_P_translate_24 : decode prog_3_method_2_code 24 = .ok (.istore 5, 2) := by decide +kernel
theorem d_P_translate_26 : decode prog_3_method_2_code 26 = .ok (.iload_n 3, 1) := by decide +kernel
theorem d_P_translate_27 : decode prog_3_method_2_code 27 = .ok (.iload 5, 2) := by decide +kernel
theorem d_P_translate_29 : decode prog_3_method_2_code 29 = .ok (.invokestatic 30, 3) := by decide +kernel
theorem d_P_translate_32 : decode prog_3_method_2_code 32 = .ok (.isub, 1) := by decide +kernel
theorem d_P_translate_33 : decode prog_3_method_2_code 33 = .ok (.istore_n 3, 1) := by decide +kernel
theorem d_P_translate_34 : decode prog_3_method_2_code 34 = .ok (.aload_n 0, 1) := by decide +kernel
theorem d_P_translate_35 : decode prog_3_method_2_code 35 = .ok (.getfield 9, 3) := by decide +kernel
theorem d_P_translate_38 : decode prog_3_method_2_code 38 = .ok (.iload_n 3, 1) := by decide +kernel
theorem d_P_translate_39 : decode prog_3_method_2_code 39 = .ok (.aload_n 0, 1) := by decide +kernel
theorem d_P_translate_40 : decode prog_3_method_2_code 40 = .ok (.iload 5, 2) := by decide +kernel
theorem d_P_translate_42 : decode prog_3_method_2_code 42 = .ok (.aload_n 1, 1) := by decide +kernel
theorem d_P_translate_43 : decode prog_3_method_2_code 43 = .ok (.iload 4, 2) := by decide +kernel
theorem d_P_translate_45 : decode prog_3_method_2_code 45 = .ok (.invokevirtual 33, 3) := by decide +kernel
theorem d_P_translate_48 : decode prog_3_method_2_code 48 = .ok (.iload_n 3, 1) := by decide +kernel
theorem d_P_translate_49 : decode prog_3_method_2_code 49 = .ok (.aload_n 2, 1) := by decide +kernel
theorem d_P_translate_50 : decode prog_3_method_2_code 50 = .ok (.invokevirtual 36, 3) := by decide +kernel
theorem d_P_translate_53 : decode prog_3_method_2_code 53 = .ok (.iastore, 1) := by decide +kernel
theorem d_P_translate_54 : decode prog_3_method_2_code 54 = .ok (.iinc 3 1, 3) := by decide +kernel
theorem d_P_translate_57 : decode prog_3_method_2_code 57 = .ok (.iinc 4 1, 3) := by decide +kernel
theorem d_P_translate_60 : decode prog_3_method_2_code 60 = .ok (.goto (-51), 3) := by decide +kernel
theorem d_P_translate_63 : decode prog_3_method_2_code 63 = .ok (.return_, 1) := by decide +kernel
theorem d_O_is_0 : decode prog_5_method_4_code 0 = .ok (.aload_n 0, 1) := by decide +kernel
theorem d_O_is_1 : decode prog_5_method_4_code 1 = .ok (.getfield 18, 3) := by decide +kernel
theorem d_O_is_4 : decode prog_5_method_4_code 4 = .ok (.iload_n 2, 1) := by decide +kernel
theorem d_O_is_5 : decode prog_5_method_4_code 5 = .ok (.invokevirtual 40, 3) := by decide +kernel
theorem d_O_is_8 : decode prog_5_method_4_code 8 = .ok (.iload_n 1, 1) := by decide +kernel
theorem d_O_is_9 : decode prog_5_method_4_code 9 = .ok (.if_icmp .ne 7, 3) := by decide +kernel
theorem d_O_is_12 : decode prog_5_method_4_code 12 = .ok (.iconst 1, 1) := by decide +kernel
theorem d_O_is_13 : decode prog_5_method_4_code 13 = .ok (.goto 4, 3) := by decide +kernel
theorem d_O_is_16 : decode prog_5_method_4_code 16 = .ok (.iconst 0, 1) := by decide +kernel
theorem d_O_is_17 : decode prog_5_method_4_code 17 = .ok (.ireturn, 1) := by decide +kernel
theorem d_O_sum_0 : decode prog_5_method_6_code 0 = .ok (.aload_n 0, 1) := by decide +kernel
theorem d_O_sum_1 : decode prog_5_method_6_code 1 = .ok (.iconst 2, 1) := by decide +kernel
theorem d_O_sum_2 : decode prog_5_method_6_code 2 = .ok (.iload_n 2, 1) := by decide +kernel
theorem d_O_sum_3 : decode prog_5_method_6_code 3 = .ok (.invokevirtual 84, 3) := by decide +kernel
theorem d_O_sum_6 : decode prog_5_method_6_code 6 = .ok (.ifCond .eq 5, 3) := by decide +kernel
theorem d_O_sum_9 : decode prog_5_method_6_code 9 = .ok (.iload_n 1, 1) := by decide +kernel
theorem d_O_sum_10 : decode prog_5_method_6_code 10 = .ok (.ireturn, 1) := by decide +kernel
theorem d_O_sum_11 : decode prog_5_method_6_code 11 = .ok (.aload_n 0, 1) := by decide +kernel
theorem d_O_sum_12 : decode prog_5_method_6_code 12 = .ok (.iconst 2, 1) := by decide +kernel
theorem d_O_sum_13 : decode prog_5_method_6_code 13 = .ok (.iload_n 1, 1) := by decide +kernel
theorem d_O_sum_14 : decode prog_5_method_6_code 14 = .ok (.invokevirtual 84, 3) := by decide +kernel
theorem d_O_sum_17 : decode prog_5_method_6_code 17 = .ok (.ifCond .eq 5, 3) := by decide +kernel
theorem d_O_sum_20 : decode prog_5_method_6_code 20 = .ok (.iload_n 2, 1) := by decide +kernel
theorem d_O_sum_21 : decode prog_5_method_6_code 21 = .ok (.ireturn, 1) := by decide +kernel
theorem d_O_sum_22 : decode prog_5_method_6_code 22 = .ok (.aload_n 0, 1) := by decide +kernel
theorem d_O_sum_23 : decode prog_5_method_6_code 23 = .ok (.getfield 18, 3) := by decide +kernel
theorem d_O_sum_26 : decode prog_5_method_6_code 26 = .ok (.iconst 3, 1) := by decide +kernel
theorem d_O_sum_27 : decode prog_5_method_6_code 27 = .ok (.iload_n 1, 1) := by decide +kernel
theorem d_O_sum_28 : decode prog_5_method_6_code 28 = .ok (.iload_n 2, 1) := by decide +kernel
theorem d_O_sum_29 : decode prog_5_method_6_code 29 = .ok (.invokestatic 88, 3) := by decide +kernel
theorem d_O_sum_32 : decode prog_5_method_6_code 32 = .ok (.iload_n 1, 1) := by decide +kernel
theorem d_O_sum_33 : decode prog_5_method_6_code 33 = .ok (.iload_n 2, 1) := by decide +kernel
theorem d_O_sum_34 : decode prog_5_method_6_code 34 = .ok (.invokestatic 93, 3) := by decide +kernel
theorem d_O_sum_37 : decode prog_5_method_6_code 37 = .ok (.invokevirtual 81, 3) := by decide +kernel
theorem d_O_sum_40 : decode prog_5_method_6_code 40 = .ok (.ireturn, 1) := by decide +kernel
theorem d_O_nought_0 : decode prog_5_method_5_code 0 = .ok (.aload_n 0, 1) := by decide +kernel
theorem d_O_nought_1 : decode prog_5_method_5_code 1 = .ok (.getfield 18, 3) := by decide +kernel
theorem d_O_nought_4 : decode prog_5_method_5_code 4 = .ok (.iconst 2, 1) := by decide +kernel
theorem d_O_nought_5 : decode prog_5_method_5_code 5 = .ok (.iconst 0, 1) := by decide +kernel
theorem d_O_nought_6 : decode prog_5_method_5_code 6 = .ok (.iconst 0, 1) := by decide +kernel
theorem d_O_nought_7 : decode prog_5_method_5_code 7 = .ok (.invokevirtual 81, 3) := by decide +kernel
theorem d_O_nought_10 : decode prog_5_method_5_code 10 = .ok (.ireturn, 1) := by decide +kernel
theorem d_O_difference_0 : decode prog_5_method_7_code 0 = .ok (.aload_n 0, 1) := by decide +kernel
theorem d_O_difference_1 : decode prog_5_method_7_code 1 = .ok (.iconst 2, 1) := by decide +kernel
theorem d_O_difference_2 : decode prog_5_method_7_code 2 = .ok (.iload_n 2, 1) := by decide +kernel
theorem d_O_difference_3 : decode prog_5_method_7_code 3 = .ok (.invokevirtual 84, 3) := by decide +kernel
theorem d_O_difference_6 : decode prog_5_method_7_code 6 = .ok (.ifCond .eq 5, 3) := by decide +kernel
theorem d_O_difference_9 : decode prog_5_method_7_code 9 = .ok (.iload_n 1, 1) := by decide +kernel
theorem d_O_difference_10 : decode prog_5_method_7_code 10 = .ok (.ireturn, 1) := by decide +kernel
theorem d_O_difference_11 : decode prog_5_method_7_code 11 = .ok (.iload_n 1, 1) := by decide +kernel
theorem d_O_difference_12 : decode prog_5_method_7_code 12 = .ok (.iload_n 2, 1) := by decide +kernel
theorem d_O_difference_13 : decode prog_5_method_7_code 13 = .ok (.if_icmp .ne 8, 3) := by decide +kernel
theorem d_O_difference_16 : decode prog_5_method_7_code 16 = .ok (.aload_n 0, 1) := by decide +kernel
theorem d_O_difference_17 : decode prog_5_method_7_code 17 = .ok (.invokevirtual 96, 3) := by decide +kernel
theorem d_O_difference_20 : decode prog_5_method_7_code 20 = .ok (.ireturn, 1) := by decide +kernel
theorem d_O_difference_21 : decode prog_5_method_7_code 21 = .ok (.aload_n 0, 1) := by decide +kernel
theorem d_O_difference_22 : decode prog_5_method_7_code 22 = .ok (.getfield 18, 3) := by decide +kernel
theorem d_O_difference_25 : decode prog_5_method_7_code 25 = .ok (.iconst 4, 1) := by decide +kernel
theorem d_O_difference_26 : decode prog_5_method_7_code 26 = .ok (.iload_n 1, 1) := by decide +kernel
theorem d_O_difference_27 : decode prog_5_method_7_code 27 = .ok (.iload_n 2, 1) := by decide +kernel
theorem d_O_difference_28 : decode prog_5_method_7_code 28 = .ok (.invokevirtual 81, 3) := by decide +kernel
theorem d_O_difference_31 : decode prog_5_method_7_code 31 = .ok (.ireturn, 1) := by decide +kernel
theorem d_O_product_0 : decode prog_5_method_8_code 0 = .ok (.aload_n 0, 1) := by decide +kernel
theorem d_O_product_1 : decode prog_5_method_8_code 1 = .ok (.iconst 2, 1) := by decide +kernel
theorem d_O_product_2 : decode prog_5_method_8_code 2 = .ok (.iload_n 1, 1) := by decide +kernel
theorem d_O_product_3 : decode prog_5_method_8_code 3 = .ok (.invokevirtual 84, 3) := by decide +kernel
theorem d_O_product_6 : decode prog_5_method_8_code 6 = .ok (.ifCond .ne 12, 3) := by decide +kernel
theorem d_O_product_9 : decode prog_5_method_8_code 9 = .ok (.aload_n 0, 1) := by decide +kernel
theorem d_O_product_10 : decode prog_5_method_8_code 10 = .ok (.iconst 2, 1) := by decide +kernel
theorem d_O_product_11 : decode prog_5_method_8_code 11 = .ok (.iload_n 2, 1) := by decide +kernel
theorem d_O_product_12 : decode prog_5_method_8_code 12 = .ok (.invokevirtual 84, 3) := by decide +kernel
theorem d_O_product_15 : decode prog_5_method_8_code 15 = .ok (.ifCond .eq 8, 3) := by decide +kernel
theorem d_O_product_18 : decode prog_5_method_8_code 18 = .ok (.aload_n 0, 1) := by decide +kernel
theorem d_O_product_19 : decode prog_5_method_8_code 19 = .ok (.invokevirtual 96, 3) := by decide +kernel
theorem d_O_product_22 : decode prog_5_method_8_code 22 = .ok (.ireturn, 1) := by decide +kernel
theorem d_O_product_23 : decode prog_5_method_8_code 23 = .ok (.aload_n 0, 1) := by decide +kernel
theorem d_O_product_24 : decode prog_5_method_8_code 24 = .ok (.iconst 1, 1) := by decide +kernel
theorem d_O_product_25 : decode prog_5_method_8_code 25 = .ok (.iload_n 2, 1) := by decide +kernel
theorem d_O_product_26 : decode prog_5_method_8_code 26 = .ok (.invokevirtual 84, 3) := by decide +kernel
theorem d_O_product_29 : decode prog_5_method_8_code 29 = .ok (.ifCond .eq 5, 3) := by decide +kernel
theorem d_O_product_32 : decode prog_5_method_8_code 32 = .ok (.iload_n 1, 1) := by decide +kernel
theorem d_O_product_33 : decode prog_5_method_8_code 33 = .ok (.ireturn, 1) := by decide +kernel
theorem d_O_product_34 : decode prog_5_method_8_code 34 = .ok (.aload_n 0, 1) := by decide +kernel
theorem d_O_product_35 : decode prog_5_method_8_code 35 = .ok (.iconst 1, 1) := by decide +kernel
theorem d_O_product_36 : decode prog_5_method_8_code 36 = .ok (.iload_n 1, 1) := by decide +kernel
theorem d_O_product_37 : decode prog_5_method_8_code 37 = .ok (.invokevirtual 84, 3) := by decide +kernel
theorem d_O_product_40 : decode prog_5_method_8_code 40 = .ok (.ifCond .eq 5, 3) := by decide +kernel
theorem d_O_product_43 : decode prog_5_method_8_code 43 = .ok (.iload_n 2, 1) := by decide +kernel
theorem d_O_product_44 : decode prog_5_method_8_code 44 = .ok (.ireturn, 1) := by decide +kernel
theorem d_O_product_45 : decode prog_5_method_8_code 45 = .ok (.aload_n 0, 1) := by decide +kernel
theorem d_O_product_46 : decode prog_5_method_8_code 46 = .ok (.getfield 18, 3) := by decide +kernel
theorem d_O_product_49 : decode prog_5_method_8_code 49 = .ok (.iconst 5, 1) := by decide +kernel
theorem d_O_product_50 : decode prog_5_method_8_code 50 = .ok (.iload_n 1, 1) := by decide +kernel
theorem d_O_product_51 : decode prog_5_method_8_code 51 = .ok (.iload_n 2, 1) := by decide +kernel
theorem d_O_product_52 : decode prog_5_method_8_code 52 = .ok (.invokevirtual 81, 3) := by decide +kernel
theorem d_O_product_55 : decode prog_5_method_8_code 55 = .ok (.ireturn, 1) := by decide +kernel
theorem d_O_turned_0 : decode prog_5_method_9_code 0 = .ok (.aload_n 0, 1) := by decide +kernel
theorem d_O_turned_1 : decode prog_5_method_9_code 1 = .ok (.iconst 1, 1) := by decide +kernel
theorem d_O_turned_2 : decode prog_5_method_9_code 2 = .ok (.iload_n 1, 1) := by decide +kernel
theorem d_O_turned_3 : decode prog_5_method_9_code 3 = .ok (.invokevirtual 84, 3) := by decide +kernel
theorem d_O_turned_6 : decode prog_5_method_9_code 6 = .ok (.ifCond .ne 12, 3) := by decide +kernel
theorem d_O_turned_9 : decode prog_5_method_9_code 9 = .ok (.aload_n 0, 1) := by decide +kernel
theorem d_O_turned_10 : decode prog_5_method_9_code 10 = .ok (.iconst 2, 1) := by decide +kernel
theorem d_O_turned_11 : decode prog_5_method_9_code 11 = .ok (.iload_n 1, 1) := by decide +kernel
theorem d_O_turned_12 : decode prog_5_method_9_code 12 = .ok (.invokevirtual 84, 3) := by decide +kernel
theorem d_O_turned_15 : decode prog_5_method_9_code 15 = .ok (.ifCond .eq 5, 3) := by decide +kernel
theorem d_O_turned_18 : decode prog_5_method_9_code 18 = .ok (.iload_n 1, 1) := by decide +kernel
theorem d_O_turned_19 : decode prog_5_method_9_code 19 = .ok (.ireturn, 1) := by decide +kernel
theorem d_O_turned_20 : decode prog_5_method_9_code 20 = .ok (.aload_n 0, 1) := by decide +kernel
theorem d_O_turned_21 : decode prog_5_method_9_code 21 = .ok (.bipush 6, 2) := by decide +kernel
theorem d_O_turned_23 : decode prog_5_method_9_code 23 = .ok (.iload_n 1, 1) := by decide +kernel
theorem d_O_turned_24 : decode prog_5_method_9_code 24 = .ok (.invokevirtual 84, 3) := by decide +kernel
theorem d_O_turned_27 : decode prog_5_method_9_code 27 = .ok (.ifCond .eq 12, 3) := by decide +kernel
theorem d_O_turned_30 : decode prog_5_method_9_code 30 = .ok (.aload_n 0, 1) := by decide +kernel
theorem d_O_turned_31 : decode prog_5_method_9_code 31 = .ok (.getfield 18, 3) := by decide +kernel
theorem d_O_turned_34 : decode prog_5_method_9_code 34 = .ok (.iload_n 1, 1) := by decide +kernel
theorem d_O_turned_35 : decode prog_5_method_9_code 35 = .ok (.invokevirtual 44, 3) := by decide +kernel
theorem d_O_turned_38 : decode prog_5_method_9_code 38 = .ok (.ireturn, 1) := by decide +kernel
theorem d_O_turned_39 : decode prog_5_method_9_code 39 = .ok (.aload_n 0, 1) := by decide +kernel
theorem d_O_turned_40 : decode prog_5_method_9_code 40 = .ok (.getfield 18, 3) := by decide +kernel
theorem d_O_turned_43 : decode prog_5_method_9_code 43 = .ok (.bipush 6, 2) := by decide +kernel
theorem d_O_turned_45 : decode prog_5_method_9_code 45 = .ok (.iload_n 1, 1) := by decide +kernel
theorem d_O_turned_46 : decode prog_5_method_9_code 46 = .ok (.iconst 0, 1) := by decide +kernel
theorem d_O_turned_47 : decode prog_5_method_9_code 47 = .ok (.invokevirtual 81, 3) := by decide +kernel
theorem d_O_turned_50 : decode prog_5_method_9_code 50 = .ok (.ireturn, 1) := by decide +kernel
theorem d_O_scaled_0 : decode prog_5_method_10_code 0 = .ok (.aload_n 0, 1) := by decide +kernel
theorem d_O_scaled_1 : decode prog_5_method_10_code 1 = .ok (.bipush 7, 2) := by decide +kernel
theorem d_O_scaled_3 : decode prog_5_method_10_code 3 = .ok (.iload_n 1, 1) := by decide +kernel
theorem d_O_scaled_4 : decode prog_5_method_10_code 4 = .ok (.invokevirtual 84, 3) := by decide +kernel
theorem d_O_scaled_7 : decode prog_5_method_10_code 7 = .ok (.istore_n 3, 1) := by decide +kernel
theorem d_O_scaled_8 : decode prog_5_method_10_code 8 = .ok (.iload_n 3, 1) := by decide +kernel
theorem d_O_scaled_9 : decode prog_5_method_10_code 9 = .ok (.ifCond .eq 14, 3) := by decide +kernel
theorem d_O_scaled_12 : decode prog_5_method_10_code 12 = .ok (.aload_n 0, 1) := by decide +kernel
theorem d_O_scaled_13 : decode prog_5_method_10_code 13 = .ok (.getfield 18, 3) := by decide +kernel
theorem d_O_scaled_16 : decode prog_5_method_10_code 16 = .ok (.iload_n 1, 1) := by decide +kernel
theorem d_O_scaled_17 : decode prog_5_method_10_code 17 = .ok (.invokevirtual 44, 3) := by decide +kernel
theorem d_O_scaled_20 : decode prog_5_method_10_code 20 = .ok (.goto 4, 3) := by decide +kernel
theorem d_O_scaled_23 : decode prog_5_method_10_code 23 = .ok (.iload_n 1, 1) := by decide +kernel
theorem d_O_scaled_24 : decode prog_5_method_10_code 24 = .ok (.istore 4, 2) := by decide +kernel
theorem d_O_scaled_26 : decode prog_5_method_10_code 26 = .ok (.iload_n 3, 1) := by decide +kernel
theorem d_O_scaled_27 : decode prog_5_method_10_code 27 = .ok (.ifCond .eq 21, 3) := by decide +kernel
theorem d_O_scaled_30 : decode prog_5_method_10_code 30 = .ok (.aload_n 0, 1) := by decide +kernel
theorem d_O_scaled_31 : decode prog_5_method_10_code 31 = .ok (.getfield 18, 3) := by decide +kernel
theorem d_O_scaled_34 : decode prog_5_method_10_code 34 = .ok (.iload_n 1, 1) := by decide +kernel
theorem d_O_scaled_35 : decode prog_5_method_10_code 35 = .ok (.invokevirtual 47, 3) := by decide +kernel
theorem d_O_scaled_38 : decode prog_5_method_10_code 38 = .ok (.iload_n 2, 1) := by decide +kernel
theorem d_O_scaled_39 : decode prog_5_method_10_code 39 = .ok (.imul, 1) := by decide +kernel
theorem d_O_scaled_40 : decode prog_5_method_10_code 40 = .ok (.aload_n 0, 1) := by decide +kernel
theorem d_O_scaled_41 : decode prog_5_method_10_code 41 = .ok (.getfield 9, 3) := by decide +kernel
theorem d_O_scaled_44 : decode prog_5_method_10_code 44 = .ok (.irem, 1) := by decide +kernel
theorem d_O_scaled_45 : decode prog_5_method_10_code 45 = .ok (.goto 4, 3) := by decide +kernel
theorem d_O_scaled_48 : decode prog_5_method_10_code 48 = .ok (.iload_n 2, 1) := by decide +kernel
theorem d_O_scaled_49 : decode prog_5_method_10_code 49 = .ok (.istore 5, 2) := by decide +kernel
theorem d_O_scaled_51 : decode prog_5_method_10_code 51 = .ok (.iload 5, 2) := by decide +kernel
theorem d_O_scaled_53 : decode prog_5_method_10_code 53 = .ok (.ifCond .eq 13, 3) := by decide +kernel
theorem d_O_scaled_56 : decode prog_5_method_10_code 56 = .ok (.aload_n 0, 1) := by decide +kernel
theorem d_O_scaled_57 : decode prog_5_method_10_code 57 = .ok (.iconst 2, 1) := by decide +kernel
theorem d_O_scaled_58 : decode prog_5_method_10_code 58 = .ok (.iload 4, 2) := by decide +kernel
theorem d_O_scaled_60 : decode prog_5_method_10_code 60 = .ok (.invokevirtual 84, 3) := by decide +kernel
theorem d_O_scaled_63 : decode prog_5_method_10_code 63 = .ok (.ifCond .eq 8, 3) := by decide +kernel
theorem d_O_scaled_66 : decode prog_5_method_10_code 66 = .ok (.aload_n 0, 1) := by decide +kernel
theorem d_O_scaled_67 : decode prog_5_method_10_code 67 = .ok (.invokevirtual 96, 3) := by decide +kernel
theorem d_O_scaled_70 : decode prog_5_method_10_code 70 = .ok (.ireturn, 1) := by decide +kernel
theorem d_O_scaled_71 : decode prog_5_method_10_code 71 = .ok (.iload 5, 2) := by decide +kernel
theorem d_O_scaled_73 : decode prog_5_method_10_code 73 = .ok (.iconst 1, 1) := by decide +kernel
theorem d_O_scaled_74 : decode prog_5_method_10_code 74 = .ok (.if_icmp .ne 6, 3) := by decide +kernel
theorem d_O_scaled_77 : decode prog_5_method_10_code 77 = .ok (.iload 4, 2) := by decide +kernel
theorem d_O_scaled_79 : decode prog_5_method_10_code 79 = .ok (.ireturn, 1) := by decide +kernel
theorem d_O_scaled_80 : decode prog_5_method_10_code 80 = .ok (.aload_n 0, 1) := by decide +kernel
theorem d_O_scaled_81 : decode prog_5_method_10_code 81 = .ok (.getfield 18, 3) := by decide +kernel
theorem d_O_scaled_84 : decode prog_5_method_10_code 84 = .ok (.bipush 7, 2) := by decide +kernel
theorem d_O_scaled_86 : decode prog_5_method_10_code 86 = .ok (.iload 4, 2) := by decide +kernel
theorem d_O_scaled_88 : decode prog_5_method_10_code 88 = .ok (.iload 5, 2) := by decide +kernel
theorem d_O_scaled_90 : decode prog_5_method_10_code 90 = .ok (.invokevirtual 81, 3) := by decide +kernel
theorem d_O_scaled_93 : decode prog_5_method_10_code 93 = .ok (.ireturn, 1) := by decide +kernel
theorem d_O_value_0 : decode prog_5_method_3_code 0 = .ok (.iload_n 1, 1) := by decide +kernel
theorem d_O_value_1 : decode prog_5_method_3_code 1 = .ok (.tableswitch 114 3 7 #[35, 52, 69, 86, 97], 35) := by decide +kernel
theorem d_O_value_36 : decode prog_5_method_3_code 36 = .ok (.aload_n 0, 1) := by decide +kernel
theorem d_O_value_37 : decode prog_5_method_3_code 37 = .ok (.aload_n 0, 1) := by decide +kernel
theorem d_O_value_38 : decode prog_5_method_3_code 38 = .ok (.getfield 22, 3) := by decide +kernel
theorem d_O_value_41 : decode prog_5_method_3_code 41 = .ok (.iload_n 2, 1) := by decide +kernel
theorem d_O_value_42 : decode prog_5_method_3_code 42 = .ok (.iaload, 1) := by decide +kernel
theorem d_O_value_43 : decode prog_5_method_3_code 43 = .ok (.aload_n 0, 1) := by decide +kernel
theorem d_O_value_44 : decode prog_5_method_3_code 44 = .ok (.getfield 22, 3) := by decide +kernel
theorem d_O_value_47 : decode prog_5_method_3_code 47 = .ok (.iload_n 3, 1) := by decide +kernel
theorem d_O_value_48 : decode prog_5_method_3_code 48 = .ok (.iaload, 1) := by decide +kernel
theorem d_O_value_49 : decode prog_5_method_3_code 49 = .ok (.invokevirtual 65, 3) := by decide +kernel
theorem d_O_value_52 : decode prog_5_method_3_code 52 = .ok (.ireturn, 1) := by decide +kernel
theorem d_O_value_53 : decode prog_5_method_3_code 53 = .ok (.aload_n 0, 1) := by decide +kernel
theorem d_O_value_54 : decode prog_5_method_3_code 54 = .ok (.aload_n 0, 1) := by decide +kernel
theorem d_O_value_55 : decode prog_5_method_3_code 55 = .ok (.getfield 22, 3) := by decide +kernel
theorem d_O_value_58 : decode prog_5_method_3_code 58 = .ok (.iload_n 2, 1) := by decide +kernel
theorem d_O_value_59 : decode prog_5_method_3_code 59 = .ok (.iaload, 1) := by decide +kernel
theorem d_O_value_60 : decode prog_5_method_3_code 60 = .ok (.aload_n 0, 1) := by decide +kernel
theorem d_O_value_61 : decode prog_5_method_3_code 61 = .ok (.getfield 22, 3) := by decide +kernel
theorem d_O_value_64 : decode prog_5_method_3_code 64 = .ok (.iload_n 3, 1) := by decide +kernel
theorem d_O_value_65 : decode prog_5_method_3_code 65 = .ok (.iaload, 1) := by decide +kernel
theorem d_O_value_66 : decode prog_5_method_3_code 66 = .ok (.invokevirtual 69, 3) := by decide +kernel
theorem d_O_value_69 : decode prog_5_method_3_code 69 = .ok (.ireturn, 1) := by decide +kernel
theorem d_O_value_70 : decode prog_5_method_3_code 70 = .ok (.aload_n 0, 1) := by decide +kernel
theorem d_O_value_71 : decode prog_5_method_3_code 71 = .ok (.aload_n 0, 1) := by decide +kernel
theorem d_O_value_72 : decode prog_5_method_3_code 72 = .ok (.getfield 22, 3) := by decide +kernel
theorem d_O_value_75 : decode prog_5_method_3_code 75 = .ok (.iload_n 2, 1) := by decide +kernel
theorem d_O_value_76 : decode prog_5_method_3_code 76 = .ok (.iaload, 1) := by decide +kernel
theorem d_O_value_77 : decode prog_5_method_3_code 77 = .ok (.aload_n 0, 1) := by decide +kernel
theorem d_O_value_78 : decode prog_5_method_3_code 78 = .ok (.getfield 22, 3) := by decide +kernel
theorem d_O_value_81 : decode prog_5_method_3_code 81 = .ok (.iload_n 3, 1) := by decide +kernel
theorem d_O_value_82 : decode prog_5_method_3_code 82 = .ok (.iaload, 1) := by decide +kernel
theorem d_O_value_83 : decode prog_5_method_3_code 83 = .ok (.invokevirtual 72, 3) := by decide +kernel
theorem d_O_value_86 : decode prog_5_method_3_code 86 = .ok (.ireturn, 1) := by decide +kernel
theorem d_O_value_87 : decode prog_5_method_3_code 87 = .ok (.aload_n 0, 1) := by decide +kernel
theorem d_O_value_88 : decode prog_5_method_3_code 88 = .ok (.aload_n 0, 1) := by decide +kernel
theorem d_O_value_89 : decode prog_5_method_3_code 89 = .ok (.getfield 22, 3) := by decide +kernel
theorem d_O_value_92 : decode prog_5_method_3_code 92 = .ok (.iload_n 2, 1) := by decide +kernel
theorem d_O_value_93 : decode prog_5_method_3_code 93 = .ok (.iaload, 1) := by decide +kernel
theorem d_O_value_94 : decode prog_5_method_3_code 94 = .ok (.invokevirtual 75, 3) := by decide +kernel
theorem d_O_value_97 : decode prog_5_method_3_code 97 = .ok (.ireturn, 1) := by decide +kernel
theorem d_O_value_98 : decode prog_5_method_3_code 98 = .ok (.aload_n 0, 1) := by decide +kernel
theorem d_O_value_99 : decode prog_5_method_3_code 99 = .ok (.aload_n 0, 1) := by decide +kernel
theorem d_O_value_100 : decode prog_5_method_3_code 100 = .ok (.getfield 22, 3) := by decide +kernel
theorem d_O_value_103 : decode prog_5_method_3_code 103 = .ok (.iload_n 2, 1) := by decide +kernel
theorem d_O_value_104 : decode prog_5_method_3_code 104 = .ok (.iaload, 1) := by decide +kernel
theorem d_O_value_105 : decode prog_5_method_3_code 105 = .ok (.iload_n 3, 1) := by decide +kernel
theorem d_O_value_106 : decode prog_5_method_3_code 106 = .ok (.aload_n 0, 1) := by decide +kernel
theorem d_O_value_107 : decode prog_5_method_3_code 107 = .ok (.getfield 9, 3) := by decide +kernel
theorem d_O_value_110 : decode prog_5_method_3_code 110 = .ok (.irem, 1) := by decide +kernel
theorem d_O_value_111 : decode prog_5_method_3_code 111 = .ok (.invokevirtual 78, 3) := by decide +kernel
theorem d_O_value_114 : decode prog_5_method_3_code 114 = .ok (.ireturn, 1) := by decide +kernel
theorem d_O_value_115 : decode prog_5_method_3_code 115 = .ok (.aload_n 0, 1) := by decide +kernel
theorem d_O_value_116 : decode prog_5_method_3_code 116 = .ok (.getfield 18, 3) := by decide +kernel
theorem d_O_value_119 : decode prog_5_method_3_code 119 = .ok (.iload_n 1, 1) := by decide +kernel
theorem d_O_value_120 : decode prog_5_method_3_code 120 = .ok (.iload_n 2, 1) := by decide +kernel
theorem d_O_value_121 : decode prog_5_method_3_code 121 = .ok (.iload_n 3, 1) := by decide +kernel
theorem d_O_value_122 : decode prog_5_method_3_code 122 = .ok (.invokevirtual 81, 3) := by decide +kernel
theorem d_O_value_125 : decode prog_5_method_3_code 125 = .ok (.ireturn, 1) := by decide +kernel
theorem d_O_markNeeded_0 : decode prog_5_method_11_code 0 = .ok (.iconst 0, 1) := by decide +kernel
theorem d_O_markNeeded_1 : decode prog_5_method_11_code 1 = .ok (.istore_n 2, 1) := by decide +kernel
theorem d_O_markNeeded_2 : decode prog_5_method_11_code 2 = .ok (.iload_n 2, 1) := by decide +kernel
theorem d_O_markNeeded_3 : decode prog_5_method_11_code 3 = .ok (.aload_n 0, 1) := by decide +kernel
theorem d_O_markNeeded_4 : decode prog_5_method_11_code 4 = .ok (.getfield 18, 3) := by decide +kernel
theorem d_O_markNeeded_7 : decode prog_5_method_11_code 7 = .ok (.invokevirtual 36, 3) := by decide +kernel
theorem d_O_markNeeded_10 : decode prog_5_method_11_code 10 = .ok (.if_icmp .ge 25, 3) := by decide +kernel
theorem d_O_markNeeded_13 : decode prog_5_method_11_code 13 = .ok (.aload_n 0, 1) := by decide +kernel
theorem d_O_markNeeded_14 : decode prog_5_method_11_code 14 = .ok (.getfield 26, 3) := by decide +kernel
theorem d_O_markNeeded_17 : decode prog_5_method_11_code 17 = .ok (.iload_n 2, 1) := by decide +kernel
theorem d_O_markNeeded_18 : decode prog_5_method_11_code 18 = .ok (.iload_n 2, 1) := by decide +kernel
theorem d_O_markNeeded_19 : decode prog_5_method_11_code 19 = .ok (.iload_n 1, 1) := by decide +kernel
theorem d_O_markNeeded_20 : decode prog_5_method_11_code 20 = .ok (.if_icmp .ne 7, 3) := by decide +kernel
theorem d_O_markNeeded_23 : decode prog_5_method_11_code 23 = .ok (.iconst 1, 1) := by decide +kernel
theorem d_O_markNeeded_24 : decode prog_5_method_11_code 24 = .ok (.goto 4, 3) := by decide +kernel
theorem d_O_markNeeded_27 : decode prog_5_method_11_code 27 = .ok (.iconst 0, 1) := by decide +kernel
theorem d_O_markNeeded_28 : decode prog_5_method_11_code 28 = .ok (.bastore, 1) := by decide +kernel
theorem d_O_markNeeded_29 : decode prog_5_method_11_code 29 = .ok (.iinc 2 1, 3) := by decide +kernel
theorem d_O_markNeeded_32 : decode prog_5_method_11_code 32 = .ok (.goto (-30), 3) := by decide +kernel
theorem d_O_markNeeded_35 : decode prog_5_method_11_code 35 = .ok (.iload_n 1, 1) := by decide +kernel
theorem d_O_markNeeded_36 : decode prog_5_method_11_code 36 = .ok (.istore_n 2, 1) := by decide +kernel
theorem d_O_markNeeded_37 : decode prog_5_method_11_code 37 = .ok (.iload_n 2, 1) := by decide +kernel
theorem d_O_markNeeded_38 : decode prog_5_method_11_code 38 = .ok (.ifCond .lt 71, 3) := by decide +kernel
theorem d_O_markNeeded_41 : decode prog_5_method_11_code 41 = .ok (.aload_n 0, 1) := by decide +kernel
theorem d_O_markNeeded_42 : decode prog_5_method_11_code 42 = .ok (.getfield 26, 3) := by decide +kernel
theorem d_O_markNeeded_45 : decode prog_5_method_11_code 45 = .ok (.iload_n 2, 1) := by decide +kernel
theorem d_O_markNeeded_46 : decode prog_5_method_11_code 46 = .ok (.baload, 1) := by decide +kernel
theorem d_O_markNeeded_47 : decode prog_5_method_11_code 47 = .ok (.ifCond .ne 6, 3) := by decide +kernel
theorem d_O_markNeeded_50 : decode prog_5_method_11_code 50 = .ok (.goto 53, 3) := by decide +kernel
theorem d_O_markNeeded_53 : decode prog_5_method_11_code 53 = .ok (.aload_n 0, 1) := by decide +kernel
theorem d_O_markNeeded_54 : decode prog_5_method_11_code 54 = .ok (.getfield 18, 3) := by decide +kernel
theorem d_O_markNeeded_57 : decode prog_5_method_11_code 57 = .ok (.iload_n 2, 1) := by decide +kernel
theorem d_O_markNeeded_58 : decode prog_5_method_11_code 58 = .ok (.invokevirtual 40, 3) := by decide +kernel
theorem d_O_markNeeded_61 : decode prog_5_method_11_code 61 = .ok (.invokestatic 99, 3) := by decide +kernel
theorem d_O_markNeeded_64 : decode prog_5_method_11_code 64 = .ok (.istore_n 3, 1) := by decide +kernel
theorem d_O_markNeeded_65 : decode prog_5_method_11_code 65 = .ok (.iload_n 3, 1) := by decide +kernel
theorem d_O_markNeeded_66 : decode prog_5_method_11_code 66 = .ok (.iconst 1, 1) := by decide +kernel
theorem d_O_markNeeded_67 : decode prog_5_method_11_code 67 = .ok (.if_icmp .lt 17, 3) := by decide +kernel
theorem d_O_markNeeded_70 : decode prog_5_method_11_code 70 = .ok (.aload_n 0, 1) := by decide +kernel
theorem d_O_markNeeded_71 : decode prog_5_method_11_code 71 = .ok (.getfield 26, 3) := by decide +kernel
theorem d_O_markNeeded_74 : decode prog_5_method_11_code 74 = .ok (.aload_n 0, 1) := by decide +kernel
theorem d_O_markNeeded_75 : decode prog_5_method_11_code 75 = .ok (.getfield 18, 3) := by decide +kernel
theorem d_O_markNeeded_78 : decode prog_5_method_11_code 78 = .ok (.iload_n 2, 1) := by decide +kernel
theorem d_O_markNeeded_79 : decode prog_5_method_11_code 79 = .ok (.invokevirtual 44, 3) := by decide +kernel
theorem d_O_markNeeded_82 : decode prog_5_method_11_code 82 = .ok (.iconst 1, 1) := by decide +kernel
theorem d_O_markNeeded_83 : decode prog_5_method_11_code 83 = .ok (.bastore, 1) := by decide +kernel
theorem d_O_markNeeded_84 : decode prog_5_method_11_code 84 = .ok (.iload_n 3, 1) := by decide +kernel
theorem d_O_markNeeded_85 : decode prog_5_method_11_code 85 = .ok (.iconst 2, 1) := by decide +kernel
theorem d_O_markNeeded_86 : decode prog_5_method_11_code 86 = .ok (.if_icmp .ne 17, 3) := by decide +kernel
theorem d_O_markNeeded_89 : decode prog_5_method_11_code 89 = .ok (.aload_n 0, 1) := by decide +kernel
theorem d_O_markNeeded_90 : decode prog_5_method_11_code 90 = .ok (.getfield 26, 3) := by decide +kernel
theorem d_O_markNeeded_93 : decode prog_5_method_11_code 93 = .ok (.aload_n 0, 1) := by decide +kernel
theorem d_O_markNeeded_94 : decode prog_5_method_11_code 94 = .ok (.getfield 18, 3) := by decide +kernel
theorem d_O_markNeeded_97 : decode prog_5_method_11_code 97 = .ok (.iload_n 2, 1) := by decide +kernel
theorem d_O_markNeeded_98 : decode prog_5_method_11_code 98 = .ok (.invokevirtual 47, 3) := by decide +kernel
theorem d_O_markNeeded_101 : decode prog_5_method_11_code 101 = .ok (.iconst 1, 1) := by decide +kernel
theorem d_O_markNeeded_102 : decode prog_5_method_11_code 102 = .ok (.bastore, 1) := by decide +kernel
theorem d_O_markNeeded_103 : decode prog_5_method_11_code 103 = .ok (.iinc 2 (-1), 3) := by decide +kernel
theorem d_O_markNeeded_106 : decode prog_5_method_11_code 106 = .ok (.goto (-69), 3) := by decide +kernel
theorem d_O_markNeeded_109 : decode prog_5_method_11_code 109 = .ok (.return_, 1) := by decide +kernel
theorem d_O_rewritten_0 : decode prog_5_method_13_code 0 = .ok (.aload_n 0, 1) := by decide +kernel
theorem d_O_rewritten_1 : decode prog_5_method_13_code 1 = .ok (.getfield 18, 3) := by decide +kernel
theorem d_O_rewritten_4 : decode prog_5_method_13_code 4 = .ok (.iload_n 1, 1) := by decide +kernel
theorem d_O_rewritten_5 : decode prog_5_method_13_code 5 = .ok (.invokevirtual 40, 3) := by decide +kernel
theorem d_O_rewritten_8 : decode prog_5_method_13_code 8 = .ok (.istore_n 3, 1) := by decide +kernel
theorem d_O_rewritten_9 : decode prog_5_method_13_code 9 = .ok (.iload_n 3, 1) := by decide +kernel
theorem d_O_rewritten_10 : decode prog_5_method_13_code 10 = .ok (.invokestatic 99, 3) := by decide +kernel
theorem d_O_rewritten_13 : decode prog_5_method_13_code 13 = .ok (.istore 4, 2) := by decide +kernel
theorem d_O_rewritten_15 : decode prog_5_method_13_code 15 = .ok (.iload 4, 2) := by decide +kernel
theorem d_O_rewritten_17 : decode prog_5_method_13_code 17 = .ok (.iconst 1, 1) := by decide +kernel
theorem d_O_rewritten_18 : decode prog_5_method_13_code 18 = .ok (.if_icmp .lt 19, 3) := by decide +kernel
theorem d_O_rewritten_21 : decode prog_5_method_13_code 21 = .ok (.aload_n 0, 1) := by decide +kernel
theorem d_O_rewritten_22 : decode prog_5_method_13_code 22 = .ok (.getfield 30, 3) := by decide +kernel
theorem d_O_rewritten_25 : decode prog_5_method_13_code 25 = .ok (.aload_n 0, 1) := by decide +kernel
theorem d_O_rewritten_26 : decode prog_5_method_13_code 26 = .ok (.getfield 18, 3) := by decide +kernel
theorem d_O_rewritten_29 : decode prog_5_method_13_code 29 = .ok (.iload_n 1, 1) := by decide +kernel
theorem d_O_rewritten_30 : decode prog_5_method_13_code 30 = .ok (.invokevirtual 44, 3) := by decide +kernel
theorem d_O_rewritten_33 : decode prog_5_method_13_code 33 = .ok (.iaload, 1) := by decide +kernel
theorem d_O_rewritten_34 : decode prog_5_method_13_code 34 = .ok (.goto 4, 3) := by decide +kernel
theorem d_O_rewritten_37 : decode prog_5_method_13_code 37 = .ok (.iconst 0, 1) := by decide +kernel
theorem d_O_rewritten_38 : decode prog_5_method_13_code 38 = .ok (.istore 5, 2) := by decide +kernel
theorem d_O_rewritten_40 : decode prog_5_method_13_code 40 = .ok (.iload 4, 2) := by decide +kernel
theorem d_O_rewritten_42 : decode prog_5_method_13_code 42 = .ok (.iconst 2, 1) := by decide +kernel
theorem d_O_rewritten_43 : decode prog_5_method_13_code 43 = .ok (.if_icmp .ne 19, 3) := by decide +kernel
theorem d_O_rewritten_46 : decode prog_5_method_13_code 46 = .ok (.aload_n 0, 1) := by decide +kernel
theorem d_O_rewritten_47 : decode prog_5_method_13_code 47 = .ok (.getfield 30, 3) := by decide +kernel
theorem d_O_rewritten_50 : decode prog_5_method_13_code 50 = .ok (.aload_n 0, 1) := by decide +kernel
theorem d_O_rewritten_51 : decode prog_5_method_13_code 51 = .ok (.getfield 18, 3) := by decide +kernel
theorem d_O_rewritten_54 : decode prog_5_method_13_code 54 = .ok (.iload_n 1, 1) := by decide +kernel
theorem d_O_rewritten_55 : decode prog_5_method_13_code 55 = .ok (.invokevirtual 47, 3) := by decide +kernel
theorem d_O_rewritten_58 : decode prog_5_method_13_code 58 = .ok (.iaload, 1) := by decide +kernel
theorem d_O_rewritten_59 : decode prog_5_method_13_code 59 = .ok (.goto 11, 3) := by decide +kernel
theorem d_O_rewritten_62 : decode prog_5_method_13_code 62 = .ok (.aload_n 0, 1) := by decide +kernel
theorem d_O_rewritten_63 : decode prog_5_method_13_code 63 = .ok (.getfield 18, 3) := by decide +kernel
theorem d_O_rewritten_66 : decode prog_5_method_13_code 66 = .ok (.iload_n 1, 1) := by decide +kernel
theorem d_O_rewritten_67 : decode prog_5_method_13_code 67 = .ok (.invokevirtual 47, 3) := by decide +kernel
theorem d_O_rewritten_70 : decode prog_5_method_13_code 70 = .ok (.istore 6, 2) := by decide +kernel
theorem d_O_rewritten_72 : decode prog_5_method_13_code 72 = .ok (.aload_n 2, 1) := by decide +kernel
theorem d_O_rewritten_73 : decode prog_5_method_13_code 73 = .ok (.iload_n 3, 1) := by decide +kernel
theorem d_O_rewritten_74 : decode prog_5_method_13_code 74 = .ok (.iload 5, 2) := by decide +kernel
theorem d_O_rewritten_76 : decode prog_5_method_13_code 76 = .ok (.iload 6, 2) := by decide +kernel
theorem d_O_rewritten_78 : decode prog_5_method_13_code 78 = .ok (.invokevirtual 106, 3) := by decide +kernel
theorem d_O_rewritten_81 : decode prog_5_method_13_code 81 = .ok (.ireturn, 1) := by decide +kernel
theorem d_O_rewrite_0 : decode prog_5_method_12_code 0 = .ok (.aload_n 1, 1) := by decide +kernel
theorem d_O_rewrite_1 : decode prog_5_method_12_code 1 = .ok (.invokevirtual 33, 3) := by decide +kernel
theorem d_O_rewrite_4 : decode prog_5_method_12_code 4 = .ok (.iconst 0, 1) := by decide +kernel
theorem d_O_rewrite_5 : decode prog_5_method_12_code 5 = .ok (.istore_n 2, 1) := by decide +kernel
theorem d_O_rewrite_6 : decode prog_5_method_12_code 6 = .ok (.iload_n 2, 1) := by decide +kernel
theorem d_O_rewrite_7 : decode prog_5_method_12_code 7 = .ok (.aload_n 0, 1) := by decide +kernel
theorem d_O_rewrite_8 : decode prog_5_method_12_code 8 = .ok (.getfield 18, 3) := by decide +kernel
theorem d_O_rewrite_11 : decode prog_5_method_12_code 11 = .ok (.invokevirtual 36, 3) := by decide +kernel
theorem d_O_rewrite_14 : decode prog_5_method_12_code 14 = .ok (.if_icmp .ge 30, 3) := by decide +kernel
theorem d_O_rewrite_17 : decode prog_5_method_12_code 17 = .ok (.aload_n 0, 1) := by decide +kernel
theorem d_O_rewrite_18 : decode prog_5_method_12_code 18 = .ok (.getfield 26, 3) := by decide +kernel
theorem d_O_rewrite_21 : decode prog_5_method_12_code 21 = .ok (.iload_n 2, 1) := by decide +kernel
theorem d_O_rewrite_22 : decode prog_5_method_12_code 22 = .ok (.baload, 1) := by decide +kernel
theorem d_O_rewrite_23 : decode prog_5_method_12_code 23 = .ok (.ifCond .eq 15, 3) := by decide +kernel
theorem d_O_rewrite_26 : decode prog_5_method_12_code 26 = .ok (.aload_n 0, 1) := by decide +kernel
theorem d_O_rewrite_27 : decode prog_5_method_12_code 27 = .ok (.getfield 30, 3) := by decide +kernel
theorem d_O_rewrite_30 : decode prog_5_method_12_code 30 = .ok (.iload_n 2, 1) := by decide +kernel
theorem d_O_rewrite_31 : decode prog_5_method_12_code 31 = .ok (.aload_n 0, 1) := by decide +kernel
theorem d_O_rewrite_32 : decode prog_5_method_12_code 32 = .ok (.iload_n 2, 1) := by decide +kernel
theorem d_O_rewrite_33 : decode prog_5_method_12_code 33 = .ok (.aload_n 1, 1) := by decide +kernel
theorem d_O_rewrite_34 : decode prog_5_method_12_code 34 = .ok (.invokevirtual 102, 3) := by decide +kernel
theorem d_O_rewrite_37 : decode prog_5_method_12_code 37 = .ok (.iastore, 1) := by decide +kernel
theorem d_O_rewrite_38 : decode prog_5_method_12_code 38 = .ok (.iinc 2 1, 3) := by decide +kernel
theorem d_O_rewrite_41 : decode prog_5_method_12_code 41 = .ok (.goto (-35), 3) := by decide +kernel
theorem d_O_rewrite_44 : decode prog_5_method_12_code 44 = .ok (.return_, 1) := by decide +kernel
theorem d_O_improve_0 : decode prog_5_method_2_code 0 = .ok (.aload_n 0, 1) := by decide +kernel
theorem d_O_improve_1 : decode prog_5_method_2_code 1 = .ok (.getfield 18, 3) := by decide +kernel
theorem d_O_improve_4 : decode prog_5_method_2_code 4 = .ok (.invokevirtual 33, 3) := by decide +kernel
theorem d_O_improve_7 : decode prog_5_method_2_code 7 = .ok (.iconst 0, 1) := by decide +kernel
theorem d_O_improve_8 : decode prog_5_method_2_code 8 = .ok (.istore_n 2, 1) := by decide +kernel
theorem d_O_improve_9 : decode prog_5_method_2_code 9 = .ok (.iload_n 2, 1) := by decide +kernel
theorem d_O_improve_10 : decode prog_5_method_2_code 10 = .ok (.aload_n 1, 1) := by decide +kernel
theorem d_O_improve_11 : decode prog_5_method_2_code 11 = .ok (.invokevirtual 36, 3) := by decide +kernel
theorem d_O_improve_14 : decode prog_5_method_2_code 14 = .ok (.if_icmp .ge 34, 3) := by decide +kernel
theorem d_O_improve_17 : decode prog_5_method_2_code 17 = .ok (.aload_n 0, 1) := by decide +kernel
theorem d_O_improve_18 : decode prog_5_method_2_code 18 = .ok (.getfield 22, 3) := by decide +kernel
theorem d_O_improve_21 : decode prog_5_method_2_code 21 = .ok (.iload_n 2, 1) := by decide +kernel
theorem d_O_improve_22 : decode prog_5_method_2_code 22 = .ok (.aload_n 0, 1) := by decide +kernel
theorem d_O_improve_23 : decode prog_5_method_2_code 23 = .ok (.aload_n 1, 1) := by decide +kernel
theorem d_O_improve_24 : decode prog_5_method_2_code 24 = .ok (.iload_n 2, 1) := by decide +kernel
theorem d_O_improve_25 : decode prog_5_method_2_code 25 = .ok (.invokevirtual 40, 3) := by decide +kernel
theorem d_O_improve_28 : decode prog_5_method_2_code 28 = .ok (.aload_n 1, 1) := by decide +kernel
theorem d_O_improve_29 : decode prog_5_method_2_code 29 = .ok (.iload_n 2, 1) := by decide +kernel
theorem d_O_improve_30 : decode prog_5_method_2_code 30 = .ok (.invokevirtual 44, 3) := by decide +kernel
theorem d_O_improve_33 : decode prog_5_method_2_code 33 = .ok (.aload_n 1, 1) := by decide +kernel
theorem d_O_improve_34 : decode prog_5_method_2_code 34 = .ok (.iload_n 2, 1) := by decide +kernel
theorem d_O_improve_35 : decode prog_5_method_2_code 35 = .ok (.invokevirtual 47, 3) := by decide +kernel
theorem d_O_improve_38 : decode prog_5_method_2_code 38 = .ok (.invokevirtual 50, 3) := by decide +kernel
theorem d_O_improve_41 : decode prog_5_method_2_code 41 = .ok (.iastore, 1) := by decide +kernel
theorem d_O_improve_42 : decode prog_5_method_2_code 42 = .ok (.iinc 2 1, 3) := by decide +kernel
theorem d_O_improve_45 : decode prog_5_method_2_code 45 = .ok (.goto (-36), 3) := by decide +kernel
theorem d_O_improve_48 : decode prog_5_method_2_code 48 = .ok (.aload_n 0, 1) := by decide +kernel
theorem d_O_improve_49 : decode prog_5_method_2_code 49 = .ok (.aload_n 0, 1) := by decide +kernel
theorem d_O_improve_50 : decode prog_5_method_2_code 50 = .ok (.getfield 22, 3) := by decide +kernel
theorem d_O_improve_53 : decode prog_5_method_2_code 53 = .ok (.aload_n 1, 1) := by decide +kernel
theorem d_O_improve_54 : decode prog_5_method_2_code 54 = .ok (.invokevirtual 54, 3) := by decide +kernel
theorem d_O_improve_57 : decode prog_5_method_2_code 57 = .ok (.iaload, 1) := by decide +kernel
theorem d_O_improve_58 : decode prog_5_method_2_code 58 = .ok (.invokevirtual 57, 3) := by decide +kernel
theorem d_O_improve_61 : decode prog_5_method_2_code 61 = .ok (.aload_n 0, 1) := by decide +kernel
theorem d_O_improve_62 : decode prog_5_method_2_code 62 = .ok (.aload_n 1, 1) := by decide +kernel
theorem d_O_improve_63 : decode prog_5_method_2_code 63 = .ok (.invokevirtual 61, 3) := by decide +kernel
theorem d_O_improve_66 : decode prog_5_method_2_code 66 = .ok (.return_, 1) := by decide +kernel
theorem d_X_hasCode_0 : decode prog_1_method_14_code 0 = .ok (.aload_n 0, 1) := by decide +kernel
theorem d_X_hasCode_1 : decode prog_1_method_14_code 1 = .ok (.getfield 28, 3) := by decide +kernel
theorem d_X_hasCode_4 : decode prog_1_method_14_code 4 = .ok (.invokevirtual 98, 3) := by decide +kernel
theorem d_X_hasCode_7 : decode prog_1_method_14_code 7 = .ok (.ifCond .le 7, 3) := by decide +kernel
theorem d_X_hasCode_10 : decode prog_1_method_14_code 10 = .ok (.iconst 1, 1) := by decide +kernel
theorem d_X_hasCode_11 : decode prog_1_method_14_code 11 = .ok (.goto 4, 3) := by decide +kernel
theorem d_X_hasCode_14 : decode prog_1_method_14_code 14 = .ok (.iconst 0, 1) := by decide +kernel
theorem d_X_hasCode_15 : decode prog_1_method_14_code 15 = .ok (.ireturn, 1) := by decide +kernel
theorem d_X_feed_0 : decode prog_1_method_2_code 0 = .ok (.aload_n 0, 1) := by decide +kernel
theorem d_X_feed_1 : decode prog_1_method_2_code 1 = .ok (.getfield 21, 3) := by decide +kernel
theorem d_X_feed_4 : decode prog_1_method_2_code 4 = .ok (.invokevirtual 56, 3) := by decide +kernel
theorem d_X_feed_7 : decode prog_1_method_2_code 7 = .ok (.ifCond .ne 10, 3) := by decide +kernel
theorem d_X_feed_10 : decode prog_1_method_2_code 10 = .ok (.aload_n 0, 1) := by decide +kernel
theorem d_X_feed_11 : decode prog_1_method_2_code 11 = .ok (.invokevirtual 60, 3) := by decide +kernel
theorem d_X_feed_14 : decode prog_1_method_2_code 14 = .ok (.ifCond .eq 5, 3) := by decide +kernel
theorem d_X_feed_17 : decode prog_1_method_2_code 17 = .ok (.iconst 1, 1) := by decide +kernel
theorem d_X_feed_18 : decode prog_1_method_2_code 18 = .ok (.ireturn, 1) := by decide +kernel
theorem d_X_feed_19 : decode prog_1_method_2_code 19 = .ok (.aload_n 0, 1) := by decide +kernel
theorem d_X_feed_20 : decode prog_1_method_2_code 20 = .ok (.getfield 21, 3) := by decide +kernel
theorem d_X_feed_23 : decode prog_1_method_2_code 23 = .ok (.iload_n 1, 1) := by decide +kernel
theorem d_X_feed_24 : decode prog_1_method_2_code 24 = .ok (.invokevirtual 63, 3) := by decide +kernel
theorem d_X_feed_27 : decode prog_1_method_2_code 27 = .ok (.iconst 0, 1) := by decide +kernel
theorem d_X_feed_28 : decode prog_1_method_2_code 28 = .ok (.ireturn, 1) := by decide +kernel
theorem d_X_rewind_0 : decode prog_1_method_16_code 0 = .ok (.aload_n 0, 1) := by decide +kernel
theorem d_X_rewind_1 : decode prog_1_method_16_code 1 = .ok (.iconst 0, 1) := by decide +kernel
theorem d_X_rewind_2 : decode prog_1_method_16_code 2 = .ok (.putfield 48, 3) := by decide +kernel
theorem d_X_rewind_5 : decode prog_1_method_16_code 5 = .ok (.return_, 1) := by decide +kernel
theorem d_X_setInput_0 : decode prog_1_method_3_code 0 = .ok (.iload_n 1, 1) := by decide +kernel
theorem d_X_setInput_1 : decode prog_1_method_3_code 1 = .ok (.ifCond .lt 20, 3) := by decide +kernel
theorem d_X_setInput_4 : decode prog_1_method_3_code 4 = .ok (.iload_n 1, 1) := by decide +kernel
theorem d_X_setInput_5 : decode prog_1_method_3_code 5 = .ok (.iconst 4, 1) := by decide +kernel
theorem d_X_setInput_6 : decode prog_1_method_3_code 6 = .ok (.if_icmp .ge 15, 3) := by decide +kernel
theorem d_X_setInput_9 : decode prog_1_method_3_code 9 = .ok (.aload_n 0, 1) := by decide +kernel
theorem d_X_setInput_10 : decode prog_1_method_3_code 10 = .ok (.getfield 14, 3) := by decide +kernel
theorem d_X_setInput_13 : decode prog_1_method_3_code 13 = .ok (.iload_n 2, 1) := by decide +kernel
theorem d_X_setInput_14 : decode prog_1_method_3_code 14 = .ok (.iload_n 3, 1) := by decide +kernel
theorem d_X_setInput_15 : decode prog_1_method_3_code 15 = .ok (.invokevirtual 66, 3) := by decide +kernel
theorem d_X_setInput_18 : decode prog_1_method_3_code 18 = .ok (.ifCond .ne 5, 3) := by decide +kernel
theorem d_X_setInput_21 : decode prog_1_method_3_code 21 = .ok (.iconst 2, 1) := by decide +kernel
theorem d_X_setInput_22 : decode prog_1_method_3_code 22 = .ok (.ireturn, 1) := by decide +kernel
theorem d_X_setInput_23 : decode prog_1_method_3_code 23 = .ok (.aload_n 0, 1) := by decide +kernel
theorem d_X_setInput_24 : decode prog_1_method_3_code 24 = .ok (.getfield 14, 3) := by decide +kernel
theorem d_X_setInput_27 : decode prog_1_method_3_code 27 = .ok (.bipush 40, 2) := by decide +kernel
theorem d_X_setInput_29 : decode prog_1_method_3_code 29 = .ok (.iload_n 1, 1) := by decide +kernel
theorem d_X_setInput_30 : decode prog_1_method_3_code 30 = .ok (.iadd, 1) := by decide +kernel
theorem d_X_setInput_31 : decode prog_1_method_3_code 31 = .ok (.iload_n 2, 1) := by decide +kernel
theorem d_X_setInput_32 : decode prog_1_method_3_code 32 = .ok (.iload_n 3, 1) := by decide +kernel
theorem d_X_setInput_33 : decode prog_1_method_3_code 33 = .ok (.iload 4, 2) := by decide +kernel
theorem d_X_setInput_35 : decode prog_1_method_3_code 35 = .ok (.invokevirtual 70, 3) := by decide +kernel
theorem d_X_setInput_38 : decode prog_1_method_3_code 38 = .ok (.aload_n 0, 1) := by decide +kernel
theorem d_X_setInput_39 : decode prog_1_method_3_code 39 = .ok (.invokevirtual 74, 3) := by decide +kernel
theorem d_X_setInput_42 : decode prog_1_method_3_code 42 = .ok (.iconst 0, 1) := by decide +kernel
theorem d_X_setInput_43 : decode prog_1_method_3_code 43 = .ok (.ireturn, 1) := by decide +kernel
theorem d_X_operandsOf_0 : decode prog_1_method_18_code 0 = .ok (.iload_n 0, 1) := by decide +kernel
theorem d_X_operandsOf_1 : decode prog_1_method_18_code 1 = .ok (.tableswitch 43 0 5 #[39, 39, 39, 41, 41, 41], 39) := by decide +kernel
theorem d_X_operandsOf_40 : decode prog_1_method_18_code 40 = .ok (.iconst 0, 1) := by decide +kernel
theorem d_X_operandsOf_41 : decode prog_1_method_18_code 41 = .ok (.ireturn, 1) := by decide +kernel
theorem d_X_operandsOf_42 : decode prog_1_method_18_code 42 = .ok (.iconst 2, 1) := by decide +kernel
theorem d_X_operandsOf_43 : decode prog_1_method_18_code 43 = .ok (.ireturn, 1) := by decide +kernel
theorem d_X_operandsOf_44 : decode prog_1_method_18_code 44 = .ok (.iconst 1, 1) := by decide +kernel
theorem d_X_operandsOf_45 : decode prog_1_method_18_code 45 = .ok (.ireturn, 1) := by decide +kernel
theorem d_X_topDigit_0 : decode prog_1_method_19_code 0 = .ok (.iconst 0, 1) := by decide +kernel
theorem d_X_topDigit_1 : decode prog_1_method_19_code 1 = .ok (.istore_n 1, 1) := by decide +kernel
theorem d_X_topDigit_2 : decode prog_1_method_19_code 2 = .ok (.iload_n 0, 1) := by decide +kernel
theorem d_X_topDigit_3 : decode prog_1_method_19_code 3 = .ok (.iconst 1, 1) := by decide +kernel
theorem d_X_topDigit_4 : decode prog_1_method_19_code 4 = .ok (.ishr, 1) := by decide +kernel
theorem d_X_topDigit_5 : decode prog_1_method_19_code 5 = .ok (.istore_n 2, 1) := by decide +kernel
theorem d_X_topDigit_6 : decode prog_1_method_19_code 6 = .ok (.iload_n 2, 1) := by decide +kernel
theorem d_X_topDigit_7 : decode prog_1_method_19_code 7 = .ok (.ifCond .le 13, 3) := by decide +kernel
theorem d_X_topDigit_10 : decode prog_1_method_19_code 10 = .ok (.iinc 1 1, 3) := by decide +kernel
theorem d_X_topDigit_13 : decode prog_1_method_19_code 13 = .ok (.iload_n 2, 1) := by decide +kernel
theorem d_X_topDigit_14 : decode prog_1_method_19_code 14 = .ok (.iconst 1, 1) := by decide +kernel
theorem d_X_topDigit_15 : decode prog_1_method_19_code 15 = .ok (.ishr, 1) := by decide +kernel
theorem d_X_topDigit_16 : decode prog_1_method_19_code 16 = .ok (.istore_n 2, 1) := by decide +kernel
theorem d_X_topDigit_17 : decode prog_1_method_19_code 17 = .ok (.goto (-11), 3) := by decide +kernel
theorem d_X_topDigit_20 : decode prog_1_method_19_code 20 = .ok (.iload_n 1, 1) := by decide +kernel
theorem d_X_topDigit_21 : decode prog_1_method_19_code 21 = .ok (.ireturn, 1) := by decide +kernel
theorem d_X_isDigitOne_0 : decode prog_1_method_20_code 0 = .ok (.iload_n 0, 1) := by decide +kernel
theorem d_X_isDigitOne_1 : decode prog_1_method_20_code 1 = .ok (.iload_n 1, 1) := by decide +kernel
theorem d_X_isDigitOne_2 : decode prog_1_method_20_code 2 = .ok (.ishr, 1) := by decide +kernel
theorem d_X_isDigitOne_3 : decode prog_1_method_20_code 3 = .ok (.iconst 1, 1) := by decide +kernel
theorem d_X_isDigitOne_4 : decode prog_1_method_20_code 4 = .ok (.iand, 1) := by decide +kernel
theorem d_X_isDigitOne_5 : decode prog_1_method_20_code 5 = .ok (.iconst 1, 1) := by decide +kernel
theorem d_X_isDigitOne_6 : decode prog_1_method_20_code 6 = .ok (.if_icmp .ne 7, 3) := by decide +kernel
theorem d_X_isDigitOne_9 : decode prog_1_method_20_code 9 = .ok (.iconst 1, 1) := by decide +kernel
theorem d_X_isDigitOne_10 : decode prog_1_method_20_code 10 = .ok (.goto 4, 3) := by decide +kernel
theorem d_X_isDigitOne_13 : decode prog_1_method_20_code 13 = .ok (.iconst 0, 1) := by decide +kernel
theorem d_X_isDigitOne_14 : decode prog_1_method_20_code 14 = .ok (.ireturn, 1) := by decide +kernel
theorem d_X_compile_0 : decode prog_1_method_4_code 0 = .ok (.aload_n 0, 1) := by decide +kernel
theorem d_X_compile_1 : decode prog_1_method_4_code 1 = .ok (.getfield 21, 3) := by decide +kernel
theorem d_X_compile_4 : decode prog_1_method_4_code 4 = .ok (.invokevirtual 77, 3) := by decide +kernel
theorem d_X_compile_7 : decode prog_1_method_4_code 7 = .ok (.istore_n 1, 1) := by decide +kernel
theorem d_X_compile_8 : decode prog_1_method_4_code 8 = .ok (.iload_n 1, 1) := by decide +kernel
theorem d_X_compile_9 : decode prog_1_method_4_code 9 = .ok (.ifCond .eq 5, 3) := by decide +kernel
theorem d_X_compile_12 : decode prog_1_method_4_code 12 = .ok (.iload_n 1, 1) := by decide +kernel
theorem d_X_compile_13 : decode prog_1_method_4_code 13 = .ok (.ireturn, 1) := by decide +kernel
theorem d_X_compile_14 : decode prog_1_method_4_code 14 = .ok (.aload_n 0, 1) := by decide +kernel
theorem d_X_compile_15 : decode prog_1_method_4_code 15 = .ok (.getfield 21, 3) := by decide +kernel
theorem d_X_compile_18 : decode prog_1_method_4_code 18 = .ok (.invokevirtual 81, 3) := by decide +kernel
theorem d_X_compile_21 : decode prog_1_method_4_code 21 = .ok (.bipush 40, 2) := by decide +kernel
theorem d_X_compile_23 : decode prog_1_method_4_code 23 = .ok (.if_icmp .le 6, 3) := by decide +kernel
theorem d_X_compile_26 : decode prog_1_method_4_code 26 = .ok (.bipush 6, 2) := by decide +kernel
theorem d_X_compile_28 : decode prog_1_method_4_code 28 = .ok (.ireturn, 1) := by decide +kernel
theorem d_X_compile_29 : decode prog_1_method_4_code 29 = .ok (.aload_n 0, 1) := by decide +kernel
theorem d_X_compile_30 : decode prog_1_method_4_code 30 = .ok (.getfield 35, 3) := by decide +kernel
theorem d_X_compile_33 : decode prog_1_method_4_code 33 = .ok (.aload_n 0, 1) := by decide +kernel
theorem d_X_compile_34 : decode prog_1_method_4_code 34 = .ok (.getfield 21, 3) := by decide +kernel
theorem d_X_compile_37 : decode prog_1_method_4_code 37 = .ok (.aload_n 0, 1) := by decide +kernel
theorem d_X_compile_38 : decode prog_1_method_4_code 38 = .ok (.getfield 28, 3) := by decide +kernel
theorem d_X_compile_41 : decode prog_1_method_4_code 41 = .ok (.invokevirtual 84, 3) := by decide +kernel
theorem d_X_compile_44 : decode prog_1_method_4_code 44 = .ok (.aload_n 0, 1) := by decide +kernel
theorem d_X_compile_45 : decode prog_1_method_4_code 45 = .ok (.invokevirtual 74, 3) := by decide +kernel
theorem d_X_compile_48 : decode prog_1_method_4_code 48 = .ok (.iconst 0, 1) := by decide +kernel
theorem d_X_compile_49 : decode prog_1_method_4_code 49 = .ok (.ireturn, 1) := by decide +kernel
theorem d_X_optimise_0 : decode prog_1_method_5_code 0 = .ok (.aload_n 0, 1) := by decide +kernel
theorem d_X_optimise_1 : decode prog_1_method_5_code 1 = .ok (.invokevirtual 60, 3) := by decide +kernel
theorem d_X_optimise_4 : decode prog_1_method_5_code 4 = .ok (.ifCond .ne 6, 3) := by decide +kernel
theorem d_X_optimise_7 : decode prog_1_method_5_code 7 = .ok (.bipush 7, 2) := by decide +kernel
theorem d_X_optimise_9 : decode prog_1_method_5_code 9 = .ok (.ireturn, 1) := by decide +kernel
theorem d_X_optimise_10 : decode prog_1_method_5_code 10 = .ok (.aload_n 0, 1) := by decide +kernel
theorem d_X_optimise_11 : decode prog_1_method_5_code 11 = .ok (.getfield 44, 3) := by decide +kernel
theorem d_X_optimise_14 : decode prog_1_method_5_code 14 = .ok (.aload_n 0, 1) := by decide +kernel
theorem d_X_optimise_15 : decode prog_1_method_5_code 15 = .ok (.getfield 28, 3) := by decide +kernel
theorem d_X_optimise_18 : decode prog_1_method_5_code 18 = .ok (.invokevirtual 88, 3) := by decide +kernel
theorem d_X_optimise_21 : decode prog_1_method_5_code 21 = .ok (.aload_n 0, 1) := by decide +kernel
theorem d_X_optimise_22 : decode prog_1_method_5_code 22 = .ok (.invokevirtual 74, 3) := by decide +kernel
theorem d_X_optimise_25 : decode prog_1_method_5_code 25 = .ok (.iconst 0, 1) := by decide +kernel
theorem d_X_optimise_26 : decode prog_1_method_5_code 26 = .ok (.ireturn, 1) := by decide +kernel
theorem d_X_isAllDone_0 : decode prog_1_method_15_code 0 = .ok (.aload_n 0, 1) := by decide +kernel
theorem d_X_isAllDone_1 : decode prog_1_method_15_code 1 = .ok (.getfield 48, 3) := by decide +kernel
theorem d_X_isAllDone_4 : decode prog_1_method_15_code 4 = .ok (.aload_n 0, 1) := by decide +kernel
theorem d_X_isAllDone_5 : decode prog_1_method_15_code 5 = .ok (.getfield 28, 3) := by decide +kernel
theorem d_X_isAllDone_8 : decode prog_1_method_15_code 8 = .ok (.invokevirtual 98, 3) := by decide +kernel
theorem d_X_isAllDone_11 : decode prog_1_method_15_code 11 = .ok (.if_icmp .ne 7, 3) := by decide +kernel
theorem d_X_isAllDone_14 : decode prog_1_method_15_code 14 = .ok (.iconst 1, 1) := by decide +kernel
theorem d_X_isAllDone_15 : decode prog_1_method_15_code 15 = .ok (.goto 4, 3) := by decide +kernel
theorem d_X_isAllDone_18 : decode prog_1_method_15_code 18 = .ok (.iconst 0, 1) := by decide +kernel
theorem d_X_isAllDone_19 : decode prog_1_method_15_code 19 = .ok (.ireturn, 1) := by decide +kernel
theorem d_X_run_0 : decode prog_1_method_6_code 0 = .ok (.aload_n 0, 1) := by decide +kernel
theorem d_X_run_1 : decode prog_1_method_6_code 1 = .ok (.invokevirtual 60, 3) := by decide +kernel
theorem d_X_run_4 : decode prog_1_method_6_code 4 = .ok (.ifCond .ne 6, 3) := by decide +kernel
theorem d_X_run_7 : decode prog_1_method_6_code 7 = .ok (.bipush 7, 2) := by decide +kernel
theorem d_X_run_9 : decode prog_1_method_6_code 9 = .ok (.ireturn, 1) := by decide +kernel
theorem d_X_run_10 : decode prog_1_method_6_code 10 = .ok (.iload_n 1, 1) := by decide +kernel
theorem d_X_run_11 : decode prog_1_method_6_code 11 = .ok (.iconst 0, 1) := by decide +kernel
theorem d_X_run_12 : decode prog_1_method_6_code 12 = .ok (.invokestatic 92, 3) := by decide +kernel
theorem d_X_run_15 : decode prog_1_method_6_code 15 = .ok (.aload_n 0, 1) := by decide +kernel
theorem d_X_run_16 : decode prog_1_method_6_code 16 = .ok (.getfield 28, 3) := by decide +kernel
theorem d_X_run_19 : decode prog_1_method_6_code 19 = .ok (.invokevirtual 98, 3) := by decide +kernel
theorem d_X_run_22 : decode prog_1_method_6_code 22 = .ok (.aload_n 0, 1) := by decide +kernel
theorem d_X_run_23 : decode prog_1_method_6_code 23 = .ok (.getfield 48, 3) := by decide +kernel
theorem d_X_run_26 : decode prog_1_method_6_code 26 = .ok (.isub, 1) := by decide +kernel
theorem d_X_run_27 : decode prog_1_method_6_code 27 = .ok (.invokestatic 101, 3) := by decide +kernel
theorem d_X_run_30 : decode prog_1_method_6_code 30 = .ok (.istore_n 2, 1) := by decide +kernel
theorem d_X_run_31 : decode prog_1_method_6_code 31 = .ok (.iconst 0, 1) := by decide +kernel
theorem d_X_run_32 : decode prog_1_method_6_code 32 = .ok (.istore_n 3, 1) := by decide +kernel
theorem d_X_run_33 : decode prog_1_method_6_code 33 = .ok (.iload_n 3, 1) := by decide +kernel
theorem d_X_run_34 : decode prog_1_method_6_code 34 = .ok (.iload_n 2, 1) := by decide +kernel
theorem d_X_run_35 : decode prog_1_method_6_code 35 = .ok (.if_icmp .ge 61, 3) := by decide +kernel
theorem d_X_run_38 : decode prog_1_method_6_code 38 = .ok (.aload_n 0, 1) := by decide +kernel
theorem d_X_run_39 : decode prog_1_method_6_code 39 = .ok (.getfield 48, 3) := by decide +kernel
theorem d_X_run_42 : decode prog_1_method_6_code 42 = .ok (.istore 4, 2) := by decide +kernel
theorem d_X_run_44 : decode prog_1_method_6_code 44 = .ok (.aload_n 0, 1) := by decide +kernel
theorem d_X_run_45 : decode prog_1_method_6_code 45 = .ok (.getfield 14, 3) := by decide +kernel
theorem d_X_run_48 : decode prog_1_method_6_code 48 = .ok (.aload_n 0, 1) := by decide +kernel
theorem d_X_run_49 : decode prog_1_method_6_code 49 = .ok (.getfield 28, 3) := by decide +kernel
theorem d_X_run_52 : decode prog_1_method_6_code 52 = .ok (.iload 4, 2) := by decide +kernel
theorem d_X_run_54 : decode prog_1_method_6_code 54 = .ok (.invokevirtual 104, 3) := by decide +kernel
theorem d_X_run_57 : decode prog_1_method_6_code 57 = .ok (.iload 4, 2) := by decide +kernel
theorem d_X_run_59 : decode prog_1_method_6_code 59 = .ok (.aload_n 0, 1) := by decide +kernel
theorem d_X_run_60 : decode prog_1_method_6_code 60 = .ok (.getfield 28, 3) := by decide +kernel
theorem d_X_run_63 : decode prog_1_method_6_code 63 = .ok (.iload 4, 2) := by decide +kernel
theorem d_X_run_65 : decode prog_1_method_6_code 65 = .ok (.invokevirtual 108, 3) := by decide +kernel
theorem d_X_run_68 : decode prog_1_method_6_code 68 = .ok (.aload_n 0, 1) := by decide +kernel
theorem d_X_run_69 : decode prog_1_method_6_code 69 = .ok (.getfield 28, 3) := by decide +kernel
theorem d_X_run_72 : decode prog_1_method_6_code 72 = .ok (.iload 4, 2) := by decide +kernel
theorem d_X_run_74 : decode prog_1_method_6_code 74 = .ok (.invokevirtual 111, 3) := by decide +kernel
theorem d_X_run_77 : decode prog_1_method_6_code 77 = .ok (.invokevirtual 114, 3) := by decide +kernel
theorem d_X_run_80 : decode prog_1_method_6_code 80 = .ok (.aload_n 0, 1) := by decide +kernel
theorem d_X_run_81 : decode prog_1_method_6_code 81 = .ok (.dup, 1) := by decide +kernel
theorem d_X_run_82 : decode prog_1_method_6_code 82 = .ok (.getfield 48, 3) := by decide +kernel
theorem d_X_run_85 : decode prog_1_method_6_code 85 = .ok (.iconst 1, 1) := by decide +kernel
theorem d_X_run_86 : decode prog_1_method_6_code 86 = .ok (.iadd, 1) := by decide +kernel
theorem d_X_run_87 : decode prog_1_method_6_code 87 = .ok (.putfield 48, 3) := by decide +kernel
theorem d_X_run_90 : decode prog_1_method_6_code 90 = .ok (.iinc 3 1, 3) := by decide +kernel
theorem d_X_run_93 : decode prog_1_method_6_code 93 = .ok (.goto (-60), 3) := by decide +kernel
theorem d_X_run_96 : decode prog_1_method_6_code 96 = .ok (.aload_n 0, 1) := by decide +kernel
theorem d_X_run_97 : decode prog_1_method_6_code 97 = .ok (.invokevirtual 117, 3) := by decide +kernel
theorem d_X_run_100 : decode prog_1_method_6_code 100 = .ok (.ifCond .eq 7, 3) := by decide +kernel
theorem d_X_run_103 : decode prog_1_method_6_code 103 = .ok (.iconst 0, 1) := by decide +kernel
theorem d_X_run_104 : decode prog_1_method_6_code 104 = .ok (.goto 5, 3) := by decide +kernel
theorem d_X_run_107 : decode prog_1_method_6_code 107 = .ok (.bipush 8, 2) := by decide +kernel
theorem d_X_run_109 : decode prog_1_method_6_code 109 = .ok (.ireturn, 1) := by decide +kernel
theorem d_X_workOut_0 : decode prog_1_method_17_code 0 = .ok (.bipush 44, 2) := by decide +kernel
theorem d_X_workOut_2 : decode prog_1_method_17_code 2 = .ok (.istore_n 1, 1) := by decide +kernel
theorem d_X_workOut_3 : decode prog_1_method_17_code 3 = .ok (.iconst 0, 1) := by decide +kernel
theorem d_X_workOut_4 : decode prog_1_method_17_code 4 = .ok (.istore_n 2, 1) := by decide +kernel
theorem d_X_workOut_5 : decode prog_1_method_17_code 5 = .ok (.iload_n 2, 1) := by decide +kernel
theorem d_X_workOut_6 : decode prog_1_method_17_code 6 = .ok (.aload_n 0, 1) := by decide +kernel
theorem d_X_workOut_7 : decode prog_1_method_17_code 7 = .ok (.getfield 21, 3) := by decide +kernel
theorem d_X_workOut_10 : decode prog_1_method_17_code 10 = .ok (.invokevirtual 146, 3) := by decide +kernel
theorem d_X_workOut_13 : decode prog_1_method_17_code 13 = .ok (.if_icmp .ge 85, 3) := by decide +kernel
theorem d_X_workOut_16 : decode prog_1_method_17_code 16 = .ok (.aload_n 0, 1) := by decide +kernel
theorem d_X_workOut_17 : decode prog_1_method_17_code 17 = .ok (.getfield 21, 3) := by decide +kernel
theorem d_X_workOut_20 : decode prog_1_method_17_code 20 = .ok (.iload_n 2, 1) := by decide +kernel
theorem d_X_workOut_21 : decode prog_1_method_17_code 21 = .ok (.invokevirtual 147, 3) := by decide +kernel
theorem d_X_workOut_24 : decode prog_1_method_17_code 24 = .ok (.istore_n 3, 1) := by decide +kernel
theorem d_X_workOut_25 : decode prog_1_method_17_code 25 = .ok (.aload_n 0, 1) := by decide +kernel
theorem d_X_workOut_26 : decode prog_1_method_17_code 26 = .ok (.getfield 21, 3) := by decide +kernel
theorem d_X_workOut_29 : decode prog_1_method_17_code 29 = .ok (.iload_n 2, 1) := by decide +kernel
theorem d_X_workOut_30 : decode prog_1_method_17_code 30 = .ok (.invokevirtual 148, 3) := by decide +kernel
theorem d_X_workOut_33 : decode prog_1_method_17_code 33 = .ok (.istore 4, 2) := by decide +kernel
theorem d_X_workOut_35 : decode prog_1_method_17_code 35 = .ok (.iload_n 3, 1) := by decide +kernel
theorem d_X_workOut_36 : decode prog_1_method_17_code 36 = .ok (.invokestatic 151, 3) := by decide +kernel
theorem d_X_workOut_39 : decode prog_1_method_17_code 39 = .ok (.istore 5, 2) := by decide +kernel
theorem d_X_workOut_41 : decode prog_1_method_17_code 41 = .ok (.iload_n 1, 1) := by decide +kernel
theorem d_X_workOut_42 : decode prog_1_method_17_code 42 = .ok (.iload 5, 2) := by decide +kernel
theorem d_X_workOut_44 : decode prog_1_method_17_code 44 = .ok (.isub, 1) := by decide +kernel
theorem d_X_workOut_45 : decode prog_1_method_17_code 45 = .ok (.istore_n 1, 1) := by decide +kernel
theorem d_X_workOut_46 : decode prog_1_method_17_code 46 = .ok (.iload_n 3, 1) := by decide +kernel
theorem d_X_workOut_47 : decode prog_1_method_17_code 47 = .ok (.bipush 8, 2) := by decide +kernel
theorem d_X_workOut_49 : decode prog_1_method_17_code 49 = .ok (.if_icmp .ne 16, 3) := by decide +kernel
theorem d_X_workOut_52 : decode prog_1_method_17_code 52 = .ok (.aload_n 0, 1) := by decide +kernel
theorem d_X_workOut_53 : decode prog_1_method_17_code 53 = .ok (.getfield 14, 3) := by decide +kernel
theorem d_X_workOut_56 : decode prog_1_method_17_code 56 = .ok (.iload_n 1, 1) := by decide +kernel
theorem d_X_workOut_57 : decode prog_1_method_17_code 57 = .ok (.iload 4, 2) := by decide +kernel
theorem d_X_workOut_59 : decode prog_1_method_17_code 59 = .ok (.invokevirtual 154, 3) := by decide +kernel
theorem d_X_workOut_62 : decode prog_1_method_17_code 62 = .ok (.goto 27, 3) := by decide +kernel
theorem d_X_workOut_65 : decode prog_1_method_17_code 65 = .ok (.aload_n 0, 1) := by decide +kernel
theorem d_X_workOut_66 : decode prog_1_method_17_code 66 = .ok (.getfield 14, 3) := by decide +kernel
theorem d_X_workOut_69 : decode prog_1_method_17_code 69 = .ok (.iload_n 3, 1) := by decide +kernel
theorem d_X_workOut_70 : decode prog_1_method_17_code 70 = .ok (.iload_n 1, 1) := by decide +kernel
theorem d_X_workOut_71 : decode prog_1_method_17_code 71 = .ok (.iload_n 1, 1) := by decide +kernel
theorem d_X_workOut_72 : decode prog_1_method_17_code 72 = .ok (.iload 5, 2) := by decide +kernel
theorem d_X_workOut_74 : decode prog_1_method_17_code 74 = .ok (.iconst 2, 1) := by decide +kernel
theorem d_X_workOut_75 : decode prog_1_method_17_code 75 = .ok (.if_icmp .ne 9, 3) := by decide +kernel
theorem d_X_workOut_78 : decode prog_1_method_17_code 78 = .ok (.iload_n 1, 1) := by decide +kernel
theorem d_X_workOut_79 : decode prog_1_method_17_code 79 = .ok (.iconst 1, 1) := by decide +kernel
theorem d_X_workOut_80 : decode prog_1_method_17_code 80 = .ok (.iadd, 1) := by decide +kernel
theorem d_X_workOut_81 : decode prog_1_method_17_code 81 = .ok (.goto 5, 3) := by decide +kernel
theorem d_X_workOut_84 : decode prog_1_method_17_code 84 = .ok (.iload 4, 2) := by decide +kernel
theorem d_X_workOut_86 : decode prog_1_method_17_code 86 = .ok (.invokevirtual 114, 3) := by decide +kernel
theorem d_X_workOut_89 : decode prog_1_method_17_code 89 = .ok (.iinc 1 1, 3) := by decide +kernel
theorem d_X_workOut_92 : decode prog_1_method_17_code 92 = .ok (.iinc 2 1, 3) := by decide +kernel
theorem d_X_workOut_95 : decode prog_1_method_17_code 95 = .ok (.goto (-90), 3) := by decide +kernel
theorem d_X_workOut_98 : decode prog_1_method_17_code 98 = .ok (.return_, 1) := by decide +kernel
theorem d_X_evalDirect_0 : decode prog_1_method_7_code 0 = .ok (.aload_n 0, 1) := by decide +kernel
theorem d_X_evalDirect_1 : decode prog_1_method_7_code 1 = .ok (.getfield 21, 3) := by decide +kernel
theorem d_X_evalDirect_4 : decode prog_1_method_7_code 4 = .ok (.invokevirtual 77, 3) := by decide +kernel
theorem d_X_evalDirect_7 : decode prog_1_method_7_code 7 = .ok (.istore_n 1, 1) := by decide +kernel
theorem d_X_evalDirect_8 : decode prog_1_method_7_code 8 = .ok (.iload_n 1, 1) := by decide +kernel
theorem d_X_evalDirect_9 : decode prog_1_method_7_code 9 = .ok (.ifCond .eq 5, 3) := by decide +kernel
theorem d_X_evalDirect_12 : decode prog_1_method_7_code 12 = .ok (.iload_n 1, 1) := by decide +kernel
theorem d_X_evalDirect_13 : decode prog_1_method_7_code 13 = .ok (.ireturn, 1) := by decide +kernel
theorem d_X_evalDirect_14 : decode prog_1_method_7_code 14 = .ok (.aload_n 0, 1) := by decide +kernel
theorem d_X_evalDirect_15 : decode prog_1_method_7_code 15 = .ok (.invokevirtual 120, 3) := by decide +kernel
theorem d_X_evalDirect_18 : decode prog_1_method_7_code 18 = .ok (.aload_n 0, 1) := by decide +kernel
theorem d_X_evalDirect_19 : decode prog_1_method_7_code 19 = .ok (.getfield 14, 3) := by decide +kernel
theorem d_X_evalDirect_22 : decode prog_1_method_7_code 22 = .ok (.bipush 69, 2) := by decide +kernel
theorem d_X_evalDirect_24 : decode prog_1_method_7_code 24 = .ok (.bipush 44, 2) := by decide +kernel
theorem d_X_evalDirect_26 : decode prog_1_method_7_code 26 = .ok (.invokevirtual 123, 3) := by decide +kernel
theorem d_X_evalDirect_29 : decode prog_1_method_7_code 29 = .ok (.aload_n 0, 1) := by decide +kernel
theorem d_X_evalDirect_30 : decode prog_1_method_7_code 30 = .ok (.iconst 1, 1) := by decide +kernel
theorem d_X_evalDirect_31 : decode prog_1_method_7_code 31 = .ok (.putfield 52, 3) := by decide +kernel
theorem d_X_evalDirect_34 : decode prog_1_method_7_code 34 = .ok (.iconst 0, 1) := by decide +kernel
theorem d_X_evalDirect_35 : decode prog_1_method_7_code 35 = .ok (.ireturn, 1) := by decide +kernel
theorem d_X_out_0 : decode prog_1_method_8_code 0 = .ok (.aload_n 0, 1) := by decide +kernel
theorem d_X_out_1 : decode prog_1_method_8_code 1 = .ok (.invokevirtual 60, 3) := by decide +kernel
theorem d_X_out_4 : decode prog_1_method_8_code 4 = .ok (.ifCond .eq 22, 3) := by decide +kernel
theorem d_X_out_7 : decode prog_1_method_8_code 7 = .ok (.aload_n 0, 1) := by decide +kernel
theorem d_X_out_8 : decode prog_1_method_8_code 8 = .ok (.invokevirtual 117, 3) := by decide +kernel
theorem d_X_out_11 : decode prog_1_method_8_code 11 = .ok (.ifCond .eq 15, 3) := by decide +kernel
theorem d_X_out_14 : decode prog_1_method_8_code 14 = .ok (.aload_n 0, 1) := by decide +kernel
theorem d_X_out_15 : decode prog_1_method_8_code 15 = .ok (.getfield 14, 3) := by decide +kernel
theorem d_X_out_18 : decode prog_1_method_8_code 18 = .ok (.iload_n 1, 1) := by decide +kernel
theorem d_X_out_19 : decode prog_1_method_8_code 19 = .ok (.iload_n 2, 1) := by decide +kernel
theorem d_X_out_20 : decode prog_1_method_8_code 20 = .ok (.invokevirtual 66, 3) := by decide +kernel
theorem d_X_out_23 : decode prog_1_method_8_code 23 = .ok (.ifCond .ne 5, 3) := by decide +kernel
theorem d_X_out_26 : decode prog_1_method_8_code 26 = .ok (.iconst (-1), 1) := by decide +kernel
theorem d_X_out_27 : decode prog_1_method_8_code 27 = .ok (.ireturn, 1) := by decide +kernel
theorem d_X_out_28 : decode prog_1_method_8_code 28 = .ok (.aload_n 0, 1) := by decide +kernel
theorem d_X_out_29 : decode prog_1_method_8_code 29 = .ok (.getfield 14, 3) := by decide +kernel
theorem d_X_out_32 : decode prog_1_method_8_code 32 = .ok (.aload_n 0, 1) := by decide +kernel
theorem d_X_out_33 : decode prog_1_method_8_code 33 = .ok (.getfield 28, 3) := by decide +kernel
theorem d_X_out_36 : decode prog_1_method_8_code 36 = .ok (.invokevirtual 126, 3) := by decide +kernel
theorem d_X_out_39 : decode prog_1_method_8_code 39 = .ok (.iload_n 1, 1) := by decide +kernel
theorem d_X_out_40 : decode prog_1_method_8_code 40 = .ok (.iload_n 2, 1) := by decide +kernel
theorem d_X_out_41 : decode prog_1_method_8_code 41 = .ok (.invokevirtual 129, 3) := by decide +kernel
theorem d_X_out_44 : decode prog_1_method_8_code 44 = .ok (.ireturn, 1) := by decide +kernel
theorem d_X_outDirect_0 : decode prog_1_method_9_code 0 = .ok (.aload_n 0, 1) := by decide +kernel
theorem d_X_outDirect_1 : decode prog_1_method_9_code 1 = .ok (.getfield 52, 3) := by decide +kernel
theorem d_X_outDirect_4 : decode prog_1_method_9_code 4 = .ok (.ifCond .eq 15, 3) := by decide +kernel
theorem d_X_outDirect_7 : decode prog_1_method_9_code 7 = .ok (.aload_n 0, 1) := by decide +kernel
theorem d_X_outDirect_8 : decode prog_1_method_9_code 8 = .ok (.getfield 14, 3) := by decide +kernel
theorem d_X_outDirect_11 : decode prog_1_method_9_code 11 = .ok (.iload_n 1, 1) := by decide +kernel
theorem d_X_outDirect_12 : decode prog_1_method_9_code 12 = .ok (.iload_n 2, 1) := by decide +kernel
theorem d_X_outDirect_13 : decode prog_1_method_9_code 13 = .ok (.invokevirtual 66, 3) := by decide +kernel
theorem d_X_outDirect_16 : decode prog_1_method_9_code 16 = .ok (.ifCond .ne 5, 3) := by decide +kernel
theorem d_X_outDirect_19 : decode prog_1_method_9_code 19 = .ok (.iconst (-1), 1) := by decide +kernel
theorem d_X_outDirect_20 : decode prog_1_method_9_code 20 = .ok (.ireturn, 1) := by decide +kernel
theorem d_X_outDirect_21 : decode prog_1_method_9_code 21 = .ok (.aload_n 0, 1) := by decide +kernel
theorem d_X_outDirect_22 : decode prog_1_method_9_code 22 = .ok (.getfield 14, 3) := by decide +kernel
theorem d_X_outDirect_25 : decode prog_1_method_9_code 25 = .ok (.bipush 69, 2) := by decide +kernel
theorem d_X_outDirect_27 : decode prog_1_method_9_code 27 = .ok (.iload_n 1, 1) := by decide +kernel
theorem d_X_outDirect_28 : decode prog_1_method_9_code 28 = .ok (.iload_n 2, 1) := by decide +kernel
theorem d_X_outDirect_29 : decode prog_1_method_9_code 29 = .ok (.invokevirtual 129, 3) := by decide +kernel
theorem d_X_outDirect_32 : decode prog_1_method_9_code 32 = .ok (.ireturn, 1) := by decide +kernel
theorem d_X_codeAt_0 : decode prog_1_method_10_code 0 = .ok (.iload_n 1, 1) := by decide +kernel
theorem d_X_codeAt_1 : decode prog_1_method_10_code 1 = .ok (.ifCond .lt 25, 3) := by decide +kernel
theorem d_X_codeAt_4 : decode prog_1_method_10_code 4 = .ok (.iload_n 1, 1) := by decide +kernel
theorem d_X_codeAt_5 : decode prog_1_method_10_code 5 = .ok (.aload_n 0, 1) := by decide +kernel
theorem d_X_codeAt_6 : decode prog_1_method_10_code 6 = .ok (.getfield 28, 3) := by decide +kernel
theorem d_X_codeAt_9 : decode prog_1_method_10_code 9 = .ok (.invokevirtual 98, 3) := by decide +kernel
theorem d_X_codeAt_12 : decode prog_1_method_10_code 12 = .ok (.if_icmp .ge 14, 3) := by decide +kernel
theorem d_X_codeAt_15 : decode prog_1_method_10_code 15 = .ok (.aload_n 0, 1) := by decide +kernel
theorem d_X_codeAt_16 : decode prog_1_method_10_code 16 = .ok (.getfield 28, 3) := by decide +kernel
theorem d_X_codeAt_19 : decode prog_1_method_10_code 19 = .ok (.iload_n 1, 1) := by decide +kernel
theorem d_X_codeAt_20 : decode prog_1_method_10_code 20 = .ok (.invokevirtual 133, 3) := by decide +kernel
theorem d_X_codeAt_23 : decode prog_1_method_10_code 23 = .ok (.goto 4, 3) := by decide +kernel
theorem d_X_codeAt_26 : decode prog_1_method_10_code 26 = .ok (.iconst (-1), 1) := by decide +kernel
theorem d_X_codeAt_27 : decode prog_1_method_10_code 27 = .ok (.ireturn, 1) := by decide +kernel
theorem d_X_codeSize_0 : decode prog_1_method_11_code 0 = .ok (.aload_n 0, 1) := by decide +kernel
theorem d_X_codeSize_1 : decode prog_1_method_11_code 1 = .ok (.invokevirtual 60, 3) := by decide +kernel
theorem d_X_codeSize_4 : decode prog_1_method_11_code 4 = .ok (.ifCond .eq 13, 3) := by decide +kernel
theorem d_X_codeSize_7 : decode prog_1_method_11_code 7 = .ok (.aload_n 0, 1) := by decide +kernel
theorem d_X_codeSize_8 : decode prog_1_method_11_code 8 = .ok (.getfield 28, 3) := by decide +kernel
theorem d_X_codeSize_11 : decode prog_1_method_11_code 11 = .ok (.invokevirtual 98, 3) := by decide +kernel
theorem d_X_codeSize_14 : decode prog_1_method_11_code 14 = .ok (.goto 4, 3) := by decide +kernel
theorem d_X_codeSize_17 : decode prog_1_method_11_code 17 = .ok (.iconst (-1), 1) := by decide +kernel
theorem d_X_codeSize_18 : decode prog_1_method_11_code 18 = .ok (.ireturn, 1) := by decide +kernel
theorem d_X_products_0 : decode prog_1_method_12_code 0 = .ok (.aload_n 0, 1) := by decide +kernel
theorem d_X_products_1 : decode prog_1_method_12_code 1 = .ok (.invokevirtual 60, 3) := by decide +kernel
theorem d_X_products_4 : decode prog_1_method_12_code 4 = .ok (.ifCond .eq 14, 3) := by decide +kernel
theorem d_X_products_7 : decode prog_1_method_12_code 7 = .ok (.aload_n 0, 1) := by decide +kernel
theorem d_X_products_8 : decode prog_1_method_12_code 8 = .ok (.getfield 28, 3) := by decide +kernel
theorem d_X_products_11 : decode prog_1_method_12_code 11 = .ok (.iconst 5, 1) := by decide +kernel
theorem d_X_products_12 : decode prog_1_method_12_code 12 = .ok (.invokevirtual 136, 3) := by decide +kernel
theorem d_X_products_15 : decode prog_1_method_12_code 15 = .ok (.goto 4, 3) := by decide +kernel
theorem d_X_products_18 : decode prog_1_method_12_code 18 = .ok (.iconst (-1), 1) := by decide +kernel
theorem d_X_products_19 : decode prog_1_method_12_code 19 = .ok (.ireturn, 1) := by decide +kernel
theorem d_X_reset_0 : decode prog_1_method_13_code 0 = .ok (.aload_n 0, 1) := by decide +kernel
theorem d_X_reset_1 : decode prog_1_method_13_code 1 = .ok (.getfield 21, 3) := by decide +kernel
theorem d_X_reset_4 : decode prog_1_method_13_code 4 = .ok (.invokevirtual 139, 3) := by decide +kernel
theorem d_X_reset_7 : decode prog_1_method_13_code 7 = .ok (.aload_n 0, 1) := by decide +kernel
theorem d_X_reset_8 : decode prog_1_method_13_code 8 = .ok (.getfield 28, 3) := by decide +kernel
theorem d_X_reset_11 : decode prog_1_method_13_code 11 = .ok (.invokevirtual 142, 3) := by decide +kernel
theorem d_X_reset_14 : decode prog_1_method_13_code 14 = .ok (.aload_n 0, 1) := by decide +kernel
theorem d_X_reset_15 : decode prog_1_method_13_code 15 = .ok (.invokevirtual 74, 3) := by decide +kernel
theorem d_X_reset_18 : decode prog_1_method_13_code 18 = .ok (.aload_n 0, 1) := by decide +kernel
theorem d_X_reset_19 : decode prog_1_method_13_code 19 = .ok (.iconst 0, 1) := by decide +kernel
theorem d_X_reset_20 : decode prog_1_method_13_code 20 = .ok (.putfield 52, 3) := by decide +kernel
theorem d_X_reset_23 : decode prog_1_method_13_code 23 = .ok (.iconst 0, 1) := by decide +kernel
theorem d_X_reset_24 : decode prog_1_method_13_code 24 = .ok (.istore_n 1, 1) := by decide +kernel
theorem d_X_reset_25 : decode prog_1_method_13_code 25 = .ok (.iload_n 1, 1) := by decide +kernel
theorem d_X_reset_26 : decode prog_1_method_13_code 26 = .ok (.iconst 4, 1) := by decide +kernel
theorem d_X_reset_27 : decode prog_1_method_13_code 27 = .ok (.if_icmp .ge 20, 3) := by decide +kernel
theorem d_X_reset_30 : decode prog_1_method_13_code 30 = .ok (.aload_n 0, 1) := by decide +kernel
theorem d_X_reset_31 : decode prog_1_method_13_code 31 = .ok (.getfield 14, 3) := by decide +kernel
theorem d_X_reset_34 : decode prog_1_method_13_code 34 = .ok (.bipush 40, 2) := by decide +kernel
theorem d_X_reset_36 : decode prog_1_method_13_code 36 = .ok (.iload_n 1, 1) := by decide +kernel
theorem d_X_reset_37 : decode prog_1_method_13_code 37 = .ok (.iadd, 1) := by decide +kernel
theorem d_X_reset_38 : decode prog_1_method_13_code 38 = .ok (.invokevirtual 143, 3) := by decide +kernel
theorem d_X_reset_41 : decode prog_1_method_13_code 41 = .ok (.iinc 1 1, 3) := by decide +kernel
theorem d_X_reset_44 : decode prog_1_method_13_code 44 = .ok (.goto (-19), 3) := by decide +kernel
theorem d_X_reset_47 : decode prog_1_method_13_code 47 = .ok (.return_, 1) := by decide +kernel
end
section
theorem d_N_in_0 : decode prog_8_method_2_code 0 = .ok (.iload_n 0, 1) := by decide +kernel
theorem d_N_in_1 : decode prog_8_method_2_code 1 = .ok (.iload_n 1, 1) := by decide +kernel
theorem d_N_in_2 : decode prog_8_method_2_code 2 = .ok (.if_icmp .lt 12, 3) := by decide +kernel
theorem d_N_in_5 : decode prog_8_method_2_code 5 = .ok (.iload_n 0, 1) := by decide +kernel
theorem d_N_in_6 : decode prog_8_method_2_code 6 = .ok (.iload_n 2, 1) := by decide +kernel
theorem d_N_in_7 : decode prog_8_method_2_code 7 = .ok (.if_icmp .gt 7, 3) := by decide +kernel
theorem d_N_in_10 : decode prog_8_method_2_code 10 = .ok (.iconst 1, 1) := by decide +kernel
theorem d_N_in_11 : decode prog_8_method_2_code 11 = .ok (.goto 4, 3) := by decide +kernel
theorem d_N_in_14 : decode prog_8_method_2_code 14 = .ok (.iconst 0, 1) := by decide +kernel
theorem d_N_in_15 : decode prog_8_method_2_code 15 = .ok (.ireturn, 1) := by decide +kernel
theorem d_N_isPlace_0 : decode prog_8_method_3_code 0 = .ok (.iload_n 1, 1) := by decide +kernel
theorem d_N_isPlace_1 : decode prog_8_method_3_code 1 = .ok (.iconst 0, 1) := by decide +kernel
theorem d_N_isPlace_2 : decode prog_8_method_3_code 2 = .ok (.aload_n 0, 1) := by decide +kernel
theorem d_N_isPlace_3 : decode prog_8_method_3_code 3 = .ok (.getfield 60, 3) := by decide +kernel
theorem d_N_isPlace_6 : decode prog_8_method_3_code 6 = .ok (.iconst 1, 1) := by decide +kernel
theorem d_N_isPlace_7 : decode prog_8_method_3_code 7 = .ok (.isub, 1) := by decide +kernel
theorem d_N_isPlace_8 : decode prog_8_method_3_code 8 = .ok (.invokestatic 63, 3) := by decide +kernel
theorem d_N_isPlace_11 : decode prog_8_method_3_code 11 = .ok (.ifCond .eq 21, 3) := by decide +kernel
theorem d_N_isPlace_14 : decode prog_8_method_3_code 14 = .ok (.iload_n 2, 1) := by decide +kernel
theorem d_N_isPlace_15 : decode prog_8_method_3_code 15 = .ok (.iconst 0, 1) := by decide +kernel
theorem d_N_isPlace_16 : decode prog_8_method_3_code 16 = .ok (.aload_n 0, 1) := by decide +kernel
theorem d_N_isPlace_17 : decode prog_8_method_3_code 17 = .ok (.getfield 60, 3) := by decide +kernel
theorem d_N_isPlace_20 : decode prog_8_method_3_code 20 = .ok (.iconst 1, 1) := by decide +kernel
theorem d_N_isPlace_21 : decode prog_8_method_3_code 21 = .ok (.isub, 1) := by decide +kernel
theorem d_N_isPlace_22 : decode prog_8_method_3_code 22 = .ok (.invokestatic 63, 3) := by decide +kernel
theorem d_N_isPlace_25 : decode prog_8_method_3_code 25 = .ok (.ifCond .eq 7, 3) := by decide +kernel
theorem d_N_isPlace_28 : decode prog_8_method_3_code 28 = .ok (.iconst 1, 1) := by decide +kernel
theorem d_N_isPlace_29 : decode prog_8_method_3_code 29 = .ok (.goto 4, 3) := by decide +kernel
theorem d_N_isPlace_32 : decode prog_8_method_3_code 32 = .ok (.iconst 0, 1) := by decide +kernel
theorem d_N_isPlace_33 : decode prog_8_method_3_code 33 = .ok (.ireturn, 1) := by decide +kernel
theorem d_N_get_0 : decode prog_8_method_4_code 0 = .ok (.aload_n 0, 1) := by decide +kernel
theorem d_N_get_1 : decode prog_8_method_4_code 1 = .ok (.getfield 13, 3) := by decide +kernel
theorem d_N_get_4 : decode prog_8_method_4_code 4 = .ok (.bipush 16, 2) := by decide +kernel
theorem d_N_get_6 : decode prog_8_method_4_code 6 = .ok (.iload_n 1, 1) := by decide +kernel
theorem d_N_get_7 : decode prog_8_method_4_code 7 = .ok (.imul, 1) := by decide +kernel
theorem d_N_get_8 : decode prog_8_method_4_code 8 = .ok (.iconst 4, 1) := by decide +kernel
theorem d_N_get_9 : decode prog_8_method_4_code 9 = .ok (.iload_n 2, 1) := by decide +kernel
theorem d_N_get_10 : decode prog_8_method_4_code 10 = .ok (.imul, 1) := by decide +kernel
theorem d_N_get_11 : decode prog_8_method_4_code 11 = .ok (.iadd, 1) := by decide +kernel
theorem d_N_get_12 : decode prog_8_method_4_code 12 = .ok (.iload_n 3, 1) := by decide +kernel
theorem d_N_get_13 : decode prog_8_method_4_code 13 = .ok (.iadd, 1) := by decide +kernel
theorem d_N_get_14 : decode prog_8_method_4_code 14 = .ok (.iaload, 1) := by decide +kernel
theorem d_N_get_15 : decode prog_8_method_4_code 15 = .ok (.ireturn, 1) := by decide +kernel
theorem d_N_put_0 : decode prog_8_method_5_code 0 = .ok (.aload_n 0, 1) := by decide +kernel
theorem d_N_put_1 : decode prog_8_method_5_code 1 = .ok (.getfield 13, 3) := by decide +kernel
theorem d_N_put_4 : decode prog_8_method_5_code 4 = .ok (.bipush 16, 2) := by decide +kernel
theorem d_N_put_6 : decode prog_8_method_5_code 6 = .ok (.iload_n 1, 1) := by decide +kernel
theorem d_N_put_7 : decode prog_8_method_5_code 7 = .ok (.imul, 1) := by decide +kernel
theorem d_N_put_8 : decode prog_8_method_5_code 8 = .ok (.iconst 4, 1) := by decide +kernel
theorem d_N_put_9 : decode prog_8_method_5_code 9 = .ok (.iload_n 2, 1) := by decide +kernel
theorem d_N_put_10 : decode prog_8_method_5_code 10 = .ok (.imul, 1) := by decide +kernel
theorem d_N_put_11 : decode prog_8_method_5_code 11 = .ok (.iadd, 1) := by decide +kernel
theorem d_N_put_12 : decode prog_8_method_5_code 12 = .ok (.iload_n 3, 1) := by decide +kernel
theorem d_N_put_13 : decode prog_8_method_5_code 13 = .ok (.iadd, 1) := by decide +kernel
theorem d_N_put_14 : decode prog_8_method_5_code 14 = .ok (.iload 4, 2) := by decide +kernel
theorem d_N_put_16 : decode prog_8_method_5_code 16 = .ok (.iastore, 1) := by decide +kernel
theorem d_N_put_17 : decode prog_8_method_5_code 17 = .ok (.return_, 1) := by decide +kernel
theorem d_N_mod_0 : decode prog_8_method_6_code 0 = .ok (.iload_n 1, 1) := by decide +kernel
theorem d_N_mod_1 : decode prog_8_method_6_code 1 = .ok (.aload_n 0, 1) := by decide +kernel
theorem d_N_mod_2 : decode prog_8_method_6_code 2 = .ok (.getfield 56, 3) := by decide +kernel
theorem d_N_mod_5 : decode prog_8_method_6_code 5 = .ok (.irem, 1) := by decide +kernel
theorem d_N_mod_6 : decode prog_8_method_6_code 6 = .ok (.istore_n 2, 1) := by decide +kernel
theorem d_N_mod_7 : decode prog_8_method_6_code 7 = .ok (.iload_n 2, 1) := by decide +kernel
theorem d_N_mod_8 : decode prog_8_method_6_code 8 = .ok (.ifCond .ge 12, 3) := by decide +kernel
theorem d_N_mod_11 : decode prog_8_method_6_code 11 = .ok (.iload_n 2, 1) := by decide +kernel
theorem d_N_mod_12 : decode prog_8_method_6_code 12 = .ok (.aload_n 0, 1) := by decide +kernel
theorem d_N_mod_13 : decode prog_8_method_6_code 13 = .ok (.getfield 56, 3) := by decide +kernel
theorem d_N_mod_16 : decode prog_8_method_6_code 16 = .ok (.iadd, 1) := by decide +kernel
theorem d_N_mod_17 : decode prog_8_method_6_code 17 = .ok (.goto 4, 3) := by decide +kernel
theorem d_N_mod_20 : decode prog_8_method_6_code 20 = .ok (.iload_n 2, 1) := by decide +kernel
theorem d_N_mod_21 : decode prog_8_method_6_code 21 = .ok (.ireturn, 1) := by decide +kernel
theorem d_N_copy_0 : decode prog_8_method_7_code 0 = .ok (.iconst 0, 1) := by decide +kernel
theorem d_N_copy_1 : decode prog_8_method_7_code 1 = .ok (.istore_n 3, 1) := by decide +kernel
theorem d_N_copy_2 : decode prog_8_method_7_code 2 = .ok (.iload_n 3, 1) := by decide +kernel
theorem d_N_copy_3 : decode prog_8_method_7_code 3 = .ok (.bipush 16, 2) := by decide +kernel
theorem d_N_copy_5 : decode prog_8_method_7_code 5 = .ok (.if_icmp .ge 31, 3) := by decide +kernel
theorem d_N_copy_8 : decode prog_8_method_7_code 8 = .ok (.aload_n 0, 1) := by decide +kernel
theorem d_N_copy_9 : decode prog_8_method_7_code 9 = .ok (.getfield 13, 3) := by decide +kernel
theorem d_N_copy_12 : decode prog_8_method_7_code 12 = .ok (.bipush 16, 2) := by decide +kernel
theorem d_N_copy_14 : decode prog_8_method_7_code 14 = .ok (.iload_n 2, 1) := by decide +kernel
theorem d_N_copy_15 : decode prog_8_method_7_code 15 = .ok (.imul, 1) := by decide +kernel
theorem d_N_copy_16 : decode prog_8_method_7_code 16 = .ok (.iload_n 3, 1) := by decide +kernel
theorem d_N_copy_17 : decode prog_8_method_7_code 17 = .ok (.iadd, 1) := by decide +kernel
theorem d_N_copy_18 : decode prog_8_method_7_code 18 = .ok (.aload_n 0, 1) := by decide +kernel
theorem d_N_copy_19 : decode prog_8_method_7_code 19 = .ok (.getfield 13, 3) := by decide +kernel
theorem d_N_copy_22 : decode prog_8_method_7_code 22 = .ok (.bipush 16, 2) := by decide +kernel
theorem d_N_copy_24 : decode prog_8_method_7_code 24 = .ok (.iload_n 1, 1) := by decide +kernel
theorem d_N_copy_25 : decode prog_8_method_7_code 25 = .ok (.imul, 1) := by decide +kernel
theorem d_N_copy_26 : decode prog_8_method_7_code 26 = .ok (.iload_n 3, 1) := by decide +kernel
theorem d_N_copy_27 : decode prog_8_method_7_code 27 = .ok (.iadd, 1) := by decide +kernel
theorem d_N_copy_28 : decode prog_8_method_7_code 28 = .ok (.iaload, 1) := by decide +kernel
theorem d_N_copy_29 : decode prog_8_method_7_code 29 = .ok (.iastore, 1) := by decide +kernel
theorem d_N_copy_30 : decode prog_8_method_7_code 30 = .ok (.iinc 3 1, 3) := by decide +kernel
theorem d_N_copy_33 : decode prog_8_method_7_code 33 = .ok (.goto (-31), 3) := by decide +kernel
theorem d_N_copy_36 : decode prog_8_method_7_code 36 = .ok (.return_, 1) := by decide +kernel
theorem d_N_operate_0 : decode prog_8_method_8_code 0 = .ok (.iconst 0, 1) := by decide +kernel
theorem d_N_operate_1 : decode prog_8_method_8_code 1 = .ok (.istore 6, 2) := by decide +kernel
theorem d_N_operate_3 : decode prog_8_method_8_code 3 = .ok (.iload 6, 2) := by decide +kernel
theorem d_N_operate_5 : decode prog_8_method_8_code 5 = .ok (.aload_n 0, 1) := by decide +kernel
theorem d_N_operate_6 : decode prog_8_method_8_code 6 = .ok (.getfield 60, 3) := by decide +kernel
theorem d_N_operate_9 : decode prog_8_method_8_code 9 = .ok (.if_icmp .ge 217, 3) := by decide +kernel
theorem d_N_operate_12 : decode prog_8_method_8_code 12 = .ok (.iconst 0, 1) := by decide +kernel
theorem d_N_operate_13 : decode prog_8_method_8_code 13 = .ok (.istore 7, 2) := by decide +kernel
theorem d_N_operate_15 : decode prog_8_method_8_code 15 = .ok (.iload 7, 2) := by decide +kernel
theorem d_N_operate_17 : decode prog_8_method_8_code 17 = .ok (.aload_n 0, 1) := by decide +kernel
theorem d_N_operate_18 : decode prog_8_method_8_code 18 = .ok (.getfield 60, 3) := by decide +kernel
theorem d_N_operate_21 : decode prog_8_method_8_code 21 = .ok (.if_icmp .ge 199, 3) := by decide +kernel
theorem d_N_operate_24 : decode prog_8_method_8_code 24 = .ok (.iconst 0, 1) := by decide +kernel
theorem d_N_operate_25 : decode prog_8_method_8_code 25 = .ok (.istore 8, 2) := by decide +kernel
theorem d_N_operate_27 : decode prog_8_method_8_code 27 = .ok (.iload_n 1, 1) := by decide +kernel
theorem d_N_operate_28 : decode prog_8_method_8_code 28 = .ok (.ifCond .ne 15, 3) := by decide +kernel
theorem d_N_operate_31 : decode prog_8_method_8_code 31 = .ok (.aload_n 0, 1) := by decide +kernel
theorem d_N_operate_32 : decode prog_8_method_8_code 32 = .ok (.iload 4, 2) := by decide +kernel
theorem d_N_operate_34 : decode prog_8_method_8_code 34 = .ok (.iload 6, 2) := by decide +kernel
theorem d_N_operate_36 : decode prog_8_method_8_code 36 = .ok (.iload 7, 2) := by decide +kernel
theorem d_N_operate_38 : decode prog_8_method_8_code 38 = .ok (.invokevirtual 67, 3) := by decide +kernel
theorem d_N_operate_41 : decode prog_8_method_8_code 41 = .ok (.istore 8, 2) := by decide +kernel
theorem d_N_operate_43 : decode prog_8_method_8_code 43 = .ok (.iload_n 1, 1) := by decide +kernel
theorem d_N_operate_44 : decode prog_8_method_8_code 44 = .ok (.iconst 1, 1) := by decide +kernel
theorem d_N_operate_45 : decode prog_8_method_8_code 45 = .ok (.if_icmp .ne 17, 3) := by decide +kernel
theorem d_N_operate_48 : decode prog_8_method_8_code 48 = .ok (.iload 6, 2) := by decide +kernel
theorem d_N_operate_50 : decode prog_8_method_8_code 50 = .ok (.iload 7, 2) := by decide +kernel
theorem d_N_operate_52 : decode prog_8_method_8_code 52 = .ok (.if_icmp .ne 7, 3) := by decide +kernel
theorem d_N_operate_55 : decode prog_8_method_8_code 55 = .ok (.iconst 1, 1) := by decide +kernel
theorem d_N_operate_56 : decode prog_8_method_8_code 56 = .ok (.goto 4, 3) := by decide +kernel
theorem d_N_operate_59 : decode prog_8_method_8_code 59 = .ok (.iconst 0, 1) := by decide +kernel
theorem d_N_operate_60 : decode prog_8_method_8_code 60 = .ok (.istore 8, 2) := by decide +kernel
theorem d_N_operate_62 : decode prog_8_method_8_code 62 = .ok (.iload_n 1, 1) := by decide +kernel
theorem d_N_operate_63 : decode prog_8_method_8_code 63 = .ok (.iconst 3, 1) := by decide +kernel
theorem d_N_operate_64 : decode prog_8_method_8_code 64 = .ok (.if_icmp .ne 24, 3) := by decide +kernel
theorem d_N_operate_67 : decode prog_8_method_8_code 67 = .ok (.aload_n 0, 1) := by decide +kernel
theorem d_N_operate_68 : decode prog_8_method_8_code 68 = .ok (.iload_n 2, 1) := by decide +kernel
theorem d_N_operate_69 : decode prog_8_method_8_code 69 = .ok (.iload 6, 2) := by decide +kernel
theorem d_N_operate_71 : decode prog_8_method_8_code 71 = .ok (.iload 7, 2) := by decide +kernel
theorem d_N_operate_73 : decode prog_8_method_8_code 73 = .ok (.invokevirtual 67, 3) := by decide +kernel
theorem d_N_operate_76 : decode prog_8_method_8_code 76 = .ok (.aload_n 0, 1) := by decide +kernel
theorem d_N_operate_77 : decode prog_8_method_8_code 77 = .ok (.iload_n 3, 1) := by decide +kernel
theorem d_N_operate_78 : decode prog_8_method_8_code 78 = .ok (.iload 6, 2) := by decide +kernel
theorem d_N_operate_80 : decode prog_8_method_8_code 80 = .ok (.iload 7, 2) := by decide +kernel
theorem d_N_operate_82 : decode prog_8_method_8_code 82 = .ok (.invokevirtual 67, 3) := by decide +kernel
theorem d_N_operate_85 : decode prog_8_method_8_code 85 = .ok (.iadd, 1) := by decide +kernel
theorem d_N_operate_86 : decode prog_8_method_8_code 86 = .ok (.istore 8, 2) := by decide +kernel
theorem d_N_operate_88 : decode prog_8_method_8_code 88 = .ok (.iload_n 1, 1) := by decide +kernel
theorem d_N_operate_89 : decode prog_8_method_8_code 89 = .ok (.iconst 4, 1) := by decide +kernel
theorem d_N_operate_90 : decode prog_8_method_8_code 90 = .ok (.if_icmp .ne 24, 3) := by decide +kernel
theorem d_N_operate_93 : decode prog_8_method_8_code 93 = .ok (.aload_n 0, 1) := by decide +kernel
theorem d_N_operate_94 : decode prog_8_method_8_code 94 = .ok (.iload_n 2, 1) := by decide +kernel
theorem d_N_operate_95 : decode prog_8_method_8_code 95 = .ok (.iload 6, 2) := by decide +kernel
theorem d_N_operate_97 : decode prog_8_method_8_code 97 = .ok (.iload 7, 2) := by decide +kernel
theorem d_N_operate_99 : decode prog_8_method_8_code 99 = .ok (.invokevirtual 67, 3) := by decide +kernel
theorem d_N_operate_102 : decode prog_8_method_8_code 102 = .ok (.aload_n 0, 1) := by decide +kernel
theorem d_N_operate_103 : decode prog_8_method_8_code 103 = .ok (.iload_n 3, 1) := by decide +kernel
theorem d_N_operate_104 : decode prog_8_method_8_code 104 = .ok (.iload 6, 2) := by decide +kernel
theorem d_N_operate_106 : decode prog_8_method_8_code 106 = .ok (.iload 7, 2) := by decide +kernel
theorem d_N_operate_108 : decode prog_8_method_8_code 108 = .ok (.invokevirtual 67, 3) := by decide +kernel
theorem d_N_operate_111 : decode prog_8_method_8_code 111 = .ok (.isub, 1) := by decide +kernel
theorem d_N_operate_112 : decode prog_8_method_8_code 112 = .ok (.istore 8, 2) := by decide +kernel
theorem d_N_operate_114 : decode prog_8_method_8_code 114 = .ok (.iload_n 1, 1) := by decide +kernel
theorem d_N_operate_115 : decode prog_8_method_8_code 115 = .ok (.bipush 6, 2) := by decide +kernel
theorem d_N_operate_117 : decode prog_8_method_8_code 117 = .ok (.if_icmp .ne 14, 3) := by decide +kernel
theorem d_N_operate_120 : decode prog_8_method_8_code 120 = .ok (.aload_n 0, 1) := by decide +kernel
theorem d_N_operate_121 : decode prog_8_method_8_code 121 = .ok (.iload_n 2, 1) := by decide +kernel
theorem d_N_operate_122 : decode prog_8_method_8_code 122 = .ok (.iload 7, 2) := by decide +kernel
theorem d_N_operate_124 : decode prog_8_method_8_code 124 = .ok (.iload 6, 2) := by decide +kernel
theorem d_N_operate_126 : decode prog_8_method_8_code 126 = .ok (.invokevirtual 67, 3) := by decide +kernel
theorem d_N_operate_129 : decode prog_8_method_8_code 129 = .ok (.istore 8, 2) := by decide +kernel
theorem d_N_operate_131 : decode prog_8_method_8_code 131 = .ok (.iload_n 1, 1) := by decide +kernel
theorem d_N_operate_132 : decode prog_8_method_8_code 132 = .ok (.bipush 7, 2) := by decide +kernel
theorem d_N_operate_134 : decode prog_8_method_8_code 134 = .ok (.if_icmp .ne 17, 3) := by decide +kernel
theorem d_N_operate_137 : decode prog_8_method_8_code 137 = .ok (.iload 4, 2) := by decide +kernel
theorem d_N_operate_139 : decode prog_8_method_8_code 139 = .ok (.aload_n 0, 1) := by decide +kernel
theorem d_N_operate_140 : decode prog_8_method_8_code 140 = .ok (.iload_n 2, 1) := by decide +kernel
theorem d_N_operate_141 : decode prog_8_method_8_code 141 = .ok (.iload 6, 2) := by decide +kernel
theorem d_N_operate_143 : decode prog_8_method_8_code 143 = .ok (.iload 7, 2) := by decide +kernel
theorem d_N_operate_145 : decode prog_8_method_8_code 145 = .ok (.invokevirtual 67, 3) := by decide +kernel
theorem d_N_operate_148 : decode prog_8_method_8_code 148 = .ok (.imul, 1) := by decide +kernel
theorem d_N_operate_149 : decode prog_8_method_8_code 149 = .ok (.istore 8, 2) := by decide +kernel
theorem d_N_operate_151 : decode prog_8_method_8_code 151 = .ok (.iconst 0, 1) := by decide +kernel
theorem d_N_operate_152 : decode prog_8_method_8_code 152 = .ok (.istore 9, 2) := by decide +kernel
theorem d_N_operate_154 : decode prog_8_method_8_code 154 = .ok (.iload 9, 2) := by decide +kernel
theorem d_N_operate_156 : decode prog_8_method_8_code 156 = .ok (.aload_n 0, 1) := by decide +kernel
theorem d_N_operate_157 : decode prog_8_method_8_code 157 = .ok (.getfield 60, 3) := by decide +kernel
theorem d_N_operate_160 : decode prog_8_method_8_code 160 = .ok (.if_icmp .ge 38, 3) := by decide +kernel
theorem d_N_operate_163 : decode prog_8_method_8_code 163 = .ok (.iload_n 1, 1) := by decide +kernel
theorem d_N_operate_164 : decode prog_8_method_8_code 164 = .ok (.iconst 5, 1) := by decide +kernel
theorem d_N_operate_165 : decode prog_8_method_8_code 165 = .ok (.if_icmp .ne 33, 3) := by decide +kernel
theorem d_N_operate_168 : decode prog_8_method_8_code 168 = .ok (.iload 8, 2) := by decide +kernel
theorem d_N_operate_170 : decode prog_8_method_8_code 170 = .ok (.aload_n 0, 1) := by decide +kernel
theorem d_N_operate_171 : decode prog_8_method_8_code 171 = .ok (.iload_n 2, 1) := by decide +kernel
theorem d_N_operate_172 : decode prog_8_method_8_code 172 = .ok (.iload 6, 2) := by decide +kernel
theorem d_N_operate_174 : decode prog_8_method_8_code 174 = .ok (.iload 9, 2) := by decide +kernel
theorem d_N_operate_176 : decode prog_8_method_8_code 176 = .ok (.invokevirtual 67, 3) := by decide +kernel
theorem d_N_operate_179 : decode prog_8_method_8_code 179 = .ok (.aload_n 0, 1) := by decide +kernel
theorem d_N_operate_180 : decode prog_8_method_8_code 180 = .ok (.iload_n 3, 1) := by decide +kernel
theorem d_N_operate_181 : decode prog_8_method_8_code 181 = .ok (.iload 9, 2) := by decide +kernel
theorem d_N_operate_183 : decode prog_8_method_8_code 183 = .ok (.iload 7, 2) := by decide +kernel
theorem d_N_operate_185 : decode prog_8_method_8_code 185 = .ok (.invokevirtual 67, 3) := by decide +kernel
theorem d_N_operate_188 : decode prog_8_method_8_code 188 = .ok (.imul, 1) := by decide +kernel
theorem d_N_operate_189 : decode prog_8_method_8_code 189 = .ok (.iadd, 1) := by decide +kernel
theorem d_N_operate_190 : decode prog_8_method_8_code 190 = .ok (.istore 8, 2) := by decide +kernel
theorem d_N_operate_192 : decode prog_8_method_8_code 192 = .ok (.iinc 9 1, 3) := by decide +kernel
theorem d_N_operate_195 : decode prog_8_method_8_code 195 = .ok (.goto (-41), 3) := by decide +kernel
theorem d_N_operate_198 : decode prog_8_method_8_code 198 = .ok (.aload_n 0, 1) := by decide +kernel
theorem d_N_operate_199 : decode prog_8_method_8_code 199 = .ok (.bipush 29, 2) := by decide +kernel
theorem d_N_operate_201 : decode prog_8_method_8_code 201 = .ok (.iload 6, 2) := by decide +kernel
theorem d_N_operate_203 : decode prog_8_method_8_code 203 = .ok (.iload 7, 2) := by decide +kernel
theorem d_N_operate_205 : decode prog_8_method_8_code 205 = .ok (.aload_n 0, 1) := by decide +kernel
theorem d_N_operate_206 : decode prog_8_method_8_code 206 = .ok (.iload 8, 2) := by decide +kernel
theorem d_N_operate_208 : decode prog_8_method_8_code 208 = .ok (.invokevirtual 71, 3) := by decide +kernel
theorem d_N_operate_211 : decode prog_8_method_8_code 211 = .ok (.invokevirtual 75, 3) := by decide +kernel
theorem d_N_operate_214 : decode prog_8_method_8_code 214 = .ok (.iinc 7 1, 3) := by decide +kernel
theorem d_N_operate_217 : decode prog_8_method_8_code 217 = .ok (.goto (-202), 3) := by decide +kernel
theorem d_N_operate_220 : decode prog_8_method_8_code 220 = .ok (.iinc 6 1, 3) := by decide +kernel
theorem d_N_operate_223 : decode prog_8_method_8_code 223 = .ok (.goto (-220), 3) := by decide +kernel
theorem d_N_operate_226 : decode prog_8_method_8_code 226 = .ok (.aload_n 0, 1) := by decide +kernel
theorem d_N_operate_227 : decode prog_8_method_8_code 227 = .ok (.bipush 29, 2) := by decide +kernel
theorem d_N_operate_229 : decode prog_8_method_8_code 229 = .ok (.iload 5, 2) := by decide +kernel
theorem d_N_operate_231 : decode prog_8_method_8_code 231 = .ok (.invokevirtual 79, 3) := by decide +kernel
theorem d_N_operate_234 : decode prog_8_method_8_code 234 = .ok (.return_, 1) := by decide +kernel
theorem d_N_raise_0 : decode prog_8_method_9_code 0 = .ok (.aload_n 0, 1) := by decide +kernel
theorem d_N_raise_1 : decode prog_8_method_9_code 1 = .ok (.iload_n 1, 1) := by decide +kernel
theorem d_N_raise_2 : decode prog_8_method_9_code 2 = .ok (.bipush 30, 2) := by decide +kernel
theorem d_N_raise_4 : decode prog_8_method_9_code 4 = .ok (.invokevirtual 79, 3) := by decide +kernel
theorem d_N_raise_7 : decode prog_8_method_9_code 7 = .ok (.aload_n 0, 1) := by decide +kernel
theorem d_N_raise_8 : decode prog_8_method_9_code 8 = .ok (.iconst 1, 1) := by decide +kernel
theorem d_N_raise_9 : decode prog_8_method_9_code 9 = .ok (.iconst 0, 1) := by decide +kernel
theorem d_N_raise_10 : decode prog_8_method_9_code 10 = .ok (.iconst 0, 1) := by decide +kernel
theorem d_N_raise_11 : decode prog_8_method_9_code 11 = .ok (.iconst 0, 1) := by decide +kernel
theorem d_N_raise_12 : decode prog_8_method_9_code 12 = .ok (.iload_n 1, 1) := by decide +kernel
theorem d_N_raise_13 : decode prog_8_method_9_code 13 = .ok (.invokevirtual 83, 3) := by decide +kernel
theorem d_N_raise_16 : decode prog_8_method_9_code 16 = .ok (.iload_n 2, 1) := by decide +kernel
theorem d_N_raise_17 : decode prog_8_method_9_code 17 = .ok (.istore_n 3, 1) := by decide +kernel
theorem d_N_raise_18 : decode prog_8_method_9_code 18 = .ok (.iload_n 3, 1) := by decide +kernel
theorem d_N_raise_19 : decode prog_8_method_9_code 19 = .ok (.ifCond .le 39, 3) := by decide +kernel
theorem d_N_raise_22 : decode prog_8_method_9_code 22 = .ok (.iload_n 3, 1) := by decide +kernel
theorem d_N_raise_23 : decode prog_8_method_9_code 23 = .ok (.iconst 2, 1) := by decide +kernel
theorem d_N_raise_24 : decode prog_8_method_9_code 24 = .ok (.irem, 1) := by decide +kernel
theorem d_N_raise_25 : decode prog_8_method_9_code 25 = .ok (.iconst 1, 1) := by decide +kernel
theorem d_N_raise_26 : decode prog_8_method_9_code 26 = .ok (.if_icmp .ne 13, 3) := by decide +kernel
theorem d_N_raise_29 : decode prog_8_method_9_code 29 = .ok (.aload_n 0, 1) := by decide +kernel
theorem d_N_raise_30 : decode prog_8_method_9_code 30 = .ok (.iconst 5, 1) := by decide +kernel
theorem d_N_raise_31 : decode prog_8_method_9_code 31 = .ok (.iload_n 1, 1) := by decide +kernel
theorem d_N_raise_32 : decode prog_8_method_9_code 32 = .ok (.bipush 30, 2) := by decide +kernel
theorem d_N_raise_34 : decode prog_8_method_9_code 34 = .ok (.iconst 0, 1) := by decide +kernel
theorem d_N_raise_35 : decode prog_8_method_9_code 35 = .ok (.iload_n 1, 1) := by decide +kernel
theorem d_N_raise_36 : decode prog_8_method_9_code 36 = .ok (.invokevirtual 83, 3) := by decide +kernel
theorem d_N_raise_39 : decode prog_8_method_9_code 39 = .ok (.aload_n 0, 1) := by decide +kernel
theorem d_N_raise_40 : decode prog_8_method_9_code 40 = .ok (.iconst 5, 1) := by decide +kernel
theorem d_N_raise_41 : decode prog_8_method_9_code 41 = .ok (.bipush 30, 2) := by decide +kernel
theorem d_N_raise_43 : decode prog_8_method_9_code 43 = .ok (.bipush 30, 2) := by decide +kernel
theorem d_N_raise_45 : decode prog_8_method_9_code 45 = .ok (.iconst 0, 1) := by decide +kernel
theorem d_N_raise_46 : decode prog_8_method_9_code 46 = .ok (.bipush 30, 2) := by decide +kernel
theorem d_N_raise_48 : decode prog_8_method_9_code 48 = .ok (.invokevirtual 83, 3) := by decide +kernel
theorem d_N_raise_51 : decode prog_8_method_9_code 51 = .ok (.iload_n 3, 1) := by decide +kernel
theorem d_N_raise_52 : decode prog_8_method_9_code 52 = .ok (.iconst 2, 1) := by decide +kernel
theorem d_N_raise_53 : decode prog_8_method_9_code 53 = .ok (.idiv, 1) := by decide +kernel
theorem d_N_raise_54 : decode prog_8_method_9_code 54 = .ok (.istore_n 3, 1) := by decide +kernel
theorem d_N_raise_55 : decode prog_8_method_9_code 55 = .ok (.goto (-37), 3) := by decide +kernel
theorem d_N_raise_58 : decode prog_8_method_9_code 58 = .ok (.return_, 1) := by decide +kernel
theorem d_N_feed_0 : decode prog_8_method_10_code 0 = .ok (.aload_n 0, 1) := by decide +kernel
theorem d_N_feed_1 : decode prog_8_method_10_code 1 = .ok (.getfield 87, 3) := by decide +kernel
theorem d_N_feed_4 : decode prog_8_method_10_code 4 = .ok (.bipush 24, 2) := by decide +kernel
theorem d_N_feed_6 : decode prog_8_method_10_code 6 = .ok (.if_icmp .ge 10, 3) := by decide +kernel
theorem d_N_feed_9 : decode prog_8_method_10_code 9 = .ok (.aload_n 0, 1) := by decide +kernel
theorem d_N_feed_10 : decode prog_8_method_10_code 10 = .ok (.getfield 90, 3) := by decide +kernel
theorem d_N_feed_13 : decode prog_8_method_10_code 13 = .ok (.ifCond .eq 5, 3) := by decide +kernel
theorem d_N_feed_16 : decode prog_8_method_10_code 16 = .ok (.iconst 1, 1) := by decide +kernel
theorem d_N_feed_17 : decode prog_8_method_10_code 17 = .ok (.ireturn, 1) := by decide +kernel
theorem d_N_feed_18 : decode prog_8_method_10_code 18 = .ok (.aload_n 0, 1) := by decide +kernel
theorem d_N_feed_19 : decode prog_8_method_10_code 19 = .ok (.getfield 7, 3) := by decide +kernel
theorem d_N_feed_22 : decode prog_8_method_10_code 22 = .ok (.aload_n 0, 1) := by decide +kernel
theorem d_N_feed_23 : decode prog_8_method_10_code 23 = .ok (.getfield 87, 3) := by decide +kernel
theorem d_N_feed_26 : decode prog_8_method_10_code 26 = .ok (.iload_n 1, 1) := by decide +kernel
theorem d_N_feed_27 : decode prog_8_method_10_code 27 = .ok (.iastore, 1) := by decide +kernel
theorem d_N_feed_28 : decode prog_8_method_10_code 28 = .ok (.aload_n 0, 1) := by decide +kernel
theorem d_N_feed_29 : decode prog_8_method_10_code 29 = .ok (.aload_n 0, 1) := by decide +kernel
theorem d_N_feed_30 : decode prog_8_method_10_code 30 = .ok (.getfield 87, 3) := by decide +kernel
theorem d_N_feed_33 : decode prog_8_method_10_code 33 = .ok (.iconst 1, 1) := by decide +kernel
theorem d_N_feed_34 : decode prog_8_method_10_code 34 = .ok (.iadd, 1) := by decide +kernel
theorem d_N_feed_35 : decode prog_8_method_10_code 35 = .ok (.putfield 87, 3) := by decide +kernel
theorem d_N_feed_38 : decode prog_8_method_10_code 38 = .ok (.iconst 0, 1) := by decide +kernel
theorem d_N_feed_39 : decode prog_8_method_10_code 39 = .ok (.ireturn, 1) := by decide +kernel
theorem d_N_setInput_0 : decode prog_8_method_11_code 0 = .ok (.iload_n 1, 1) := by decide +kernel
theorem d_N_setInput_1 : decode prog_8_method_11_code 1 = .ok (.iconst 0, 1) := by decide +kernel
theorem d_N_setInput_2 : decode prog_8_method_11_code 2 = .ok (.iconst 3, 1) := by decide +kernel
theorem d_N_setInput_3 : decode prog_8_method_11_code 3 = .ok (.invokestatic 63, 3) := by decide +kernel
theorem d_N_setInput_6 : decode prog_8_method_11_code 6 = .ok (.ifCond .eq 12, 3) := by decide +kernel
theorem d_N_setInput_9 : decode prog_8_method_11_code 9 = .ok (.aload_n 0, 1) := by decide +kernel
theorem d_N_setInput_10 : decode prog_8_method_11_code 10 = .ok (.iload_n 2, 1) := by decide +kernel
theorem d_N_setInput_11 : decode prog_8_method_11_code 11 = .ok (.iload_n 3, 1) := by decide +kernel
theorem d_N_setInput_12 : decode prog_8_method_11_code 12 = .ok (.invokevirtual 94, 3) := by decide +kernel
theorem d_N_setInput_15 : decode prog_8_method_11_code 15 = .ok (.ifCond .ne 5, 3) := by decide +kernel
theorem d_N_setInput_18 : decode prog_8_method_11_code 18 = .ok (.iconst 2, 1) := by decide +kernel
theorem d_N_setInput_19 : decode prog_8_method_11_code 19 = .ok (.ireturn, 1) := by decide +kernel
theorem d_N_setInput_20 : decode prog_8_method_11_code 20 = .ok (.aload_n 0, 1) := by decide +kernel
theorem d_N_setInput_21 : decode prog_8_method_11_code 21 = .ok (.iload_n 1, 1) := by decide +kernel
theorem d_N_setInput_22 : decode prog_8_method_11_code 22 = .ok (.iload_n 2, 1) := by decide +kernel
theorem d_N_setInput_23 : decode prog_8_method_11_code 23 = .ok (.iload_n 3, 1) := by decide +kernel
theorem d_N_setInput_24 : decode prog_8_method_11_code 24 = .ok (.aload_n 0, 1) := by decide +kernel
theorem d_N_setInput_25 : decode prog_8_method_11_code 25 = .ok (.iload 4, 2) := by decide +kernel
theorem d_N_setInput_27 : decode prog_8_method_11_code 27 = .ok (.invokevirtual 71, 3) := by decide +kernel
theorem d_N_setInput_30 : decode prog_8_method_11_code 30 = .ok (.invokevirtual 75, 3) := by decide +kernel
theorem d_N_setInput_33 : decode prog_8_method_11_code 33 = .ok (.aload_n 0, 1) := by decide +kernel
theorem d_N_setInput_34 : decode prog_8_method_11_code 34 = .ok (.iconst 0, 1) := by decide +kernel
theorem d_N_setInput_35 : decode prog_8_method_11_code 35 = .ok (.putfield 98, 3) := by decide +kernel
theorem d_N_setInput_38 : decode prog_8_method_11_code 38 = .ok (.iconst 0, 1) := by decide +kernel
theorem d_N_setInput_39 : decode prog_8_method_11_code 39 = .ok (.ireturn, 1) := by decide +kernel
theorem d_N_isTwo_0 : decode prog_8_method_12_code 0 = .ok (.iload_n 0, 1) := by decide +kernel
theorem d_N_isTwo_1 : decode prog_8_method_12_code 1 = .ok (.iconst 3, 1) := by decide +kernel
theorem d_N_isTwo_2 : decode prog_8_method_12_code 2 = .ok (.iconst 5, 1) := by decide +kernel
theorem d_N_isTwo_3 : decode prog_8_method_12_code 3 = .ok (.invokestatic 63, 3) := by decide +kernel
theorem d_N_isTwo_6 : decode prog_8_method_12_code 6 = .ok (.ireturn, 1) := by decide +kernel
theorem d_N_isOne_0 : decode prog_8_method_13_code 0 = .ok (.iload_n 0, 1) := by decide +kernel
theorem d_N_isOne_1 : decode prog_8_method_13_code 1 = .ok (.bipush 6, 2) := by decide +kernel
theorem d_N_isOne_3 : decode prog_8_method_13_code 3 = .ok (.bipush 8, 2) := by decide +kernel
theorem d_N_isOne_5 : decode prog_8_method_13_code 5 = .ok (.invokestatic 63, 3) := by decide +kernel
theorem d_N_isOne_8 : decode prog_8_method_13_code 8 = .ok (.ireturn, 1) := by decide +kernel
theorem d_N_isWord_0 : decode prog_8_method_14_code 0 = .ok (.iload_n 0, 1) := by decide +kernel
theorem d_N_isWord_1 : decode prog_8_method_14_code 1 = .ok (.bipush 100, 2) := by decide +kernel
theorem d_N_isWord_3 : decode prog_8_method_14_code 3 = .ok (.idiv, 1) := by decide +kernel
theorem d_N_isWord_4 : decode prog_8_method_14_code 4 = .ok (.istore_n 1, 1) := by decide +kernel
theorem d_N_isWord_5 : decode prog_8_method_14_code 5 = .ok (.iload_n 0, 1) := by decide +kernel
theorem d_N_isWord_6 : decode prog_8_method_14_code 6 = .ok (.bipush 100, 2) := by decide +kernel
theorem d_N_isWord_8 : decode prog_8_method_14_code 8 = .ok (.irem, 1) := by decide +kernel
theorem d_N_isWord_9 : decode prog_8_method_14_code 9 = .ok (.istore_n 2, 1) := by decide +kernel
theorem d_N_isWord_10 : decode prog_8_method_14_code 10 = .ok (.iload_n 0, 1) := by decide +kernel
theorem d_N_isWord_11 : decode prog_8_method_14_code 11 = .ok (.iconst 0, 1) := by decide +kernel
theorem d_N_isWord_12 : decode prog_8_method_14_code 12 = .ok (.sipush 899, 3) := by decide +kernel
theorem d_N_isWord_15 : decode prog_8_method_14_code 15 = .ok (.invokestatic 63, 3) := by decide +kernel
theorem d_N_isWord_18 : decode prog_8_method_14_code 18 = .ok (.ifCond .eq 35, 3) := by decide +kernel
theorem d_N_isWord_21 : decode prog_8_method_14_code 21 = .ok (.iload_n 1, 1) := by decide +kernel
theorem d_N_isWord_22 : decode prog_8_method_14_code 22 = .ok (.bipush 7, 2) := by decide +kernel
theorem d_N_isWord_24 : decode prog_8_method_14_code 24 = .ok (.if_icmp .eq 25, 3) := by decide +kernel
theorem d_N_isWord_27 : decode prog_8_method_14_code 27 = .ok (.iload_n 1, 1) := by decide +kernel
theorem d_N_isWord_28 : decode prog_8_method_14_code 28 = .ok (.bipush 8, 2) := by decide +kernel
theorem d_N_isWord_30 : decode prog_8_method_14_code 30 = .ok (.if_icmp .eq 19, 3) := by decide +kernel
theorem d_N_isWord_33 : decode prog_8_method_14_code 33 = .ok (.iload_n 1, 1) := by decide +kernel
theorem d_N_isWord_34 : decode prog_8_method_14_code 34 = .ok (.ifCond .ne 11, 3) := by decide +kernel
theorem d_N_isWord_37 : decode prog_8_method_14_code 37 = .ok (.iload_n 2, 1) := by decide +kernel
theorem d_N_isWord_38 : decode prog_8_method_14_code 38 = .ok (.iconst 4, 1) := by decide +kernel
theorem d_N_isWord_39 : decode prog_8_method_14_code 39 = .ok (.if_icmp .ge 14, 3) := by decide +kernel
theorem d_N_isWord_42 : decode prog_8_method_14_code 42 = .ok (.goto 7, 3) := by decide +kernel
theorem d_N_isWord_45 : decode prog_8_method_14_code 45 = .ok (.iload_n 2, 1) := by decide +kernel
theorem d_N_isWord_46 : decode prog_8_method_14_code 46 = .ok (.ifCond .ne 7, 3) := by decide +kernel
theorem d_N_isWord_49 : decode prog_8_method_14_code 49 = .ok (.iconst 1, 1) := by decide +kernel
theorem d_N_isWord_50 : decode prog_8_method_14_code 50 = .ok (.goto 4, 3) := by decide +kernel
theorem d_N_isWord_53 : decode prog_8_method_14_code 53 = .ok (.iconst 0, 1) := by decide +kernel
theorem d_N_isWord_54 : decode prog_8_method_14_code 54 = .ok (.ireturn, 1) := by decide +kernel
theorem d_N_fault_0 : decode prog_8_method_15_code 0 = .ok (.iconst 0, 1) := by decide +kernel
theorem d_N_fault_1 : decode prog_8_method_15_code 1 = .ok (.istore_n 1, 1) := by decide +kernel
theorem d_N_fault_2 : decode prog_8_method_15_code 2 = .ok (.iconst 0, 1) := by decide +kernel
theorem d_N_fault_3 : decode prog_8_method_15_code 3 = .ok (.istore_n 2, 1) := by decide +kernel
theorem d_N_fault_4 : decode prog_8_method_15_code 4 = .ok (.iload_n 2, 1) := by decide +kernel
theorem d_N_fault_5 : decode prog_8_method_15_code 5 = .ok (.aload_n 0, 1) := by decide +kernel
theorem d_N_fault_6 : decode prog_8_method_15_code 6 = .ok (.getfield 87, 3) := by decide +kernel
theorem d_N_fault_9 : decode prog_8_method_15_code 9 = .ok (.if_icmp .ge 73, 3) := by decide +kernel
theorem d_N_fault_12 : decode prog_8_method_15_code 12 = .ok (.aload_n 0, 1) := by decide +kernel
theorem d_N_fault_13 : decode prog_8_method_15_code 13 = .ok (.getfield 7, 3) := by decide +kernel
theorem d_N_fault_16 : decode prog_8_method_15_code 16 = .ok (.iload_n 2, 1) := by decide +kernel
theorem d_N_fault_17 : decode prog_8_method_15_code 17 = .ok (.iaload, 1) := by decide +kernel
theorem d_N_fault_18 : decode prog_8_method_15_code 18 = .ok (.invokestatic 101, 3) := by decide +kernel
theorem d_N_fault_21 : decode prog_8_method_15_code 21 = .ok (.ifCond .ne 5, 3) := by decide +kernel
theorem d_N_fault_24 : decode prog_8_method_15_code 24 = .ok (.iconst 3, 1) := by decide +kernel
theorem d_N_fault_25 : decode prog_8_method_15_code 25 = .ok (.ireturn, 1) := by decide +kernel
theorem d_N_fault_26 : decode prog_8_method_15_code 26 = .ok (.aload_n 0, 1) := by decide +kernel
theorem d_N_fault_27 : decode prog_8_method_15_code 27 = .ok (.getfield 7, 3) := by decide +kernel
theorem d_N_fault_30 : decode prog_8_method_15_code 30 = .ok (.iload_n 2, 1) := by decide +kernel
theorem d_N_fault_31 : decode prog_8_method_15_code 31 = .ok (.iaload, 1) := by decide +kernel
theorem d_N_fault_32 : decode prog_8_method_15_code 32 = .ok (.bipush 100, 2) := by decide +kernel
theorem d_N_fault_34 : decode prog_8_method_15_code 34 = .ok (.idiv, 1) := by decide +kernel
theorem d_N_fault_35 : decode prog_8_method_15_code 35 = .ok (.istore_n 3, 1) := by decide +kernel
theorem d_N_fault_36 : decode prog_8_method_15_code 36 = .ok (.iload_n 3, 1) := by decide +kernel
theorem d_N_fault_37 : decode prog_8_method_15_code 37 = .ok (.invokestatic 105, 3) := by decide +kernel
theorem d_N_fault_40 : decode prog_8_method_15_code 40 = .ok (.ifCond .eq 7, 3) := by decide +kernel
theorem d_N_fault_43 : decode prog_8_method_15_code 43 = .ok (.iconst 2, 1) := by decide +kernel
theorem d_N_fault_44 : decode prog_8_method_15_code 44 = .ok (.goto 15, 3) := by decide +kernel
theorem d_N_fault_47 : decode prog_8_method_15_code 47 = .ok (.iload_n 3, 1) := by decide +kernel
theorem d_N_fault_48 : decode prog_8_method_15_code 48 = .ok (.invokestatic 108, 3) := by decide +kernel
theorem d_N_fault_51 : decode prog_8_method_15_code 51 = .ok (.ifCond .eq 7, 3) := by decide +kernel
theorem d_N_fault_54 : decode prog_8_method_15_code 54 = .ok (.iconst 1, 1) := by decide +kernel
theorem d_N_fault_55 : decode prog_8_method_15_code 55 = .ok (.goto 4, 3) := by decide +kernel
theorem d_N_fault_58 : decode prog_8_method_15_code 58 = .ok (.iconst 0, 1) := by decide +kernel
theorem d_N_fault_59 : decode prog_8_method_15_code 59 = .ok (.istore 4, 2) := by decide +kernel
theorem d_N_fault_61 : decode prog_8_method_15_code 61 = .ok (.iload_n 1, 1) := by decide +kernel
theorem d_N_fault_62 : decode prog_8_method_15_code 62 = .ok (.iload 4, 2) := by decide +kernel
theorem d_N_fault_64 : decode prog_8_method_15_code 64 = .ok (.if_icmp .ge 5, 3) := by decide +kernel
theorem d_N_fault_67 : decode prog_8_method_15_code 67 = .ok (.iconst 4, 1) := by decide +kernel
theorem d_N_fault_68 : decode prog_8_method_15_code 68 = .ok (.ireturn, 1) := by decide +kernel
theorem d_N_fault_69 : decode prog_8_method_15_code 69 = .ok (.iload_n 1, 1) := by decide +kernel
theorem d_N_fault_70 : decode prog_8_method_15_code 70 = .ok (.iload 4, 2) := by decide +kernel
theorem d_N_fault_72 : decode prog_8_method_15_code 72 = .ok (.isub, 1) := by decide +kernel
theorem d_N_fault_73 : decode prog_8_method_15_code 73 = .ok (.iconst 1, 1) := by decide +kernel
theorem d_N_fault_74 : decode prog_8_method_15_code 74 = .ok (.iadd, 1) := by decide +kernel
theorem d_N_fault_75 : decode prog_8_method_15_code 75 = .ok (.istore_n 1, 1) := by decide +kernel
theorem d_N_fault_76 : decode prog_8_method_15_code 76 = .ok (.iinc 2 1, 3) := by decide +kernel
theorem d_N_fault_79 : decode prog_8_method_15_code 79 = .ok (.goto (-75), 3) := by decide +kernel
theorem d_N_fault_82 : decode prog_8_method_15_code 82 = .ok (.iload_n 1, 1) := by decide +kernel
theorem d_N_fault_83 : decode prog_8_method_15_code 83 = .ok (.iconst 1, 1) := by decide +kernel
theorem d_N_fault_84 : decode prog_8_method_15_code 84 = .ok (.if_icmp .ne 7, 3) := by decide +kernel
theorem d_N_fault_87 : decode prog_8_method_15_code 87 = .ok (.iconst 0, 1) := by decide +kernel
theorem d_N_fault_88 : decode prog_8_method_15_code 88 = .ok (.goto 4, 3) := by decide +kernel
theorem d_N_fault_91 : decode prog_8_method_15_code 91 = .ok (.iconst 5, 1) := by decide +kernel
theorem d_N_fault_92 : decode prog_8_method_15_code 92 = .ok (.ireturn, 1) := by decide +kernel
theorem d_N_evalDirect_0 : decode prog_8_method_16_code 0 = .ok (.aload_n 0, 1) := by decide +kernel
theorem d_N_evalDirect_1 : decode prog_8_method_16_code 1 = .ok (.invokevirtual 111, 3) := by decide +kernel
theorem d_N_evalDirect_4 : decode prog_8_method_16_code 4 = .ok (.istore_n 1, 1) := by decide +kernel
theorem d_N_evalDirect_5 : decode prog_8_method_16_code 5 = .ok (.iload_n 1, 1) := by decide +kernel
theorem d_N_evalDirect_6 : decode prog_8_method_16_code 6 = .ok (.ifCond .le 5, 3) := by decide +kernel
theorem d_N_evalDirect_9 : decode prog_8_method_16_code 9 = .ok (.iload_n 1, 1) := by decide +kernel
theorem d_N_evalDirect_10 : decode prog_8_method_16_code 10 = .ok (.ireturn, 1) := by decide +kernel
theorem d_N_evalDirect_11 : decode prog_8_method_16_code 11 = .ok (.iconst 4, 1) := by decide +kernel
theorem d_N_evalDirect_12 : decode prog_8_method_16_code 12 = .ok (.istore_n 2, 1) := by decide +kernel
theorem d_N_evalDirect_13 : decode prog_8_method_16_code 13 = .ok (.iconst 0, 1) := by decide +kernel
theorem d_N_evalDirect_14 : decode prog_8_method_16_code 14 = .ok (.istore_n 3, 1) := by decide +kernel
theorem d_N_evalDirect_15 : decode prog_8_method_16_code 15 = .ok (.iload_n 3, 1) := by decide +kernel
theorem d_N_evalDirect_16 : decode prog_8_method_16_code 16 = .ok (.aload_n 0, 1) := by decide +kernel
theorem d_N_evalDirect_17 : decode prog_8_method_16_code 17 = .ok (.getfield 87, 3) := by decide +kernel
theorem d_N_evalDirect_20 : decode prog_8_method_16_code 20 = .ok (.if_icmp .ge 100, 3) := by decide +kernel
theorem d_N_evalDirect_23 : decode prog_8_method_16_code 23 = .ok (.aload_n 0, 1) := by decide +kernel
theorem d_N_evalDirect_24 : decode prog_8_method_16_code 24 = .ok (.getfield 7, 3) := by decide +kernel
theorem d_N_evalDirect_27 : decode prog_8_method_16_code 27 = .ok (.iload_n 3, 1) := by decide +kernel
theorem d_N_evalDirect_28 : decode prog_8_method_16_code 28 = .ok (.iaload, 1) := by decide +kernel
theorem d_N_evalDirect_29 : decode prog_8_method_16_code 29 = .ok (.bipush 100, 2) := by decide +kernel
theorem d_N_evalDirect_31 : decode prog_8_method_16_code 31 = .ok (.idiv, 1) := by decide +kernel
theorem d_N_evalDirect_32 : decode prog_8_method_16_code 32 = .ok (.istore 4, 2) := by decide +kernel
theorem d_N_evalDirect_34 : decode prog_8_method_16_code 34 = .ok (.iload 4, 2) := by decide +kernel
theorem d_N_evalDirect_36 : decode prog_8_method_16_code 36 = .ok (.invokestatic 105, 3) := by decide +kernel
theorem d_N_evalDirect_39 : decode prog_8_method_16_code 39 = .ok (.ifCond .eq 7, 3) := by decide +kernel
theorem d_N_evalDirect_42 : decode prog_8_method_16_code 42 = .ok (.iconst 2, 1) := by decide +kernel
theorem d_N_evalDirect_43 : decode prog_8_method_16_code 43 = .ok (.goto 16, 3) := by decide +kernel
theorem d_N_evalDirect_46 : decode prog_8_method_16_code 46 = .ok (.iload 4, 2) := by decide +kernel
theorem d_N_evalDirect_48 : decode prog_8_method_16_code 48 = .ok (.invokestatic 108, 3) := by decide +kernel
theorem d_N_evalDirect_51 : decode prog_8_method_16_code 51 = .ok (.ifCond .eq 7, 3) := by decide +kernel
theorem d_N_evalDirect_54 : decode prog_8_method_16_code 54 = .ok (.iconst 1, 1) := by decide +kernel
theorem d_N_evalDirect_55 : decode prog_8_method_16_code 55 = .ok (.goto 4, 3) := by decide +kernel
theorem d_N_evalDirect_58 : decode prog_8_method_16_code 58 = .ok (.iconst 0, 1) := by decide +kernel
theorem d_N_evalDirect_59 : decode prog_8_method_16_code 59 = .ok (.istore 5, 2) := by decide +kernel
theorem d_N_evalDirect_61 : decode prog_8_method_16_code 61 = .ok (.iload_n 2, 1) := by decide +kernel
theorem d_N_evalDirect_62 : decode prog_8_method_16_code 62 = .ok (.iload 5, 2) := by decide +kernel
theorem d_N_evalDirect_64 : decode prog_8_method_16_code 64 = .ok (.isub, 1) := by decide +kernel
theorem d_N_evalDirect_65 : decode prog_8_method_16_code 65 = .ok (.istore_n 2, 1) := by decide +kernel
theorem d_N_evalDirect_66 : decode prog_8_method_16_code 66 = .ok (.iload 4, 2) := by decide +kernel
theorem d_N_evalDirect_68 : decode prog_8_method_16_code 68 = .ok (.bipush 8, 2) := by decide +kernel
theorem d_N_evalDirect_70 : decode prog_8_method_16_code 70 = .ok (.if_icmp .ne 20, 3) := by decide +kernel
theorem d_N_evalDirect_73 : decode prog_8_method_16_code 73 = .ok (.aload_n 0, 1) := by decide +kernel
theorem d_N_evalDirect_74 : decode prog_8_method_16_code 74 = .ok (.iload_n 2, 1) := by decide +kernel
theorem d_N_evalDirect_75 : decode prog_8_method_16_code 75 = .ok (.aload_n 0, 1) := by decide +kernel
theorem d_N_evalDirect_76 : decode prog_8_method_16_code 76 = .ok (.getfield 7, 3) := by decide +kernel
theorem d_N_evalDirect_79 : decode prog_8_method_16_code 79 = .ok (.iload_n 3, 1) := by decide +kernel
theorem d_N_evalDirect_80 : decode prog_8_method_16_code 80 = .ok (.iaload, 1) := by decide +kernel
theorem d_N_evalDirect_81 : decode prog_8_method_16_code 81 = .ok (.bipush 100, 2) := by decide +kernel
theorem d_N_evalDirect_83 : decode prog_8_method_16_code 83 = .ok (.irem, 1) := by decide +kernel
theorem d_N_evalDirect_84 : decode prog_8_method_16_code 84 = .ok (.invokevirtual 115, 3) := by decide +kernel
theorem d_N_evalDirect_87 : decode prog_8_method_16_code 87 = .ok (.goto 23, 3) := by decide +kernel
theorem d_N_evalDirect_90 : decode prog_8_method_16_code 90 = .ok (.aload_n 0, 1) := by decide +kernel
theorem d_N_evalDirect_91 : decode prog_8_method_16_code 91 = .ok (.iload 4, 2) := by decide +kernel
theorem d_N_evalDirect_93 : decode prog_8_method_16_code 93 = .ok (.iload_n 2, 1) := by decide +kernel
theorem d_N_evalDirect_94 : decode prog_8_method_16_code 94 = .ok (.iload_n 2, 1) := by decide +kernel
theorem d_N_evalDirect_95 : decode prog_8_method_16_code 95 = .ok (.iconst 1, 1) := by decide +kernel
theorem d_N_evalDirect_96 : decode prog_8_method_16_code 96 = .ok (.iadd, 1) := by decide +kernel
theorem d_N_evalDirect_97 : decode prog_8_method_16_code 97 = .ok (.aload_n 0, 1) := by decide +kernel
theorem d_N_evalDirect_98 : decode prog_8_method_16_code 98 = .ok (.getfield 7, 3) := by decide +kernel
theorem d_N_evalDirect_101 : decode prog_8_method_16_code 101 = .ok (.iload_n 3, 1) := by decide +kernel
theorem d_N_evalDirect_102 : decode prog_8_method_16_code 102 = .ok (.iaload, 1) := by decide +kernel
theorem d_N_evalDirect_103 : decode prog_8_method_16_code 103 = .ok (.bipush 100, 2) := by decide +kernel
theorem d_N_evalDirect_105 : decode prog_8_method_16_code 105 = .ok (.irem, 1) := by decide +kernel
theorem d_N_evalDirect_106 : decode prog_8_method_16_code 106 = .ok (.iload_n 2, 1) := by decide +kernel
theorem d_N_evalDirect_107 : decode prog_8_method_16_code 107 = .ok (.invokevirtual 83, 3) := by decide +kernel
theorem d_N_evalDirect_110 : decode prog_8_method_16_code 110 = .ok (.iload_n 2, 1) := by decide +kernel
theorem d_N_evalDirect_111 : decode prog_8_method_16_code 111 = .ok (.iconst 1, 1) := by decide +kernel
theorem d_N_evalDirect_112 : decode prog_8_method_16_code 112 = .ok (.iadd, 1) := by decide +kernel
theorem d_N_evalDirect_113 : decode prog_8_method_16_code 113 = .ok (.istore_n 2, 1) := by decide +kernel
theorem d_N_evalDirect_114 : decode prog_8_method_16_code 114 = .ok (.iinc 3 1, 3) := by decide +kernel
theorem d_N_evalDirect_117 : decode prog_8_method_16_code 117 = .ok (.goto (-102), 3) := by decide +kernel
theorem d_N_evalDirect_120 : decode prog_8_method_16_code 120 = .ok (.iconst 0, 1) := by decide +kernel
theorem d_N_evalDirect_121 : decode prog_8_method_16_code 121 = .ok (.istore_n 3, 1) := by decide +kernel
theorem d_N_evalDirect_122 : decode prog_8_method_16_code 122 = .ok (.iload_n 3, 1) := by decide +kernel
theorem d_N_evalDirect_123 : decode prog_8_method_16_code 123 = .ok (.bipush 16, 2) := by decide +kernel
theorem d_N_evalDirect_125 : decode prog_8_method_16_code 125 = .ok (.if_icmp .ge 24, 3) := by decide +kernel
theorem d_N_evalDirect_128 : decode prog_8_method_16_code 128 = .ok (.aload_n 0, 1) := by decide +kernel
theorem d_N_evalDirect_129 : decode prog_8_method_16_code 129 = .ok (.getfield 16, 3) := by decide +kernel
theorem d_N_evalDirect_132 : decode prog_8_method_16_code 132 = .ok (.iload_n 3, 1) := by decide +kernel
theorem d_N_evalDirect_133 : decode prog_8_method_16_code 133 = .ok (.aload_n 0, 1) := by decide +kernel
theorem d_N_evalDirect_134 : decode prog_8_method_16_code 134 = .ok (.getfield 13, 3) := by decide +kernel
theorem d_N_evalDirect_137 : decode prog_8_method_16_code 137 = .ok (.bipush 64, 2) := by decide +kernel
theorem d_N_evalDirect_139 : decode prog_8_method_16_code 139 = .ok (.iload_n 3, 1) := by decide +kernel
theorem d_N_evalDirect_140 : decode prog_8_method_16_code 140 = .ok (.iadd, 1) := by decide +kernel
theorem d_N_evalDirect_141 : decode prog_8_method_16_code 141 = .ok (.iaload, 1) := by decide +kernel
theorem d_N_evalDirect_142 : decode prog_8_method_16_code 142 = .ok (.iastore, 1) := by decide +kernel
theorem d_N_evalDirect_143 : decode prog_8_method_16_code 143 = .ok (.iinc 3 1, 3) := by decide +kernel
theorem d_N_evalDirect_146 : decode prog_8_method_16_code 146 = .ok (.goto (-24), 3) := by decide +kernel
theorem d_N_evalDirect_149 : decode prog_8_method_16_code 149 = .ok (.aload_n 0, 1) := by decide +kernel
theorem d_N_evalDirect_150 : decode prog_8_method_16_code 150 = .ok (.iconst 1, 1) := by decide +kernel
theorem d_N_evalDirect_151 : decode prog_8_method_16_code 151 = .ok (.putfield 118, 3) := by decide +kernel
theorem d_N_evalDirect_154 : decode prog_8_method_16_code 154 = .ok (.iconst 0, 1) := by decide +kernel
theorem d_N_evalDirect_155 : decode prog_8_method_16_code 155 = .ok (.ireturn, 1) := by decide +kernel
theorem d_N_write_0 : decode prog_8_method_17_code 0 = .ok (.aload_n 0, 1) := by decide +kernel
theorem d_N_write_1 : decode prog_8_method_17_code 1 = .ok (.getfield 19, 3) := by decide +kernel
theorem d_N_write_4 : decode prog_8_method_17_code 4 = .ok (.aload_n 0, 1) := by decide +kernel
theorem d_N_write_5 : decode prog_8_method_17_code 5 = .ok (.getfield 121, 3) := by decide +kernel
theorem d_N_write_8 : decode prog_8_method_17_code 8 = .ok (.iload_n 1, 1) := by decide +kernel
theorem d_N_write_9 : decode prog_8_method_17_code 9 = .ok (.iastore, 1) := by decide +kernel
theorem d_N_write_10 : decode prog_8_method_17_code 10 = .ok (.aload_n 0, 1) := by decide +kernel
theorem d_N_write_11 : decode prog_8_method_17_code 11 = .ok (.getfield 22, 3) := by decide +kernel
theorem d_N_write_14 : decode prog_8_method_17_code 14 = .ok (.aload_n 0, 1) := by decide +kernel
theorem d_N_write_15 : decode prog_8_method_17_code 15 = .ok (.getfield 121, 3) := by decide +kernel
theorem d_N_write_18 : decode prog_8_method_17_code 18 = .ok (.iload_n 2, 1) := by decide +kernel
theorem d_N_write_19 : decode prog_8_method_17_code 19 = .ok (.iastore, 1) := by decide +kernel
theorem d_N_write_20 : decode prog_8_method_17_code 20 = .ok (.aload_n 0, 1) := by decide +kernel
theorem d_N_write_21 : decode prog_8_method_17_code 21 = .ok (.getfield 25, 3) := by decide +kernel
theorem d_N_write_24 : decode prog_8_method_17_code 24 = .ok (.aload_n 0, 1) := by decide +kernel
theorem d_N_write_25 : decode prog_8_method_17_code 25 = .ok (.getfield 121, 3) := by decide +kernel
theorem d_N_write_28 : decode prog_8_method_17_code 28 = .ok (.iload_n 3, 1) := by decide +kernel
theorem d_N_write_29 : decode prog_8_method_17_code 29 = .ok (.iastore, 1) := by decide +kernel
theorem d_N_write_30 : decode prog_8_method_17_code 30 = .ok (.aload_n 0, 1) := by decide +kernel
theorem d_N_write_31 : decode prog_8_method_17_code 31 = .ok (.getfield 28, 3) := by decide +kernel
theorem d_N_write_34 : decode prog_8_method_17_code 34 = .ok (.aload_n 0, 1) := by decide +kernel
theorem d_N_write_35 : decode prog_8_method_17_code 35 = .ok (.getfield 121, 3) := by decide +kernel
theorem d_N_write_38 : decode prog_8_method_17_code 38 = .ok (.iload 4, 2) := by decide +kernel
theorem d_N_write_40 : decode prog_8_method_17_code 40 = .ok (.iastore, 1) := by decide +kernel
theorem d_N_write_41 : decode prog_8_method_17_code 41 = .ok (.aload_n 0, 1) := by decide +kernel
theorem d_N_write_42 : decode prog_8_method_17_code 42 = .ok (.aload_n 0, 1) := by decide +kernel
theorem d_N_write_43 : decode prog_8_method_17_code 43 = .ok (.getfield 121, 3) := by decide +kernel
theorem d_N_write_46 : decode prog_8_method_17_code 46 = .ok (.iconst 1, 1) := by decide +kernel
theorem d_N_write_47 : decode prog_8_method_17_code 47 = .ok (.iadd, 1) := by decide +kernel
theorem d_N_write_48 : decode prog_8_method_17_code 48 = .ok (.putfield 121, 3) := by decide +kernel
theorem d_N_write_51 : decode prog_8_method_17_code 51 = .ok (.aload_n 0, 1) := by decide +kernel
theorem d_N_write_52 : decode prog_8_method_17_code 52 = .ok (.getfield 121, 3) := by decide +kernel
theorem d_N_write_55 : decode prog_8_method_17_code 55 = .ok (.iconst 1, 1) := by decide +kernel
theorem d_N_write_56 : decode prog_8_method_17_code 56 = .ok (.isub, 1) := by decide +kernel
theorem d_N_write_57 : decode prog_8_method_17_code 57 = .ok (.ireturn, 1) := by decide +kernel
theorem d_N_highest_0 : decode prog_8_method_18_code 0 = .ok (.iconst 1, 1) := by decide +kernel
theorem d_N_highest_1 : decode prog_8_method_18_code 1 = .ok (.istore_n 1, 1) := by decide +kernel
theorem d_N_highest_2 : decode prog_8_method_18_code 2 = .ok (.iconst 2, 1) := by decide +kernel
theorem d_N_highest_3 : decode prog_8_method_18_code 3 = .ok (.iload_n 1, 1) := by decide +kernel
theorem d_N_highest_4 : decode prog_8_method_18_code 4 = .ok (.imul, 1) := by decide +kernel
theorem d_N_highest_5 : decode prog_8_method_18_code 5 = .ok (.iload_n 0, 1) := by decide +kernel
theorem d_N_highest_6 : decode prog_8_method_18_code 6 = .ok (.if_icmp .gt 10, 3) := by decide +kernel
theorem d_N_highest_9 : decode prog_8_method_18_code 9 = .ok (.iconst 2, 1) := by decide +kernel
theorem d_N_highest_10 : decode prog_8_method_18_code 10 = .ok (.iload_n 1, 1) := by decide +kernel
theorem d_N_highest_11 : decode prog_8_method_18_code 11 = .ok (.imul, 1) := by decide +kernel
theorem d_N_highest_12 : decode prog_8_method_18_code 12 = .ok (.istore_n 1, 1) := by decide +kernel
theorem d_N_highest_13 : decode prog_8_method_18_code 13 = .ok (.goto (-11), 3) := by decide +kernel
theorem d_N_highest_16 : decode prog_8_method_18_code 16 = .ok (.iload_n 1, 1) := by decide +kernel
theorem d_N_highest_17 : decode prog_8_method_18_code 17 = .ok (.ireturn, 1) := by decide +kernel
theorem d_N_steps_0 : decode prog_8_method_19_code 0 = .ok (.iload_n 0, 1) := by decide +kernel
theorem d_N_steps_1 : decode prog_8_method_19_code 1 = .ok (.bipush 100, 2) := by decide +kernel
theorem d_N_steps_3 : decode prog_8_method_19_code 3 = .ok (.irem, 1) := by decide +kernel
theorem d_N_steps_4 : decode prog_8_method_19_code 4 = .ok (.istore_n 1, 1) := by decide +kernel
theorem d_N_steps_5 : decode prog_8_method_19_code 5 = .ok (.iload_n 0, 1) := by decide +kernel
theorem d_N_steps_6 : decode prog_8_method_19_code 6 = .ok (.bipush 100, 2) := by decide +kernel
theorem d_N_steps_8 : decode prog_8_method_19_code 8 = .ok (.idiv, 1) := by decide +kernel
theorem d_N_steps_9 : decode prog_8_method_19_code 9 = .ok (.bipush 8, 2) := by decide +kernel
theorem d_N_steps_11 : decode prog_8_method_19_code 11 = .ok (.if_icmp .ne 7, 3) := by decide +kernel
theorem d_N_steps_14 : decode prog_8_method_19_code 14 = .ok (.iload_n 1, 1) := by decide +kernel
theorem d_N_steps_15 : decode prog_8_method_19_code 15 = .ok (.ifCond .ne 5, 3) := by decide +kernel
theorem d_N_steps_18 : decode prog_8_method_19_code 18 = .ok (.iconst 1, 1) := by decide +kernel
theorem d_N_steps_19 : decode prog_8_method_19_code 19 = .ok (.ireturn, 1) := by decide +kernel
theorem d_N_steps_20 : decode prog_8_method_19_code 20 = .ok (.iconst 0, 1) := by decide +kernel
theorem d_N_steps_21 : decode prog_8_method_19_code 21 = .ok (.istore_n 2, 1) := by decide +kernel
theorem d_N_steps_22 : decode prog_8_method_19_code 22 = .ok (.iload_n 1, 1) := by decide +kernel
theorem d_N_steps_23 : decode prog_8_method_19_code 23 = .ok (.invokestatic 124, 3) := by decide +kernel
theorem d_N_steps_26 : decode prog_8_method_19_code 26 = .ok (.iconst 2, 1) := by decide +kernel
theorem d_N_steps_27 : decode prog_8_method_19_code 27 = .ok (.idiv, 1) := by decide +kernel
theorem d_N_steps_28 : decode prog_8_method_19_code 28 = .ok (.istore_n 3, 1) := by decide +kernel
theorem d_N_steps_29 : decode prog_8_method_19_code 29 = .ok (.iload_n 3, 1) := by decide +kernel
theorem d_N_steps_30 : decode prog_8_method_19_code 30 = .ok (.ifCond .le 24, 3) := by decide +kernel
theorem d_N_steps_33 : decode prog_8_method_19_code 33 = .ok (.iload_n 2, 1) := by decide +kernel
theorem d_N_steps_34 : decode prog_8_method_19_code 34 = .ok (.iload_n 1, 1) := by decide +kernel
theorem d_N_steps_35 : decode prog_8_method_19_code 35 = .ok (.iload_n 3, 1) := by decide +kernel
theorem d_N_steps_36 : decode prog_8_method_19_code 36 = .ok (.iand, 1) := by decide +kernel
theorem d_N_steps_37 : decode prog_8_method_19_code 37 = .ok (.ifCond .eq 7, 3) := by decide +kernel
theorem d_N_steps_40 : decode prog_8_method_19_code 40 = .ok (.iconst 2, 1) := by decide +kernel
theorem d_N_steps_41 : decode prog_8_method_19_code 41 = .ok (.goto 4, 3) := by decide +kernel
theorem d_N_steps_44 : decode prog_8_method_19_code 44 = .ok (.iconst 1, 1) := by decide +kernel
theorem d_N_steps_45 : decode prog_8_method_19_code 45 = .ok (.iadd, 1) := by decide +kernel
theorem d_N_steps_46 : decode prog_8_method_19_code 46 = .ok (.istore_n 2, 1) := by decide +kernel
theorem d_N_steps_47 : decode prog_8_method_19_code 47 = .ok (.iload_n 3, 1) := by decide +kernel
theorem d_N_steps_48 : decode prog_8_method_19_code 48 = .ok (.iconst 2, 1) := by decide +kernel
theorem d_N_steps_49 : decode prog_8_method_19_code 49 = .ok (.idiv, 1) := by decide +kernel
theorem d_N_steps_50 : decode prog_8_method_19_code 50 = .ok (.istore_n 3, 1) := by decide +kernel
theorem d_N_steps_51 : decode prog_8_method_19_code 51 = .ok (.goto (-22), 3) := by decide +kernel
theorem d_N_steps_54 : decode prog_8_method_19_code 54 = .ok (.iload_n 2, 1) := by decide +kernel
theorem d_N_steps_55 : decode prog_8_method_19_code 55 = .ok (.ireturn, 1) := by decide +kernel
theorem d_N_writePower_0 : decode prog_8_method_20_code 0 = .ok (.iload_n 2, 1) := by decide +kernel
theorem d_N_writePower_1 : decode prog_8_method_20_code 1 = .ok (.ifCond .ne 12, 3) := by decide +kernel
theorem d_N_writePower_4 : decode prog_8_method_20_code 4 = .ok (.aload_n 0, 1) := by decide +kernel
theorem d_N_writePower_5 : decode prog_8_method_20_code 5 = .ok (.iconst 1, 1) := by decide +kernel
theorem d_N_writePower_6 : decode prog_8_method_20_code 6 = .ok (.iconst 0, 1) := by decide +kernel
theorem d_N_writePower_7 : decode prog_8_method_20_code 7 = .ok (.iconst 0, 1) := by decide +kernel
theorem d_N_writePower_8 : decode prog_8_method_20_code 8 = .ok (.iconst 0, 1) := by decide +kernel
theorem d_N_writePower_9 : decode prog_8_method_20_code 9 = .ok (.invokevirtual 127, 3) := by decide +kernel
theorem d_N_writePower_12 : decode prog_8_method_20_code 12 = .ok (.ireturn, 1) := by decide +kernel
theorem d_N_writePower_13 : decode prog_8_method_20_code 13 = .ok (.iload_n 1, 1) := by decide +kernel
theorem d_N_writePower_14 : decode prog_8_method_20_code 14 = .ok (.istore_n 3, 1) := by decide +kernel
theorem d_N_writePower_15 : decode prog_8_method_20_code 15 = .ok (.iload_n 2, 1) := by decide +kernel
theorem d_N_writePower_16 : decode prog_8_method_20_code 16 = .ok (.invokestatic 124, 3) := by decide +kernel
theorem d_N_writePower_19 : decode prog_8_method_20_code 19 = .ok (.iconst 2, 1) := by decide +kernel
theorem d_N_writePower_20 : decode prog_8_method_20_code 20 = .ok (.idiv, 1) := by decide +kernel
theorem d_N_writePower_21 : decode prog_8_method_20_code 21 = .ok (.istore 4, 2) := by decide +kernel
theorem d_N_writePower_23 : decode prog_8_method_20_code 23 = .ok (.iload 4, 2) := by decide +kernel
theorem d_N_writePower_25 : decode prog_8_method_20_code 25 = .ok (.ifCond .le 37, 3) := by decide +kernel
theorem d_N_writePower_28 : decode prog_8_method_20_code 28 = .ok (.aload_n 0, 1) := by decide +kernel
theorem d_N_writePower_29 : decode prog_8_method_20_code 29 = .ok (.iconst 5, 1) := by decide +kernel
theorem d_N_writePower_30 : decode prog_8_method_20_code 30 = .ok (.iload_n 3, 1) := by decide +kernel
theorem d_N_writePower_31 : decode prog_8_method_20_code 31 = .ok (.iload_n 3, 1) := by decide +kernel
theorem d_N_writePower_32 : decode prog_8_method_20_code 32 = .ok (.iconst 0, 1) := by decide +kernel
theorem d_N_writePower_33 : decode prog_8_method_20_code 33 = .ok (.invokevirtual 127, 3) := by decide +kernel
theorem d_N_writePower_36 : decode prog_8_method_20_code 36 = .ok (.istore_n 3, 1) := by decide +kernel
theorem d_N_writePower_37 : decode prog_8_method_20_code 37 = .ok (.iload_n 2, 1) := by decide +kernel
theorem d_N_writePower_38 : decode prog_8_method_20_code 38 = .ok (.iload 4, 2) := by decide +kernel
theorem d_N_writePower_40 : decode prog_8_method_20_code 40 = .ok (.iand, 1) := by decide +kernel
theorem d_N_writePower_41 : decode prog_8_method_20_code 41 = .ok (.ifCond .eq 12, 3) := by decide +kernel
theorem d_N_writePower_44 : decode prog_8_method_20_code 44 = .ok (.aload_n 0, 1) := by decide +kernel
theorem d_N_writePower_45 : decode prog_8_method_20_code 45 = .ok (.iconst 5, 1) := by decide +kernel
theorem d_N_writePower_46 : decode prog_8_method_20_code 46 = .ok (.iload_n 3, 1) := by decide +kernel
theorem d_N_writePower_47 : decode prog_8_method_20_code 47 = .ok (.iload_n 1, 1) := by decide +kernel
theorem d_N_writePower_48 : decode prog_8_method_20_code 48 = .ok (.iconst 0, 1) := by decide +kernel
theorem d_N_writePower_49 : decode prog_8_method_20_code 49 = .ok (.invokevirtual 127, 3) := by decide +kernel
theorem d_N_writePower_52 : decode prog_8_method_20_code 52 = .ok (.istore_n 3, 1) := by decide +kernel
theorem d_N_writePower_53 : decode prog_8_method_20_code 53 = .ok (.iload 4, 2) := by decide +kernel
theorem d_N_writePower_55 : decode prog_8_method_20_code 55 = .ok (.iconst 2, 1) := by decide +kernel
theorem d_N_writePower_56 : decode prog_8_method_20_code 56 = .ok (.idiv, 1) := by decide +kernel
theorem d_N_writePower_57 : decode prog_8_method_20_code 57 = .ok (.istore 4, 2) := by decide +kernel
theorem d_N_writePower_59 : decode prog_8_method_20_code 59 = .ok (.goto (-36), 3) := by decide +kernel
theorem d_N_writePower_62 : decode prog_8_method_20_code 62 = .ok (.iload_n 3, 1) := by decide +kernel
theorem d_N_writePower_63 : decode prog_8_method_20_code 63 = .ok (.ireturn, 1) := by decide +kernel
theorem d_N_compile_0 : decode prog_8_method_21_code 0 = .ok (.aload_n 0, 1) := by decide +kernel
theorem d_N_compile_1 : decode prog_8_method_21_code 1 = .ok (.invokevirtual 111, 3) := by decide +kernel
theorem d_N_compile_4 : decode prog_8_method_21_code 4 = .ok (.istore_n 1, 1) := by decide +kernel
theorem d_N_compile_5 : decode prog_8_method_21_code 5 = .ok (.iconst 0, 1) := by decide +kernel
theorem d_N_compile_6 : decode prog_8_method_21_code 6 = .ok (.istore_n 2, 1) := by decide +kernel
theorem d_N_compile_7 : decode prog_8_method_21_code 7 = .ok (.iconst 0, 1) := by decide +kernel
theorem d_N_compile_8 : decode prog_8_method_21_code 8 = .ok (.istore_n 3, 1) := by decide +kernel
theorem d_N_compile_9 : decode prog_8_method_21_code 9 = .ok (.iload_n 3, 1) := by decide +kernel
theorem d_N_compile_10 : decode prog_8_method_21_code 10 = .ok (.aload_n 0, 1) := by decide +kernel
theorem d_N_compile_11 : decode prog_8_method_21_code 11 = .ok (.getfield 87, 3) := by decide +kernel
theorem d_N_compile_14 : decode prog_8_method_21_code 14 = .ok (.if_icmp .ge 25, 3) := by decide +kernel
theorem d_N_compile_17 : decode prog_8_method_21_code 17 = .ok (.iload_n 1, 1) := by decide +kernel
theorem d_N_compile_18 : decode prog_8_method_21_code 18 = .ok (.ifCond .ne 21, 3) := by decide +kernel
theorem d_N_compile_21 : decode prog_8_method_21_code 21 = .ok (.iload_n 2, 1) := by decide +kernel
theorem d_N_compile_22 : decode prog_8_method_21_code 22 = .ok (.aload_n 0, 1) := by decide +kernel
theorem d_N_compile_23 : decode prog_8_method_21_code 23 = .ok (.getfield 7, 3) := by decide +kernel
theorem d_N_compile_26 : decode prog_8_method_21_code 26 = .ok (.iload_n 3, 1) := by decide +kernel
theorem d_N_compile_27 : decode prog_8_method_21_code 27 = .ok (.iaload, 1) := by decide +kernel
theorem d_N_compile_28 : decode prog_8_method_21_code 28 = .ok (.invokestatic 131, 3) := by decide +kernel
theorem d_N_compile_31 : decode prog_8_method_21_code 31 = .ok (.iadd, 1) := by decide +kernel
theorem d_N_compile_32 : decode prog_8_method_21_code 32 = .ok (.istore_n 2, 1) := by decide +kernel
theorem d_N_compile_33 : decode prog_8_method_21_code 33 = .ok (.iinc 3 1, 3) := by decide +kernel
theorem d_N_compile_36 : decode prog_8_method_21_code 36 = .ok (.goto (-27), 3) := by decide +kernel
theorem d_N_compile_39 : decode prog_8_method_21_code 39 = .ok (.iload_n 1, 1) := by decide +kernel
theorem d_N_compile_40 : decode prog_8_method_21_code 40 = .ok (.ifCond .gt 9, 3) := by decide +kernel
theorem d_N_compile_43 : decode prog_8_method_21_code 43 = .ok (.iload_n 2, 1) := by decide +kernel
theorem d_N_compile_44 : decode prog_8_method_21_code 44 = .ok (.bipush 40, 2) := by decide +kernel
theorem d_N_compile_46 : decode prog_8_method_21_code 46 = .ok (.if_icmp .le 14, 3) := by decide +kernel
theorem d_N_compile_49 : decode prog_8_method_21_code 49 = .ok (.iload_n 1, 1) := by decide +kernel
theorem d_N_compile_50 : decode prog_8_method_21_code 50 = .ok (.ifCond .le 7, 3) := by decide +kernel
theorem d_N_compile_53 : decode prog_8_method_21_code 53 = .ok (.iload_n 1, 1) := by decide +kernel
theorem d_N_compile_54 : decode prog_8_method_21_code 54 = .ok (.goto 5, 3) := by decide +kernel
theorem d_N_compile_57 : decode prog_8_method_21_code 57 = .ok (.bipush 6, 2) := by decide +kernel
theorem d_N_compile_59 : decode prog_8_method_21_code 59 = .ok (.ireturn, 1) := by decide +kernel
theorem d_N_compile_60 : decode prog_8_method_21_code 60 = .ok (.aload_n 0, 1) := by decide +kernel
theorem d_N_compile_61 : decode prog_8_method_21_code 61 = .ok (.iconst 0, 1) := by decide +kernel
theorem d_N_compile_62 : decode prog_8_method_21_code 62 = .ok (.putfield 121, 3) := by decide +kernel
theorem d_N_compile_65 : decode prog_8_method_21_code 65 = .ok (.iconst 0, 1) := by decide +kernel
theorem d_N_compile_66 : decode prog_8_method_21_code 66 = .ok (.istore_n 3, 1) := by decide +kernel
theorem d_N_compile_67 : decode prog_8_method_21_code 67 = .ok (.iconst 0, 1) := by decide +kernel
theorem d_N_compile_68 : decode prog_8_method_21_code 68 = .ok (.istore 4, 2) := by decide +kernel
theorem d_N_compile_70 : decode prog_8_method_21_code 70 = .ok (.iload 4, 2) := by decide +kernel
theorem d_N_compile_72 : decode prog_8_method_21_code 72 = .ok (.aload_n 0, 1) := by decide +kernel
theorem d_N_compile_73 : decode prog_8_method_21_code 73 = .ok (.getfield 87, 3) := by decide +kernel
theorem d_N_compile_76 : decode prog_8_method_21_code 76 = .ok (.if_icmp .ge 161, 3) := by decide +kernel
theorem d_N_compile_79 : decode prog_8_method_21_code 79 = .ok (.aload_n 0, 1) := by decide +kernel
theorem d_N_compile_80 : decode prog_8_method_21_code 80 = .ok (.getfield 7, 3) := by decide +kernel
theorem d_N_compile_83 : decode prog_8_method_21_code 83 = .ok (.iload 4, 2) := by decide +kernel
theorem d_N_compile_85 : decode prog_8_method_21_code 85 = .ok (.iaload, 1) := by decide +kernel
theorem d_N_compile_86 : decode prog_8_method_21_code 86 = .ok (.bipush 100, 2) := by decide +kernel
theorem d_N_compile_88 : decode prog_8_method_21_code 88 = .ok (.idiv, 1) := by decide +kernel
theorem d_N_compile_89 : decode prog_8_method_21_code 89 = .ok (.istore 5, 2) := by decide +kernel
theorem d_N_compile_91 : decode prog_8_method_21_code 91 = .ok (.aload_n 0, 1) := by decide +kernel
theorem d_N_compile_92 : decode prog_8_method_21_code 92 = .ok (.getfield 7, 3) := by decide +kernel
theorem d_N_compile_95 : decode prog_8_method_21_code 95 = .ok (.iload 4, 2) := by decide +kernel
theorem d_N_compile_97 : decode prog_8_method_21_code 97 = .ok (.iaload, 1) := by decide +kernel
theorem d_N_compile_98 : decode prog_8_method_21_code 98 = .ok (.bipush 100, 2) := by decide +kernel
theorem d_N_compile_100 : decode prog_8_method_21_code 100 = .ok (.irem, 1) := by decide +kernel
theorem d_N_compile_101 : decode prog_8_method_21_code 101 = .ok (.istore 6, 2) := by decide +kernel
theorem d_N_compile_103 : decode prog_8_method_21_code 103 = .ok (.iload_n 3, 1) := by decide +kernel
theorem d_N_compile_104 : decode prog_8_method_21_code 104 = .ok (.iload 5, 2) := by decide +kernel
theorem d_N_compile_106 : decode prog_8_method_21_code 106 = .ok (.invokestatic 105, 3) := by decide +kernel
theorem d_N_compile_109 : decode prog_8_method_21_code 109 = .ok (.ifCond .eq 7, 3) := by decide +kernel
theorem d_N_compile_112 : decode prog_8_method_21_code 112 = .ok (.iconst 2, 1) := by decide +kernel
theorem d_N_compile_113 : decode prog_8_method_21_code 113 = .ok (.goto 16, 3) := by decide +kernel
theorem d_N_compile_116 : decode prog_8_method_21_code 116 = .ok (.iload 5, 2) := by decide +kernel
theorem d_N_compile_118 : decode prog_8_method_21_code 118 = .ok (.invokestatic 108, 3) := by decide +kernel
theorem d_N_compile_121 : decode prog_8_method_21_code 121 = .ok (.ifCond .eq 7, 3) := by decide +kernel
theorem d_N_compile_124 : decode prog_8_method_21_code 124 = .ok (.iconst 1, 1) := by decide +kernel
theorem d_N_compile_125 : decode prog_8_method_21_code 125 = .ok (.goto 4, 3) := by decide +kernel
theorem d_N_compile_128 : decode prog_8_method_21_code 128 = .ok (.iconst 0, 1) := by decide +kernel
theorem d_N_compile_129 : decode prog_8_method_21_code 129 = .ok (.isub, 1) := by decide +kernel
theorem d_N_compile_130 : decode prog_8_method_21_code 130 = .ok (.istore_n 3, 1) := by decide +kernel
theorem d_N_compile_131 : decode prog_8_method_21_code 131 = .ok (.aload_n 0, 1) := by decide +kernel
theorem d_N_compile_132 : decode prog_8_method_21_code 132 = .ok (.getfield 31, 3) := by decide +kernel
theorem d_N_compile_135 : decode prog_8_method_21_code 135 = .ok (.iload_n 3, 1) := by decide +kernel
theorem d_N_compile_136 : decode prog_8_method_21_code 136 = .ok (.iload 5, 2) := by decide +kernel
theorem d_N_compile_138 : decode prog_8_method_21_code 138 = .ok (.bipush 8, 2) := by decide +kernel
theorem d_N_compile_140 : decode prog_8_method_21_code 140 = .ok (.if_icmp .ne 18, 3) := by decide +kernel
theorem d_N_compile_143 : decode prog_8_method_21_code 143 = .ok (.aload_n 0, 1) := by decide +kernel
theorem d_N_compile_144 : decode prog_8_method_21_code 144 = .ok (.aload_n 0, 1) := by decide +kernel
theorem d_N_compile_145 : decode prog_8_method_21_code 145 = .ok (.getfield 31, 3) := by decide +kernel
theorem d_N_compile_148 : decode prog_8_method_21_code 148 = .ok (.iload_n 3, 1) := by decide +kernel
theorem d_N_compile_149 : decode prog_8_method_21_code 149 = .ok (.iaload, 1) := by decide +kernel
theorem d_N_compile_150 : decode prog_8_method_21_code 150 = .ok (.iload 6, 2) := by decide +kernel
theorem d_N_compile_152 : decode prog_8_method_21_code 152 = .ok (.invokevirtual 134, 3) := by decide +kernel
theorem d_N_compile_155 : decode prog_8_method_21_code 155 = .ok (.goto 71, 3) := by decide +kernel
theorem d_N_compile_158 : decode prog_8_method_21_code 158 = .ok (.iload 5, 2) := by decide +kernel
theorem d_N_compile_160 : decode prog_8_method_21_code 160 = .ok (.invokestatic 105, 3) := by decide +kernel
theorem d_N_compile_163 : decode prog_8_method_21_code 163 = .ok (.ifCond .eq 27, 3) := by decide +kernel
theorem d_N_compile_166 : decode prog_8_method_21_code 166 = .ok (.aload_n 0, 1) := by decide +kernel
theorem d_N_compile_167 : decode prog_8_method_21_code 167 = .ok (.iload 5, 2) := by decide +kernel
theorem d_N_compile_169 : decode prog_8_method_21_code 169 = .ok (.aload_n 0, 1) := by decide +kernel
theorem d_N_compile_170 : decode prog_8_method_21_code 170 = .ok (.getfield 31, 3) := by decide +kernel
theorem d_N_compile_173 : decode prog_8_method_21_code 173 = .ok (.iload_n 3, 1) := by decide +kernel
theorem d_N_compile_174 : decode prog_8_method_21_code 174 = .ok (.iaload, 1) := by decide +kernel
theorem d_N_compile_175 : decode prog_8_method_21_code 175 = .ok (.aload_n 0, 1) := by decide +kernel
theorem d_N_compile_176 : decode prog_8_method_21_code 176 = .ok (.getfield 31, 3) := by decide +kernel
theorem d_N_compile_179 : decode prog_8_method_21_code 179 = .ok (.iload_n 3, 1) := by decide +kernel
theorem d_N_compile_180 : decode prog_8_method_21_code 180 = .ok (.iconst 1, 1) := by decide +kernel
theorem d_N_compile_181 : decode prog_8_method_21_code 181 = .ok (.iadd, 1) := by decide +kernel
theorem d_N_compile_182 : decode prog_8_method_21_code 182 = .ok (.iaload, 1) := by decide +kernel
theorem d_N_compile_183 : decode prog_8_method_21_code 183 = .ok (.iconst 0, 1) := by decide +kernel
theorem d_N_compile_184 : decode prog_8_method_21_code 184 = .ok (.invokevirtual 127, 3) := by decide +kernel
theorem d_N_compile_187 : decode prog_8_method_21_code 187 = .ok (.goto 39, 3) := by decide +kernel
theorem d_N_compile_190 : decode prog_8_method_21_code 190 = .ok (.iload 5, 2) := by decide +kernel
theorem d_N_compile_192 : decode prog_8_method_21_code 192 = .ok (.invokestatic 108, 3) := by decide +kernel
theorem d_N_compile_195 : decode prog_8_method_21_code 195 = .ok (.ifCond .eq 21, 3) := by decide +kernel
theorem d_N_compile_198 : decode prog_8_method_21_code 198 = .ok (.aload_n 0, 1) := by decide +kernel
theorem d_N_compile_199 : decode prog_8_method_21_code 199 = .ok (.iload 5, 2) := by decide +kernel
theorem d_N_compile_201 : decode prog_8_method_21_code 201 = .ok (.aload_n 0, 1) := by decide +kernel
theorem d_N_compile_202 : decode prog_8_method_21_code 202 = .ok (.getfield 31, 3) := by decide +kernel
theorem d_N_compile_205 : decode prog_8_method_21_code 205 = .ok (.iload_n 3, 1) := by decide +kernel
theorem d_N_compile_206 : decode prog_8_method_21_code 206 = .ok (.iaload, 1) := by decide +kernel
theorem d_N_compile_207 : decode prog_8_method_21_code 207 = .ok (.iconst 0, 1) := by decide +kernel
theorem d_N_compile_208 : decode prog_8_method_21_code 208 = .ok (.iload 6, 2) := by decide +kernel
theorem d_N_compile_210 : decode prog_8_method_21_code 210 = .ok (.invokevirtual 127, 3) := by decide +kernel
theorem d_N_compile_213 : decode prog_8_method_21_code 213 = .ok (.goto 13, 3) := by decide +kernel
theorem d_N_compile_216 : decode prog_8_method_21_code 216 = .ok (.aload_n 0, 1) := by decide +kernel
theorem d_N_compile_217 : decode prog_8_method_21_code 217 = .ok (.iload 5, 2) := by decide +kernel
theorem d_N_compile_219 : decode prog_8_method_21_code 219 = .ok (.iconst 0, 1) := by decide +kernel
theorem d_N_compile_220 : decode prog_8_method_21_code 220 = .ok (.iconst 0, 1) := by decide +kernel
theorem d_N_compile_221 : decode prog_8_method_21_code 221 = .ok (.iload 6, 2) := by decide +kernel
theorem d_N_compile_223 : decode prog_8_method_21_code 223 = .ok (.invokevirtual 127, 3) := by decide +kernel
theorem d_N_compile_226 : decode prog_8_method_21_code 226 = .ok (.iastore, 1) := by decide +kernel
theorem d_N_compile_227 : decode prog_8_method_21_code 227 = .ok (.iload_n 3, 1) := by decide +kernel
theorem d_N_compile_228 : decode prog_8_method_21_code 228 = .ok (.iconst 1, 1) := by decide +kernel
theorem d_N_compile_229 : decode prog_8_method_21_code 229 = .ok (.iadd, 1) := by decide +kernel
theorem d_N_compile_230 : decode prog_8_method_21_code 230 = .ok (.istore_n 3, 1) := by decide +kernel
theorem d_N_compile_231 : decode prog_8_method_21_code 231 = .ok (.iinc 4 1, 3) := by decide +kernel
theorem d_N_compile_234 : decode prog_8_method_21_code 234 = .ok (.goto (-164), 3) := by decide +kernel
theorem d_N_compile_237 : decode prog_8_method_21_code 237 = .ok (.aload_n 0, 1) := by decide +kernel
theorem d_N_compile_238 : decode prog_8_method_21_code 238 = .ok (.aload_n 0, 1) := by decide +kernel
theorem d_N_compile_239 : decode prog_8_method_21_code 239 = .ok (.getfield 31, 3) := by decide +kernel
theorem d_N_compile_242 : decode prog_8_method_21_code 242 = .ok (.iconst 0, 1) := by decide +kernel
theorem d_N_compile_243 : decode prog_8_method_21_code 243 = .ok (.iaload, 1) := by decide +kernel
theorem d_N_compile_244 : decode prog_8_method_21_code 244 = .ok (.putfield 138, 3) := by decide +kernel
theorem d_N_compile_247 : decode prog_8_method_21_code 247 = .ok (.aload_n 0, 1) := by decide +kernel
theorem d_N_compile_248 : decode prog_8_method_21_code 248 = .ok (.iconst 1, 1) := by decide +kernel
theorem d_N_compile_249 : decode prog_8_method_21_code 249 = .ok (.putfield 90, 3) := by decide +kernel
theorem d_N_compile_252 : decode prog_8_method_21_code 252 = .ok (.aload_n 0, 1) := by decide +kernel
theorem d_N_compile_253 : decode prog_8_method_21_code 253 = .ok (.iconst 0, 1) := by decide +kernel
theorem d_N_compile_254 : decode prog_8_method_21_code 254 = .ok (.putfield 98, 3) := by decide +kernel
theorem d_N_compile_257 : decode prog_8_method_21_code 257 = .ok (.iconst 0, 1) := by decide +kernel
theorem d_N_compile_258 : decode prog_8_method_21_code 258 = .ok (.ireturn, 1) := by decide +kernel
theorem d_N_value_0 : decode prog_8_method_22_code 0 = .ok (.iconst 0, 1) := by decide +kernel
theorem d_N_value_1 : decode prog_8_method_22_code 1 = .ok (.istore 5, 2) := by decide +kernel
theorem d_N_value_3 : decode prog_8_method_22_code 3 = .ok (.iload 5, 2) := by decide +kernel
theorem d_N_value_5 : decode prog_8_method_22_code 5 = .ok (.aload_n 0, 1) := by decide +kernel
theorem d_N_value_6 : decode prog_8_method_22_code 6 = .ok (.getfield 141, 3) := by decide +kernel
theorem d_N_value_9 : decode prog_8_method_22_code 9 = .ok (.if_icmp .ge 57, 3) := by decide +kernel
theorem d_N_value_12 : decode prog_8_method_22_code 12 = .ok (.aload_n 0, 1) := by decide +kernel
theorem d_N_value_13 : decode prog_8_method_22_code 13 = .ok (.getfield 34, 3) := by decide +kernel
theorem d_N_value_16 : decode prog_8_method_22_code 16 = .ok (.iload 5, 2) := by decide +kernel
theorem d_N_value_18 : decode prog_8_method_22_code 18 = .ok (.iaload, 1) := by decide +kernel
theorem d_N_value_19 : decode prog_8_method_22_code 19 = .ok (.iload_n 1, 1) := by decide +kernel
theorem d_N_value_20 : decode prog_8_method_22_code 20 = .ok (.if_icmp .ne 40, 3) := by decide +kernel
theorem d_N_value_23 : decode prog_8_method_22_code 23 = .ok (.aload_n 0, 1) := by decide +kernel
theorem d_N_value_24 : decode prog_8_method_22_code 24 = .ok (.getfield 37, 3) := by decide +kernel
theorem d_N_value_27 : decode prog_8_method_22_code 27 = .ok (.iload 5, 2) := by decide +kernel
theorem d_N_value_29 : decode prog_8_method_22_code 29 = .ok (.iaload, 1) := by decide +kernel
theorem d_N_value_30 : decode prog_8_method_22_code 30 = .ok (.iload_n 2, 1) := by decide +kernel
theorem d_N_value_31 : decode prog_8_method_22_code 31 = .ok (.if_icmp .ne 29, 3) := by decide +kernel
theorem d_N_value_34 : decode prog_8_method_22_code 34 = .ok (.aload_n 0, 1) := by decide +kernel
theorem d_N_value_35 : decode prog_8_method_22_code 35 = .ok (.getfield 40, 3) := by decide +kernel
theorem d_N_value_38 : decode prog_8_method_22_code 38 = .ok (.iload 5, 2) := by decide +kernel
theorem d_N_value_40 : decode prog_8_method_22_code 40 = .ok (.iaload, 1) := by decide +kernel
theorem d_N_value_41 : decode prog_8_method_22_code 41 = .ok (.iload_n 3, 1) := by decide +kernel
theorem d_N_value_42 : decode prog_8_method_22_code 42 = .ok (.if_icmp .ne 18, 3) := by decide +kernel
theorem d_N_value_45 : decode prog_8_method_22_code 45 = .ok (.aload_n 0, 1) := by decide +kernel
theorem d_N_value_46 : decode prog_8_method_22_code 46 = .ok (.getfield 43, 3) := by decide +kernel
theorem d_N_value_49 : decode prog_8_method_22_code 49 = .ok (.iload 5, 2) := by decide +kernel
theorem d_N_value_51 : decode prog_8_method_22_code 51 = .ok (.iaload, 1) := by decide +kernel
theorem d_N_value_52 : decode prog_8_method_22_code 52 = .ok (.iload 4, 2) := by decide +kernel
theorem d_N_value_54 : decode prog_8_method_22_code 54 = .ok (.if_icmp .ne 6, 3) := by decide +kernel
theorem d_N_value_57 : decode prog_8_method_22_code 57 = .ok (.iload 5, 2) := by decide +kernel
theorem d_N_value_59 : decode prog_8_method_22_code 59 = .ok (.ireturn, 1) := by decide +kernel
theorem d_N_value_60 : decode prog_8_method_22_code 60 = .ok (.iinc 5 1, 3) := by decide +kernel
theorem d_N_value_63 : decode prog_8_method_22_code 63 = .ok (.goto (-60), 3) := by decide +kernel
theorem d_N_value_66 : decode prog_8_method_22_code 66 = .ok (.aload_n 0, 1) := by decide +kernel
theorem d_N_value_67 : decode prog_8_method_22_code 67 = .ok (.getfield 34, 3) := by decide +kernel
theorem d_N_value_70 : decode prog_8_method_22_code 70 = .ok (.aload_n 0, 1) := by decide +kernel
theorem d_N_value_71 : decode prog_8_method_22_code 71 = .ok (.getfield 141, 3) := by decide +kernel
theorem d_N_value_74 : decode prog_8_method_22_code 74 = .ok (.iload_n 1, 1) := by decide +kernel
theorem d_N_value_75 : decode prog_8_method_22_code 75 = .ok (.iastore, 1) := by decide +kernel
theorem d_N_value_76 : decode prog_8_method_22_code 76 = .ok (.aload_n 0, 1) := by decide +kernel
theorem d_N_value_77 : decode prog_8_method_22_code 77 = .ok (.getfield 37, 3) := by decide +kernel
theorem d_N_value_80 : decode prog_8_method_22_code 80 = .ok (.aload_n 0, 1) := by decide +kernel
theorem d_N_value_81 : decode prog_8_method_22_code 81 = .ok (.getfield 141, 3) := by decide +kernel
theorem d_N_value_84 : decode prog_8_method_22_code 84 = .ok (.iload_n 2, 1) := by decide +kernel
theorem d_N_value_85 : decode prog_8_method_22_code 85 = .ok (.iastore, 1) := by decide +kernel
theorem d_N_value_86 : decode prog_8_method_22_code 86 = .ok (.aload_n 0, 1) := by decide +kernel
theorem d_N_value_87 : decode prog_8_method_22_code 87 = .ok (.getfield 40, 3) := by decide +kernel
theorem d_N_value_90 : decode prog_8_method_22_code 90 = .ok (.aload_n 0, 1) := by decide +kernel
theorem d_N_value_91 : decode prog_8_method_22_code 91 = .ok (.getfield 141, 3) := by decide +kernel
theorem d_N_value_94 : decode prog_8_method_22_code 94 = .ok (.iload_n 3, 1) := by decide +kernel
theorem d_N_value_95 : decode prog_8_method_22_code 95 = .ok (.iastore, 1) := by decide +kernel
theorem d_N_value_96 : decode prog_8_method_22_code 96 = .ok (.aload_n 0, 1) := by decide +kernel
theorem d_N_value_97 : decode prog_8_method_22_code 97 = .ok (.getfield 43, 3) := by decide +kernel
theorem d_N_value_100 : decode prog_8_method_22_code 100 = .ok (.aload_n 0, 1) := by decide +kernel
theorem d_N_value_101 : decode prog_8_method_22_code 101 = .ok (.getfield 141, 3) := by decide +kernel
theorem d_N_value_104 : decode prog_8_method_22_code 104 = .ok (.iload 4, 2) := by decide +kernel
theorem d_N_value_106 : decode prog_8_method_22_code 106 = .ok (.iastore, 1) := by decide +kernel
theorem d_N_value_107 : decode prog_8_method_22_code 107 = .ok (.aload_n 0, 1) := by decide +kernel
theorem d_N_value_108 : decode prog_8_method_22_code 108 = .ok (.getfield 46, 3) := by decide +kernel
theorem d_N_value_111 : decode prog_8_method_22_code 111 = .ok (.aload_n 0, 1) := by decide +kernel
theorem d_N_value_112 : decode prog_8_method_22_code 112 = .ok (.getfield 141, 3) := by decide +kernel
theorem d_N_value_115 : decode prog_8_method_22_code 115 = .ok (.iconst 0, 1) := by decide +kernel
theorem d_N_value_116 : decode prog_8_method_22_code 116 = .ok (.bastore, 1) := by decide +kernel
theorem d_N_value_117 : decode prog_8_method_22_code 117 = .ok (.aload_n 0, 1) := by decide +kernel
theorem d_N_value_118 : decode prog_8_method_22_code 118 = .ok (.aload_n 0, 1) := by decide +kernel
theorem d_N_value_119 : decode prog_8_method_22_code 119 = .ok (.getfield 141, 3) := by decide +kernel
theorem d_N_value_122 : decode prog_8_method_22_code 122 = .ok (.iconst 1, 1) := by decide +kernel
theorem d_N_value_123 : decode prog_8_method_22_code 123 = .ok (.iadd, 1) := by decide +kernel
theorem d_N_value_124 : decode prog_8_method_22_code 124 = .ok (.putfield 141, 3) := by decide +kernel
theorem d_N_value_127 : decode prog_8_method_22_code 127 = .ok (.aload_n 0, 1) := by decide +kernel
theorem d_N_value_128 : decode prog_8_method_22_code 128 = .ok (.getfield 141, 3) := by decide +kernel
theorem d_N_value_131 : decode prog_8_method_22_code 131 = .ok (.iconst 1, 1) := by decide +kernel
theorem d_N_value_132 : decode prog_8_method_22_code 132 = .ok (.isub, 1) := by decide +kernel
theorem d_N_value_133 : decode prog_8_method_22_code 133 = .ok (.ireturn, 1) := by decide +kernel
theorem d_N_noughts_0 : decode prog_8_method_23_code 0 = .ok (.aload_n 0, 1) := by decide +kernel
theorem d_N_noughts_1 : decode prog_8_method_23_code 1 = .ok (.iconst 2, 1) := by decide +kernel
theorem d_N_noughts_2 : decode prog_8_method_23_code 2 = .ok (.iconst (-1), 1) := by decide +kernel
theorem d_N_noughts_3 : decode prog_8_method_23_code 3 = .ok (.iconst (-1), 1) := by decide +kernel
theorem d_N_noughts_4 : decode prog_8_method_23_code 4 = .ok (.iconst 0, 1) := by decide +kernel
theorem d_N_noughts_5 : decode prog_8_method_23_code 5 = .ok (.invokevirtual 144, 3) := by decide +kernel
theorem d_N_noughts_8 : decode prog_8_method_23_code 8 = .ok (.ireturn, 1) := by decide +kernel
theorem d_N_added_0 : decode prog_8_method_24_code 0 = .ok (.aload_n 0, 1) := by decide +kernel
theorem d_N_added_1 : decode prog_8_method_24_code 1 = .ok (.getfield 34, 3) := by decide +kernel
theorem d_N_added_4 : decode prog_8_method_24_code 4 = .ok (.iload_n 2, 1) := by decide +kernel
theorem d_N_added_5 : decode prog_8_method_24_code 5 = .ok (.iaload, 1) := by decide +kernel
theorem d_N_added_6 : decode prog_8_method_24_code 6 = .ok (.iconst 2, 1) := by decide +kernel
theorem d_N_added_7 : decode prog_8_method_24_code 7 = .ok (.if_icmp .ne 5, 3) := by decide +kernel
theorem d_N_added_10 : decode prog_8_method_24_code 10 = .ok (.iload_n 1, 1) := by decide +kernel
theorem d_N_added_11 : decode prog_8_method_24_code 11 = .ok (.ireturn, 1) := by decide +kernel
theorem d_N_added_12 : decode prog_8_method_24_code 12 = .ok (.aload_n 0, 1) := by decide +kernel
theorem d_N_added_13 : decode prog_8_method_24_code 13 = .ok (.getfield 34, 3) := by decide +kernel
theorem d_N_added_16 : decode prog_8_method_24_code 16 = .ok (.iload_n 1, 1) := by decide +kernel
theorem d_N_added_17 : decode prog_8_method_24_code 17 = .ok (.iaload, 1) := by decide +kernel
theorem d_N_added_18 : decode prog_8_method_24_code 18 = .ok (.iconst 2, 1) := by decide +kernel
theorem d_N_added_19 : decode prog_8_method_24_code 19 = .ok (.if_icmp .ne 5, 3) := by decide +kernel
theorem d_N_added_22 : decode prog_8_method_24_code 22 = .ok (.iload_n 2, 1) := by decide +kernel
theorem d_N_added_23 : decode prog_8_method_24_code 23 = .ok (.ireturn, 1) := by decide +kernel
theorem d_N_added_24 : decode prog_8_method_24_code 24 = .ok (.iload_n 1, 1) := by decide +kernel
theorem d_N_added_25 : decode prog_8_method_24_code 25 = .ok (.iload_n 2, 1) := by decide +kernel
theorem d_N_added_26 : decode prog_8_method_24_code 26 = .ok (.if_icmp .ge 14, 3) := by decide +kernel
theorem d_N_added_29 : decode prog_8_method_24_code 29 = .ok (.aload_n 0, 1) := by decide +kernel
theorem d_N_added_30 : decode prog_8_method_24_code 30 = .ok (.iconst 3, 1) := by decide +kernel
theorem d_N_added_31 : decode prog_8_method_24_code 31 = .ok (.iload_n 1, 1) := by decide +kernel
theorem d_N_added_32 : decode prog_8_method_24_code 32 = .ok (.iload_n 2, 1) := by decide +kernel
theorem d_N_added_33 : decode prog_8_method_24_code 33 = .ok (.iconst 0, 1) := by decide +kernel
theorem d_N_added_34 : decode prog_8_method_24_code 34 = .ok (.invokevirtual 144, 3) := by decide +kernel
theorem d_N_added_37 : decode prog_8_method_24_code 37 = .ok (.goto 11, 3) := by decide +kernel
theorem d_N_added_40 : decode prog_8_method_24_code 40 = .ok (.aload_n 0, 1) := by decide +kernel
theorem d_N_added_41 : decode prog_8_method_24_code 41 = .ok (.iconst 3, 1) := by decide +kernel
theorem d_N_added_42 : decode prog_8_method_24_code 42 = .ok (.iload_n 2, 1) := by decide +kernel
theorem d_N_added_43 : decode prog_8_method_24_code 43 = .ok (.iload_n 1, 1) := by decide +kernel
theorem d_N_added_44 : decode prog_8_method_24_code 44 = .ok (.iconst 0, 1) := by decide +kernel
theorem d_N_added_45 : decode prog_8_method_24_code 45 = .ok (.invokevirtual 144, 3) := by decide +kernel
theorem d_N_added_48 : decode prog_8_method_24_code 48 = .ok (.ireturn, 1) := by decide +kernel
theorem d_N_less_0 : decode prog_8_method_25_code 0 = .ok (.aload_n 0, 1) := by decide +kernel
theorem d_N_less_1 : decode prog_8_method_25_code 1 = .ok (.getfield 34, 3) := by decide +kernel
theorem d_N_less_4 : decode prog_8_method_25_code 4 = .ok (.iload_n 2, 1) := by decide +kernel
theorem d_N_less_5 : decode prog_8_method_25_code 5 = .ok (.iaload, 1) := by decide +kernel
theorem d_N_less_6 : decode prog_8_method_25_code 6 = .ok (.iconst 2, 1) := by decide +kernel
theorem d_N_less_7 : decode prog_8_method_25_code 7 = .ok (.if_icmp .ne 5, 3) := by decide +kernel
theorem d_N_less_10 : decode prog_8_method_25_code 10 = .ok (.iload_n 1, 1) := by decide +kernel
theorem d_N_less_11 : decode prog_8_method_25_code 11 = .ok (.ireturn, 1) := by decide +kernel
theorem d_N_less_12 : decode prog_8_method_25_code 12 = .ok (.iload_n 1, 1) := by decide +kernel
theorem d_N_less_13 : decode prog_8_method_25_code 13 = .ok (.iload_n 2, 1) := by decide +kernel
theorem d_N_less_14 : decode prog_8_method_25_code 14 = .ok (.if_icmp .ne 10, 3) := by decide +kernel
theorem d_N_less_17 : decode prog_8_method_25_code 17 = .ok (.aload_n 0, 1) := by decide +kernel
theorem d_N_less_18 : decode prog_8_method_25_code 18 = .ok (.invokevirtual 147, 3) := by decide +kernel
theorem d_N_less_21 : decode prog_8_method_25_code 21 = .ok (.goto 11, 3) := by decide +kernel
theorem d_N_less_24 : decode prog_8_method_25_code 24 = .ok (.aload_n 0, 1) := by decide +kernel
theorem d_N_less_25 : decode prog_8_method_25_code 25 = .ok (.iconst 4, 1) := by decide +kernel
theorem d_N_less_26 : decode prog_8_method_25_code 26 = .ok (.iload_n 1, 1) := by decide +kernel
theorem d_N_less_27 : decode prog_8_method_25_code 27 = .ok (.iload_n 2, 1) := by decide +kernel
theorem d_N_less_28 : decode prog_8_method_25_code 28 = .ok (.iconst 0, 1) := by decide +kernel
theorem d_N_less_29 : decode prog_8_method_25_code 29 = .ok (.invokevirtual 144, 3) := by decide +kernel
theorem d_N_less_32 : decode prog_8_method_25_code 32 = .ok (.ireturn, 1) := by decide +kernel
theorem d_N_times_0 : decode prog_8_method_26_code 0 = .ok (.aload_n 0, 1) := by decide +kernel
theorem d_N_times_1 : decode prog_8_method_26_code 1 = .ok (.getfield 34, 3) := by decide +kernel
theorem d_N_times_4 : decode prog_8_method_26_code 4 = .ok (.iload_n 1, 1) := by decide +kernel
theorem d_N_times_5 : decode prog_8_method_26_code 5 = .ok (.iaload, 1) := by decide +kernel
theorem d_N_times_6 : decode prog_8_method_26_code 6 = .ok (.iconst 2, 1) := by decide +kernel
theorem d_N_times_7 : decode prog_8_method_26_code 7 = .ok (.if_icmp .eq 13, 3) := by decide +kernel
theorem d_N_times_10 : decode prog_8_method_26_code 10 = .ok (.aload_n 0, 1) := by decide +kernel
theorem d_N_times_11 : decode prog_8_method_26_code 11 = .ok (.getfield 34, 3) := by decide +kernel
theorem d_N_times_14 : decode prog_8_method_26_code 14 = .ok (.iload_n 2, 1) := by decide +kernel
theorem d_N_times_15 : decode prog_8_method_26_code 15 = .ok (.iaload, 1) := by decide +kernel
theorem d_N_times_16 : decode prog_8_method_26_code 16 = .ok (.iconst 2, 1) := by decide +kernel
theorem d_N_times_17 : decode prog_8_method_26_code 17 = .ok (.if_icmp .ne 8, 3) := by decide +kernel
theorem d_N_times_20 : decode prog_8_method_26_code 20 = .ok (.aload_n 0, 1) := by decide +kernel
theorem d_N_times_21 : decode prog_8_method_26_code 21 = .ok (.invokevirtual 147, 3) := by decide +kernel
theorem d_N_times_24 : decode prog_8_method_26_code 24 = .ok (.ireturn, 1) := by decide +kernel
theorem d_N_times_25 : decode prog_8_method_26_code 25 = .ok (.aload_n 0, 1) := by decide +kernel
theorem d_N_times_26 : decode prog_8_method_26_code 26 = .ok (.getfield 34, 3) := by decide +kernel
theorem d_N_times_29 : decode prog_8_method_26_code 29 = .ok (.iload_n 2, 1) := by decide +kernel
theorem d_N_times_30 : decode prog_8_method_26_code 30 = .ok (.iaload, 1) := by decide +kernel
theorem d_N_times_31 : decode prog_8_method_26_code 31 = .ok (.iconst 1, 1) := by decide +kernel
theorem d_N_times_32 : decode prog_8_method_26_code 32 = .ok (.if_icmp .ne 5, 3) := by decide +kernel
theorem d_N_times_35 : decode prog_8_method_26_code 35 = .ok (.iload_n 1, 1) := by decide +kernel
theorem d_N_times_36 : decode prog_8_method_26_code 36 = .ok (.ireturn, 1) := by decide +kernel
theorem d_N_times_37 : decode prog_8_method_26_code 37 = .ok (.aload_n 0, 1) := by decide +kernel
theorem d_N_times_38 : decode prog_8_method_26_code 38 = .ok (.getfield 34, 3) := by decide +kernel
theorem d_N_times_41 : decode prog_8_method_26_code 41 = .ok (.iload_n 1, 1) := by decide +kernel
theorem d_N_times_42 : decode prog_8_method_26_code 42 = .ok (.iaload, 1) := by decide +kernel
theorem d_N_times_43 : decode prog_8_method_26_code 43 = .ok (.iconst 1, 1) := by decide +kernel
theorem d_N_times_44 : decode prog_8_method_26_code 44 = .ok (.if_icmp .ne 7, 3) := by decide +kernel
theorem d_N_times_47 : decode prog_8_method_26_code 47 = .ok (.iload_n 2, 1) := by decide +kernel
theorem d_N_times_48 : decode prog_8_method_26_code 48 = .ok (.goto 11, 3) := by decide +kernel
theorem d_N_times_51 : decode prog_8_method_26_code 51 = .ok (.aload_n 0, 1) := by decide +kernel
theorem d_N_times_52 : decode prog_8_method_26_code 52 = .ok (.iconst 5, 1) := by decide +kernel
theorem d_N_times_53 : decode prog_8_method_26_code 53 = .ok (.iload_n 1, 1) := by decide +kernel
theorem d_N_times_54 : decode prog_8_method_26_code 54 = .ok (.iload_n 2, 1) := by decide +kernel
theorem d_N_times_55 : decode prog_8_method_26_code 55 = .ok (.iconst 0, 1) := by decide +kernel
theorem d_N_times_56 : decode prog_8_method_26_code 56 = .ok (.invokevirtual 144, 3) := by decide +kernel
theorem d_N_times_59 : decode prog_8_method_26_code 59 = .ok (.ireturn, 1) := by decide +kernel
theorem d_N_turned_0 : decode prog_8_method_27_code 0 = .ok (.aload_n 0, 1) := by decide +kernel
theorem d_N_turned_1 : decode prog_8_method_27_code 1 = .ok (.getfield 34, 3) := by decide +kernel
theorem d_N_turned_4 : decode prog_8_method_27_code 4 = .ok (.iload_n 1, 1) := by decide +kernel
theorem d_N_turned_5 : decode prog_8_method_27_code 5 = .ok (.iaload, 1) := by decide +kernel
theorem d_N_turned_6 : decode prog_8_method_27_code 6 = .ok (.iconst 1, 1) := by decide +kernel
theorem d_N_turned_7 : decode prog_8_method_27_code 7 = .ok (.if_icmp .eq 13, 3) := by decide +kernel
theorem d_N_turned_10 : decode prog_8_method_27_code 10 = .ok (.aload_n 0, 1) := by decide +kernel
theorem d_N_turned_11 : decode prog_8_method_27_code 11 = .ok (.getfield 34, 3) := by decide +kernel
theorem d_N_turned_14 : decode prog_8_method_27_code 14 = .ok (.iload_n 1, 1) := by decide +kernel
theorem d_N_turned_15 : decode prog_8_method_27_code 15 = .ok (.iaload, 1) := by decide +kernel
theorem d_N_turned_16 : decode prog_8_method_27_code 16 = .ok (.iconst 2, 1) := by decide +kernel
theorem d_N_turned_17 : decode prog_8_method_27_code 17 = .ok (.if_icmp .ne 5, 3) := by decide +kernel
theorem d_N_turned_20 : decode prog_8_method_27_code 20 = .ok (.iload_n 1, 1) := by decide +kernel
theorem d_N_turned_21 : decode prog_8_method_27_code 21 = .ok (.ireturn, 1) := by decide +kernel
theorem d_N_turned_22 : decode prog_8_method_27_code 22 = .ok (.aload_n 0, 1) := by decide +kernel
theorem d_N_turned_23 : decode prog_8_method_27_code 23 = .ok (.getfield 34, 3) := by decide +kernel
theorem d_N_turned_26 : decode prog_8_method_27_code 26 = .ok (.iload_n 1, 1) := by decide +kernel
theorem d_N_turned_27 : decode prog_8_method_27_code 27 = .ok (.iaload, 1) := by decide +kernel
theorem d_N_turned_28 : decode prog_8_method_27_code 28 = .ok (.bipush 6, 2) := by decide +kernel
theorem d_N_turned_30 : decode prog_8_method_27_code 30 = .ok (.if_icmp .ne 12, 3) := by decide +kernel
theorem d_N_turned_33 : decode prog_8_method_27_code 33 = .ok (.aload_n 0, 1) := by decide +kernel
theorem d_N_turned_34 : decode prog_8_method_27_code 34 = .ok (.getfield 37, 3) := by decide +kernel
theorem d_N_turned_37 : decode prog_8_method_27_code 37 = .ok (.iload_n 1, 1) := by decide +kernel
theorem d_N_turned_38 : decode prog_8_method_27_code 38 = .ok (.iaload, 1) := by decide +kernel
theorem d_N_turned_39 : decode prog_8_method_27_code 39 = .ok (.goto 12, 3) := by decide +kernel
theorem d_N_turned_42 : decode prog_8_method_27_code 42 = .ok (.aload_n 0, 1) := by decide +kernel
theorem d_N_turned_43 : decode prog_8_method_27_code 43 = .ok (.bipush 6, 2) := by decide +kernel
theorem d_N_turned_45 : decode prog_8_method_27_code 45 = .ok (.iload_n 1, 1) := by decide +kernel
theorem d_N_turned_46 : decode prog_8_method_27_code 46 = .ok (.iconst (-1), 1) := by decide +kernel
theorem d_N_turned_47 : decode prog_8_method_27_code 47 = .ok (.iconst 0, 1) := by decide +kernel
theorem d_N_turned_48 : decode prog_8_method_27_code 48 = .ok (.invokevirtual 144, 3) := by decide +kernel
theorem d_N_turned_51 : decode prog_8_method_27_code 51 = .ok (.ireturn, 1) := by decide +kernel
theorem d_N_scaled_0 : decode prog_8_method_28_code 0 = .ok (.iload_n 2, 1) := by decide +kernel
theorem d_N_scaled_1 : decode prog_8_method_28_code 1 = .ok (.aload_n 0, 1) := by decide +kernel
theorem d_N_scaled_2 : decode prog_8_method_28_code 2 = .ok (.getfield 56, 3) := by decide +kernel
theorem d_N_scaled_5 : decode prog_8_method_28_code 5 = .ok (.irem, 1) := by decide +kernel
theorem d_N_scaled_6 : decode prog_8_method_28_code 6 = .ok (.istore_n 3, 1) := by decide +kernel
theorem d_N_scaled_7 : decode prog_8_method_28_code 7 = .ok (.iload_n 3, 1) := by decide +kernel
theorem d_N_scaled_8 : decode prog_8_method_28_code 8 = .ok (.ifCond .eq 13, 3) := by decide +kernel
theorem d_N_scaled_11 : decode prog_8_method_28_code 11 = .ok (.aload_n 0, 1) := by decide +kernel
theorem d_N_scaled_12 : decode prog_8_method_28_code 12 = .ok (.getfield 34, 3) := by decide +kernel
theorem d_N_scaled_15 : decode prog_8_method_28_code 15 = .ok (.iload_n 1, 1) := by decide +kernel
theorem d_N_scaled_16 : decode prog_8_method_28_code 16 = .ok (.iaload, 1) := by decide +kernel
theorem d_N_scaled_17 : decode prog_8_method_28_code 17 = .ok (.iconst 2, 1) := by decide +kernel
theorem d_N_scaled_18 : decode prog_8_method_28_code 18 = .ok (.if_icmp .ne 8, 3) := by decide +kernel
theorem d_N_scaled_21 : decode prog_8_method_28_code 21 = .ok (.aload_n 0, 1) := by decide +kernel
theorem d_N_scaled_22 : decode prog_8_method_28_code 22 = .ok (.invokevirtual 147, 3) := by decide +kernel
theorem d_N_scaled_25 : decode prog_8_method_28_code 25 = .ok (.ireturn, 1) := by decide +kernel
theorem d_N_scaled_26 : decode prog_8_method_28_code 26 = .ok (.iload_n 3, 1) := by decide +kernel
theorem d_N_scaled_27 : decode prog_8_method_28_code 27 = .ok (.iconst 1, 1) := by decide +kernel
theorem d_N_scaled_28 : decode prog_8_method_28_code 28 = .ok (.if_icmp .ne 5, 3) := by decide +kernel
theorem d_N_scaled_31 : decode prog_8_method_28_code 31 = .ok (.iload_n 1, 1) := by decide +kernel
theorem d_N_scaled_32 : decode prog_8_method_28_code 32 = .ok (.ireturn, 1) := by decide +kernel
theorem d_N_scaled_33 : decode prog_8_method_28_code 33 = .ok (.aload_n 0, 1) := by decide +kernel
theorem d_N_scaled_34 : decode prog_8_method_28_code 34 = .ok (.getfield 34, 3) := by decide +kernel
theorem d_N_scaled_37 : decode prog_8_method_28_code 37 = .ok (.iload_n 1, 1) := by decide +kernel
theorem d_N_scaled_38 : decode prog_8_method_28_code 38 = .ok (.iaload, 1) := by decide +kernel
theorem d_N_scaled_39 : decode prog_8_method_28_code 39 = .ok (.bipush 7, 2) := by decide +kernel
theorem d_N_scaled_41 : decode prog_8_method_28_code 41 = .ok (.if_icmp .eq 13, 3) := by decide +kernel
theorem d_N_scaled_44 : decode prog_8_method_28_code 44 = .ok (.aload_n 0, 1) := by decide +kernel
theorem d_N_scaled_45 : decode prog_8_method_28_code 45 = .ok (.bipush 7, 2) := by decide +kernel
theorem d_N_scaled_47 : decode prog_8_method_28_code 47 = .ok (.iload_n 1, 1) := by decide +kernel
theorem d_N_scaled_48 : decode prog_8_method_28_code 48 = .ok (.iconst (-1), 1) := by decide +kernel
theorem d_N_scaled_49 : decode prog_8_method_28_code 49 = .ok (.iload_n 3, 1) := by decide +kernel
theorem d_N_scaled_50 : decode prog_8_method_28_code 50 = .ok (.invokevirtual 144, 3) := by decide +kernel
theorem d_N_scaled_53 : decode prog_8_method_28_code 53 = .ok (.ireturn, 1) := by decide +kernel
theorem d_N_scaled_54 : decode prog_8_method_28_code 54 = .ok (.aload_n 0, 1) := by decide +kernel
theorem d_N_scaled_55 : decode prog_8_method_28_code 55 = .ok (.getfield 43, 3) := by decide +kernel
theorem d_N_scaled_58 : decode prog_8_method_28_code 58 = .ok (.iload_n 1, 1) := by decide +kernel
theorem d_N_scaled_59 : decode prog_8_method_28_code 59 = .ok (.iaload, 1) := by decide +kernel
theorem d_N_scaled_60 : decode prog_8_method_28_code 60 = .ok (.iload_n 3, 1) := by decide +kernel
theorem d_N_scaled_61 : decode prog_8_method_28_code 61 = .ok (.imul, 1) := by decide +kernel
theorem d_N_scaled_62 : decode prog_8_method_28_code 62 = .ok (.aload_n 0, 1) := by decide +kernel
theorem d_N_scaled_63 : decode prog_8_method_28_code 63 = .ok (.getfield 56, 3) := by decide +kernel
theorem d_N_scaled_66 : decode prog_8_method_28_code 66 = .ok (.irem, 1) := by decide +kernel
theorem d_N_scaled_67 : decode prog_8_method_28_code 67 = .ok (.istore 4, 2) := by decide +kernel
theorem d_N_scaled_69 : decode prog_8_method_28_code 69 = .ok (.iload 4, 2) := by decide +kernel
theorem d_N_scaled_71 : decode prog_8_method_28_code 71 = .ok (.ifCond .ne 10, 3) := by decide +kernel
theorem d_N_scaled_74 : decode prog_8_method_28_code 74 = .ok (.aload_n 0, 1) := by decide +kernel
theorem d_N_scaled_75 : decode prog_8_method_28_code 75 = .ok (.invokevirtual 147, 3) := by decide +kernel
theorem d_N_scaled_78 : decode prog_8_method_28_code 78 = .ok (.goto 33, 3) := by decide +kernel
theorem d_N_scaled_81 : decode prog_8_method_28_code 81 = .ok (.iload 4, 2) := by decide +kernel
theorem d_N_scaled_83 : decode prog_8_method_28_code 83 = .ok (.iconst 1, 1) := by decide +kernel
theorem d_N_scaled_84 : decode prog_8_method_28_code 84 = .ok (.if_icmp .ne 12, 3) := by decide +kernel
theorem d_N_scaled_87 : decode prog_8_method_28_code 87 = .ok (.aload_n 0, 1) := by decide +kernel
theorem d_N_scaled_88 : decode prog_8_method_28_code 88 = .ok (.getfield 37, 3) := by decide +kernel
theorem d_N_scaled_91 : decode prog_8_method_28_code 91 = .ok (.iload_n 1, 1) := by decide +kernel
theorem d_N_scaled_92 : decode prog_8_method_28_code 92 = .ok (.iaload, 1) := by decide +kernel
theorem d_N_scaled_93 : decode prog_8_method_28_code 93 = .ok (.goto 18, 3) := by decide +kernel
theorem d_N_scaled_96 : decode prog_8_method_28_code 96 = .ok (.aload_n 0, 1) := by decide +kernel
theorem d_N_scaled_97 : decode prog_8_method_28_code 97 = .ok (.bipush 7, 2) := by decide +kernel
theorem d_N_scaled_99 : decode prog_8_method_28_code 99 = .ok (.aload_n 0, 1) := by decide +kernel
theorem d_N_scaled_100 : decode prog_8_method_28_code 100 = .ok (.getfield 37, 3) := by decide +kernel
theorem d_N_scaled_103 : decode prog_8_method_28_code 103 = .ok (.iload_n 1, 1) := by decide +kernel
theorem d_N_scaled_104 : decode prog_8_method_28_code 104 = .ok (.iaload, 1) := by decide +kernel
theorem d_N_scaled_105 : decode prog_8_method_28_code 105 = .ok (.iconst (-1), 1) := by decide +kernel
theorem d_N_scaled_106 : decode prog_8_method_28_code 106 = .ok (.iload 4, 2) := by decide +kernel
theorem d_N_scaled_108 : decode prog_8_method_28_code 108 = .ok (.invokevirtual 144, 3) := by decide +kernel
theorem d_N_scaled_111 : decode prog_8_method_28_code 111 = .ok (.ireturn, 1) := by decide +kernel
theorem d_N_valueOfInstruction_0 : decode prog_8_method_29_code 0 = .ok (.aload_n 0, 1) := by decide +kernel
theorem d_N_valueOfInstruction_1 : decode prog_8_method_29_code 1 = .ok (.getfield 50, 3) := by decide +kernel
theorem d_N_valueOfInstruction_4 : decode prog_8_method_29_code 4 = .ok (.aload_n 0, 1) := by decide +kernel
theorem d_N_valueOfInstruction_5 : decode prog_8_method_29_code 5 = .ok (.getfield 22, 3) := by decide +kernel
theorem d_N_valueOfInstruction_8 : decode prog_8_method_29_code 8 = .ok (.iload_n 1, 1) := by decide +kernel
theorem d_N_valueOfInstruction_9 : decode prog_8_method_29_code 9 = .ok (.iaload, 1) := by decide +kernel
theorem d_N_valueOfInstruction_10 : decode prog_8_method_29_code 10 = .ok (.iaload, 1) := by decide +kernel
theorem d_N_valueOfInstruction_11 : decode prog_8_method_29_code 11 = .ok (.istore_n 2, 1) := by decide +kernel
theorem d_N_valueOfInstruction_12 : decode prog_8_method_29_code 12 = .ok (.aload_n 0, 1) := by decide +kernel
theorem d_N_valueOfInstruction_13 : decode prog_8_method_29_code 13 = .ok (.getfield 50, 3) := by decide +kernel
theorem d_N_valueOfInstruction_16 : decode prog_8_method_29_code 16 = .ok (.aload_n 0, 1) := by decide +kernel
theorem d_N_valueOfInstruction_17 : decode prog_8_method_29_code 17 = .ok (.getfield 25, 3) := by decide +kernel
theorem d_N_valueOfInstruction_20 : decode prog_8_method_29_code 20 = .ok (.iload_n 1, 1) := by decide +kernel
theorem d_N_valueOfInstruction_21 : decode prog_8_method_29_code 21 = .ok (.iaload, 1) := by decide +kernel
theorem d_N_valueOfInstruction_22 : decode prog_8_method_29_code 22 = .ok (.iaload, 1) := by decide +kernel
theorem d_N_valueOfInstruction_23 : decode prog_8_method_29_code 23 = .ok (.istore_n 3, 1) := by decide +kernel
theorem d_N_valueOfInstruction_24 : decode prog_8_method_29_code 24 = .ok (.aload_n 0, 1) := by decide +kernel
theorem d_N_valueOfInstruction_25 : decode prog_8_method_29_code 25 = .ok (.getfield 19, 3) := by decide +kernel
theorem d_N_valueOfInstruction_28 : decode prog_8_method_29_code 28 = .ok (.iload_n 1, 1) := by decide +kernel
theorem d_N_valueOfInstruction_29 : decode prog_8_method_29_code 29 = .ok (.iaload, 1) := by decide +kernel
theorem d_N_valueOfInstruction_30 : decode prog_8_method_29_code 30 = .ok (.iconst 3, 1) := by decide +kernel
theorem d_N_valueOfInstruction_31 : decode prog_8_method_29_code 31 = .ok (.if_icmp .ne 10, 3) := by decide +kernel
theorem d_N_valueOfInstruction_34 : decode prog_8_method_29_code 34 = .ok (.aload_n 0, 1) := by decide +kernel
theorem d_N_valueOfInstruction_35 : decode prog_8_method_29_code 35 = .ok (.iload_n 2, 1) := by decide +kernel
theorem d_N_valueOfInstruction_36 : decode prog_8_method_29_code 36 = .ok (.iload_n 3, 1) := by decide +kernel
theorem d_N_valueOfInstruction_37 : decode prog_8_method_29_code 37 = .ok (.invokevirtual 150, 3) := by decide +kernel
theorem d_N_valueOfInstruction_40 : decode prog_8_method_29_code 40 = .ok (.ireturn, 1) := by decide +kernel
theorem d_N_valueOfInstruction_41 : decode prog_8_method_29_code 41 = .ok (.aload_n 0, 1) := by decide +kernel
theorem d_N_valueOfInstruction_42 : decode prog_8_method_29_code 42 = .ok (.getfield 19, 3) := by decide +kernel
theorem d_N_valueOfInstruction_45 : decode prog_8_method_29_code 45 = .ok (.iload_n 1, 1) := by decide +kernel
theorem d_N_valueOfInstruction_46 : decode prog_8_method_29_code 46 = .ok (.iaload, 1) := by decide +kernel
theorem d_N_valueOfInstruction_47 : decode prog_8_method_29_code 47 = .ok (.iconst 4, 1) := by decide +kernel
theorem d_N_valueOfInstruction_48 : decode prog_8_method_29_code 48 = .ok (.if_icmp .ne 10, 3) := by decide +kernel
theorem d_N_valueOfInstruction_51 : decode prog_8_method_29_code 51 = .ok (.aload_n 0, 1) := by decide +kernel
theorem d_N_valueOfInstruction_52 : decode prog_8_method_29_code 52 = .ok (.iload_n 2, 1) := by decide +kernel
theorem d_N_valueOfInstruction_53 : decode prog_8_method_29_code 53 = .ok (.iload_n 3, 1) := by decide +kernel
theorem d_N_valueOfInstruction_54 : decode prog_8_method_29_code 54 = .ok (.invokevirtual 153, 3) := by decide +kernel
theorem d_N_valueOfInstruction_57 : decode prog_8_method_29_code 57 = .ok (.ireturn, 1) := by decide +kernel
theorem d_N_valueOfInstruction_58 : decode prog_8_method_29_code 58 = .ok (.aload_n 0, 1) := by decide +kernel
theorem d_N_valueOfInstruction_59 : decode prog_8_method_29_code 59 = .ok (.getfield 19, 3) := by decide +kernel
theorem d_N_valueOfInstruction_62 : decode prog_8_method_29_code 62 = .ok (.iload_n 1, 1) := by decide +kernel
theorem d_N_valueOfInstruction_63 : decode prog_8_method_29_code 63 = .ok (.iaload, 1) := by decide +kernel
theorem d_N_valueOfInstruction_64 : decode prog_8_method_29_code 64 = .ok (.iconst 5, 1) := by decide +kernel
theorem d_N_valueOfInstruction_65 : decode prog_8_method_29_code 65 = .ok (.if_icmp .ne 10, 3) := by decide +kernel
theorem d_N_valueOfInstruction_68 : decode prog_8_method_29_code 68 = .ok (.aload_n 0, 1) := by decide +kernel
theorem d_N_valueOfInstruction_69 : decode prog_8_method_29_code 69 = .ok (.iload_n 2, 1) := by decide +kernel
theorem d_N_valueOfInstruction_70 : decode prog_8_method_29_code 70 = .ok (.iload_n 3, 1) := by decide +kernel
theorem d_N_valueOfInstruction_71 : decode prog_8_method_29_code 71 = .ok (.invokevirtual 156, 3) := by decide +kernel
theorem d_N_valueOfInstruction_74 : decode prog_8_method_29_code 74 = .ok (.ireturn, 1) := by decide +kernel
theorem d_N_valueOfInstruction_75 : decode prog_8_method_29_code 75 = .ok (.aload_n 0, 1) := by decide +kernel
theorem d_N_valueOfInstruction_76 : decode prog_8_method_29_code 76 = .ok (.getfield 19, 3) := by decide +kernel
theorem d_N_valueOfInstruction_79 : decode prog_8_method_29_code 79 = .ok (.iload_n 1, 1) := by decide +kernel
theorem d_N_valueOfInstruction_80 : decode prog_8_method_29_code 80 = .ok (.iaload, 1) := by decide +kernel
theorem d_N_valueOfInstruction_81 : decode prog_8_method_29_code 81 = .ok (.bipush 6, 2) := by decide +kernel
theorem d_N_valueOfInstruction_83 : decode prog_8_method_29_code 83 = .ok (.if_icmp .ne 9, 3) := by decide +kernel
theorem d_N_valueOfInstruction_86 : decode prog_8_method_29_code 86 = .ok (.aload_n 0, 1) := by decide +kernel
theorem d_N_valueOfInstruction_87 : decode prog_8_method_29_code 87 = .ok (.iload_n 2, 1) := by decide +kernel
theorem d_N_valueOfInstruction_88 : decode prog_8_method_29_code 88 = .ok (.invokevirtual 159, 3) := by decide +kernel
theorem d_N_valueOfInstruction_91 : decode prog_8_method_29_code 91 = .ok (.ireturn, 1) := by decide +kernel
theorem d_N_valueOfInstruction_92 : decode prog_8_method_29_code 92 = .ok (.aload_n 0, 1) := by decide +kernel
theorem d_N_valueOfInstruction_93 : decode prog_8_method_29_code 93 = .ok (.getfield 19, 3) := by decide +kernel
theorem d_N_valueOfInstruction_96 : decode prog_8_method_29_code 96 = .ok (.iload_n 1, 1) := by decide +kernel
theorem d_N_valueOfInstruction_97 : decode prog_8_method_29_code 97 = .ok (.iaload, 1) := by decide +kernel
theorem d_N_valueOfInstruction_98 : decode prog_8_method_29_code 98 = .ok (.bipush 7, 2) := by decide +kernel
theorem d_N_valueOfInstruction_100 : decode prog_8_method_29_code 100 = .ok (.if_icmp .ne 17, 3) := by decide +kernel
theorem d_N_valueOfInstruction_103 : decode prog_8_method_29_code 103 = .ok (.aload_n 0, 1) := by decide +kernel
theorem d_N_valueOfInstruction_104 : decode prog_8_method_29_code 104 = .ok (.iload_n 2, 1) := by decide +kernel
theorem d_N_valueOfInstruction_105 : decode prog_8_method_29_code 105 = .ok (.aload_n 0, 1) := by decide +kernel
theorem d_N_valueOfInstruction_106 : decode prog_8_method_29_code 106 = .ok (.getfield 28, 3) := by decide +kernel
theorem d_N_valueOfInstruction_109 : decode prog_8_method_29_code 109 = .ok (.iload_n 1, 1) := by decide +kernel
theorem d_N_valueOfInstruction_110 : decode prog_8_method_29_code 110 = .ok (.iaload, 1) := by decide +kernel
theorem d_N_valueOfInstruction_111 : decode prog_8_method_29_code 111 = .ok (.invokevirtual 162, 3) := by decide +kernel
theorem d_N_valueOfInstruction_114 : decode prog_8_method_29_code 114 = .ok (.goto 21, 3) := by decide +kernel
theorem d_N_valueOfInstruction_117 : decode prog_8_method_29_code 117 = .ok (.aload_n 0, 1) := by decide +kernel
theorem d_N_valueOfInstruction_118 : decode prog_8_method_29_code 118 = .ok (.aload_n 0, 1) := by decide +kernel
theorem d_N_valueOfInstruction_119 : decode prog_8_method_29_code 119 = .ok (.getfield 19, 3) := by decide +kernel
theorem d_N_valueOfInstruction_122 : decode prog_8_method_29_code 122 = .ok (.iload_n 1, 1) := by decide +kernel
theorem d_N_valueOfInstruction_123 : decode prog_8_method_29_code 123 = .ok (.iaload, 1) := by decide +kernel
theorem d_N_valueOfInstruction_124 : decode prog_8_method_29_code 124 = .ok (.iconst (-1), 1) := by decide +kernel
theorem d_N_valueOfInstruction_125 : decode prog_8_method_29_code 125 = .ok (.iconst (-1), 1) := by decide +kernel
theorem d_N_valueOfInstruction_126 : decode prog_8_method_29_code 126 = .ok (.aload_n 0, 1) := by decide +kernel
theorem d_N_valueOfInstruction_127 : decode prog_8_method_29_code 127 = .ok (.getfield 28, 3) := by decide +kernel
theorem d_N_valueOfInstruction_130 : decode prog_8_method_29_code 130 = .ok (.iload_n 1, 1) := by decide +kernel
theorem d_N_valueOfInstruction_131 : decode prog_8_method_29_code 131 = .ok (.iaload, 1) := by decide +kernel
theorem d_N_valueOfInstruction_132 : decode prog_8_method_29_code 132 = .ok (.invokevirtual 144, 3) := by decide +kernel
theorem d_N_valueOfInstruction_135 : decode prog_8_method_29_code 135 = .ok (.ireturn, 1) := by decide +kernel
theorem d_N_optimise_0 : decode prog_8_method_30_code 0 = .ok (.aload_n 0, 1) := by decide +kernel
theorem d_N_optimise_1 : decode prog_8_method_30_code 1 = .ok (.getfield 90, 3) := by decide +kernel
theorem d_N_optimise_4 : decode prog_8_method_30_code 4 = .ok (.ifCond .ne 6, 3) := by decide +kernel
theorem d_N_optimise_7 : decode prog_8_method_30_code 7 = .ok (.bipush 7, 2) := by decide +kernel
theorem d_N_optimise_9 : decode prog_8_method_30_code 9 = .ok (.ireturn, 1) := by decide +kernel
theorem d_N_optimise_10 : decode prog_8_method_30_code 10 = .ok (.aload_n 0, 1) := by decide +kernel
theorem d_N_optimise_11 : decode prog_8_method_30_code 11 = .ok (.iconst 0, 1) := by decide +kernel
theorem d_N_optimise_12 : decode prog_8_method_30_code 12 = .ok (.putfield 141, 3) := by decide +kernel
theorem d_N_optimise_15 : decode prog_8_method_30_code 15 = .ok (.iconst 0, 1) := by decide +kernel
theorem d_N_optimise_16 : decode prog_8_method_30_code 16 = .ok (.istore_n 1, 1) := by decide +kernel
theorem d_N_optimise_17 : decode prog_8_method_30_code 17 = .ok (.iload_n 1, 1) := by decide +kernel
theorem d_N_optimise_18 : decode prog_8_method_30_code 18 = .ok (.aload_n 0, 1) := by decide +kernel
theorem d_N_optimise_19 : decode prog_8_method_30_code 19 = .ok (.getfield 121, 3) := by decide +kernel
theorem d_N_optimise_22 : decode prog_8_method_30_code 22 = .ok (.if_icmp .ge 20, 3) := by decide +kernel
theorem d_N_optimise_25 : decode prog_8_method_30_code 25 = .ok (.aload_n 0, 1) := by decide +kernel
theorem d_N_optimise_26 : decode prog_8_method_30_code 26 = .ok (.getfield 50, 3) := by decide +kernel
theorem d_N_optimise_29 : decode prog_8_method_30_code 29 = .ok (.iload_n 1, 1) := by decide +kernel
theorem d_N_optimise_30 : decode prog_8_method_30_code 30 = .ok (.aload_n 0, 1) := by decide +kernel
theorem d_N_optimise_31 : decode prog_8_method_30_code 31 = .ok (.iload_n 1, 1) := by decide +kernel
theorem d_N_optimise_32 : decode prog_8_method_30_code 32 = .ok (.invokevirtual 165, 3) := by decide +kernel
theorem d_N_optimise_35 : decode prog_8_method_30_code 35 = .ok (.iastore, 1) := by decide +kernel
theorem d_N_optimise_36 : decode prog_8_method_30_code 36 = .ok (.iinc 1 1, 3) := by decide +kernel
theorem d_N_optimise_39 : decode prog_8_method_30_code 39 = .ok (.goto (-22), 3) := by decide +kernel
theorem d_N_optimise_42 : decode prog_8_method_30_code 42 = .ok (.aload_n 0, 1) := by decide +kernel
theorem d_N_optimise_43 : decode prog_8_method_30_code 43 = .ok (.getfield 46, 3) := by decide +kernel
theorem d_N_optimise_46 : decode prog_8_method_30_code 46 = .ok (.aload_n 0, 1) := by decide +kernel
theorem d_N_optimise_47 : decode prog_8_method_30_code 47 = .ok (.getfield 50, 3) := by decide +kernel
theorem d_N_optimise_50 : decode prog_8_method_30_code 50 = .ok (.aload_n 0, 1) := by decide +kernel
theorem d_N_optimise_51 : decode prog_8_method_30_code 51 = .ok (.getfield 138, 3) := by decide +kernel
theorem d_N_optimise_54 : decode prog_8_method_30_code 54 = .ok (.iaload, 1) := by decide +kernel
theorem d_N_optimise_55 : decode prog_8_method_30_code 55 = .ok (.iconst 1, 1) := by decide +kernel
theorem d_N_optimise_56 : decode prog_8_method_30_code 56 = .ok (.bastore, 1) := by decide +kernel
theorem d_N_optimise_57 : decode prog_8_method_30_code 57 = .ok (.aload_n 0, 1) := by decide +kernel
theorem d_N_optimise_58 : decode prog_8_method_30_code 58 = .ok (.getfield 141, 3) := by decide +kernel
theorem d_N_optimise_61 : decode prog_8_method_30_code 61 = .ok (.iconst 1, 1) := by decide +kernel
theorem d_N_optimise_62 : decode prog_8_method_30_code 62 = .ok (.isub, 1) := by decide +kernel
theorem d_N_optimise_63 : decode prog_8_method_30_code 63 = .ok (.istore_n 1, 1) := by decide +kernel
theorem d_N_optimise_64 : decode prog_8_method_30_code 64 = .ok (.iload_n 1, 1) := by decide +kernel
theorem d_N_optimise_65 : decode prog_8_method_30_code 65 = .ok (.ifCond .lt 69, 3) := by decide +kernel
theorem d_N_optimise_68 : decode prog_8_method_30_code 68 = .ok (.aload_n 0, 1) := by decide +kernel
theorem d_N_optimise_69 : decode prog_8_method_30_code 69 = .ok (.getfield 46, 3) := by decide +kernel
theorem d_N_optimise_72 : decode prog_8_method_30_code 72 = .ok (.iload_n 1, 1) := by decide +kernel
theorem d_N_optimise_73 : decode prog_8_method_30_code 73 = .ok (.baload, 1) := by decide +kernel
theorem d_N_optimise_74 : decode prog_8_method_30_code 74 = .ok (.ifCond .eq 24, 3) := by decide +kernel
theorem d_N_optimise_77 : decode prog_8_method_30_code 77 = .ok (.aload_n 0, 1) := by decide +kernel
theorem d_N_optimise_78 : decode prog_8_method_30_code 78 = .ok (.getfield 37, 3) := by decide +kernel
theorem d_N_optimise_81 : decode prog_8_method_30_code 81 = .ok (.iload_n 1, 1) := by decide +kernel
theorem d_N_optimise_82 : decode prog_8_method_30_code 82 = .ok (.iaload, 1) := by decide +kernel
theorem d_N_optimise_83 : decode prog_8_method_30_code 83 = .ok (.ifCond .lt 15, 3) := by decide +kernel
theorem d_N_optimise_86 : decode prog_8_method_30_code 86 = .ok (.aload_n 0, 1) := by decide +kernel
theorem d_N_optimise_87 : decode prog_8_method_30_code 87 = .ok (.getfield 46, 3) := by decide +kernel
theorem d_N_optimise_90 : decode prog_8_method_30_code 90 = .ok (.aload_n 0, 1) := by decide +kernel
theorem d_N_optimise_91 : decode prog_8_method_30_code 91 = .ok (.getfield 37, 3) := by decide +kernel
theorem d_N_optimise_94 : decode prog_8_method_30_code 94 = .ok (.iload_n 1, 1) := by decide +kernel
theorem d_N_optimise_95 : decode prog_8_method_30_code 95 = .ok (.iaload, 1) := by decide +kernel
theorem d_N_optimise_96 : decode prog_8_method_30_code 96 = .ok (.iconst 1, 1) := by decide +kernel
theorem d_N_optimise_97 : decode prog_8_method_30_code 97 = .ok (.bastore, 1) := by decide +kernel
theorem d_N_optimise_98 : decode prog_8_method_30_code 98 = .ok (.aload_n 0, 1) := by decide +kernel
theorem d_N_optimise_99 : decode prog_8_method_30_code 99 = .ok (.getfield 46, 3) := by decide +kernel
theorem d_N_optimise_102 : decode prog_8_method_30_code 102 = .ok (.iload_n 1, 1) := by decide +kernel
theorem d_N_optimise_103 : decode prog_8_method_30_code 103 = .ok (.baload, 1) := by decide +kernel
theorem d_N_optimise_104 : decode prog_8_method_30_code 104 = .ok (.ifCond .eq 24, 3) := by decide +kernel
theorem d_N_optimise_107 : decode prog_8_method_30_code 107 = .ok (.aload_n 0, 1) := by decide +kernel
theorem d_N_optimise_108 : decode prog_8_method_30_code 108 = .ok (.getfield 40, 3) := by decide +kernel
theorem d_N_optimise_111 : decode prog_8_method_30_code 111 = .ok (.iload_n 1, 1) := by decide +kernel
theorem d_N_optimise_112 : decode prog_8_method_30_code 112 = .ok (.iaload, 1) := by decide +kernel
theorem d_N_optimise_113 : decode prog_8_method_30_code 113 = .ok (.ifCond .lt 15, 3) := by decide +kernel
theorem d_N_optimise_116 : decode prog_8_method_30_code 116 = .ok (.aload_n 0, 1) := by decide +kernel
theorem d_N_optimise_117 : decode prog_8_method_30_code 117 = .ok (.getfield 46, 3) := by decide +kernel
theorem d_N_optimise_120 : decode prog_8_method_30_code 120 = .ok (.aload_n 0, 1) := by decide +kernel
theorem d_N_optimise_121 : decode prog_8_method_30_code 121 = .ok (.getfield 40, 3) := by decide +kernel
theorem d_N_optimise_124 : decode prog_8_method_30_code 124 = .ok (.iload_n 1, 1) := by decide +kernel
theorem d_N_optimise_125 : decode prog_8_method_30_code 125 = .ok (.iaload, 1) := by decide +kernel
theorem d_N_optimise_126 : decode prog_8_method_30_code 126 = .ok (.iconst 1, 1) := by decide +kernel
theorem d_N_optimise_127 : decode prog_8_method_30_code 127 = .ok (.bastore, 1) := by decide +kernel
theorem d_N_optimise_128 : decode prog_8_method_30_code 128 = .ok (.iinc 1 (-1), 3) := by decide +kernel
theorem d_N_optimise_131 : decode prog_8_method_30_code 131 = .ok (.goto (-67), 3) := by decide +kernel
theorem d_N_optimise_134 : decode prog_8_method_30_code 134 = .ok (.aload_n 0, 1) := by decide +kernel
theorem d_N_optimise_135 : decode prog_8_method_30_code 135 = .ok (.iconst 0, 1) := by decide +kernel
theorem d_N_optimise_136 : decode prog_8_method_30_code 136 = .ok (.putfield 121, 3) := by decide +kernel
theorem d_N_optimise_139 : decode prog_8_method_30_code 139 = .ok (.iconst 0, 1) := by decide +kernel
theorem d_N_optimise_140 : decode prog_8_method_30_code 140 = .ok (.istore_n 1, 1) := by decide +kernel
theorem d_N_optimise_141 : decode prog_8_method_30_code 141 = .ok (.iload_n 1, 1) := by decide +kernel
theorem d_N_optimise_142 : decode prog_8_method_30_code 142 = .ok (.aload_n 0, 1) := by decide +kernel
theorem d_N_optimise_143 : decode prog_8_method_30_code 143 = .ok (.getfield 141, 3) := by decide +kernel
theorem d_N_optimise_146 : decode prog_8_method_30_code 146 = .ok (.if_icmp .ge 88, 3) := by decide +kernel
theorem d_N_optimise_149 : decode prog_8_method_30_code 149 = .ok (.aload_n 0, 1) := by decide +kernel
theorem d_N_optimise_150 : decode prog_8_method_30_code 150 = .ok (.getfield 46, 3) := by decide +kernel
theorem d_N_optimise_153 : decode prog_8_method_30_code 153 = .ok (.iload_n 1, 1) := by decide +kernel
theorem d_N_optimise_154 : decode prog_8_method_30_code 154 = .ok (.baload, 1) := by decide +kernel
theorem d_N_optimise_155 : decode prog_8_method_30_code 155 = .ok (.ifCond .eq 73, 3) := by decide +kernel
theorem d_N_optimise_158 : decode prog_8_method_30_code 158 = .ok (.aload_n 0, 1) := by decide +kernel
theorem d_N_optimise_159 : decode prog_8_method_30_code 159 = .ok (.getfield 53, 3) := by decide +kernel
theorem d_N_optimise_162 : decode prog_8_method_30_code 162 = .ok (.iload_n 1, 1) := by decide +kernel
theorem d_N_optimise_163 : decode prog_8_method_30_code 163 = .ok (.aload_n 0, 1) := by decide +kernel
theorem d_N_optimise_164 : decode prog_8_method_30_code 164 = .ok (.aload_n 0, 1) := by decide +kernel
theorem d_N_optimise_165 : decode prog_8_method_30_code 165 = .ok (.getfield 34, 3) := by decide +kernel
theorem d_N_optimise_168 : decode prog_8_method_30_code 168 = .ok (.iload_n 1, 1) := by decide +kernel
theorem d_N_optimise_169 : decode prog_8_method_30_code 169 = .ok (.iaload, 1) := by decide +kernel
theorem d_N_optimise_170 : decode prog_8_method_30_code 170 = .ok (.aload_n 0, 1) := by decide +kernel
theorem d_N_optimise_171 : decode prog_8_method_30_code 171 = .ok (.getfield 37, 3) := by decide +kernel
theorem d_N_optimise_174 : decode prog_8_method_30_code 174 = .ok (.iload_n 1, 1) := by decide +kernel
theorem d_N_optimise_175 : decode prog_8_method_30_code 175 = .ok (.iaload, 1) := by decide +kernel
theorem d_N_optimise_176 : decode prog_8_method_30_code 176 = .ok (.ifCond .ge 7, 3) := by decide +kernel
theorem d_N_optimise_179 : decode prog_8_method_30_code 179 = .ok (.iconst 0, 1) := by decide +kernel
theorem d_N_optimise_180 : decode prog_8_method_30_code 180 = .ok (.goto 14, 3) := by decide +kernel
theorem d_N_optimise_183 : decode prog_8_method_30_code 183 = .ok (.aload_n 0, 1) := by decide +kernel
theorem d_N_optimise_184 : decode prog_8_method_30_code 184 = .ok (.getfield 53, 3) := by decide +kernel
theorem d_N_optimise_187 : decode prog_8_method_30_code 187 = .ok (.aload_n 0, 1) := by decide +kernel
theorem d_N_optimise_188 : decode prog_8_method_30_code 188 = .ok (.getfield 37, 3) := by decide +kernel
theorem d_N_optimise_191 : decode prog_8_method_30_code 191 = .ok (.iload_n 1, 1) := by decide +kernel
theorem d_N_optimise_192 : decode prog_8_method_30_code 192 = .ok (.iaload, 1) := by decide +kernel
theorem d_N_optimise_193 : decode prog_8_method_30_code 193 = .ok (.iaload, 1) := by decide +kernel
theorem d_N_optimise_194 : decode prog_8_method_30_code 194 = .ok (.aload_n 0, 1) := by decide +kernel
theorem d_N_optimise_195 : decode prog_8_method_30_code 195 = .ok (.getfield 40, 3) := by decide +kernel
theorem d_N_optimise_198 : decode prog_8_method_30_code 198 = .ok (.iload_n 1, 1) := by decide +kernel
theorem d_N_optimise_199 : decode prog_8_method_30_code 199 = .ok (.iaload, 1) := by decide +kernel
theorem d_N_optimise_200 : decode prog_8_method_30_code 200 = .ok (.ifCond .ge 7, 3) := by decide +kernel
theorem d_N_optimise_203 : decode prog_8_method_30_code 203 = .ok (.iconst 0, 1) := by decide +kernel
theorem d_N_optimise_204 : decode prog_8_method_30_code 204 = .ok (.goto 14, 3) := by decide +kernel
theorem d_N_optimise_207 : decode prog_8_method_30_code 207 = .ok (.aload_n 0, 1) := by decide +kernel
theorem d_N_optimise_208 : decode prog_8_method_30_code 208 = .ok (.getfield 53, 3) := by decide +kernel
theorem d_N_optimise_211 : decode prog_8_method_30_code 211 = .ok (.aload_n 0, 1) := by decide +kernel
theorem d_N_optimise_212 : decode prog_8_method_30_code 212 = .ok (.getfield 40, 3) := by decide +kernel
theorem d_N_optimise_215 : decode prog_8_method_30_code 215 = .ok (.iload_n 1, 1) := by decide +kernel
theorem d_N_optimise_216 : decode prog_8_method_30_code 216 = .ok (.iaload, 1) := by decide +kernel
theorem d_N_optimise_217 : decode prog_8_method_30_code 217 = .ok (.iaload, 1) := by decide +kernel
theorem d_N_optimise_218 : decode prog_8_method_30_code 218 = .ok (.aload_n 0, 1) := by decide +kernel
theorem d_N_optimise_219 : decode prog_8_method_30_code 219 = .ok (.getfield 43, 3) := by decide +kernel
theorem d_N_optimise_222 : decode prog_8_method_30_code 222 = .ok (.iload_n 1, 1) := by decide +kernel
theorem d_N_optimise_223 : decode prog_8_method_30_code 223 = .ok (.iaload, 1) := by decide +kernel
theorem d_N_optimise_224 : decode prog_8_method_30_code 224 = .ok (.invokevirtual 127, 3) := by decide +kernel
theorem d_N_optimise_227 : decode prog_8_method_30_code 227 = .ok (.iastore, 1) := by decide +kernel
theorem d_N_optimise_228 : decode prog_8_method_30_code 228 = .ok (.iinc 1 1, 3) := by decide +kernel
theorem d_N_optimise_231 : decode prog_8_method_30_code 231 = .ok (.goto (-90), 3) := by decide +kernel
theorem d_N_optimise_234 : decode prog_8_method_30_code 234 = .ok (.aload_n 0, 1) := by decide +kernel
theorem d_N_optimise_235 : decode prog_8_method_30_code 235 = .ok (.aload_n 0, 1) := by decide +kernel
theorem d_N_optimise_236 : decode prog_8_method_30_code 236 = .ok (.getfield 121, 3) := by decide +kernel
theorem d_N_optimise_239 : decode prog_8_method_30_code 239 = .ok (.iconst 1, 1) := by decide +kernel
theorem d_N_optimise_240 : decode prog_8_method_30_code 240 = .ok (.isub, 1) := by decide +kernel
theorem d_N_optimise_241 : decode prog_8_method_30_code 241 = .ok (.putfield 138, 3) := by decide +kernel
theorem d_N_optimise_244 : decode prog_8_method_30_code 244 = .ok (.aload_n 0, 1) := by decide +kernel
theorem d_N_optimise_245 : decode prog_8_method_30_code 245 = .ok (.iconst 0, 1) := by decide +kernel
theorem d_N_optimise_246 : decode prog_8_method_30_code 246 = .ok (.putfield 98, 3) := by decide +kernel
theorem d_N_optimise_249 : decode prog_8_method_30_code 249 = .ok (.iconst 0, 1) := by decide +kernel
theorem d_N_optimise_250 : decode prog_8_method_30_code 250 = .ok (.ireturn, 1) := by decide +kernel
theorem d_N_run_0 : decode prog_8_method_31_code 0 = .ok (.aload_n 0, 1) := by decide +kernel
theorem d_N_run_1 : decode prog_8_method_31_code 1 = .ok (.getfield 90, 3) := by decide +kernel
theorem d_N_run_4 : decode prog_8_method_31_code 4 = .ok (.ifCond .ne 6, 3) := by decide +kernel
theorem d_N_run_7 : decode prog_8_method_31_code 7 = .ok (.bipush 7, 2) := by decide +kernel
theorem d_N_run_9 : decode prog_8_method_31_code 9 = .ok (.ireturn, 1) := by decide +kernel
theorem d_N_run_10 : decode prog_8_method_31_code 10 = .ok (.iconst 0, 1) := by decide +kernel
theorem d_N_run_11 : decode prog_8_method_31_code 11 = .ok (.istore_n 2, 1) := by decide +kernel
theorem d_N_run_12 : decode prog_8_method_31_code 12 = .ok (.iload_n 2, 1) := by decide +kernel
theorem d_N_run_13 : decode prog_8_method_31_code 13 = .ok (.iload_n 1, 1) := by decide +kernel
theorem d_N_run_14 : decode prog_8_method_31_code 14 = .ok (.if_icmp .ge 83, 3) := by decide +kernel
theorem d_N_run_17 : decode prog_8_method_31_code 17 = .ok (.aload_n 0, 1) := by decide +kernel
theorem d_N_run_18 : decode prog_8_method_31_code 18 = .ok (.getfield 98, 3) := by decide +kernel
theorem d_N_run_21 : decode prog_8_method_31_code 21 = .ok (.aload_n 0, 1) := by decide +kernel
theorem d_N_run_22 : decode prog_8_method_31_code 22 = .ok (.getfield 121, 3) := by decide +kernel
theorem d_N_run_25 : decode prog_8_method_31_code 25 = .ok (.if_icmp .ge 72, 3) := by decide +kernel
theorem d_N_run_28 : decode prog_8_method_31_code 28 = .ok (.aload_n 0, 1) := by decide +kernel
theorem d_N_run_29 : decode prog_8_method_31_code 29 = .ok (.aload_n 0, 1) := by decide +kernel
theorem d_N_run_30 : decode prog_8_method_31_code 30 = .ok (.getfield 19, 3) := by decide +kernel
theorem d_N_run_33 : decode prog_8_method_31_code 33 = .ok (.aload_n 0, 1) := by decide +kernel
theorem d_N_run_34 : decode prog_8_method_31_code 34 = .ok (.getfield 98, 3) := by decide +kernel
theorem d_N_run_37 : decode prog_8_method_31_code 37 = .ok (.iaload, 1) := by decide +kernel
theorem d_N_run_38 : decode prog_8_method_31_code 38 = .ok (.bipush 31, 2) := by decide +kernel
theorem d_N_run_40 : decode prog_8_method_31_code 40 = .ok (.aload_n 0, 1) := by decide +kernel
theorem d_N_run_41 : decode prog_8_method_31_code 41 = .ok (.getfield 22, 3) := by decide +kernel
theorem d_N_run_44 : decode prog_8_method_31_code 44 = .ok (.aload_n 0, 1) := by decide +kernel
theorem d_N_run_45 : decode prog_8_method_31_code 45 = .ok (.getfield 98, 3) := by decide +kernel
theorem d_N_run_48 : decode prog_8_method_31_code 48 = .ok (.iaload, 1) := by decide +kernel
theorem d_N_run_49 : decode prog_8_method_31_code 49 = .ok (.iadd, 1) := by decide +kernel
theorem d_N_run_50 : decode prog_8_method_31_code 50 = .ok (.bipush 31, 2) := by decide +kernel
theorem d_N_run_52 : decode prog_8_method_31_code 52 = .ok (.aload_n 0, 1) := by decide +kernel
theorem d_N_run_53 : decode prog_8_method_31_code 53 = .ok (.getfield 25, 3) := by decide +kernel
theorem d_N_run_56 : decode prog_8_method_31_code 56 = .ok (.aload_n 0, 1) := by decide +kernel
theorem d_N_run_57 : decode prog_8_method_31_code 57 = .ok (.getfield 98, 3) := by decide +kernel
theorem d_N_run_60 : decode prog_8_method_31_code 60 = .ok (.iaload, 1) := by decide +kernel
theorem d_N_run_61 : decode prog_8_method_31_code 61 = .ok (.iadd, 1) := by decide +kernel
theorem d_N_run_62 : decode prog_8_method_31_code 62 = .ok (.aload_n 0, 1) := by decide +kernel
theorem d_N_run_63 : decode prog_8_method_31_code 63 = .ok (.getfield 28, 3) := by decide +kernel
theorem d_N_run_66 : decode prog_8_method_31_code 66 = .ok (.aload_n 0, 1) := by decide +kernel
theorem d_N_run_67 : decode prog_8_method_31_code 67 = .ok (.getfield 98, 3) := by decide +kernel
theorem d_N_run_70 : decode prog_8_method_31_code 70 = .ok (.iaload, 1) := by decide +kernel
theorem d_N_run_71 : decode prog_8_method_31_code 71 = .ok (.bipush 31, 2) := by decide +kernel
theorem d_N_run_73 : decode prog_8_method_31_code 73 = .ok (.aload_n 0, 1) := by decide +kernel
theorem d_N_run_74 : decode prog_8_method_31_code 74 = .ok (.getfield 98, 3) := by decide +kernel
theorem d_N_run_77 : decode prog_8_method_31_code 77 = .ok (.iadd, 1) := by decide +kernel
theorem d_N_run_78 : decode prog_8_method_31_code 78 = .ok (.invokevirtual 83, 3) := by decide +kernel
theorem d_N_run_81 : decode prog_8_method_31_code 81 = .ok (.aload_n 0, 1) := by decide +kernel
theorem d_N_run_82 : decode prog_8_method_31_code 82 = .ok (.aload_n 0, 1) := by decide +kernel
theorem d_N_run_83 : decode prog_8_method_31_code 83 = .ok (.getfield 98, 3) := by decide +kernel
theorem d_N_run_86 : decode prog_8_method_31_code 86 = .ok (.iconst 1, 1) := by decide +kernel
theorem d_N_run_87 : decode prog_8_method_31_code 87 = .ok (.iadd, 1) := by decide +kernel
theorem d_N_run_88 : decode prog_8_method_31_code 88 = .ok (.putfield 98, 3) := by decide +kernel
theorem d_N_run_91 : decode prog_8_method_31_code 91 = .ok (.iinc 2 1, 3) := by decide +kernel
theorem d_N_run_94 : decode prog_8_method_31_code 94 = .ok (.goto (-82), 3) := by decide +kernel
theorem d_N_run_97 : decode prog_8_method_31_code 97 = .ok (.aload_n 0, 1) := by decide +kernel
theorem d_N_run_98 : decode prog_8_method_31_code 98 = .ok (.getfield 98, 3) := by decide +kernel
theorem d_N_run_101 : decode prog_8_method_31_code 101 = .ok (.aload_n 0, 1) := by decide +kernel
theorem d_N_run_102 : decode prog_8_method_31_code 102 = .ok (.getfield 121, 3) := by decide +kernel
theorem d_N_run_105 : decode prog_8_method_31_code 105 = .ok (.if_icmp .ne 7, 3) := by decide +kernel
theorem d_N_run_108 : decode prog_8_method_31_code 108 = .ok (.iconst 0, 1) := by decide +kernel
theorem d_N_run_109 : decode prog_8_method_31_code 109 = .ok (.goto 5, 3) := by decide +kernel
theorem d_N_run_112 : decode prog_8_method_31_code 112 = .ok (.bipush 8, 2) := by decide +kernel
theorem d_N_run_114 : decode prog_8_method_31_code 114 = .ok (.ireturn, 1) := by decide +kernel
theorem d_N_out_0 : decode prog_8_method_32_code 0 = .ok (.aload_n 0, 1) := by decide +kernel
theorem d_N_out_1 : decode prog_8_method_32_code 1 = .ok (.getfield 90, 3) := by decide +kernel
theorem d_N_out_4 : decode prog_8_method_32_code 4 = .ok (.ifCond .eq 39, 3) := by decide +kernel
theorem d_N_out_7 : decode prog_8_method_32_code 7 = .ok (.aload_n 0, 1) := by decide +kernel
theorem d_N_out_8 : decode prog_8_method_32_code 8 = .ok (.getfield 98, 3) := by decide +kernel
theorem d_N_out_11 : decode prog_8_method_32_code 11 = .ok (.aload_n 0, 1) := by decide +kernel
theorem d_N_out_12 : decode prog_8_method_32_code 12 = .ok (.getfield 121, 3) := by decide +kernel
theorem d_N_out_15 : decode prog_8_method_32_code 15 = .ok (.if_icmp .ne 28, 3) := by decide +kernel
theorem d_N_out_18 : decode prog_8_method_32_code 18 = .ok (.aload_n 0, 1) := by decide +kernel
theorem d_N_out_19 : decode prog_8_method_32_code 19 = .ok (.iload_n 1, 1) := by decide +kernel
theorem d_N_out_20 : decode prog_8_method_32_code 20 = .ok (.iload_n 2, 1) := by decide +kernel
theorem d_N_out_21 : decode prog_8_method_32_code 21 = .ok (.invokevirtual 94, 3) := by decide +kernel
theorem d_N_out_24 : decode prog_8_method_32_code 24 = .ok (.ifCond .eq 19, 3) := by decide +kernel
theorem d_N_out_27 : decode prog_8_method_32_code 27 = .ok (.aload_n 0, 1) := by decide +kernel
theorem d_N_out_28 : decode prog_8_method_32_code 28 = .ok (.bipush 31, 2) := by decide +kernel
theorem d_N_out_30 : decode prog_8_method_32_code 30 = .ok (.aload_n 0, 1) := by decide +kernel
theorem d_N_out_31 : decode prog_8_method_32_code 31 = .ok (.getfield 138, 3) := by decide +kernel
theorem d_N_out_34 : decode prog_8_method_32_code 34 = .ok (.iadd, 1) := by decide +kernel
theorem d_N_out_35 : decode prog_8_method_32_code 35 = .ok (.iload_n 1, 1) := by decide +kernel
theorem d_N_out_36 : decode prog_8_method_32_code 36 = .ok (.iload_n 2, 1) := by decide +kernel
theorem d_N_out_37 : decode prog_8_method_32_code 37 = .ok (.invokevirtual 67, 3) := by decide +kernel
theorem d_N_out_40 : decode prog_8_method_32_code 40 = .ok (.goto 4, 3) := by decide +kernel
theorem d_N_out_43 : decode prog_8_method_32_code 43 = .ok (.iconst (-1), 1) := by decide +kernel
theorem d_N_out_44 : decode prog_8_method_32_code 44 = .ok (.ireturn, 1) := by decide +kernel
theorem d_N_outDirect_0 : decode prog_8_method_33_code 0 = .ok (.aload_n 0, 1) := by decide +kernel
theorem d_N_outDirect_1 : decode prog_8_method_33_code 1 = .ok (.getfield 118, 3) := by decide +kernel
theorem d_N_outDirect_4 : decode prog_8_method_33_code 4 = .ok (.ifCond .eq 25, 3) := by decide +kernel
theorem d_N_outDirect_7 : decode prog_8_method_33_code 7 = .ok (.aload_n 0, 1) := by decide +kernel
theorem d_N_outDirect_8 : decode prog_8_method_33_code 8 = .ok (.iload_n 1, 1) := by decide +kernel
theorem d_N_outDirect_9 : decode prog_8_method_33_code 9 = .ok (.iload_n 2, 1) := by decide +kernel
theorem d_N_outDirect_10 : decode prog_8_method_33_code 10 = .ok (.invokevirtual 94, 3) := by decide +kernel
theorem d_N_outDirect_13 : decode prog_8_method_33_code 13 = .ok (.ifCond .eq 16, 3) := by decide +kernel
theorem d_N_outDirect_16 : decode prog_8_method_33_code 16 = .ok (.aload_n 0, 1) := by decide +kernel
theorem d_N_outDirect_17 : decode prog_8_method_33_code 17 = .ok (.getfield 16, 3) := by decide +kernel
theorem d_N_outDirect_20 : decode prog_8_method_33_code 20 = .ok (.iconst 4, 1) := by decide +kernel
theorem d_N_outDirect_21 : decode prog_8_method_33_code 21 = .ok (.iload_n 1, 1) := by decide +kernel
theorem d_N_outDirect_22 : decode prog_8_method_33_code 22 = .ok (.imul, 1) := by decide +kernel
theorem d_N_outDirect_23 : decode prog_8_method_33_code 23 = .ok (.iload_n 2, 1) := by decide +kernel
theorem d_N_outDirect_24 : decode prog_8_method_33_code 24 = .ok (.iadd, 1) := by decide +kernel
theorem d_N_outDirect_25 : decode prog_8_method_33_code 25 = .ok (.iaload, 1) := by decide +kernel
theorem d_N_outDirect_26 : decode prog_8_method_33_code 26 = .ok (.goto 4, 3) := by decide +kernel
theorem d_N_outDirect_29 : decode prog_8_method_33_code 29 = .ok (.iconst (-1), 1) := by decide +kernel
theorem d_N_outDirect_30 : decode prog_8_method_33_code 30 = .ok (.ireturn, 1) := by decide +kernel
theorem d_N_codeAt_0 : decode prog_8_method_34_code 0 = .ok (.aload_n 0, 1) := by decide +kernel
theorem d_N_codeAt_1 : decode prog_8_method_34_code 1 = .ok (.getfield 90, 3) := by decide +kernel
theorem d_N_codeAt_4 : decode prog_8_method_34_code 4 = .ok (.ifCond .eq 17, 3) := by decide +kernel
theorem d_N_codeAt_7 : decode prog_8_method_34_code 7 = .ok (.iload_n 1, 1) := by decide +kernel
theorem d_N_codeAt_8 : decode prog_8_method_34_code 8 = .ok (.iconst 0, 1) := by decide +kernel
theorem d_N_codeAt_9 : decode prog_8_method_34_code 9 = .ok (.aload_n 0, 1) := by decide +kernel
theorem d_N_codeAt_10 : decode prog_8_method_34_code 10 = .ok (.getfield 121, 3) := by decide +kernel
theorem d_N_codeAt_13 : decode prog_8_method_34_code 13 = .ok (.iconst 1, 1) := by decide +kernel
theorem d_N_codeAt_14 : decode prog_8_method_34_code 14 = .ok (.isub, 1) := by decide +kernel
theorem d_N_codeAt_15 : decode prog_8_method_34_code 15 = .ok (.invokestatic 63, 3) := by decide +kernel
theorem d_N_codeAt_18 : decode prog_8_method_34_code 18 = .ok (.ifCond .ne 5, 3) := by decide +kernel
theorem d_N_codeAt_21 : decode prog_8_method_34_code 21 = .ok (.iconst (-1), 1) := by decide +kernel
theorem d_N_codeAt_22 : decode prog_8_method_34_code 22 = .ok (.ireturn, 1) := by decide +kernel
theorem d_N_codeAt_23 : decode prog_8_method_34_code 23 = .ok (.aload_n 0, 1) := by decide +kernel
theorem d_N_codeAt_24 : decode prog_8_method_34_code 24 = .ok (.getfield 19, 3) := by decide +kernel
theorem d_N_codeAt_27 : decode prog_8_method_34_code 27 = .ok (.iload_n 1, 1) := by decide +kernel
theorem d_N_codeAt_28 : decode prog_8_method_34_code 28 = .ok (.iaload, 1) := by decide +kernel
theorem d_N_codeAt_29 : decode prog_8_method_34_code 29 = .ok (.ifCond .ne 12, 3) := by decide +kernel
theorem d_N_codeAt_32 : decode prog_8_method_34_code 32 = .ok (.aload_n 0, 1) := by decide +kernel
theorem d_N_codeAt_33 : decode prog_8_method_34_code 33 = .ok (.getfield 28, 3) := by decide +kernel
theorem d_N_codeAt_36 : decode prog_8_method_34_code 36 = .ok (.iload_n 1, 1) := by decide +kernel
theorem d_N_codeAt_37 : decode prog_8_method_34_code 37 = .ok (.iaload, 1) := by decide +kernel
theorem d_N_codeAt_38 : decode prog_8_method_34_code 38 = .ok (.goto 88, 3) := by decide +kernel
theorem d_N_codeAt_41 : decode prog_8_method_34_code 41 = .ok (.aload_n 0, 1) := by decide +kernel
theorem d_N_codeAt_42 : decode prog_8_method_34_code 42 = .ok (.getfield 19, 3) := by decide +kernel
theorem d_N_codeAt_45 : decode prog_8_method_34_code 45 = .ok (.iload_n 1, 1) := by decide +kernel
theorem d_N_codeAt_46 : decode prog_8_method_34_code 46 = .ok (.iaload, 1) := by decide +kernel
theorem d_N_codeAt_47 : decode prog_8_method_34_code 47 = .ok (.bipush 7, 2) := by decide +kernel
theorem d_N_codeAt_49 : decode prog_8_method_34_code 49 = .ok (.if_icmp .ne 22, 3) := by decide +kernel
theorem d_N_codeAt_52 : decode prog_8_method_34_code 52 = .ok (.bipush 100, 2) := by decide +kernel
theorem d_N_codeAt_54 : decode prog_8_method_34_code 54 = .ok (.aload_n 0, 1) := by decide +kernel
theorem d_N_codeAt_55 : decode prog_8_method_34_code 55 = .ok (.getfield 22, 3) := by decide +kernel
theorem d_N_codeAt_58 : decode prog_8_method_34_code 58 = .ok (.iload_n 1, 1) := by decide +kernel
theorem d_N_codeAt_59 : decode prog_8_method_34_code 59 = .ok (.iaload, 1) := by decide +kernel
theorem d_N_codeAt_60 : decode prog_8_method_34_code 60 = .ok (.imul, 1) := by decide +kernel
theorem d_N_codeAt_61 : decode prog_8_method_34_code 61 = .ok (.aload_n 0, 1) := by decide +kernel
theorem d_N_codeAt_62 : decode prog_8_method_34_code 62 = .ok (.getfield 28, 3) := by decide +kernel
theorem d_N_codeAt_65 : decode prog_8_method_34_code 65 = .ok (.iload_n 1, 1) := by decide +kernel
theorem d_N_codeAt_66 : decode prog_8_method_34_code 66 = .ok (.iaload, 1) := by decide +kernel
theorem d_N_codeAt_67 : decode prog_8_method_34_code 67 = .ok (.iadd, 1) := by decide +kernel
theorem d_N_codeAt_68 : decode prog_8_method_34_code 68 = .ok (.goto 58, 3) := by decide +kernel
theorem d_N_codeAt_71 : decode prog_8_method_34_code 71 = .ok (.aload_n 0, 1) := by decide +kernel
theorem d_N_codeAt_72 : decode prog_8_method_34_code 72 = .ok (.getfield 19, 3) := by decide +kernel
theorem d_N_codeAt_75 : decode prog_8_method_34_code 75 = .ok (.iload_n 1, 1) := by decide +kernel
theorem d_N_codeAt_76 : decode prog_8_method_34_code 76 = .ok (.iaload, 1) := by decide +kernel
theorem d_N_codeAt_77 : decode prog_8_method_34_code 77 = .ok (.invokestatic 105, 3) := by decide +kernel
theorem d_N_codeAt_80 : decode prog_8_method_34_code 80 = .ok (.ifCond .eq 22, 3) := by decide +kernel
theorem d_N_codeAt_83 : decode prog_8_method_34_code 83 = .ok (.bipush 100, 2) := by decide +kernel
theorem d_N_codeAt_85 : decode prog_8_method_34_code 85 = .ok (.aload_n 0, 1) := by decide +kernel
theorem d_N_codeAt_86 : decode prog_8_method_34_code 86 = .ok (.getfield 22, 3) := by decide +kernel
theorem d_N_codeAt_89 : decode prog_8_method_34_code 89 = .ok (.iload_n 1, 1) := by decide +kernel
theorem d_N_codeAt_90 : decode prog_8_method_34_code 90 = .ok (.iaload, 1) := by decide +kernel
theorem d_N_codeAt_91 : decode prog_8_method_34_code 91 = .ok (.imul, 1) := by decide +kernel
theorem d_N_codeAt_92 : decode prog_8_method_34_code 92 = .ok (.aload_n 0, 1) := by decide +kernel
theorem d_N_codeAt_93 : decode prog_8_method_34_code 93 = .ok (.getfield 25, 3) := by decide +kernel
theorem d_N_codeAt_96 : decode prog_8_method_34_code 96 = .ok (.iload_n 1, 1) := by decide +kernel
theorem d_N_codeAt_97 : decode prog_8_method_34_code 97 = .ok (.iaload, 1) := by decide +kernel
theorem d_N_codeAt_98 : decode prog_8_method_34_code 98 = .ok (.iadd, 1) := by decide +kernel
theorem d_N_codeAt_99 : decode prog_8_method_34_code 99 = .ok (.goto 27, 3) := by decide +kernel
theorem d_N_codeAt_102 : decode prog_8_method_34_code 102 = .ok (.aload_n 0, 1) := by decide +kernel
theorem d_N_codeAt_103 : decode prog_8_method_34_code 103 = .ok (.getfield 19, 3) := by decide +kernel
theorem d_N_codeAt_106 : decode prog_8_method_34_code 106 = .ok (.iload_n 1, 1) := by decide +kernel
theorem d_N_codeAt_107 : decode prog_8_method_34_code 107 = .ok (.iaload, 1) := by decide +kernel
theorem d_N_codeAt_108 : decode prog_8_method_34_code 108 = .ok (.bipush 6, 2) := by decide +kernel
theorem d_N_codeAt_110 : decode prog_8_method_34_code 110 = .ok (.if_icmp .ne 15, 3) := by decide +kernel
theorem d_N_codeAt_113 : decode prog_8_method_34_code 113 = .ok (.bipush 100, 2) := by decide +kernel
theorem d_N_codeAt_115 : decode prog_8_method_34_code 115 = .ok (.aload_n 0, 1) := by decide +kernel
theorem d_N_codeAt_116 : decode prog_8_method_34_code 116 = .ok (.getfield 22, 3) := by decide +kernel
theorem d_N_codeAt_119 : decode prog_8_method_34_code 119 = .ok (.iload_n 1, 1) := by decide +kernel
theorem d_N_codeAt_120 : decode prog_8_method_34_code 120 = .ok (.iaload, 1) := by decide +kernel
theorem d_N_codeAt_121 : decode prog_8_method_34_code 121 = .ok (.imul, 1) := by decide +kernel
theorem d_N_codeAt_122 : decode prog_8_method_34_code 122 = .ok (.goto 4, 3) := by decide +kernel
theorem d_N_codeAt_125 : decode prog_8_method_34_code 125 = .ok (.iconst 0, 1) := by decide +kernel
theorem d_N_codeAt_126 : decode prog_8_method_34_code 126 = .ok (.istore_n 2, 1) := by decide +kernel
theorem d_N_codeAt_127 : decode prog_8_method_34_code 127 = .ok (.sipush 10000, 3) := by decide +kernel
theorem d_N_codeAt_130 : decode prog_8_method_34_code 130 = .ok (.aload_n 0, 1) := by decide +kernel
theorem d_N_codeAt_131 : decode prog_8_method_34_code 131 = .ok (.getfield 19, 3) := by decide +kernel
theorem d_N_codeAt_134 : decode prog_8_method_34_code 134 = .ok (.iload_n 1, 1) := by decide +kernel
theorem d_N_codeAt_135 : decode prog_8_method_34_code 135 = .ok (.iaload, 1) := by decide +kernel
theorem d_N_codeAt_136 : decode prog_8_method_34_code 136 = .ok (.imul, 1) := by decide +kernel
theorem d_N_codeAt_137 : decode prog_8_method_34_code 137 = .ok (.iload_n 2, 1) := by decide +kernel
theorem d_N_codeAt_138 : decode prog_8_method_34_code 138 = .ok (.iadd, 1) := by decide +kernel
theorem d_N_codeAt_139 : decode prog_8_method_34_code 139 = .ok (.ireturn, 1) := by decide +kernel
theorem d_N_codeSize_0 : decode prog_8_method_35_code 0 = .ok (.aload_n 0, 1) := by decide +kernel
theorem d_N_codeSize_1 : decode prog_8_method_35_code 1 = .ok (.getfield 90, 3) := by decide +kernel
theorem d_N_codeSize_4 : decode prog_8_method_35_code 4 = .ok (.ifCond .eq 10, 3) := by decide +kernel
theorem d_N_codeSize_7 : decode prog_8_method_35_code 7 = .ok (.aload_n 0, 1) := by decide +kernel
theorem d_N_codeSize_8 : decode prog_8_method_35_code 8 = .ok (.getfield 121, 3) := by decide +kernel
theorem d_N_codeSize_11 : decode prog_8_method_35_code 11 = .ok (.goto 4, 3) := by decide +kernel
theorem d_N_codeSize_14 : decode prog_8_method_35_code 14 = .ok (.iconst (-1), 1) := by decide +kernel
theorem d_N_codeSize_15 : decode prog_8_method_35_code 15 = .ok (.ireturn, 1) := by decide +kernel
theorem d_N_products_0 : decode prog_8_method_36_code 0 = .ok (.iconst 0, 1) := by decide +kernel
theorem d_N_products_1 : decode prog_8_method_36_code 1 = .ok (.istore_n 1, 1) := by decide +kernel
theorem d_N_products_2 : decode prog_8_method_36_code 2 = .ok (.iconst 0, 1) := by decide +kernel
theorem d_N_products_3 : decode prog_8_method_36_code 3 = .ok (.istore_n 2, 1) := by decide +kernel
theorem d_N_products_4 : decode prog_8_method_36_code 4 = .ok (.iload_n 2, 1) := by decide +kernel
theorem d_N_products_5 : decode prog_8_method_36_code 5 = .ok (.aload_n 0, 1) := by decide +kernel
theorem d_N_products_6 : decode prog_8_method_36_code 6 = .ok (.getfield 121, 3) := by decide +kernel
theorem d_N_products_9 : decode prog_8_method_36_code 9 = .ok (.if_icmp .ge 27, 3) := by decide +kernel
theorem d_N_products_12 : decode prog_8_method_36_code 12 = .ok (.aload_n 0, 1) := by decide +kernel
theorem d_N_products_13 : decode prog_8_method_36_code 13 = .ok (.getfield 19, 3) := by decide +kernel
theorem d_N_products_16 : decode prog_8_method_36_code 16 = .ok (.iload_n 2, 1) := by decide +kernel
theorem d_N_products_17 : decode prog_8_method_36_code 17 = .ok (.iaload, 1) := by decide +kernel
theorem d_N_products_18 : decode prog_8_method_36_code 18 = .ok (.iconst 5, 1) := by decide +kernel
theorem d_N_products_19 : decode prog_8_method_36_code 19 = .ok (.if_icmp .ne 9, 3) := by decide +kernel
theorem d_N_products_22 : decode prog_8_method_36_code 22 = .ok (.iload_n 1, 1) := by decide +kernel
theorem d_N_products_23 : decode prog_8_method_36_code 23 = .ok (.iconst 1, 1) := by decide +kernel
theorem d_N_products_24 : decode prog_8_method_36_code 24 = .ok (.iadd, 1) := by decide +kernel
theorem d_N_products_25 : decode prog_8_method_36_code 25 = .ok (.goto 4, 3) := by decide +kernel
theorem d_N_products_28 : decode prog_8_method_36_code 28 = .ok (.iload_n 1, 1) := by decide +kernel
theorem d_N_products_29 : decode prog_8_method_36_code 29 = .ok (.istore_n 1, 1) := by decide +kernel
theorem d_N_products_30 : decode prog_8_method_36_code 30 = .ok (.iinc 2 1, 3) := by decide +kernel
theorem d_N_products_33 : decode prog_8_method_36_code 33 = .ok (.goto (-29), 3) := by decide +kernel
theorem d_N_products_36 : decode prog_8_method_36_code 36 = .ok (.aload_n 0, 1) := by decide +kernel
theorem d_N_products_37 : decode prog_8_method_36_code 37 = .ok (.getfield 90, 3) := by decide +kernel
theorem d_N_products_40 : decode prog_8_method_36_code 40 = .ok (.ifCond .eq 7, 3) := by decide +kernel
theorem d_N_products_43 : decode prog_8_method_36_code 43 = .ok (.iload_n 1, 1) := by decide +kernel
theorem d_N_products_44 : decode prog_8_method_36_code 44 = .ok (.goto 4, 3) := by decide +kernel
theorem d_N_products_47 : decode prog_8_method_36_code 47 = .ok (.iconst (-1), 1) := by decide +kernel
theorem d_N_products_48 : decode prog_8_method_36_code 48 = .ok (.ireturn, 1) := by decide +kernel
theorem d_N_reset_0 : decode prog_8_method_37_code 0 = .ok (.aload_n 0, 1) := by decide +kernel
theorem d_N_reset_1 : decode prog_8_method_37_code 1 = .ok (.iconst 0, 1) := by decide +kernel
theorem d_N_reset_2 : decode prog_8_method_37_code 2 = .ok (.putfield 87, 3) := by decide +kernel
theorem d_N_reset_5 : decode prog_8_method_37_code 5 = .ok (.aload_n 0, 1) := by decide +kernel
theorem d_N_reset_6 : decode prog_8_method_37_code 6 = .ok (.iconst 0, 1) := by decide +kernel
theorem d_N_reset_7 : decode prog_8_method_37_code 7 = .ok (.putfield 90, 3) := by decide +kernel
theorem d_N_reset_10 : decode prog_8_method_37_code 10 = .ok (.aload_n 0, 1) := by decide +kernel
theorem d_N_reset_11 : decode prog_8_method_37_code 11 = .ok (.iconst 0, 1) := by decide +kernel
theorem d_N_reset_12 : decode prog_8_method_37_code 12 = .ok (.putfield 118, 3) := by decide +kernel
theorem d_N_reset_15 : decode prog_8_method_37_code 15 = .ok (.aload_n 0, 1) := by decide +kernel
theorem d_N_reset_16 : decode prog_8_method_37_code 16 = .ok (.iconst 0, 1) := by decide +kernel
theorem d_N_reset_17 : decode prog_8_method_37_code 17 = .ok (.putfield 121, 3) := by decide +kernel
theorem d_N_reset_20 : decode prog_8_method_37_code 20 = .ok (.aload_n 0, 1) := by decide +kernel
theorem d_N_reset_21 : decode prog_8_method_37_code 21 = .ok (.iconst 0, 1) := by decide +kernel
theorem d_N_reset_22 : decode prog_8_method_37_code 22 = .ok (.putfield 98, 3) := by decide +kernel
theorem d_N_reset_25 : decode prog_8_method_37_code 25 = .ok (.iconst 0, 1) := by decide +kernel
theorem d_N_reset_26 : decode prog_8_method_37_code 26 = .ok (.istore_n 1, 1) := by decide +kernel
theorem d_N_reset_27 : decode prog_8_method_37_code 27 = .ok (.iload_n 1, 1) := by decide +kernel
theorem d_N_reset_28 : decode prog_8_method_37_code 28 = .ok (.bipush 64, 2) := by decide +kernel
theorem d_N_reset_30 : decode prog_8_method_37_code 30 = .ok (.if_icmp .ge 16, 3) := by decide +kernel
theorem d_N_reset_33 : decode prog_8_method_37_code 33 = .ok (.aload_n 0, 1) := by decide +kernel
theorem d_N_reset_34 : decode prog_8_method_37_code 34 = .ok (.getfield 13, 3) := by decide +kernel
theorem d_N_reset_37 : decode prog_8_method_37_code 37 = .ok (.iload_n 1, 1) := by decide +kernel
theorem d_N_reset_38 : decode prog_8_method_37_code 38 = .ok (.iconst 0, 1) := by decide +kernel
theorem d_N_reset_39 : decode prog_8_method_37_code 39 = .ok (.iastore, 1) := by decide +kernel
theorem d_N_reset_40 : decode prog_8_method_37_code 40 = .ok (.iinc 1 1, 3) := by decide +kernel
theorem d_N_reset_43 : decode prog_8_method_37_code 43 = .ok (.goto (-16), 3) := by decide +kernel
theorem d_N_reset_46 : decode prog_8_method_37_code 46 = .ok (.return_, 1) := by decide +kernel
end
section
abbrev W_R (kI kZ : ClassId) (qR : Nat → Nat) (R_length : Int32) (R_words : Nat → Int32) : va_W := [(qR 0, .inr (4, [.ref (qR 1), .int R_length])), (qR 1, .inl (kI, 24, .inl R_words))]
abbrev W_C (kI kZ : ClassId) (qC : Nat → Nat) (C_length : Int32) (C_instructions : Nat → Int32) : va_W := [(qC 0, .inr (0, [.ref (qC 1), .int C_length])), (qC 1, .inl (kI, 40, .inl C_instructions))]
abbrev W_XMRCPOV (kI kZ : ClassId) (qX qM qR qC qP qO qV : Nat → Nat) (M_nc M_nf : Nat) (X_instructionsDone X_isWorkedOut M_modulus M_side M_size : Int32) (M_cells M_fresh : Nat → Int32) (R_length : Int32) (R_words : Nat → Int32) (C_length : Int32) (C_instructions P_registers : Nat → Int32) (O_modulus : Int32) (O_valueOf O_isNeeded O_registerOf : Nat → Int32) (V_length : Int32) (V_instructions : Nat → Int32) : va_W := [(qX 0, .inr (5, [.ref (qM 0), .ref (qR 0), .ref (qC 0), .ref (qP 0), .ref (qO 0), .int X_instructionsDone, .int X_isWorkedOut])), (qM 0, .inr (2, [.int M_modulus, .int M_side, .int M_size, .ref (qM 1), .ref (qM 2)])), (qM 1, .inl (kI, M_nc, .inl M_cells)), (qM 2, .inl (kI, M_nf, .inl M_fresh)), (qR 0, .inr (4, [.ref (qR 1), .int R_length])), (qR 1, .inl (kI, 24, .inl R_words)), (qC 0, .inr (0, [.ref (qC 1), .int C_length])), (qC 1, .inl (kI, 40, .inl C_instructions)), (qP 0, .inr (1, [.ref (qP 1)])), (qP 1, .inl (kI, 24, .inl P_registers)), (qO 0, .inr (3, [.int O_modulus, .ref (qV 0), .ref (qO 1), .ref (qO 2), .ref (qO 3)])), (qO 1, .inl (kI, 40, .inl O_valueOf)), (qO 2, .inl (kZ, 40, .inl O_isNeeded)), (qO 3, .inl (kI, 40, .inl O_registerOf)), (qV 0, .inr (0, [.ref (qV 1), .int V_length])), (qV 1, .inl (kI, 40, .inl V_instructions))]
abbrev W_XMRPOV (kI kZ : ClassId) (qX qM qR qP qO qV qC : Nat → Nat) (M_nc M_nf : Nat) (X_instructionsDone X_isWorkedOut M_modulus M_side M_size : Int32) (M_cells M_fresh : Nat → Int32) (R_length : Int32) (R_words P_registers : Nat → Int32) (O_modulus : Int32) (O_valueOf O_isNeeded O_registerOf : Nat → Int32) (V_length : Int32) (V_instructions : Nat → Int32) : va_W := [(qX 0, .inr (5, [.ref (qM 0), .ref (qR 0), .ref (qC 0), .ref (qP 0), .ref (qO 0), .int X_instructionsDone, .int X_isWorkedOut])), (qM 0, .inr (2, [.int M_modulus, .int M_side, .int M_size, .ref (qM 1), .ref (qM 2)])), (qM 1, .inl (kI, M_nc, .inl M_cells)), (qM 2, .inl (kI, M_nf, .inl M_fresh)), (qR 0, .inr (4, [.ref (qR 1), .int R_length])), (qR 1, .inl (kI, 24, .inl R_words)), (qP 0, .inr (1, [.ref (qP 1)])), (qP 1, .inl (kI, 24, .inl P_registers)), (qO 0, .inr (3, [.int O_modulus, .ref (qV 0), .ref (qO 1), .ref (qO 2), .ref (qO 3)])), (qO 1, .inl (kI, 40, .inl O_valueOf)), (qO 2, .inl (kZ, 40, .inl O_isNeeded)), (qO 3, .inl (kI, 40, .inl O_registerOf)), (qV 0, .inr (0, [.ref (qV 1), .int V_length])), (qV 1, .inl (kI, 40, .inl V_instructions))]
abbrev W_XMCPOV (kI kZ : ClassId) (qX qM qC qP qO qV qR : Nat → Nat) (M_nc M_nf : Nat) (X_instructionsDone X_isWorkedOut M_modulus M_side M_size : Int32) (M_cells M_fresh : Nat → Int32) (C_length : Int32) (C_instructions P_registers : Nat → Int32) (O_modulus : Int32) (O_valueOf O_isNeeded O_registerOf : Nat → Int32) (V_length : Int32) (V_instructions : Nat → Int32) : va_W := [(qX 0, .inr (5, [.ref (qM 0), .ref (qR 0), .ref (qC 0), .ref (qP 0), .ref (qO 0), .int X_instructionsDone, .int X_isWorkedOut])), (qM 0, .inr (2, [.int M_modulus, .int M_side, .int M_size, .ref (qM 1), .ref (qM 2)])), (qM 1, .inl (kI, M_nc, .inl M_cells)), (qM 2, .inl (kI, M_nf, .inl M_fresh)), (qC 0, .inr (0, [.ref (qC 1), .int C_length])), (qC 1, .inl (kI, 40, .inl C_instructions)), (qP 0, .inr (1, [.ref (qP 1)])), (qP 1, .inl (kI, 24, .inl P_registers)), (qO 0, .inr (3, [.int O_modulus, .ref (qV 0), .ref (qO 1), .ref (qO 2), .ref (qO 3)])), (qO 1, .inl (kI, 40, .inl O_valueOf)), (qO 2, .inl (kZ, 40, .inl O_isNeeded)), (qO 3, .inl (kI, 40, .inl O_registerOf)), (qV 0, .inr (0, [.ref (qV 1), .int V_length])), (qV 1, .inl (kI, 40, .inl V_instructions))]
abbrev W_M (kI kZ : ClassId) (qM : Nat → Nat) (M_nc M_nf : Nat) (M_modulus M_side M_size : Int32) (M_cells M_fresh : Nat → Int32) : va_W := [(qM 0, .inr (2, [.int M_modulus, .int M_side, .int M_size, .ref (qM 1), .ref (qM 2)])), (qM 1, .inl (kI, M_nc, .inl M_cells)), (qM 2, .inl (kI, M_nf, .inl M_fresh))]
abbrev W_XRCPOV (kI kZ : ClassId) (qX qR qC qP qO qV qM : Nat → Nat) (X_instructionsDone X_isWorkedOut R_length : Int32) (R_words : Nat → Int32) (C_length : Int32) (C_instructions P_registers : Nat → Int32) (O_modulus : Int32) (O_valueOf O_isNeeded O_registerOf : Nat → Int32) (V_length : Int32) (V_instructions : Nat → Int32) : va_W := [(qX 0, .inr (5, [.ref (qM 0), .ref (qR 0), .ref (qC 0), .ref (qP 0), .ref (qO 0), .int X_instructionsDone, .int X_isWorkedOut])), (qR 0, .inr (4, [.ref (qR 1), .int R_length])), (qR 1, .inl (kI, 24, .inl R_words)), (qC 0, .inr (0, [.ref (qC 1), .int C_length])), (qC 1, .inl (kI, 40, .inl C_instructions)), (qP 0, .inr (1, [.ref (qP 1)])), (qP 1, .inl (kI, 24, .inl P_registers)), (qO 0, .inr (3, [.int O_modulus, .ref (qV 0), .ref (qO 1), .ref (qO 2), .ref (qO 3)])), (qO 1, .inl (kI, 40, .inl O_valueOf)), (qO 2, .inl (kZ, 40, .inl O_isNeeded)), (qO 3, .inl (kI, 40, .inl O_registerOf)), (qV 0, .inr (0, [.ref (qV 1), .int V_length])), (qV 1, .inl (kI, 40, .inl V_instructions))]
abbrev W_CP (kI kZ : ClassId) (qC qP : Nat → Nat) (C_length : Int32) (C_instructions P_registers : Nat → Int32) : va_W := [(qC 0, .inr (0, [.ref (qC 1), .int C_length])), (qC 1, .inl (kI, 40, .inl C_instructions)), (qP 0, .inr (1, [.ref (qP 1)])), (qP 1, .inl (kI, 24, .inl P_registers))]
abbrev W_P (kI kZ : ClassId) (qP : Nat → Nat) (P_registers : Nat → Int32) : va_W := [(qP 0, .inr (1, [.ref (qP 1)])), (qP 1, .inl (kI, 24, .inl P_registers))]
abbrev W_RCP (kI kZ : ClassId) (qR qC qP : Nat → Nat) (R_length : Int32) (R_words : Nat → Int32) (C_length : Int32) (C_instructions P_registers : Nat → Int32) : va_W := [(qR 0, .inr (4, [.ref (qR 1), .int R_length])), (qR 1, .inl (kI, 24, .inl R_words)), (qC 0, .inr (0, [.ref (qC 1), .int C_length])), (qC 1, .inl (kI, 40, .inl C_instructions)), (qP 0, .inr (1, [.ref (qP 1)])), (qP 1, .inl (kI, 24, .inl P_registers))]
abbrev W_RP (kI kZ : ClassId) (qR qP : Nat → Nat) (R_length : Int32) (R_words P_registers : Nat → Int32) : va_W := [(qR 0, .inr (4, [.ref (qR 1), .int R_length])), (qR 1, .inl (kI, 24, .inl R_words)), (qP 0, .inr (1, [.ref (qP 1)])), (qP 1, .inl (kI, 24, .inl P_registers))]
abbrev W_XMOV (kI kZ : ClassId) (qX qM qO qV qR qC qP : Nat → Nat) (M_nc M_nf : Nat) (X_instructionsDone X_isWorkedOut M_modulus M_side M_size : Int32) (M_cells M_fresh : Nat → Int32) (O_modulus : Int32) (O_valueOf O_isNeeded O_registerOf : Nat → Int32) (V_length : Int32) (V_instructions : Nat → Int32) : va_W := [(qX 0, .inr (5, [.ref (qM 0), .ref (qR 0), .ref (qC 0), .ref (qP 0), .ref (qO 0), .int X_instructionsDone, .int X_isWorkedOut])), (qM 0, .inr (2, [.int M_modulus, .int M_side, .int M_size, .ref (qM 1), .ref (qM 2)])), (qM 1, .inl (kI, M_nc, .inl M_cells)), (qM 2, .inl (kI, M_nf, .inl M_fresh)), (qO 0, .inr (3, [.int O_modulus, .ref (qV 0), .ref (qO 1), .ref (qO 2), .ref (qO 3)])), (qO 1, .inl (kI, 40, .inl O_valueOf)), (qO 2, .inl (kZ, 40, .inl O_isNeeded)), (qO 3, .inl (kI, 40, .inl O_registerOf)), (qV 0, .inr (0, [.ref (qV 1), .int V_length])), (qV 1, .inl (kI, 40, .inl V_instructions))]
abbrev W_OV (kI kZ : ClassId) (qO qV : Nat → Nat) (O_modulus : Int32) (O_valueOf O_isNeeded O_registerOf : Nat → Int32) (V_length : Int32) (V_instructions : Nat → Int32) : va_W := [(qO 0, .inr (3, [.int O_modulus, .ref (qV 0), .ref (qO 1), .ref (qO 2), .ref (qO 3)])), (qO 1, .inl (kI, 40, .inl O_valueOf)), (qO 2, .inl (kZ, 40, .inl O_isNeeded)), (qO 3, .inl (kI, 40, .inl O_registerOf)), (qV 0, .inr (0, [.ref (qV 1), .int V_length])), (qV 1, .inl (kI, 40, .inl V_instructions))]
abbrev W_O (kI kZ : ClassId) (qO qV : Nat → Nat) (O_modulus : Int32) (O_valueOf O_isNeeded O_registerOf : Nat → Int32) : va_W := [(qO 0, .inr (3, [.int O_modulus, .ref (qV 0), .ref (qO 1), .ref (qO 2), .ref (qO 3)])), (qO 1, .inl (kI, 40, .inl O_valueOf)), (qO 2, .inl (kZ, 40, .inl O_isNeeded)), (qO 3, .inl (kI, 40, .inl O_registerOf))]
abbrev W_COV (kI kZ : ClassId) (qC qO qV : Nat → Nat) (C_length : Int32) (C_instructions : Nat → Int32) (O_modulus : Int32) (O_valueOf O_isNeeded O_registerOf : Nat → Int32) (V_length : Int32) (V_instructions : Nat → Int32) : va_W := [(qC 0, .inr (0, [.ref (qC 1), .int C_length])), (qC 1, .inl (kI, 40, .inl C_instructions)), (qO 0, .inr (3, [.int O_modulus, .ref (qV 0), .ref (qO 1), .ref (qO 2), .ref (qO 3)])), (qO 1, .inl (kI, 40, .inl O_valueOf)), (qO 2, .inl (kZ, 40, .inl O_isNeeded)), (qO 3, .inl (kI, 40, .inl O_registerOf)), (qV 0, .inr (0, [.ref (qV 1), .int V_length])), (qV 1, .inl (kI, 40, .inl V_instructions))]
abbrev W_CO (kI kZ : ClassId) (qC qO qV : Nat → Nat) (C_length : Int32) (C_instructions : Nat → Int32) (O_modulus : Int32) (O_valueOf O_isNeeded O_registerOf : Nat → Int32) : va_W := [(qC 0, .inr (0, [.ref (qC 1), .int C_length])), (qC 1, .inl (kI, 40, .inl C_instructions)), (qO 0, .inr (3, [.int O_modulus, .ref (qV 0), .ref (qO 1), .ref (qO 2), .ref (qO 3)])), (qO 1, .inl (kI, 40, .inl O_valueOf)), (qO 2, .inl (kZ, 40, .inl O_isNeeded)), (qO 3, .inl (kI, 40, .inl O_registerOf))]
abbrev W_XMRP (kI kZ : ClassId) (qX qM qR qP qC qO : Nat → Nat) (M_nc M_nf : Nat) (X_instructionsDone X_isWorkedOut M_modulus M_side M_size : Int32) (M_cells M_fresh : Nat → Int32) (R_length : Int32) (R_words P_registers : Nat → Int32) : va_W := [(qX 0, .inr (5, [.ref (qM 0), .ref (qR 0), .ref (qC 0), .ref (qP 0), .ref (qO 0), .int X_instructionsDone, .int X_isWorkedOut])), (qM 0, .inr (2, [.int M_modulus, .int M_side, .int M_size, .ref (qM 1), .ref (qM 2)])), (qM 1, .inl (kI, M_nc, .inl M_cells)), (qM 2, .inl (kI, M_nf, .inl M_fresh)), (qR 0, .inr (4, [.ref (qR 1), .int R_length])), (qR 1, .inl (kI, 24, .inl R_words)), (qP 0, .inr (1, [.ref (qP 1)])), (qP 1, .inl (kI, 24, .inl P_registers))]
abbrev W_N (kI kZ : ClassId) (qN : Nat → Nat) (N_p N_n N_words N_hasDirect N_compiled N_size N_outcome N_done N_values : Int32) (N_word N_table N_direct N_op N_a N_b N_x N_there N_vOp N_vA N_vB N_vX N_needed N_valueOf N_place : Nat → Int32) : va_W := [(qN 0, .inr (6, [.int N_p, .int N_n, .int N_words, .ref (qN 1), .ref (qN 2), .ref (qN 3), .int N_hasDirect, .int N_compiled, .int N_size, .ref (qN 4), .ref (qN 5), .ref (qN 6), .ref (qN 7), .int N_outcome, .int N_done, .ref (qN 8), .int N_values, .ref (qN 9), .ref (qN 10), .ref (qN 11), .ref (qN 12), .ref (qN 13), .ref (qN 14), .ref (qN 15)])), (qN 1, .inl (kI, 24, .inl N_word)), (qN 2, .inl (kI, 1136, .inl N_table)), (qN 3, .inl (kI, 16, .inl N_direct)), (qN 4, .inl (kI, 48, .inl N_op)), (qN 5, .inl (kI, 48, .inl N_a)), (qN 6, .inl (kI, 48, .inl N_b)), (qN 7, .inl (kI, 48, .inl N_x)), (qN 8, .inl (kI, 25, .inl N_there)), (qN 9, .inl (kI, 48, .inl N_vOp)), (qN 10, .inl (kI, 48, .inl N_vA)), (qN 11, .inl (kI, 48, .inl N_vB)), (qN 12, .inl (kI, 48, .inl N_vX)), (qN 13, .inl (kZ, 48, .inl N_needed)), (qN 14, .inl (kI, 48, .inl N_valueOf)), (qN 15, .inl (kI, 48, .inl N_place))]
end
section
def f_R_isFull (R_length : Int32) : Option (Int32) :=
  if R_length < (24 : Int32) then
    some (0 : Int32)
  else
    some (1 : Int32)
def f_C_length (C_length : Int32) : Option (Int32) :=
  some C_length
def f_X_hasCode (C_length : Int32) : Option (Int32) :=
  (f_C_length C_length).bind fun r1 =>
  if r1 ≤ 0 then
    some (0 : Int32)
  else
    some (1 : Int32)
def f_R_append (R_words : Nat → Int32) (R_length a1 : Int32) : Option ((Nat → Int32) × Int32) :=
  gd R_length 24 <|
  some ((upd R_words R_length.toNatClampNeg a1), (R_length + (1 : Int32)))
def f_X_feed (R_words : Nat → Int32) (R_length C_length a1 : Int32) : Option (Int32 × (Nat → Int32) × Int32) :=
  (f_R_isFull R_length).bind fun r1 =>
  if r1 = 0 then
    (f_X_hasCode C_length).bind fun r2 =>
    if r2 = 0 then
      (f_R_append R_words R_length a1).bind fun r3 =>
      some ((0 : Int32), r3.1, r3.2)
    else
      some ((1 : Int32), R_words, R_length)
  else
    some ((1 : Int32), R_words, R_length)
def f_M_hasCell (M_side a1 a2 : Int32) : Option (Int32) :=
  if a1 < 0 then
    some (0 : Int32)
  else
    if M_side ≤ a1 then
      some (0 : Int32)
    else
      if a2 < 0 then
        some (0 : Int32)
      else
        if M_side ≤ a2 then
          some (0 : Int32)
        else
          some (1 : Int32)
def f_JM_floorMod (a0 a1 : Int32) : Option (Int32) :=
  nz a1 <|
  nm (zrem a0 a1) fun v2_1 =>
  if 0 ≤ (a0 ^^^ a1) then
    some v2_1
  else
    if v2_1 = 0 then
      some v2_1
    else
      some (v2_1 + a1)
def f_M_put (M_nc : Nat) (M_modulus M_side M_size : Int32) (M_cells : Nat → Int32) (a1 a2 a3 a4 : Int32) : Option ((Nat → Int32)) :=
  (f_JM_floorMod a4 M_modulus).bind fun r1 =>
  gd (((a1 * M_size) + (a2 * M_side)) + a3) M_nc <|
  some (upd M_cells (((a1 * M_size) + (a2 * M_side)) + a3).toNatClampNeg r1)
def f_X_rewind (X_instructionsDone : Int32) : Option (Int32) :=
  some (0 : Int32)
def f_X_setInput (M_nc : Nat) (X_instructionsDone M_modulus M_side M_size : Int32) (M_cells : Nat → Int32) (a1 a2 a3 a4 : Int32) : Option (Int32 × Int32 × (Nat → Int32)) :=
  if a1 < 0 then
    some ((2 : Int32), X_instructionsDone, M_cells)
  else
    if (4 : Int32) ≤ a1 then
      some ((2 : Int32), X_instructionsDone, M_cells)
    else
      (f_M_hasCell M_side a2 a3).bind fun r1 =>
      if r1 = 0 then
        some ((2 : Int32), X_instructionsDone, M_cells)
      else
        (f_M_put M_nc M_modulus M_side M_size M_cells ((40 : Int32) + a1) a2 a3 a4).bind fun r2 =>
        (f_X_rewind X_instructionsDone).bind fun r3 =>
        some ((0 : Int32), r3, r2)
def f_R_isWord_75 (v1 : Int32) : Option (Int32) :=
  if v1 = 0 then
    some (1 : Int32)
  else
    some (0 : Int32)
def f_R_isWord (a0 : Int32) : Option (Int32) :=
  if 0 ≤ a0 then
    nm (zrem a0 (100 : Int32)) fun v1_1 =>
    if (a0 / (100 : Int32)) = (0 : Int32) then
      if (4 : Int32) ≤ v1_1 then
        some (0 : Int32)
      else
        some (1 : Int32)
    else
    if (a0 / (100 : Int32)) = (1 : Int32) then
      f_R_isWord_75 v1_1
    else
    if (a0 / (100 : Int32)) = (2 : Int32) then
      f_R_isWord_75 v1_1
    else
    if (a0 / (100 : Int32)) = (3 : Int32) then
      f_R_isWord_75 v1_1
    else
    if (a0 / (100 : Int32)) = (4 : Int32) then
      f_R_isWord_75 v1_1
    else
    if (a0 / (100 : Int32)) = (5 : Int32) then
      f_R_isWord_75 v1_1
    else
    if (a0 / (100 : Int32)) = (6 : Int32) then
      f_R_isWord_75 v1_1
    else
    if (a0 / (100 : Int32)) = (7 : Int32) then
      some (1 : Int32)
    else
    if (a0 / (100 : Int32)) = (8 : Int32) then
      some (1 : Int32)
    else
    some (0 : Int32)
  else
    some (0 : Int32)
def f_R_operation (R_words : Nat → Int32) (a1 : Int32) : Option (Int32) :=
  gd a1 24 <|
  some ((R_words a1.toNatClampNeg) / (100 : Int32))
def f_X_operandsOf (a0 : Int32) : Option (Int32) :=
  if a0 = (0 : Int32) then
    some (0 : Int32)
  else
  if a0 = (1 : Int32) then
    some (0 : Int32)
  else
  if a0 = (2 : Int32) then
    some (0 : Int32)
  else
  if a0 = (3 : Int32) then
    some (2 : Int32)
  else
  if a0 = (4 : Int32) then
    some (2 : Int32)
  else
  if a0 = (5 : Int32) then
    some (2 : Int32)
  else
  some (1 : Int32)
def f_R_fault_4 (R_words : Nat → Int32) (R_length : Int32) : Nat → Int32 → Int32 → Option (Int32)
  | 0, _, _ => none
  | fu + 1, v1, v2 =>
    if R_length ≤ v2 then
      if v1 = (1 : Int32) then
        some (0 : Int32)
      else
        some (5 : Int32)
    else
      gd v2 24 <|
      (f_R_isWord (R_words v2.toNatClampNeg)).bind fun r1 =>
      if r1 = 0 then
        some (3 : Int32)
      else
        (f_R_operation R_words v2).bind fun r2 =>
        (f_X_operandsOf r2).bind fun r3 =>
        if r3 ≤ v1 then
          nm (v1 + ((1 : Int32) - r3)) fun v1_4 =>
          f_R_fault_4 R_words R_length fu v1_4 (v2 + (1 : Int32))
        else
          some (4 : Int32)
def f_R_fault (R_words : Nat → Int32) (R_length : Int32) : Option (Int32) :=
  f_R_fault_4 R_words R_length zFU (0 : Int32) (0 : Int32)
def f_R_number (R_words : Nat → Int32) (a1 : Int32) : Option (Int32) :=
  gd a1 24 <|
  some (zrem (R_words a1.toNatClampNeg) (100 : Int32))
def f_X_topDigit_6  : Nat → Int32 → Int32 → Option (Int32)
  | 0, _, _ => none
  | fu + 1, v1, v2 =>
    if v2 ≤ 0 then
      some v1
    else
      nm (v2 >>> ((1 : Int32) &&& 31)) fun v2_1 =>
      f_X_topDigit_6 fu (v1 + (1 : Int32)) v2_1
def f_X_topDigit (a0 : Int32) : Option (Int32) :=
  nm (a0 >>> ((1 : Int32) &&& 31)) fun v2_2 =>
  f_X_topDigit_6 zFU (0 : Int32) v2_2
def f_JI_bitCount (a0 : Int32) : Option (Int32) :=
  nm (a0 - ((zushr a0 (1 : Int32)) &&& (1431655765 : Int32))) fun v0_1 =>
  nm ((v0_1 &&& (858993459 : Int32)) + ((zushr v0_1 (2 : Int32)) &&& (858993459 : Int32))) fun v0_2 =>
  nm ((v0_2 + (zushr v0_2 (4 : Int32))) &&& (252645135 : Int32)) fun v0_3 =>
  nm (v0_3 + (zushr v0_3 (8 : Int32))) fun v0_4 =>
  nm (v0_4 + (zushr v0_4 (16 : Int32))) fun v0_5 =>
  some (v0_5 &&& (63 : Int32))
def f_R_powerInstructions (a0 : Int32) : Option (Int32) :=
  if a0 = 0 then
    some (1 : Int32)
  else
    (f_X_topDigit a0).bind fun r1 =>
    (f_JI_bitCount a0).bind fun r2 =>
    some ((r1 + r2) - (1 : Int32))
def f_R_instructionsNeeded_4 (R_words : Nat → Int32) (R_length : Int32) : Nat → Int32 → Int32 → Option (Int32)
  | 0, _, _ => none
  | fu + 1, v1, v2 =>
    if R_length ≤ v2 then
      some v1
    else
      (f_R_operation R_words v2).bind fun r1 =>
      if r1 = (8 : Int32) then
        (f_R_number R_words v2).bind fun r3 =>
        (f_R_powerInstructions r3).bind fun r4 =>
        nm (v1 + r4) fun v1_5 =>
        f_R_instructionsNeeded_4 R_words R_length fu v1_5 (v2 + (1 : Int32))
      else
        nm (v1 + (1 : Int32)) fun v1_2 =>
        f_R_instructionsNeeded_4 R_words R_length fu v1_2 (v2 + (1 : Int32))
def f_R_instructionsNeeded (R_words : Nat → Int32) (R_length : Int32) : Option (Int32) :=
  f_R_instructionsNeeded_4 R_words R_length zFU (0 : Int32) (0 : Int32)
def f_C_clear (C_length : Int32) : Option (Int32) :=
  some (0 : Int32)
def f_R_length (R_length : Int32) : Option (Int32) :=
  some R_length
def f_C_packed (a0 a1 a2 : Int32) : Option (Int32) :=
  some ((((a0 * (100 : Int32)) + a1) * (100 : Int32)) + a2)
def f_C_append (C_instructions : Nat → Int32) (C_length a1 a2 a3 : Int32) : Option (Int32 × (Nat → Int32) × Int32) :=
  (f_C_packed a1 a2 a3).bind fun r1 =>
  gd C_length 40 <|
  some (((C_length + (1 : Int32)) - (1 : Int32)), (upd C_instructions C_length.toNatClampNeg r1), (C_length + (1 : Int32)))
def f_X_isDigitOne (a0 a1 : Int32) : Option (Int32) :=
  if ((a0 >>> (a1 &&& 31)) &&& (1 : Int32)) = (1 : Int32) then
    some (1 : Int32)
  else
    some (0 : Int32)
def f_P_powerOf_22 (a0 a1 : Int32) : Nat → Int32 → Int32 → (Nat → Int32) → Int32 → Option (Int32 × (Nat → Int32) × Int32)
  | 0, _, _, _, _ => none
  | fu + 1, v3, v4, C_instructions, C_length =>
    if v4 < 0 then
      some (v3, C_instructions, C_length)
    else
      (f_C_append C_instructions C_length (5 : Int32) v3 v3).bind fun r1 =>
      (f_X_isDigitOne a1 v4).bind fun r2 =>
      if r2 = 0 then
        f_P_powerOf_22 a0 a1 fu r1.1 (v4 + (-1 : Int32)) r1.2.1 r1.2.2
      else
        (f_C_append r1.2.1 r1.2.2 (5 : Int32) r1.1 a0).bind fun r3 =>
        f_P_powerOf_22 a0 a1 fu r3.1 (v4 + (-1 : Int32)) r3.2.1 r3.2.2
def f_P_powerOf (C_instructions : Nat → Int32) (C_length a0 a1 : Int32) : Option (Int32 × (Nat → Int32) × Int32) :=
  if a1 = 0 then
    (f_C_append C_instructions C_length (1 : Int32) (0 : Int32) (0 : Int32)).bind fun r6 =>
    some (r6.1, r6.2.1, r6.2.2)
  else
    (f_X_topDigit a1).bind fun r4 =>
    nm (r4 - (1 : Int32)) fun v4_5 =>
    f_P_powerOf_22 a0 a1 zFU a0 v4_5 C_instructions C_length
def f_P_instructionsFor_52 (a1 a2 : Int32) (C_instructions : Nat → Int32) (C_length : Int32) : Option (Int32 × (Nat → Int32) × Int32) :=
  (f_C_append C_instructions C_length a1 (0 : Int32) a2).bind fun r1 =>
  some (r1.1, r1.2.1, r1.2.2)
def f_P_instructionsFor_61 (P_registers : Nat → Int32) (a1 a3 : Int32) (C_instructions : Nat → Int32) (C_length : Int32) : Option (Int32 × (Nat → Int32) × Int32) :=
  gd a3 24 <|
  gd (a3 + (1 : Int32)) 24 <|
  (f_C_append C_instructions C_length a1 (P_registers a3.toNatClampNeg) (P_registers (a3 + (1 : Int32)).toNatClampNeg)).bind fun r2 =>
  some (r2.1, r2.2.1, r2.2.2)
def f_P_instructionsFor_95 (P_registers : Nat → Int32) (a1 a2 a3 : Int32) (C_instructions : Nat → Int32) (C_length : Int32) : Option (Int32 × (Nat → Int32) × Int32) :=
  gd a3 24 <|
  (f_C_append C_instructions C_length a1 (P_registers a3.toNatClampNeg) a2).bind fun r3 =>
  some (r3.1, r3.2.1, r3.2.2)
def f_P_instructionsFor (C_instructions : Nat → Int32) (C_length : Int32) (P_registers : Nat → Int32) (a1 a2 a3 : Int32) : Option (Int32 × (Nat → Int32) × Int32) :=
  if a1 = (0 : Int32) then
    f_P_instructionsFor_52 a1 a2 C_instructions C_length
  else
  if a1 = (1 : Int32) then
    f_P_instructionsFor_52 a1 a2 C_instructions C_length
  else
  if a1 = (2 : Int32) then
    f_P_instructionsFor_52 a1 a2 C_instructions C_length
  else
  if a1 = (3 : Int32) then
    f_P_instructionsFor_61 P_registers a1 a3 C_instructions C_length
  else
  if a1 = (4 : Int32) then
    f_P_instructionsFor_61 P_registers a1 a3 C_instructions C_length
  else
  if a1 = (5 : Int32) then
    f_P_instructionsFor_61 P_registers a1 a3 C_instructions C_length
  else
  if a1 = (6 : Int32) then
    f_P_instructionsFor_95 P_registers a1 a2 a3 C_instructions C_length
  else
  if a1 = (7 : Int32) then
    f_P_instructionsFor_95 P_registers a1 a2 a3 C_instructions C_length
  else
  if a1 = (8 : Int32) then
    gd a3 24 <|
    (f_P_powerOf C_instructions C_length (P_registers a3.toNatClampNeg) a2).bind fun r4 =>
    some (r4.1, r4.2.1, r4.2.2)
  else
  f_P_instructionsFor_95 P_registers a1 a2 a3 C_instructions C_length
def f_P_translate_9 (R_words : Nat → Int32) (R_length : Int32) : Nat → Int32 → Int32 → (Nat → Int32) → Int32 → (Nat → Int32) → Option ((Nat → Int32) × Int32 × (Nat → Int32))
  | 0, _, _, _, _, _ => none
  | fu + 1, v3, v4, C_instructions, C_length, P_registers =>
    (f_R_length R_length).bind fun r1 =>
    if r1 ≤ v4 then
      some (C_instructions, C_length, P_registers)
    else
      (f_R_operation R_words v4).bind fun r2 =>
      (f_X_operandsOf r2).bind fun r3 =>
      nm (v3 - r3) fun v3_4 =>
      (f_R_number R_words v4).bind fun r5 =>
      (f_P_instructionsFor C_instructions C_length P_registers r2 r5 v3_4).bind fun r6 =>
      gd v3_4 24 <|
      f_P_translate_9 R_words R_length fu (v3_4 + (1 : Int32)) (v4 + (1 : Int32)) r6.2.1 r6.2.2 (upd P_registers v3_4.toNatClampNeg r6.1)
def f_P_translate (R_words : Nat → Int32) (R_length : Int32) (C_instructions : Nat → Int32) (C_length : Int32) (P_registers : Nat → Int32) : Option ((Nat → Int32) × Int32 × (Nat → Int32)) :=
  (f_C_clear C_length).bind fun r7 =>
  f_P_translate_9 R_words R_length zFU (0 : Int32) (0 : Int32) C_instructions r7 P_registers
def f_X_compile (X_instructionsDone : Int32) (R_words : Nat → Int32) (R_length : Int32) (C_instructions : Nat → Int32) (C_length : Int32) (P_registers : Nat → Int32) : Option (Int32 × Int32 × (Nat → Int32) × Int32 × (Nat → Int32)) :=
  (f_R_fault R_words R_length).bind fun r1 =>
  if r1 = 0 then
    (f_R_instructionsNeeded R_words R_length).bind fun r2 =>
    if r2 ≤ (40 : Int32) then
      (f_P_translate R_words R_length C_instructions C_length P_registers).bind fun r3 =>
      (f_X_rewind X_instructionsDone).bind fun r4 =>
      some ((0 : Int32), r4, r3.1, r3.2.1, r3.2.2)
    else
      some ((6 : Int32), X_instructionsDone, C_instructions, C_length, P_registers)
  else
    some (r1, X_instructionsDone, C_instructions, C_length, P_registers)
def f_C_operation (C_instructions : Nat → Int32) (a1 : Int32) : Option (Int32) :=
  gd a1 40 <|
  some ((C_instructions a1.toNatClampNeg) / (10000 : Int32))
def f_C_first (C_instructions : Nat → Int32) (a1 : Int32) : Option (Int32) :=
  gd a1 40 <|
  some (zrem ((C_instructions a1.toNatClampNeg) / (100 : Int32)) (100 : Int32))
def f_C_second (C_instructions : Nat → Int32) (a1 : Int32) : Option (Int32) :=
  gd a1 40 <|
  some (zrem (C_instructions a1.toNatClampNeg) (100 : Int32))
def f_O_is (V_instructions : Nat → Int32) (a1 a2 : Int32) : Option (Int32) :=
  (f_C_operation V_instructions a2).bind fun r1 =>
  if r1 = a1 then
    some (1 : Int32)
  else
    some (0 : Int32)
def f_C_findOrAppend_11 (a1 a2 a3 : Int32) (v4 : Int32) (C_instructions : Nat → Int32) (C_length : Int32) : Nat → Int32 → Option (Int32 × (Nat → Int32) × Int32)
  | 0, _ => none
  | fu + 1, v5 =>
    if C_length ≤ v5 then
      (f_C_append C_instructions C_length a1 a2 a3).bind fun r1 =>
      some (r1.1, r1.2.1, r1.2.2)
    else
      gd v5 40 <|
      if (C_instructions v5.toNatClampNeg) = v4 then
        some (v5, C_instructions, C_length)
      else
        f_C_findOrAppend_11 a1 a2 a3 v4 C_instructions C_length fu (v5 + (1 : Int32))
def f_C_findOrAppend (C_instructions : Nat → Int32) (C_length a1 a2 a3 : Int32) : Option (Int32 × (Nat → Int32) × Int32) :=
  (f_C_packed a1 a2 a3).bind fun r2 =>
  f_C_findOrAppend_11 a1 a2 a3 r2 C_instructions C_length zFU (0 : Int32)
def f_O_sum (V_instructions : Nat → Int32) (V_length a1 a2 : Int32) : Option (Int32 × (Nat → Int32) × Int32) :=
  (f_O_is V_instructions (2 : Int32) a2).bind fun r1 =>
  if r1 = 0 then
    (f_O_is V_instructions (2 : Int32) a1).bind fun r2 =>
    if r2 = 0 then
      (f_C_findOrAppend V_instructions V_length (3 : Int32) (zmin a1 a2) (zmax a1 a2)).bind fun r3 =>
      some (r3.1, r3.2.1, r3.2.2)
    else
      some (a2, V_instructions, V_length)
  else
    some (a1, V_instructions, V_length)
def f_O_nought (V_instructions : Nat → Int32) (V_length : Int32) : Option (Int32 × (Nat → Int32) × Int32) :=
  (f_C_findOrAppend V_instructions V_length (2 : Int32) (0 : Int32) (0 : Int32)).bind fun r1 =>
  some (r1.1, r1.2.1, r1.2.2)
def f_O_difference (V_instructions : Nat → Int32) (V_length a1 a2 : Int32) : Option (Int32 × (Nat → Int32) × Int32) :=
  (f_O_is V_instructions (2 : Int32) a2).bind fun r1 =>
  if r1 = 0 then
    if a1 = a2 then
      (f_O_nought V_instructions V_length).bind fun r3 =>
      some (r3.1, r3.2.1, r3.2.2)
    else
      (f_C_findOrAppend V_instructions V_length (4 : Int32) a1 a2).bind fun r2 =>
      some (r2.1, r2.2.1, r2.2.2)
  else
    some (a1, V_instructions, V_length)
def f_O_product_18 (V_instructions : Nat → Int32) (V_length : Int32) : Option (Int32 × (Nat → Int32) × Int32) :=
  (f_O_nought V_instructions V_length).bind fun r1 =>
  some (r1.1, r1.2.1, r1.2.2)
def f_O_product (V_instructions : Nat → Int32) (V_length a1 a2 : Int32) : Option (Int32 × (Nat → Int32) × Int32) :=
  (f_O_is V_instructions (2 : Int32) a1).bind fun r2 =>
  if r2 = 0 then
    (f_O_is V_instructions (2 : Int32) a2).bind fun r3 =>
    if r3 = 0 then
      (f_O_is V_instructions (1 : Int32) a2).bind fun r4 =>
      if r4 = 0 then
        (f_O_is V_instructions (1 : Int32) a1).bind fun r5 =>
        if r5 = 0 then
          (f_C_findOrAppend V_instructions V_length (5 : Int32) a1 a2).bind fun r6 =>
          some (r6.1, r6.2.1, r6.2.2)
        else
          some (a2, V_instructions, V_length)
      else
        some (a1, V_instructions, V_length)
    else
      f_O_product_18 V_instructions V_length
  else
    f_O_product_18 V_instructions V_length
def f_O_turned (V_instructions : Nat → Int32) (V_length a1 : Int32) : Option (Int32 × (Nat → Int32) × Int32) :=
  (f_O_is V_instructions (1 : Int32) a1).bind fun r1 =>
  if r1 = 0 then
    (f_O_is V_instructions (2 : Int32) a1).bind fun r2 =>
    if r2 = 0 then
      (f_O_is V_instructions (6 : Int32) a1).bind fun r3 =>
      if r3 = 0 then
        (f_C_findOrAppend V_instructions V_length (6 : Int32) a1 (0 : Int32)).bind fun r4 =>
        some (r4.1, r4.2.1, r4.2.2)
      else
        (f_C_first V_instructions a1).bind fun r5 =>
        some (r5, V_instructions, V_length)
    else
      some (a1, V_instructions, V_length)
  else
    some (a1, V_instructions, V_length)
def f_O_scaled_66 (V_instructions : Nat → Int32) (V_length : Int32) : Option (Int32 × (Nat → Int32) × Int32) :=
  (f_O_nought V_instructions V_length).bind fun r1 =>
  some (r1.1, r1.2.1, r1.2.2)
def f_O_scaled_49 (v4 t0 : Int32) (V_instructions : Nat → Int32) (V_length : Int32) : Option (Int32 × (Nat → Int32) × Int32) :=
  if t0 = 0 then
    f_O_scaled_66 V_instructions V_length
  else
    (f_O_is V_instructions (2 : Int32) v4).bind fun r2 =>
    if r2 = 0 then
      if t0 = (1 : Int32) then
        some (v4, V_instructions, V_length)
      else
        (f_C_findOrAppend V_instructions V_length (7 : Int32) v4 t0).bind fun r3 =>
        some (r3.1, r3.2.1, r3.2.2)
    else
      f_O_scaled_66 V_instructions V_length
def f_O_scaled_24 (O_modulus a1 a2 : Int32) (v3 t0 : Int32) (V_instructions : Nat → Int32) (V_length : Int32) : Option (Int32 × (Nat → Int32) × Int32) :=
  if v3 = 0 then
    f_O_scaled_49 t0 a2 V_instructions V_length
  else
    (f_C_second V_instructions a1).bind fun r4 =>
    nz O_modulus <|
    f_O_scaled_49 t0 (zrem (r4 * a2) O_modulus) V_instructions V_length
def f_O_scaled (O_modulus : Int32) (V_instructions : Nat → Int32) (V_length a1 a2 : Int32) : Option (Int32 × (Nat → Int32) × Int32) :=
  (f_O_is V_instructions (7 : Int32) a1).bind fun r5 =>
  if r5 = 0 then
    f_O_scaled_24 O_modulus a1 a2 r5 a1 V_instructions V_length
  else
    (f_C_first V_instructions a1).bind fun r6 =>
    f_O_scaled_24 O_modulus a1 a2 r5 r6 V_instructions V_length
def f_O_value (O_modulus : Int32) (O_valueOf V_instructions : Nat → Int32) (V_length a1 a2 a3 : Int32) : Option (Int32 × (Nat → Int32) × Int32) :=
  if a1 = (3 : Int32) then
    gd a2 40 <|
    gd a3 40 <|
    (f_O_sum V_instructions V_length (O_valueOf a2.toNatClampNeg) (O_valueOf a3.toNatClampNeg)).bind fun r1 =>
    some (r1.1, r1.2.1, r1.2.2)
  else
  if a1 = (4 : Int32) then
    gd a2 40 <|
    gd a3 40 <|
    (f_O_difference V_instructions V_length (O_valueOf a2.toNatClampNeg) (O_valueOf a3.toNatClampNeg)).bind fun r2 =>
    some (r2.1, r2.2.1, r2.2.2)
  else
  if a1 = (5 : Int32) then
    gd a2 40 <|
    gd a3 40 <|
    (f_O_product V_instructions V_length (O_valueOf a2.toNatClampNeg) (O_valueOf a3.toNatClampNeg)).bind fun r3 =>
    some (r3.1, r3.2.1, r3.2.2)
  else
  if a1 = (6 : Int32) then
    gd a2 40 <|
    (f_O_turned V_instructions V_length (O_valueOf a2.toNatClampNeg)).bind fun r4 =>
    some (r4.1, r4.2.1, r4.2.2)
  else
  if a1 = (7 : Int32) then
    gd a2 40 <|
    nz O_modulus <|
    (f_O_scaled O_modulus V_instructions V_length (O_valueOf a2.toNatClampNeg) (zrem a3 O_modulus)).bind fun r5 =>
    some (r5.1, r5.2.1, r5.2.2)
  else
  (f_C_findOrAppend V_instructions V_length a1 a2 a3).bind fun r6 =>
  some (r6.1, r6.2.1, r6.2.2)
def f_C_result (C_length : Int32) : Option (Int32) :=
  some (C_length - (1 : Int32))
def f_O_markNeeded_84 (V_instructions : Nat → Int32) (k37 : Int32 → (Nat → Int32) → Option ((Nat → Int32))) (v2 v3 : Int32) (O_isNeeded : Nat → Int32) : Option ((Nat → Int32)) :=
  if v3 = (2 : Int32) then
    (f_C_second V_instructions v2).bind fun r1 =>
    gd r1 40 <|
    k37 (v2 + (-1 : Int32)) (upd O_isNeeded r1.toNatClampNeg (vp_nar .boolean (1 : Int32)))
  else
    k37 (v2 + (-1 : Int32)) O_isNeeded
def f_O_markNeeded_37 (V_instructions : Nat → Int32) : Nat → Int32 → (Nat → Int32) → Option ((Nat → Int32))
  | 0, _, _ => none
  | fu + 1, v2, O_isNeeded =>
    if v2 < 0 then
      some O_isNeeded
    else
      gd v2 40 <|
      if (O_isNeeded v2.toNatClampNeg) = 0 then
        f_O_markNeeded_37 V_instructions fu (v2 + (-1 : Int32)) O_isNeeded
      else
        (f_C_operation V_instructions v2).bind fun r2 =>
        (f_X_operandsOf r2).bind fun r3 =>
        if r3 < (1 : Int32) then
          f_O_markNeeded_84 V_instructions (f_O_markNeeded_37 V_instructions fu) v2 r3 O_isNeeded
        else
          (f_C_first V_instructions v2).bind fun r4 =>
          gd r4 40 <|
          f_O_markNeeded_84 V_instructions (f_O_markNeeded_37 V_instructions fu) v2 r3 (upd O_isNeeded r4.toNatClampNeg (vp_nar .boolean (1 : Int32)))
def f_O_markNeeded_28 (k2 : Int32 → (Nat → Int32) → Option ((Nat → Int32))) (v2 t0 t1 : Int32) (O_isNeeded : Nat → Int32) : Option ((Nat → Int32)) :=
  gd t1 40 <|
  k2 (v2 + (1 : Int32)) (upd O_isNeeded t1.toNatClampNeg (vp_nar .boolean t0))
def f_O_markNeeded_2 (V_instructions : Nat → Int32) (V_length a1 : Int32) : Nat → Int32 → (Nat → Int32) → Option ((Nat → Int32))
  | 0, _, _ => none
  | fu + 1, v2, O_isNeeded =>
    (f_C_length V_length).bind fun r5 =>
    if r5 ≤ v2 then
      f_O_markNeeded_37 V_instructions zFU a1 O_isNeeded
    else
      if v2 = a1 then
        f_O_markNeeded_28 (f_O_markNeeded_2 V_instructions V_length a1 fu) v2 (1 : Int32) v2 O_isNeeded
      else
        f_O_markNeeded_28 (f_O_markNeeded_2 V_instructions V_length a1 fu) v2 (0 : Int32) v2 O_isNeeded
def f_O_markNeeded (O_isNeeded V_instructions : Nat → Int32) (V_length a1 : Int32) : Option ((Nat → Int32)) :=
  f_O_markNeeded_2 V_instructions V_length a1 zFU (0 : Int32) O_isNeeded
def f_O_rewritten_70 (v3 v5 t0 : Int32) (C_instructions : Nat → Int32) (C_length : Int32) : Option (Int32 × (Nat → Int32) × Int32) :=
  (f_C_append C_instructions C_length v3 v5 t0).bind fun r1 =>
  some (r1.1, r1.2.1, r1.2.2)
def f_O_rewritten_38 (O_registerOf V_instructions : Nat → Int32) (a1 : Int32) (v3 v4 t0 : Int32) (C_instructions : Nat → Int32) (C_length : Int32) : Option (Int32 × (Nat → Int32) × Int32) :=
  if v4 = (2 : Int32) then
    (f_C_second V_instructions a1).bind fun r3 =>
    gd r3 40 <|
    f_O_rewritten_70 v3 t0 (O_registerOf r3.toNatClampNeg) C_instructions C_length
  else
    (f_C_second V_instructions a1).bind fun r2 =>
    f_O_rewritten_70 v3 t0 r2 C_instructions C_length
def f_O_rewritten (C_instructions : Nat → Int32) (C_length : Int32) (O_registerOf V_instructions : Nat → Int32) (a1 : Int32) : Option (Int32 × (Nat → Int32) × Int32) :=
  (f_C_operation V_instructions a1).bind fun r4 =>
  (f_X_operandsOf r4).bind fun r5 =>
  if r5 < (1 : Int32) then
    f_O_rewritten_38 O_registerOf V_instructions a1 r4 r5 (0 : Int32) C_instructions C_length
  else
    (f_C_first V_instructions a1).bind fun r6 =>
    gd r6 40 <|
    f_O_rewritten_38 O_registerOf V_instructions a1 r4 r5 (O_registerOf r6.toNatClampNeg) C_instructions C_length
def f_O_rewrite_6 (O_isNeeded V_instructions : Nat → Int32) (V_length : Int32) : Nat → Int32 → (Nat → Int32) → Int32 → (Nat → Int32) → Option ((Nat → Int32) × Int32 × (Nat → Int32))
  | 0, _, _, _, _ => none
  | fu + 1, v2, C_instructions, C_length, O_registerOf =>
    (f_C_length V_length).bind fun r1 =>
    if r1 ≤ v2 then
      some (C_instructions, C_length, O_registerOf)
    else
      gd v2 40 <|
      if (O_isNeeded v2.toNatClampNeg) = 0 then
        f_O_rewrite_6 O_isNeeded V_instructions V_length fu (v2 + (1 : Int32)) C_instructions C_length O_registerOf
      else
        (f_O_rewritten C_instructions C_length O_registerOf V_instructions v2).bind fun r2 =>
        gd v2 40 <|
        f_O_rewrite_6 O_isNeeded V_instructions V_length fu (v2 + (1 : Int32)) r2.2.1 r2.2.2 (upd O_registerOf v2.toNatClampNeg r2.1)
def f_O_rewrite (C_instructions : Nat → Int32) (C_length : Int32) (O_isNeeded O_registerOf V_instructions : Nat → Int32) (V_length : Int32) : Option ((Nat → Int32) × Int32 × (Nat → Int32)) :=
  (f_C_clear C_length).bind fun r3 =>
  f_O_rewrite_6 O_isNeeded V_instructions V_length zFU (0 : Int32) C_instructions r3 O_registerOf
def f_O_improve_9 (O_modulus : Int32) (C_instructions : Nat → Int32) (C_length : Int32) (O_isNeeded O_registerOf : Nat → Int32) : Nat → Int32 → (Nat → Int32) → (Nat → Int32) → Int32 → Option ((Nat → Int32) × Int32 × (Nat → Int32) × (Nat → Int32) × (Nat → Int32) × (Nat → Int32) × Int32)
  | 0, _, _, _, _ => none
  | fu + 1, v2, O_valueOf, V_instructions, V_length =>
    (f_C_length C_length).bind fun r1 =>
    if r1 ≤ v2 then
      (f_C_result C_length).bind fun r2 =>
      gd r2 40 <|
      (f_O_markNeeded O_isNeeded V_instructions V_length (O_valueOf r2.toNatClampNeg)).bind fun r3 =>
      (f_O_rewrite C_instructions C_length r3 O_registerOf V_instructions V_length).bind fun r4 =>
      some (r4.1, r4.2.1, O_valueOf, r3, r4.2.2, V_instructions, V_length)
    else
      (f_C_operation C_instructions v2).bind fun r5 =>
      (f_C_first C_instructions v2).bind fun r6 =>
      (f_C_second C_instructions v2).bind fun r7 =>
      (f_O_value O_modulus O_valueOf V_instructions V_length r5 r6 r7).bind fun r8 =>
      gd v2 40 <|
      f_O_improve_9 O_modulus C_instructions C_length O_isNeeded O_registerOf fu (v2 + (1 : Int32)) (upd O_valueOf v2.toNatClampNeg r8.1) r8.2.1 r8.2.2
def f_O_improve (C_instructions : Nat → Int32) (C_length O_modulus : Int32) (O_valueOf O_isNeeded O_registerOf V_instructions : Nat → Int32) (V_length : Int32) : Option ((Nat → Int32) × Int32 × (Nat → Int32) × (Nat → Int32) × (Nat → Int32) × (Nat → Int32) × Int32) :=
  (f_C_clear V_length).bind fun r9 =>
  f_O_improve_9 O_modulus C_instructions C_length O_isNeeded O_registerOf zFU (0 : Int32) O_valueOf V_instructions r9
def f_X_optimise (X_instructionsDone : Int32) (C_instructions : Nat → Int32) (C_length O_modulus : Int32) (O_valueOf O_isNeeded O_registerOf V_instructions : Nat → Int32) (V_length : Int32) : Option (Int32 × Int32 × (Nat → Int32) × Int32 × (Nat → Int32) × (Nat → Int32) × (Nat → Int32) × (Nat → Int32) × Int32) :=
  (f_X_hasCode C_length).bind fun r1 =>
  if r1 = 0 then
    some ((7 : Int32), X_instructionsDone, C_instructions, C_length, O_valueOf, O_isNeeded, O_registerOf, V_instructions, V_length)
  else
    (f_O_improve C_instructions C_length O_modulus O_valueOf O_isNeeded O_registerOf V_instructions V_length).bind fun r2 =>
    (f_X_rewind X_instructionsDone).bind fun r3 =>
    some ((0 : Int32), r3, r2.1, r2.2.1, r2.2.2.1, r2.2.2.2.1, r2.2.2.2.2.1, r2.2.2.2.2.2.1, r2.2.2.2.2.2.2)
def f_M_copy (M_nc : Nat) (M_size : Int32) (M_cells : Nat → Int32) (a1 a2 : Int32) : Option ((Nat → Int32)) :=
  cpg (a2 * M_size) (a1 * M_size) M_size M_nc M_nc <|
  some (va_cpy M_cells M_cells (a2 * M_size).toNatClampNeg (a1 * M_size).toNatClampNeg M_size.toNatClampNeg)
def f_M_makeNought_2 (M_nc : Nat) (M_size a1 : Int32) : Nat → Int32 → (Nat → Int32) → Option ((Nat → Int32))
  | 0, _, _ => none
  | fu + 1, v2, M_cells =>
    if M_size ≤ v2 then
      some M_cells
    else
      gd ((a1 * M_size) + v2) M_nc <|
      f_M_makeNought_2 M_nc M_size a1 fu (v2 + (1 : Int32)) (upd M_cells ((a1 * M_size) + v2).toNatClampNeg (0 : Int32))
def f_M_makeNought (M_nc : Nat) (M_size : Int32) (M_cells : Nat → Int32) (a1 : Int32) : Option ((Nat → Int32)) :=
  f_M_makeNought_2 M_nc M_size a1 zFU (0 : Int32) M_cells
def f_M_makeOne_7 (M_nc : Nat) (M_modulus M_side M_size a1 : Int32) : Nat → Int32 → (Nat → Int32) → Option ((Nat → Int32))
  | 0, _, _ => none
  | fu + 1, v2, M_cells =>
    if M_side ≤ v2 then
      some M_cells
    else
      (f_M_put M_nc M_modulus M_side M_size M_cells a1 v2 v2 (1 : Int32)).bind fun r1 =>
      f_M_makeOne_7 M_nc M_modulus M_side M_size a1 fu (v2 + (1 : Int32)) r1
def f_M_makeOne (M_nc : Nat) (M_modulus M_side M_size : Int32) (M_cells : Nat → Int32) (a1 : Int32) : Option ((Nat → Int32)) :=
  (f_M_makeNought M_nc M_size M_cells a1).bind fun r2 =>
  f_M_makeOne_7 M_nc M_modulus M_side M_size a1 zFU (0 : Int32) r2
def f_M_combine_3 (M_nc : Nat) (M_modulus M_size a1 a2 a3 a4 : Int32) : Nat → Int32 → (Nat → Int32) → Option ((Nat → Int32))
  | 0, _, _ => none
  | fu + 1, v5, M_cells =>
    if M_size ≤ v5 then
      some M_cells
    else
      gd ((a2 * M_size) + v5) M_nc <|
      gd ((a3 * M_size) + v5) M_nc <|
      nm ((M_cells ((a2 * M_size) + v5).toNatClampNeg) + (a4 * (M_cells ((a3 * M_size) + v5).toNatClampNeg))) fun v6_1 =>
      nz M_modulus <|
      gd ((a1 * M_size) + v5) M_nc <|
      f_M_combine_3 M_nc M_modulus M_size a1 a2 a3 a4 fu (v5 + (1 : Int32)) (upd M_cells ((a1 * M_size) + v5).toNatClampNeg (zrem v6_1 M_modulus))
def f_M_combine (M_nc : Nat) (M_modulus M_size : Int32) (M_cells : Nat → Int32) (a1 a2 a3 a4 : Int32) : Option ((Nat → Int32)) :=
  f_M_combine_3 M_nc M_modulus M_size a1 a2 a3 a4 zFU (0 : Int32) M_cells
def f_M_get (M_nc : Nat) (M_side M_size : Int32) (M_cells : Nat → Int32) (a1 a2 a3 : Int32) : Option (Int32) :=
  gd (((a1 * M_size) + (a2 * M_side)) + a3) M_nc <|
  some (M_cells (((a1 * M_size) + (a2 * M_side)) + a3).toNatClampNeg)
def f_M_keepFresh (M_nc M_nf : Nat) (M_size : Int32) (M_cells M_fresh : Nat → Int32) (a1 : Int32) : Option ((Nat → Int32)) :=
  cpg (0 : Int32) (a1 * M_size) M_size M_nf M_nc <|
  some (va_cpy M_fresh M_cells (0 : Int32).toNatClampNeg (a1 * M_size).toNatClampNeg M_size.toNatClampNeg)
def f_M_multiply_30 (M_nc M_nf : Nat) (M_modulus M_side M_size a2 a3 : Int32) (k15 : Int32 → (Nat → Int32) → Option ((Nat → Int32) × (Nat → Int32))) (v4 v5 : Int32) (M_cells M_fresh : Nat → Int32) : Nat → Int32 → Int32 → Option ((Nat → Int32) × (Nat → Int32))
  | 0, _, _ => none
  | fu + 1, v6, v7 =>
    if M_side ≤ v7 then
      nz M_modulus <|
      gd ((v4 * M_side) + v5) M_nf <|
      k15 (v5 + (1 : Int32)) (upd M_fresh ((v4 * M_side) + v5).toNatClampNeg (zrem v6 M_modulus))
    else
      (f_M_get M_nc M_side M_size M_cells a2 v4 v7).bind fun r1 =>
      (f_M_get M_nc M_side M_size M_cells a3 v7 v5).bind fun r2 =>
      nm (v6 + (r1 * r2)) fun v6_3 =>
      f_M_multiply_30 M_nc M_nf M_modulus M_side M_size a2 a3 k15 v4 v5 M_cells M_fresh fu v6_3 (v7 + (1 : Int32))
def f_M_multiply_15 (M_nc M_nf : Nat) (M_modulus M_side M_size a2 a3 : Int32) (k3 : Int32 → (Nat → Int32) → Option ((Nat → Int32) × (Nat → Int32))) (v4 : Int32) (M_cells : Nat → Int32) : Nat → Int32 → (Nat → Int32) → Option ((Nat → Int32) × (Nat → Int32))
  | 0, _, _ => none
  | fu + 1, v5, M_fresh =>
    if M_side ≤ v5 then
      k3 (v4 + (1 : Int32)) M_fresh
    else
      f_M_multiply_30 M_nc M_nf M_modulus M_side M_size a2 a3 (f_M_multiply_15 M_nc M_nf M_modulus M_side M_size a2 a3 k3 v4 M_cells fu) v4 v5 M_cells M_fresh zFU (0 : Int32) (0 : Int32)
def f_M_multiply_3 (M_nc M_nf : Nat) (M_modulus M_side M_size a1 a2 a3 : Int32) (M_cells : Nat → Int32) : Nat → Int32 → (Nat → Int32) → Option ((Nat → Int32) × (Nat → Int32))
  | 0, _, _ => none
  | fu + 1, v4, M_fresh =>
    if M_side ≤ v4 then
      (f_M_keepFresh M_nc M_nf M_size M_cells M_fresh a1).bind fun r4 =>
      some (r4, M_fresh)
    else
      f_M_multiply_15 M_nc M_nf M_modulus M_side M_size a2 a3 (f_M_multiply_3 M_nc M_nf M_modulus M_side M_size a1 a2 a3 M_cells fu) v4 M_cells zFU (0 : Int32) M_fresh
def f_M_multiply (M_nc M_nf : Nat) (M_modulus M_side M_size : Int32) (M_cells M_fresh : Nat → Int32) (a1 a2 a3 : Int32) : Option ((Nat → Int32) × (Nat → Int32)) :=
  f_M_multiply_3 M_nc M_nf M_modulus M_side M_size a1 a2 a3 M_cells zFU (0 : Int32) M_fresh
def f_M_turn_13 (M_nc M_nf : Nat) (M_side M_size a2 : Int32) (k2 : Int32 → (Nat → Int32) → Option ((Nat → Int32) × (Nat → Int32))) (v3 : Int32) (M_cells : Nat → Int32) : Nat → Int32 → (Nat → Int32) → Option ((Nat → Int32) × (Nat → Int32))
  | 0, _, _ => none
  | fu + 1, v4, M_fresh =>
    if M_side ≤ v4 then
      k2 (v3 + (1 : Int32)) M_fresh
    else
      (f_M_get M_nc M_side M_size M_cells a2 v4 v3).bind fun r1 =>
      gd ((v3 * M_side) + v4) M_nf <|
      f_M_turn_13 M_nc M_nf M_side M_size a2 k2 v3 M_cells fu (v4 + (1 : Int32)) (upd M_fresh ((v3 * M_side) + v4).toNatClampNeg r1)
def f_M_turn_2 (M_nc M_nf : Nat) (M_side M_size a1 a2 : Int32) (M_cells : Nat → Int32) : Nat → Int32 → (Nat → Int32) → Option ((Nat → Int32) × (Nat → Int32))
  | 0, _, _ => none
  | fu + 1, v3, M_fresh =>
    if M_side ≤ v3 then
      (f_M_keepFresh M_nc M_nf M_size M_cells M_fresh a1).bind fun r2 =>
      some (r2, M_fresh)
    else
      f_M_turn_13 M_nc M_nf M_side M_size a2 (f_M_turn_2 M_nc M_nf M_side M_size a1 a2 M_cells fu) v3 M_cells zFU (0 : Int32) M_fresh
def f_M_turn (M_nc M_nf : Nat) (M_side M_size : Int32) (M_cells M_fresh : Nat → Int32) (a1 a2 : Int32) : Option ((Nat → Int32) × (Nat → Int32)) :=
  f_M_turn_2 M_nc M_nf M_side M_size a1 a2 M_cells zFU (0 : Int32) M_fresh
def f_M_scale_3 (M_nc : Nat) (M_modulus M_size a1 a2 a3 : Int32) : Nat → Int32 → (Nat → Int32) → Option ((Nat → Int32))
  | 0, _, _ => none
  | fu + 1, v4, M_cells =>
    if M_size ≤ v4 then
      some M_cells
    else
      gd ((a2 * M_size) + v4) M_nc <|
      nz M_modulus <|
      gd ((a1 * M_size) + v4) M_nc <|
      f_M_scale_3 M_nc M_modulus M_size a1 a2 a3 fu (v4 + (1 : Int32)) (upd M_cells ((a1 * M_size) + v4).toNatClampNeg (zrem ((M_cells ((a2 * M_size) + v4).toNatClampNeg) * a3) M_modulus))
def f_M_scale (M_nc : Nat) (M_modulus M_size : Int32) (M_cells : Nat → Int32) (a1 a2 a3 : Int32) : Option ((Nat → Int32)) :=
  f_M_scale_3 M_nc M_modulus M_size a1 a2 a3 zFU (0 : Int32) M_cells
def f_M_apply (M_nc M_nf : Nat) (M_modulus M_side M_size : Int32) (M_cells M_fresh : Nat → Int32) (a1 a2 a3 a4 : Int32) : Option ((Nat → Int32) × (Nat → Int32)) :=
  if a1 = (0 : Int32) then
    (f_M_copy M_nc M_size M_cells a2 ((40 : Int32) + a4)).bind fun r1 =>
    some (r1, M_fresh)
  else
  if a1 = (1 : Int32) then
    (f_M_makeOne M_nc M_modulus M_side M_size M_cells a2).bind fun r2 =>
    some (r2, M_fresh)
  else
  if a1 = (2 : Int32) then
    (f_M_makeNought M_nc M_size M_cells a2).bind fun r3 =>
    some (r3, M_fresh)
  else
  if a1 = (3 : Int32) then
    (f_M_combine M_nc M_modulus M_size M_cells a2 a3 a4 (1 : Int32)).bind fun r4 =>
    some (r4, M_fresh)
  else
  if a1 = (4 : Int32) then
    (f_M_combine M_nc M_modulus M_size M_cells a2 a3 a4 (M_modulus - (1 : Int32))).bind fun r5 =>
    some (r5, M_fresh)
  else
  if a1 = (5 : Int32) then
    (f_M_multiply M_nc M_nf M_modulus M_side M_size M_cells M_fresh a2 a3 a4).bind fun r6 =>
    some (r6.1, r6.2)
  else
  if a1 = (6 : Int32) then
    (f_M_turn M_nc M_nf M_side M_size M_cells M_fresh a2 a3).bind fun r7 =>
    some (r7.1, r7.2)
  else
  (f_M_scale M_nc M_modulus M_size M_cells a2 a3 a4).bind fun r8 =>
  some (r8, M_fresh)
def f_X_isAllDone (X_instructionsDone C_length : Int32) : Option (Int32) :=
  (f_C_length C_length).bind fun r1 =>
  if X_instructionsDone = r1 then
    some (1 : Int32)
  else
    some (0 : Int32)
def f_X_run_33 (M_nc M_nf : Nat) (M_modulus M_side M_size : Int32) (C_instructions : Nat → Int32) (C_length : Int32) (v2 : Int32) : Nat → Int32 → Int32 → (Nat → Int32) → (Nat → Int32) → Option (Int32 × Int32 × (Nat → Int32) × (Nat → Int32))
  | 0, _, _, _, _ => none
  | fu + 1, v3, X_instructionsDone, M_cells, M_fresh =>
    if v2 ≤ v3 then
      (f_X_isAllDone X_instructionsDone C_length).bind fun r1 =>
      if r1 = 0 then
        some ((8 : Int32), X_instructionsDone, M_cells, M_fresh)
      else
        some ((0 : Int32), X_instructionsDone, M_cells, M_fresh)
    else
      (f_C_operation C_instructions X_instructionsDone).bind fun r2 =>
      (f_C_first C_instructions X_instructionsDone).bind fun r3 =>
      (f_C_second C_instructions X_instructionsDone).bind fun r4 =>
      (f_M_apply M_nc M_nf M_modulus M_side M_size M_cells M_fresh r2 X_instructionsDone r3 r4).bind fun r5 =>
      f_X_run_33 M_nc M_nf M_modulus M_side M_size C_instructions C_length v2 fu (v3 + (1 : Int32)) (X_instructionsDone + (1 : Int32)) r5.1 r5.2
def f_X_run (M_nc M_nf : Nat) (X_instructionsDone M_modulus M_side M_size : Int32) (M_cells M_fresh C_instructions : Nat → Int32) (C_length a1 : Int32) : Option (Int32 × Int32 × (Nat → Int32) × (Nat → Int32)) :=
  (f_X_hasCode C_length).bind fun r6 =>
  if r6 = 0 then
    some ((7 : Int32), X_instructionsDone, M_cells, M_fresh)
  else
    (f_C_length C_length).bind fun r7 =>
    nm (zmin (zmax a1 (0 : Int32)) (r7 - X_instructionsDone)) fun v2_8 =>
    f_X_run_33 M_nc M_nf M_modulus M_side M_size C_instructions C_length v2_8 zFU (0 : Int32) X_instructionsDone M_cells M_fresh
def f_M_raise_24 (M_nc M_nf : Nat) (M_modulus M_side M_size a1 a2 : Int32) : Nat → Int32 → (Nat → Int32) → (Nat → Int32) → Option ((Nat → Int32) × (Nat → Int32))
  | 0, _, _, _ => none
  | fu + 1, v3, M_cells, M_fresh =>
    if v3 < 0 then
      some (M_cells, M_fresh)
    else
      (f_M_multiply M_nc M_nf M_modulus M_side M_size M_cells M_fresh a1 a1 a1).bind fun r1 =>
      (f_X_isDigitOne a2 v3).bind fun r2 =>
      if r2 = 0 then
        f_M_raise_24 M_nc M_nf M_modulus M_side M_size a1 a2 fu (v3 + (-1 : Int32)) r1.1 r1.2
      else
        (f_M_multiply M_nc M_nf M_modulus M_side M_size r1.1 r1.2 a1 a1 (68 : Int32)).bind fun r3 =>
        f_M_raise_24 M_nc M_nf M_modulus M_side M_size a1 a2 fu (v3 + (-1 : Int32)) r3.1 r3.2
def f_M_raise (M_nc M_nf : Nat) (M_modulus M_side M_size : Int32) (M_cells M_fresh : Nat → Int32) (a1 a2 : Int32) : Option ((Nat → Int32) × (Nat → Int32)) :=
  if a2 = 0 then
    (f_M_makeOne M_nc M_modulus M_side M_size M_cells a1).bind fun r7 =>
    some (r7, M_fresh)
  else
    (f_M_copy M_nc M_size M_cells (68 : Int32) a1).bind fun r4 =>
    (f_X_topDigit a2).bind fun r5 =>
    nm (r5 - (1 : Int32)) fun v3_6 =>
    f_M_raise_24 M_nc M_nf M_modulus M_side M_size a1 a2 zFU v3_6 r4 M_fresh
def f_X_workOut_86 (M_nc M_nf : Nat) (M_modulus M_side M_size : Int32) (k5 : Int32 → Int32 → (Nat → Int32) → (Nat → Int32) → Option ((Nat → Int32) × (Nat → Int32))) (v1 v2 t0 t1 t2 t3 : Int32) (M_cells M_fresh : Nat → Int32) : Option ((Nat → Int32) × (Nat → Int32)) :=
  (f_M_apply M_nc M_nf M_modulus M_side M_size M_cells M_fresh t3 t2 t1 t0).bind fun r1 =>
  k5 (v1 + (1 : Int32)) (v2 + (1 : Int32)) r1.1 r1.2
def f_X_workOut_5 (M_nc M_nf : Nat) (M_modulus M_side M_size : Int32) (R_words : Nat → Int32) (R_length : Int32) : Nat → Int32 → Int32 → (Nat → Int32) → (Nat → Int32) → Option ((Nat → Int32) × (Nat → Int32))
  | 0, _, _, _, _ => none
  | fu + 1, v1, v2, M_cells, M_fresh =>
    (f_R_length R_length).bind fun r2 =>
    if r2 ≤ v2 then
      some (M_cells, M_fresh)
    else
      (f_R_operation R_words v2).bind fun r3 =>
      (f_R_number R_words v2).bind fun r4 =>
      (f_X_operandsOf r3).bind fun r5 =>
      nm (v1 - r5) fun v1_6 =>
      if r3 = (8 : Int32) then
        (f_M_raise M_nc M_nf M_modulus M_side M_size M_cells M_fresh v1_6 r4).bind fun r7 =>
        f_X_workOut_5 M_nc M_nf M_modulus M_side M_size R_words R_length fu (v1_6 + (1 : Int32)) (v2 + (1 : Int32)) r7.1 r7.2
      else
        if r5 = (2 : Int32) then
          f_X_workOut_86 M_nc M_nf M_modulus M_side M_size (f_X_workOut_5 M_nc M_nf M_modulus M_side M_size R_words R_length fu) v1_6 v2 (v1_6 + (1 : Int32)) v1_6 v1_6 r3 M_cells M_fresh
        else
          f_X_workOut_86 M_nc M_nf M_modulus M_side M_size (f_X_workOut_5 M_nc M_nf M_modulus M_side M_size R_words R_length fu) v1_6 v2 r4 v1_6 v1_6 r3 M_cells M_fresh
def f_X_workOut (M_nc M_nf : Nat) (M_modulus M_side M_size : Int32) (M_cells M_fresh R_words : Nat → Int32) (R_length : Int32) : Option ((Nat → Int32) × (Nat → Int32)) :=
  f_X_workOut_5 M_nc M_nf M_modulus M_side M_size R_words R_length zFU (44 : Int32) (0 : Int32) M_cells M_fresh
def f_X_evalDirect (M_nc M_nf : Nat) (X_isWorkedOut M_modulus M_side M_size : Int32) (M_cells M_fresh R_words : Nat → Int32) (R_length : Int32) : Option (Int32 × Int32 × (Nat → Int32) × (Nat → Int32)) :=
  (f_R_fault R_words R_length).bind fun r1 =>
  if r1 = 0 then
    (f_X_workOut M_nc M_nf M_modulus M_side M_size M_cells M_fresh R_words R_length).bind fun r2 =>
    (f_M_copy M_nc M_size r2.1 (69 : Int32) (44 : Int32)).bind fun r3 =>
    some ((0 : Int32), (1 : Int32), r3, r2.2)
  else
    some (r1, X_isWorkedOut, M_cells, M_fresh)
def f_X_out (M_nc : Nat) (X_instructionsDone M_side M_size : Int32) (M_cells : Nat → Int32) (C_length a1 a2 : Int32) : Option (Int32) :=
  (f_X_hasCode C_length).bind fun r1 =>
  if r1 = 0 then
    some (-1 : Int32)
  else
    (f_X_isAllDone X_instructionsDone C_length).bind fun r2 =>
    if r2 = 0 then
      some (-1 : Int32)
    else
      (f_M_hasCell M_side a1 a2).bind fun r3 =>
      if r3 = 0 then
        some (-1 : Int32)
      else
        (f_C_result C_length).bind fun r4 =>
        (f_M_get M_nc M_side M_size M_cells r4 a1 a2).bind fun r5 =>
        some r5
def f_X_outDirect (M_nc : Nat) (X_isWorkedOut M_side M_size : Int32) (M_cells : Nat → Int32) (a1 a2 : Int32) : Option (Int32) :=
  if X_isWorkedOut = 0 then
    some (-1 : Int32)
  else
    (f_M_hasCell M_side a1 a2).bind fun r1 =>
    if r1 = 0 then
      some (-1 : Int32)
    else
      (f_M_get M_nc M_side M_size M_cells (69 : Int32) a1 a2).bind fun r2 =>
      some r2
def f_C_instruction (C_instructions : Nat → Int32) (a1 : Int32) : Option (Int32) :=
  gd a1 40 <|
  some (C_instructions a1.toNatClampNeg)
def f_X_codeAt (C_instructions : Nat → Int32) (C_length a1 : Int32) : Option (Int32) :=
  if a1 < 0 then
    some (-1 : Int32)
  else
    (f_C_length C_length).bind fun r1 =>
    if r1 ≤ a1 then
      some (-1 : Int32)
    else
      (f_C_instruction C_instructions a1).bind fun r2 =>
      some r2
def f_X_codeSize (C_length : Int32) : Option (Int32) :=
  (f_X_hasCode C_length).bind fun r1 =>
  if r1 = 0 then
    some (-1 : Int32)
  else
    (f_C_length C_length).bind fun r2 =>
    some r2
def f_C_count_4 (C_instructions : Nat → Int32) (C_length a1 : Int32) : Nat → Int32 → Int32 → Option (Int32)
  | 0, _, _ => none
  | fu + 1, v2, v3 =>
    if C_length ≤ v3 then
      some v2
    else
      (f_C_operation C_instructions v3).bind fun r1 =>
      if r1 = a1 then
        f_C_count_4 C_instructions C_length a1 fu (v2 + (1 : Int32)) (v3 + (1 : Int32))
      else
        f_C_count_4 C_instructions C_length a1 fu v2 (v3 + (1 : Int32))
def f_C_count (C_instructions : Nat → Int32) (C_length a1 : Int32) : Option (Int32) :=
  f_C_count_4 C_instructions C_length a1 zFU (0 : Int32) (0 : Int32)
def f_X_products (C_instructions : Nat → Int32) (C_length : Int32) : Option (Int32) :=
  (f_X_hasCode C_length).bind fun r1 =>
  if r1 = 0 then
    some (-1 : Int32)
  else
    (f_C_count C_instructions C_length (5 : Int32)).bind fun r2 =>
    some r2
def f_R_clear (R_length : Int32) : Option (Int32) :=
  some (0 : Int32)
def f_X_reset_25 (M_nc : Nat) (M_size : Int32) (X_instructionsDone X_isWorkedOut R_length C_length : Int32) : Nat → Int32 → (Nat → Int32) → Option (Int32 × Int32 × (Nat → Int32) × Int32 × Int32)
  | 0, _, _ => none
  | fu + 1, v1, M_cells =>
    if (4 : Int32) ≤ v1 then
      some (X_instructionsDone, X_isWorkedOut, M_cells, R_length, C_length)
    else
      (f_M_makeNought M_nc M_size M_cells ((40 : Int32) + v1)).bind fun r1 =>
      f_X_reset_25 M_nc M_size X_instructionsDone X_isWorkedOut R_length C_length fu (v1 + (1 : Int32)) r1
def f_X_reset (M_nc : Nat) (X_instructionsDone X_isWorkedOut M_size : Int32) (M_cells : Nat → Int32) (R_length C_length : Int32) : Option (Int32 × Int32 × (Nat → Int32) × Int32 × Int32) :=
  (f_R_clear R_length).bind fun r2 =>
  (f_C_clear C_length).bind fun r3 =>
  (f_X_rewind X_instructionsDone).bind fun r4 =>
  f_X_reset_25 M_nc M_size r4 (0 : Int32) r2 r3 zFU (0 : Int32) M_cells
def f_N_in (a0 a1 a2 : Int32) : Option (Int32) :=
  if a0 < a1 then
    some (0 : Int32)
  else
    if a2 < a0 then
      some (0 : Int32)
    else
      some (1 : Int32)
def f_N_isPlace (N_n a1 a2 : Int32) : Option (Int32) :=
  (f_N_in a1 (0 : Int32) (N_n - (1 : Int32))).bind fun r1 =>
  if r1 = 0 then
    some (0 : Int32)
  else
    (f_N_in a2 (0 : Int32) (N_n - (1 : Int32))).bind fun r2 =>
    if r2 = 0 then
      some (0 : Int32)
    else
      some (1 : Int32)
def f_N_get (N_table : Nat → Int32) (a1 a2 a3 : Int32) : Option (Int32) :=
  gd ((((16 : Int32) * a1) + ((4 : Int32) * a2)) + a3) 1136 <|
  some (N_table ((((16 : Int32) * a1) + ((4 : Int32) * a2)) + a3).toNatClampNeg)
def f_N_put (N_table : Nat → Int32) (a1 a2 a3 a4 : Int32) : Option ((Nat → Int32)) :=
  gd ((((16 : Int32) * a1) + ((4 : Int32) * a2)) + a3) 1136 <|
  some (upd N_table ((((16 : Int32) * a1) + ((4 : Int32) * a2)) + a3).toNatClampNeg a4)
def f_N_mod (N_p a1 : Int32) : Option (Int32) :=
  nz N_p <|
  nm (zrem a1 N_p) fun v2_1 =>
  if 0 ≤ v2_1 then
    some v2_1
  else
    some (v2_1 + N_p)
def f_N_copy_2 (a1 a2 : Int32) : Nat → Int32 → (Nat → Int32) → Option ((Nat → Int32))
  | 0, _, _ => none
  | fu + 1, v3, N_table =>
    if (16 : Int32) ≤ v3 then
      some N_table
    else
      gd (((16 : Int32) * a1) + v3) 1136 <|
      gd (((16 : Int32) * a2) + v3) 1136 <|
      f_N_copy_2 a1 a2 fu (v3 + (1 : Int32)) (upd N_table (((16 : Int32) * a2) + v3).toNatClampNeg (N_table (((16 : Int32) * a1) + v3).toNatClampNeg))
def f_N_copy (N_table : Nat → Int32) (a1 a2 : Int32) : Option ((Nat → Int32)) :=
  f_N_copy_2 a1 a2 zFU (0 : Int32) N_table
def f_N_operate_198 (N_p : Int32) (k15 : Int32 → (Nat → Int32) → Option ((Nat → Int32))) (v6 v7 v8 : Int32) (N_table : Nat → Int32) : Option ((Nat → Int32)) :=
  (f_N_mod N_p v8).bind fun r1 =>
  (f_N_put N_table (29 : Int32) v6 v7 r1).bind fun r2 =>
  k15 (v7 + (1 : Int32)) r2
def f_N_operate_154 (N_p N_n a1 a2 a3 : Int32) (k15 : Int32 → (Nat → Int32) → Option ((Nat → Int32))) (v6 v7 : Int32) (N_table : Nat → Int32) : Nat → Int32 → Int32 → Option ((Nat → Int32))
  | 0, _, _ => none
  | fu + 1, v8, v9 =>
    if N_n ≤ v9 then
      f_N_operate_198 N_p k15 v6 v7 v8 N_table
    else
      if a1 = (5 : Int32) then
        (f_N_get N_table a2 v6 v9).bind fun r3 =>
        (f_N_get N_table a3 v9 v7).bind fun r4 =>
        nm (v8 + (r3 * r4)) fun v8_5 =>
        f_N_operate_154 N_p N_n a1 a2 a3 k15 v6 v7 N_table fu v8_5 (v9 + (1 : Int32))
      else
        f_N_operate_198 N_p k15 v6 v7 v8 N_table
def f_N_operate_151 (N_p N_n a1 a2 a3 : Int32) (k15 : Int32 → (Nat → Int32) → Option ((Nat → Int32))) (v6 v7 v8 : Int32) (N_table : Nat → Int32) : Option ((Nat → Int32)) :=
  f_N_operate_154 N_p N_n a1 a2 a3 k15 v6 v7 N_table zFU v8 (0 : Int32)
def f_N_operate_131 (N_p N_n a1 a2 a3 a4 : Int32) (k15 : Int32 → (Nat → Int32) → Option ((Nat → Int32))) (v6 v7 v8 : Int32) (N_table : Nat → Int32) : Option ((Nat → Int32)) :=
  if a1 = (7 : Int32) then
    (f_N_get N_table a2 v6 v7).bind fun r6 =>
    nm (a4 * r6) fun v8_7 =>
    f_N_operate_151 N_p N_n a1 a2 a3 k15 v6 v7 v8_7 N_table
  else
    f_N_operate_151 N_p N_n a1 a2 a3 k15 v6 v7 v8 N_table
def f_N_operate_114 (N_p N_n a1 a2 a3 a4 : Int32) (k15 : Int32 → (Nat → Int32) → Option ((Nat → Int32))) (v6 v7 v8 : Int32) (N_table : Nat → Int32) : Option ((Nat → Int32)) :=
  if a1 = (6 : Int32) then
    (f_N_get N_table a2 v7 v6).bind fun r8 =>
    f_N_operate_131 N_p N_n a1 a2 a3 a4 k15 v6 v7 r8 N_table
  else
    f_N_operate_131 N_p N_n a1 a2 a3 a4 k15 v6 v7 v8 N_table
def f_N_operate_88 (N_p N_n a1 a2 a3 a4 : Int32) (k15 : Int32 → (Nat → Int32) → Option ((Nat → Int32))) (v6 v7 v8 : Int32) (N_table : Nat → Int32) : Option ((Nat → Int32)) :=
  if a1 = (4 : Int32) then
    (f_N_get N_table a2 v6 v7).bind fun r9 =>
    (f_N_get N_table a3 v6 v7).bind fun r10 =>
    nm (r9 - r10) fun v8_11 =>
    f_N_operate_114 N_p N_n a1 a2 a3 a4 k15 v6 v7 v8_11 N_table
  else
    f_N_operate_114 N_p N_n a1 a2 a3 a4 k15 v6 v7 v8 N_table
def f_N_operate_62 (N_p N_n a1 a2 a3 a4 : Int32) (k15 : Int32 → (Nat → Int32) → Option ((Nat → Int32))) (v6 v7 v8 : Int32) (N_table : Nat → Int32) : Option ((Nat → Int32)) :=
  if a1 = (3 : Int32) then
    (f_N_get N_table a2 v6 v7).bind fun r12 =>
    (f_N_get N_table a3 v6 v7).bind fun r13 =>
    nm (r12 + r13) fun v8_14 =>
    f_N_operate_88 N_p N_n a1 a2 a3 a4 k15 v6 v7 v8_14 N_table
  else
    f_N_operate_88 N_p N_n a1 a2 a3 a4 k15 v6 v7 v8 N_table
def f_N_operate_60 (N_p N_n a1 a2 a3 a4 : Int32) (k15 : Int32 → (Nat → Int32) → Option ((Nat → Int32))) (v6 v7 t0 : Int32) (N_table : Nat → Int32) : Option ((Nat → Int32)) :=
  f_N_operate_62 N_p N_n a1 a2 a3 a4 k15 v6 v7 t0 N_table
def f_N_operate_43 (N_p N_n a1 a2 a3 a4 : Int32) (k15 : Int32 → (Nat → Int32) → Option ((Nat → Int32))) (v6 v7 v8 : Int32) (N_table : Nat → Int32) : Option ((Nat → Int32)) :=
  if a1 = (1 : Int32) then
    if v6 = v7 then
      f_N_operate_60 N_p N_n a1 a2 a3 a4 k15 v6 v7 (1 : Int32) N_table
    else
      f_N_operate_60 N_p N_n a1 a2 a3 a4 k15 v6 v7 (0 : Int32) N_table
  else
    f_N_operate_62 N_p N_n a1 a2 a3 a4 k15 v6 v7 v8 N_table
def f_N_operate_15 (N_p N_n a1 a2 a3 a4 : Int32) (k3 : Int32 → (Nat → Int32) → Option ((Nat → Int32))) (v6 : Int32) : Nat → Int32 → (Nat → Int32) → Option ((Nat → Int32))
  | 0, _, _ => none
  | fu + 1, v7, N_table =>
    if N_n ≤ v7 then
      k3 (v6 + (1 : Int32)) N_table
    else
      if a1 = 0 then
        (f_N_get N_table a4 v6 v7).bind fun r15 =>
        f_N_operate_43 N_p N_n a1 a2 a3 a4 (f_N_operate_15 N_p N_n a1 a2 a3 a4 k3 v6 fu) v6 v7 r15 N_table
      else
        f_N_operate_43 N_p N_n a1 a2 a3 a4 (f_N_operate_15 N_p N_n a1 a2 a3 a4 k3 v6 fu) v6 v7 (0 : Int32) N_table
def f_N_operate_3 (N_p N_n a1 a2 a3 a4 a5 : Int32) : Nat → Int32 → (Nat → Int32) → Option ((Nat → Int32))
  | 0, _, _ => none
  | fu + 1, v6, N_table =>
    if N_n ≤ v6 then
      (f_N_copy N_table (29 : Int32) a5).bind fun r16 =>
      some r16
    else
      f_N_operate_15 N_p N_n a1 a2 a3 a4 (f_N_operate_3 N_p N_n a1 a2 a3 a4 a5 fu) v6 zFU (0 : Int32) N_table
def f_N_operate (N_p N_n : Int32) (N_table : Nat → Int32) (a1 a2 a3 a4 a5 : Int32) : Option ((Nat → Int32)) :=
  f_N_operate_3 N_p N_n a1 a2 a3 a4 a5 zFU (0 : Int32) N_table
def f_N_raise_39 (N_p N_n : Int32) (k18 : Int32 → (Nat → Int32) → Option ((Nat → Int32))) (v3 : Int32) (N_table : Nat → Int32) : Option ((Nat → Int32)) :=
  (f_N_operate N_p N_n N_table (5 : Int32) (30 : Int32) (30 : Int32) (0 : Int32) (30 : Int32)).bind fun r1 =>
  nm (v3 / (2 : Int32)) fun v3_2 =>
  k18 v3_2 r1
def f_N_raise_18 (N_p N_n a1 : Int32) : Nat → Int32 → (Nat → Int32) → Option ((Nat → Int32))
  | 0, _, _ => none
  | fu + 1, v3, N_table =>
    if v3 ≤ 0 then
      some N_table
    else
      if (zrem v3 (2 : Int32)) = (1 : Int32) then
        (f_N_operate N_p N_n N_table (5 : Int32) a1 (30 : Int32) (0 : Int32) a1).bind fun r3 =>
        f_N_raise_39 N_p N_n (f_N_raise_18 N_p N_n a1 fu) v3 r3
      else
        f_N_raise_39 N_p N_n (f_N_raise_18 N_p N_n a1 fu) v3 N_table
def f_N_raise (N_p N_n : Int32) (N_table : Nat → Int32) (a1 a2 : Int32) : Option ((Nat → Int32)) :=
  (f_N_copy N_table a1 (30 : Int32)).bind fun r4 =>
  (f_N_operate N_p N_n r4 (1 : Int32) (0 : Int32) (0 : Int32) (0 : Int32) a1).bind fun r5 =>
  f_N_raise_18 N_p N_n a1 zFU a2 r5
def f_N_feed (N_words : Int32) (N_word : Nat → Int32) (N_compiled a1 : Int32) : Option (Int32 × Int32 × (Nat → Int32)) :=
  if (24 : Int32) ≤ N_words then
    some ((1 : Int32), N_words, N_word)
  else
    if N_compiled = 0 then
      gd N_words 24 <|
      some ((0 : Int32), (N_words + (1 : Int32)), (upd N_word N_words.toNatClampNeg a1))
    else
      some ((1 : Int32), N_words, N_word)
def f_N_setInput (N_p N_n : Int32) (N_table : Nat → Int32) (N_done a1 a2 a3 a4 : Int32) : Option (Int32 × (Nat → Int32) × Int32) :=
  (f_N_in a1 (0 : Int32) (3 : Int32)).bind fun r1 =>
  if r1 = 0 then
    some ((2 : Int32), N_table, N_done)
  else
    (f_N_isPlace N_n a2 a3).bind fun r2 =>
    if r2 = 0 then
      some ((2 : Int32), N_table, N_done)
    else
      (f_N_mod N_p a4).bind fun r3 =>
      (f_N_put N_table a1 a2 a3 r3).bind fun r4 =>
      some ((0 : Int32), r4, (0 : Int32))
def f_N_isTwo (a0 : Int32) : Option (Int32) :=
  (f_N_in a0 (3 : Int32) (5 : Int32)).bind fun r1 =>
  some r1
def f_N_isOne (a0 : Int32) : Option (Int32) :=
  (f_N_in a0 (6 : Int32) (8 : Int32)).bind fun r1 =>
  some r1
def f_N_isWord (a0 : Int32) : Option (Int32) :=
  nm (a0 / (100 : Int32)) fun v1_1 =>
  nm (zrem a0 (100 : Int32)) fun v2_2 =>
  (f_N_in a0 (0 : Int32) (899 : Int32)).bind fun r3 =>
  if r3 = 0 then
    some (0 : Int32)
  else
    if v1_1 = (7 : Int32) then
      some (1 : Int32)
    else
      if v1_1 = (8 : Int32) then
        some (1 : Int32)
      else
        if v1_1 = 0 then
          if (4 : Int32) ≤ v2_2 then
            some (0 : Int32)
          else
            some (1 : Int32)
        else
          if v2_2 = 0 then
            some (1 : Int32)
          else
            some (0 : Int32)
def f_N_fault_59 (k4 : Int32 → Int32 → Option (Int32)) (v1 v2 t0 : Int32) : Option (Int32) :=
  if t0 ≤ v1 then
    nm ((v1 - t0) + (1 : Int32)) fun v1_1 =>
    k4 v1_1 (v2 + (1 : Int32))
  else
    some (4 : Int32)
def f_N_fault_4 (N_words : Int32) (N_word : Nat → Int32) : Nat → Int32 → Int32 → Option (Int32)
  | 0, _, _ => none
  | fu + 1, v1, v2 =>
    if N_words ≤ v2 then
      if v1 = (1 : Int32) then
        some (0 : Int32)
      else
        some (5 : Int32)
    else
      gd v2 24 <|
      (f_N_isWord (N_word v2.toNatClampNeg)).bind fun r2 =>
      if r2 = 0 then
        some (3 : Int32)
      else
        gd v2 24 <|
        nm ((N_word v2.toNatClampNeg) / (100 : Int32)) fun v3_3 =>
        (f_N_isTwo v3_3).bind fun r4 =>
        if r4 = 0 then
          (f_N_isOne v3_3).bind fun r5 =>
          if r5 = 0 then
            f_N_fault_59 (f_N_fault_4 N_words N_word fu) v1 v2 (0 : Int32)
          else
            f_N_fault_59 (f_N_fault_4 N_words N_word fu) v1 v2 (1 : Int32)
        else
          f_N_fault_59 (f_N_fault_4 N_words N_word fu) v1 v2 (2 : Int32)
def f_N_fault (N_words : Int32) (N_word : Nat → Int32) : Option (Int32) :=
  f_N_fault_4 N_words N_word zFU (0 : Int32) (0 : Int32)
def f_N_evalDirect_122 (N_table : Nat → Int32) (N_hasDirect : Int32) : Nat → Int32 → (Nat → Int32) → Option (Int32 × (Nat → Int32) × (Nat → Int32) × Int32)
  | 0, _, _ => none
  | fu + 1, v3, N_direct =>
    if (16 : Int32) ≤ v3 then
      some ((0 : Int32), N_table, N_direct, (1 : Int32))
    else
      gd ((64 : Int32) + v3) 1136 <|
      gd v3 16 <|
      f_N_evalDirect_122 N_table N_hasDirect fu (v3 + (1 : Int32)) (upd N_direct v3.toNatClampNeg (N_table ((64 : Int32) + v3).toNatClampNeg))
def f_N_evalDirect_110 (k15 : Int32 → Int32 → (Nat → Int32) → Option (Int32 × (Nat → Int32) × (Nat → Int32) × Int32)) (v2 v3 : Int32) (N_table N_direct : Nat → Int32) (N_hasDirect : Int32) : Option (Int32 × (Nat → Int32) × (Nat → Int32) × Int32) :=
  nm (v2 + (1 : Int32)) fun v2_1 =>
  k15 v2_1 (v3 + (1 : Int32)) N_table
def f_N_evalDirect_59 (N_p N_n : Int32) (N_word : Nat → Int32) (k15 : Int32 → Int32 → (Nat → Int32) → Option (Int32 × (Nat → Int32) × (Nat → Int32) × Int32)) (v2 v3 v4 t0 : Int32) (N_table N_direct : Nat → Int32) (N_hasDirect : Int32) : Option (Int32 × (Nat → Int32) × (Nat → Int32) × Int32) :=
  nm (v2 - t0) fun v2_2 =>
  if v4 = (8 : Int32) then
    gd v3 24 <|
    (f_N_raise N_p N_n N_table v2_2 (zrem (N_word v3.toNatClampNeg) (100 : Int32))).bind fun r4 =>
    f_N_evalDirect_110 k15 v2_2 v3 r4 N_direct N_hasDirect
  else
    gd v3 24 <|
    (f_N_operate N_p N_n N_table v4 v2_2 (v2_2 + (1 : Int32)) (zrem (N_word v3.toNatClampNeg) (100 : Int32)) v2_2).bind fun r3 =>
    f_N_evalDirect_110 k15 v2_2 v3 r3 N_direct N_hasDirect
def f_N_evalDirect_15 (N_p N_n N_words : Int32) (N_word : Nat → Int32) (N_direct : Nat → Int32) (N_hasDirect : Int32) : Nat → Int32 → Int32 → (Nat → Int32) → Option (Int32 × (Nat → Int32) × (Nat → Int32) × Int32)
  | 0, _, _, _ => none
  | fu + 1, v2, v3, N_table =>
    if N_words ≤ v3 then
      f_N_evalDirect_122 N_table N_hasDirect zFU (0 : Int32) N_direct
    else
      gd v3 24 <|
      nm ((N_word v3.toNatClampNeg) / (100 : Int32)) fun v4_5 =>
      (f_N_isTwo v4_5).bind fun r6 =>
      if r6 = 0 then
        (f_N_isOne v4_5).bind fun r7 =>
        if r7 = 0 then
          f_N_evalDirect_59 N_p N_n N_word (f_N_evalDirect_15 N_p N_n N_words N_word N_direct N_hasDirect fu) v2 v3 v4_5 (0 : Int32) N_table N_direct N_hasDirect
        else
          f_N_evalDirect_59 N_p N_n N_word (f_N_evalDirect_15 N_p N_n N_words N_word N_direct N_hasDirect fu) v2 v3 v4_5 (1 : Int32) N_table N_direct N_hasDirect
      else
        f_N_evalDirect_59 N_p N_n N_word (f_N_evalDirect_15 N_p N_n N_words N_word N_direct N_hasDirect fu) v2 v3 v4_5 (2 : Int32) N_table N_direct N_hasDirect
def f_N_evalDirect (N_p N_n N_words : Int32) (N_word N_table N_direct : Nat → Int32) (N_hasDirect : Int32) : Option (Int32 × (Nat → Int32) × (Nat → Int32) × Int32) :=
  (f_N_fault N_words N_word).bind fun r8 =>
  if r8 ≤ 0 then
    f_N_evalDirect_15 N_p N_n N_words N_word N_direct N_hasDirect zFU (4 : Int32) (0 : Int32) N_table
  else
    some (r8, N_table, N_direct, N_hasDirect)
def f_N_write (N_size : Int32) (N_op N_a N_b N_x : Nat → Int32) (a1 a2 a3 a4 : Int32) : Option (Int32 × Int32 × (Nat → Int32) × (Nat → Int32) × (Nat → Int32) × (Nat → Int32)) :=
  gd N_size 48 <|
  gd N_size 48 <|
  gd N_size 48 <|
  gd N_size 48 <|
  some (((N_size + (1 : Int32)) - (1 : Int32)), (N_size + (1 : Int32)), (upd N_op N_size.toNatClampNeg a1), (upd N_a N_size.toNatClampNeg a2), (upd N_b N_size.toNatClampNeg a3), (upd N_x N_size.toNatClampNeg a4))
def f_N_highest_2 (a0 : Int32) : Nat → Int32 → Option (Int32)
  | 0, _ => none
  | fu + 1, v1 =>
    if a0 < ((2 : Int32) * v1) then
      some v1
    else
      nm ((2 : Int32) * v1) fun v1_1 =>
      f_N_highest_2 a0 fu v1_1
def f_N_highest (a0 : Int32) : Option (Int32) :=
  f_N_highest_2 a0 zFU (1 : Int32)
def f_N_steps_45 (k29 : Int32 → Int32 → Option (Int32)) (v1 v3 t0 t1 : Int32) : Option (Int32) :=
  nm (t1 + t0) fun v2_1 =>
  nm (v3 / (2 : Int32)) fun v3_2 =>
  k29 v2_1 v3_2
def f_N_steps_29 (v1 : Int32) : Nat → Int32 → Int32 → Option (Int32)
  | 0, _, _ => none
  | fu + 1, v2, v3 =>
    if v3 ≤ 0 then
      some v2
    else
      if (v1 &&& v3) = 0 then
        f_N_steps_45 (f_N_steps_29 v1 fu) v1 v3 (1 : Int32) v2
      else
        f_N_steps_45 (f_N_steps_29 v1 fu) v1 v3 (2 : Int32) v2
def f_N_steps (a0 : Int32) : Option (Int32) :=
  nm (zrem a0 (100 : Int32)) fun v1_3 =>
  if (a0 / (100 : Int32)) = (8 : Int32) then
    if v1_3 = 0 then
      some (1 : Int32)
    else
      (f_N_highest v1_3).bind fun r4 =>
      nm (r4 / (2 : Int32)) fun v3_5 =>
      f_N_steps_29 v1_3 zFU (0 : Int32) v3_5
  else
    some (1 : Int32)
def f_N_writePower_23 (a1 a2 : Int32) : Nat → Int32 → Int32 → Int32 → (Nat → Int32) → (Nat → Int32) → (Nat → Int32) → (Nat → Int32) → Option (Int32 × Int32 × (Nat → Int32) × (Nat → Int32) × (Nat → Int32) × (Nat → Int32))
  | 0, _, _, _, _, _, _, _ => none
  | fu + 1, v3, v4, N_size, N_op, N_a, N_b, N_x =>
    if v4 ≤ 0 then
      some (v3, N_size, N_op, N_a, N_b, N_x)
    else
      (f_N_write N_size N_op N_a N_b N_x (5 : Int32) v3 v3 (0 : Int32)).bind fun r1 =>
      if (a2 &&& v4) = 0 then
        nm (v4 / (2 : Int32)) fun v4_2 =>
        f_N_writePower_23 a1 a2 fu r1.1 v4_2 r1.2.1 r1.2.2.1 r1.2.2.2.1 r1.2.2.2.2.1 r1.2.2.2.2.2
      else
        (f_N_write r1.2.1 r1.2.2.1 r1.2.2.2.1 r1.2.2.2.2.1 r1.2.2.2.2.2 (5 : Int32) r1.1 a1 (0 : Int32)).bind fun r3 =>
        nm (v4 / (2 : Int32)) fun v4_4 =>
        f_N_writePower_23 a1 a2 fu r3.1 v4_4 r3.2.1 r3.2.2.1 r3.2.2.2.1 r3.2.2.2.2.1 r3.2.2.2.2.2
def f_N_writePower (N_size : Int32) (N_op N_a N_b N_x : Nat → Int32) (a1 a2 : Int32) : Option (Int32 × Int32 × (Nat → Int32) × (Nat → Int32) × (Nat → Int32) × (Nat → Int32)) :=
  if a2 = 0 then
    (f_N_write N_size N_op N_a N_b N_x (1 : Int32) (0 : Int32) (0 : Int32) (0 : Int32)).bind fun r7 =>
    some (r7.1, r7.2.1, r7.2.2.1, r7.2.2.2.1, r7.2.2.2.2.1, r7.2.2.2.2.2)
  else
    (f_N_highest a2).bind fun r5 =>
    nm (r5 / (2 : Int32)) fun v4_6 =>
    f_N_writePower_23 a1 a2 zFU a1 v4_6 N_size N_op N_a N_b N_x
def f_N_compile_49 (v1 N_compiled N_size : Int32) (N_op N_a N_b N_x : Nat → Int32) (N_outcome N_done : Int32) (N_there : Nat → Int32) : Option (Int32 × Int32 × Int32 × (Nat → Int32) × (Nat → Int32) × (Nat → Int32) × (Nat → Int32) × Int32 × Int32 × (Nat → Int32)) :=
  if v1 ≤ 0 then
    some ((6 : Int32), N_compiled, N_size, N_op, N_a, N_b, N_x, N_outcome, N_done, N_there)
  else
    some (v1, N_compiled, N_size, N_op, N_a, N_b, N_x, N_outcome, N_done, N_there)
def f_N_compile_226 (k70 : Int32 → Int32 → Int32 → (Nat → Int32) → (Nat → Int32) → (Nat → Int32) → (Nat → Int32) → (Nat → Int32) → Option (Int32 × Int32 × Int32 × (Nat → Int32) × (Nat → Int32) × (Nat → Int32) × (Nat → Int32) × Int32 × Int32 × (Nat → Int32))) (v3 v4 t0 t1 N_compiled N_size : Int32) (N_op N_a N_b N_x : Nat → Int32) (N_outcome N_done : Int32) (N_there : Nat → Int32) : Option (Int32 × Int32 × Int32 × (Nat → Int32) × (Nat → Int32) × (Nat → Int32) × (Nat → Int32) × Int32 × Int32 × (Nat → Int32)) :=
  gd t1 25 <|
  nm (v3 + (1 : Int32)) fun v3_1 =>
  k70 v3_1 (v4 + (1 : Int32)) N_size N_op N_a N_b N_x (upd N_there t1.toNatClampNeg t0)
def f_N_compile_129 (k70 : Int32 → Int32 → Int32 → (Nat → Int32) → (Nat → Int32) → (Nat → Int32) → (Nat → Int32) → (Nat → Int32) → Option (Int32 × Int32 × Int32 × (Nat → Int32) × (Nat → Int32) × (Nat → Int32) × (Nat → Int32) × Int32 × Int32 × (Nat → Int32))) (v4 v5 v6 t0 t1 N_compiled N_size : Int32) (N_op N_a N_b N_x : Nat → Int32) (N_outcome N_done : Int32) (N_there : Nat → Int32) : Option (Int32 × Int32 × Int32 × (Nat → Int32) × (Nat → Int32) × (Nat → Int32) × (Nat → Int32) × Int32 × Int32 × (Nat → Int32)) :=
  nm (t1 - t0) fun v3_2 =>
  if v5 = (8 : Int32) then
    gd v3_2 25 <|
    (f_N_writePower N_size N_op N_a N_b N_x (N_there v3_2.toNatClampNeg) v6).bind fun r8 =>
    f_N_compile_226 k70 v3_2 v4 r8.1 v3_2 N_compiled r8.2.1 r8.2.2.1 r8.2.2.2.1 r8.2.2.2.2.1 r8.2.2.2.2.2 N_outcome N_done N_there
  else
    (f_N_isTwo v5).bind fun r3 =>
    if r3 = 0 then
      (f_N_isOne v5).bind fun r4 =>
      if r4 = 0 then
        (f_N_write N_size N_op N_a N_b N_x v5 (0 : Int32) (0 : Int32) v6).bind fun r5 =>
        f_N_compile_226 k70 v3_2 v4 r5.1 v3_2 N_compiled r5.2.1 r5.2.2.1 r5.2.2.2.1 r5.2.2.2.2.1 r5.2.2.2.2.2 N_outcome N_done N_there
      else
        gd v3_2 25 <|
        (f_N_write N_size N_op N_a N_b N_x v5 (N_there v3_2.toNatClampNeg) (0 : Int32) v6).bind fun r6 =>
        f_N_compile_226 k70 v3_2 v4 r6.1 v3_2 N_compiled r6.2.1 r6.2.2.1 r6.2.2.2.1 r6.2.2.2.2.1 r6.2.2.2.2.2 N_outcome N_done N_there
    else
      gd v3_2 25 <|
      gd (v3_2 + (1 : Int32)) 25 <|
      (f_N_write N_size N_op N_a N_b N_x v5 (N_there v3_2.toNatClampNeg) (N_there (v3_2 + (1 : Int32)).toNatClampNeg) (0 : Int32)).bind fun r7 =>
      f_N_compile_226 k70 v3_2 v4 r7.1 v3_2 N_compiled r7.2.1 r7.2.2.1 r7.2.2.2.1 r7.2.2.2.2.1 r7.2.2.2.2.2 N_outcome N_done N_there
def f_N_compile_70 (N_words : Int32) (N_word : Nat → Int32) (N_compiled N_outcome N_done : Int32) : Nat → Int32 → Int32 → Int32 → (Nat → Int32) → (Nat → Int32) → (Nat → Int32) → (Nat → Int32) → (Nat → Int32) → Option (Int32 × Int32 × Int32 × (Nat → Int32) × (Nat → Int32) × (Nat → Int32) × (Nat → Int32) × Int32 × Int32 × (Nat → Int32))
  | 0, _, _, _, _, _, _, _, _ => none
  | fu + 1, v3, v4, N_size, N_op, N_a, N_b, N_x, N_there =>
    if N_words ≤ v4 then
      gd (0 : Int32) 25 <|
      some ((0 : Int32), (1 : Int32), N_size, N_op, N_a, N_b, N_x, (N_there (0 : Int32).toNatClampNeg), (0 : Int32), N_there)
    else
      gd v4 24 <|
      nm ((N_word v4.toNatClampNeg) / (100 : Int32)) fun v5_9 =>
      gd v4 24 <|
      nm (zrem (N_word v4.toNatClampNeg) (100 : Int32)) fun v6_10 =>
      (f_N_isTwo v5_9).bind fun r11 =>
      if r11 = 0 then
        (f_N_isOne v5_9).bind fun r12 =>
        if r12 = 0 then
          f_N_compile_129 (f_N_compile_70 N_words N_word N_compiled N_outcome N_done fu) v4 v5_9 v6_10 (0 : Int32) v3 N_compiled N_size N_op N_a N_b N_x N_outcome N_done N_there
        else
          f_N_compile_129 (f_N_compile_70 N_words N_word N_compiled N_outcome N_done fu) v4 v5_9 v6_10 (1 : Int32) v3 N_compiled N_size N_op N_a N_b N_x N_outcome N_done N_there
      else
        f_N_compile_129 (f_N_compile_70 N_words N_word N_compiled N_outcome N_done fu) v4 v5_9 v6_10 (2 : Int32) v3 N_compiled N_size N_op N_a N_b N_x N_outcome N_done N_there
def f_N_compile_39 (N_words : Int32) (N_word : Nat → Int32) (v1 v2 N_compiled N_size : Int32) (N_op N_a N_b N_x : Nat → Int32) (N_outcome N_done : Int32) (N_there : Nat → Int32) : Option (Int32 × Int32 × Int32 × (Nat → Int32) × (Nat → Int32) × (Nat → Int32) × (Nat → Int32) × Int32 × Int32 × (Nat → Int32)) :=
  if 0 < v1 then
    f_N_compile_49 v1 N_compiled N_size N_op N_a N_b N_x N_outcome N_done N_there
  else
    if v2 ≤ (40 : Int32) then
      f_N_compile_70 N_words N_word N_compiled N_outcome N_done zFU (0 : Int32) (0 : Int32) (0 : Int32) N_op N_a N_b N_x N_there
    else
      f_N_compile_49 v1 N_compiled N_size N_op N_a N_b N_x N_outcome N_done N_there
def f_N_compile_9 (N_words : Int32) (N_word : Nat → Int32) (v1 N_compiled N_size : Int32) (N_op N_a N_b N_x : Nat → Int32) (N_outcome N_done : Int32) (N_there : Nat → Int32) : Nat → Int32 → Int32 → Option (Int32 × Int32 × Int32 × (Nat → Int32) × (Nat → Int32) × (Nat → Int32) × (Nat → Int32) × Int32 × Int32 × (Nat → Int32))
  | 0, _, _ => none
  | fu + 1, v2, v3 =>
    if N_words ≤ v3 then
      f_N_compile_39 N_words N_word v1 v2 N_compiled N_size N_op N_a N_b N_x N_outcome N_done N_there
    else
      if v1 = 0 then
        gd v3 24 <|
        (f_N_steps (N_word v3.toNatClampNeg)).bind fun r13 =>
        nm (v2 + r13) fun v2_14 =>
        f_N_compile_9 N_words N_word v1 N_compiled N_size N_op N_a N_b N_x N_outcome N_done N_there fu v2_14 (v3 + (1 : Int32))
      else
        f_N_compile_39 N_words N_word v1 v2 N_compiled N_size N_op N_a N_b N_x N_outcome N_done N_there
def f_N_compile (N_words : Int32) (N_word : Nat → Int32) (N_compiled N_size : Int32) (N_op N_a N_b N_x : Nat → Int32) (N_outcome N_done : Int32) (N_there : Nat → Int32) : Option (Int32 × Int32 × Int32 × (Nat → Int32) × (Nat → Int32) × (Nat → Int32) × (Nat → Int32) × Int32 × Int32 × (Nat → Int32)) :=
  (f_N_fault N_words N_word).bind fun r15 =>
  f_N_compile_9 N_words N_word r15 N_compiled N_size N_op N_a N_b N_x N_outcome N_done N_there zFU (0 : Int32) (0 : Int32)
def f_N_value_3 (a1 a2 a3 a4 : Int32) (N_values : Int32) (N_vOp N_vA N_vB N_vX N_needed : Nat → Int32) : Nat → Int32 → Option (Int32 × Int32 × (Nat → Int32) × (Nat → Int32) × (Nat → Int32) × (Nat → Int32) × (Nat → Int32))
  | 0, _ => none
  | fu + 1, v5 =>
    if N_values ≤ v5 then
      gd N_values 48 <|
      gd N_values 48 <|
      gd N_values 48 <|
      gd N_values 48 <|
      gd N_values 48 <|
      some (((N_values + (1 : Int32)) - (1 : Int32)), (N_values + (1 : Int32)), (upd N_vOp N_values.toNatClampNeg a1), (upd N_vA N_values.toNatClampNeg a2), (upd N_vB N_values.toNatClampNeg a3), (upd N_vX N_values.toNatClampNeg a4), (upd N_needed N_values.toNatClampNeg (vp_nar .boolean (0 : Int32))))
    else
      gd v5 48 <|
      if (N_vOp v5.toNatClampNeg) = a1 then
        gd v5 48 <|
        if (N_vA v5.toNatClampNeg) = a2 then
          gd v5 48 <|
          if (N_vB v5.toNatClampNeg) = a3 then
            gd v5 48 <|
            if (N_vX v5.toNatClampNeg) = a4 then
              some (v5, N_values, N_vOp, N_vA, N_vB, N_vX, N_needed)
            else
              f_N_value_3 a1 a2 a3 a4 N_values N_vOp N_vA N_vB N_vX N_needed fu (v5 + (1 : Int32))
          else
            f_N_value_3 a1 a2 a3 a4 N_values N_vOp N_vA N_vB N_vX N_needed fu (v5 + (1 : Int32))
        else
          f_N_value_3 a1 a2 a3 a4 N_values N_vOp N_vA N_vB N_vX N_needed fu (v5 + (1 : Int32))
      else
        f_N_value_3 a1 a2 a3 a4 N_values N_vOp N_vA N_vB N_vX N_needed fu (v5 + (1 : Int32))
def f_N_value (N_values : Int32) (N_vOp N_vA N_vB N_vX N_needed : Nat → Int32) (a1 a2 a3 a4 : Int32) : Option (Int32 × Int32 × (Nat → Int32) × (Nat → Int32) × (Nat → Int32) × (Nat → Int32) × (Nat → Int32)) :=
  f_N_value_3 a1 a2 a3 a4 N_values N_vOp N_vA N_vB N_vX N_needed zFU (0 : Int32)
def f_N_noughts (N_values : Int32) (N_vOp N_vA N_vB N_vX N_needed : Nat → Int32) : Option (Int32 × Int32 × (Nat → Int32) × (Nat → Int32) × (Nat → Int32) × (Nat → Int32) × (Nat → Int32)) :=
  (f_N_value N_values N_vOp N_vA N_vB N_vX N_needed (2 : Int32) (-1 : Int32) (-1 : Int32) (0 : Int32)).bind fun r1 =>
  some (r1.1, r1.2.1, r1.2.2.1, r1.2.2.2.1, r1.2.2.2.2.1, r1.2.2.2.2.2.1, r1.2.2.2.2.2.2)
def f_N_added (N_values : Int32) (N_vOp N_vA N_vB N_vX N_needed : Nat → Int32) (a1 a2 : Int32) : Option (Int32 × Int32 × (Nat → Int32) × (Nat → Int32) × (Nat → Int32) × (Nat → Int32) × (Nat → Int32)) :=
  gd a2 48 <|
  if (N_vOp a2.toNatClampNeg) = (2 : Int32) then
    some (a1, N_values, N_vOp, N_vA, N_vB, N_vX, N_needed)
  else
    gd a1 48 <|
    if (N_vOp a1.toNatClampNeg) = (2 : Int32) then
      some (a2, N_values, N_vOp, N_vA, N_vB, N_vX, N_needed)
    else
      if a2 ≤ a1 then
        (f_N_value N_values N_vOp N_vA N_vB N_vX N_needed (3 : Int32) a2 a1 (0 : Int32)).bind fun r1 =>
        some (r1.1, r1.2.1, r1.2.2.1, r1.2.2.2.1, r1.2.2.2.2.1, r1.2.2.2.2.2.1, r1.2.2.2.2.2.2)
      else
        (f_N_value N_values N_vOp N_vA N_vB N_vX N_needed (3 : Int32) a1 a2 (0 : Int32)).bind fun r2 =>
        some (r2.1, r2.2.1, r2.2.2.1, r2.2.2.2.1, r2.2.2.2.2.1, r2.2.2.2.2.2.1, r2.2.2.2.2.2.2)
def f_N_less (N_values : Int32) (N_vOp N_vA N_vB N_vX N_needed : Nat → Int32) (a1 a2 : Int32) : Option (Int32 × Int32 × (Nat → Int32) × (Nat → Int32) × (Nat → Int32) × (Nat → Int32) × (Nat → Int32)) :=
  gd a2 48 <|
  if (N_vOp a2.toNatClampNeg) = (2 : Int32) then
    some (a1, N_values, N_vOp, N_vA, N_vB, N_vX, N_needed)
  else
    if a1 = a2 then
      (f_N_noughts N_values N_vOp N_vA N_vB N_vX N_needed).bind fun r2 =>
      some (r2.1, r2.2.1, r2.2.2.1, r2.2.2.2.1, r2.2.2.2.2.1, r2.2.2.2.2.2.1, r2.2.2.2.2.2.2)
    else
      (f_N_value N_values N_vOp N_vA N_vB N_vX N_needed (4 : Int32) a1 a2 (0 : Int32)).bind fun r1 =>
      some (r1.1, r1.2.1, r1.2.2.1, r1.2.2.2.1, r1.2.2.2.2.1, r1.2.2.2.2.2.1, r1.2.2.2.2.2.2)
def f_N_times_20 (N_values : Int32) (N_vOp N_vA N_vB N_vX N_needed : Nat → Int32) : Option (Int32 × Int32 × (Nat → Int32) × (Nat → Int32) × (Nat → Int32) × (Nat → Int32) × (Nat → Int32)) :=
  (f_N_noughts N_values N_vOp N_vA N_vB N_vX N_needed).bind fun r1 =>
  some (r1.1, r1.2.1, r1.2.2.1, r1.2.2.2.1, r1.2.2.2.2.1, r1.2.2.2.2.2.1, r1.2.2.2.2.2.2)
def f_N_times (N_values : Int32) (N_vOp N_vA N_vB N_vX N_needed : Nat → Int32) (a1 a2 : Int32) : Option (Int32 × Int32 × (Nat → Int32) × (Nat → Int32) × (Nat → Int32) × (Nat → Int32) × (Nat → Int32)) :=
  gd a1 48 <|
  if (N_vOp a1.toNatClampNeg) = (2 : Int32) then
    f_N_times_20 N_values N_vOp N_vA N_vB N_vX N_needed
  else
    gd a2 48 <|
    if (N_vOp a2.toNatClampNeg) = (2 : Int32) then
      f_N_times_20 N_values N_vOp N_vA N_vB N_vX N_needed
    else
      gd a2 48 <|
      if (N_vOp a2.toNatClampNeg) = (1 : Int32) then
        some (a1, N_values, N_vOp, N_vA, N_vB, N_vX, N_needed)
      else
        gd a1 48 <|
        if (N_vOp a1.toNatClampNeg) = (1 : Int32) then
          some (a2, N_values, N_vOp, N_vA, N_vB, N_vX, N_needed)
        else
          (f_N_value N_values N_vOp N_vA N_vB N_vX N_needed (5 : Int32) a1 a2 (0 : Int32)).bind fun r2 =>
          some (r2.1, r2.2.1, r2.2.2.1, r2.2.2.2.1, r2.2.2.2.2.1, r2.2.2.2.2.2.1, r2.2.2.2.2.2.2)
def f_N_turned (N_values : Int32) (N_vOp N_vA N_vB N_vX N_needed : Nat → Int32) (a1 : Int32) : Option (Int32 × Int32 × (Nat → Int32) × (Nat → Int32) × (Nat → Int32) × (Nat → Int32) × (Nat → Int32)) :=
  gd a1 48 <|
  if (N_vOp a1.toNatClampNeg) = (1 : Int32) then
    some (a1, N_values, N_vOp, N_vA, N_vB, N_vX, N_needed)
  else
    gd a1 48 <|
    if (N_vOp a1.toNatClampNeg) = (2 : Int32) then
      some (a1, N_values, N_vOp, N_vA, N_vB, N_vX, N_needed)
    else
      gd a1 48 <|
      if (N_vOp a1.toNatClampNeg) = (6 : Int32) then
        gd a1 48 <|
        some ((N_vA a1.toNatClampNeg), N_values, N_vOp, N_vA, N_vB, N_vX, N_needed)
      else
        (f_N_value N_values N_vOp N_vA N_vB N_vX N_needed (6 : Int32) a1 (-1 : Int32) (0 : Int32)).bind fun r1 =>
        some (r1.1, r1.2.1, r1.2.2.1, r1.2.2.2.1, r1.2.2.2.2.1, r1.2.2.2.2.2.1, r1.2.2.2.2.2.2)
def f_N_scaled_21 (N_values : Int32) (N_vOp N_vA N_vB N_vX N_needed : Nat → Int32) : Option (Int32 × Int32 × (Nat → Int32) × (Nat → Int32) × (Nat → Int32) × (Nat → Int32) × (Nat → Int32)) :=
  (f_N_noughts N_values N_vOp N_vA N_vB N_vX N_needed).bind fun r1 =>
  some (r1.1, r1.2.1, r1.2.2.1, r1.2.2.2.1, r1.2.2.2.2.1, r1.2.2.2.2.2.1, r1.2.2.2.2.2.2)
def f_N_scaled (N_p N_values : Int32) (N_vOp N_vA N_vB N_vX N_needed : Nat → Int32) (a1 a2 : Int32) : Option (Int32 × Int32 × (Nat → Int32) × (Nat → Int32) × (Nat → Int32) × (Nat → Int32) × (Nat → Int32)) :=
  nz N_p <|
  nm (zrem a2 N_p) fun v3_2 =>
  if v3_2 = 0 then
    f_N_scaled_21 N_values N_vOp N_vA N_vB N_vX N_needed
  else
    gd a1 48 <|
    if (N_vOp a1.toNatClampNeg) = (2 : Int32) then
      f_N_scaled_21 N_values N_vOp N_vA N_vB N_vX N_needed
    else
      if v3_2 = (1 : Int32) then
        some (a1, N_values, N_vOp, N_vA, N_vB, N_vX, N_needed)
      else
        gd a1 48 <|
        if (N_vOp a1.toNatClampNeg) = (7 : Int32) then
          gd a1 48 <|
          nz N_p <|
          nm (zrem ((N_vX a1.toNatClampNeg) * v3_2) N_p) fun v4_3 =>
          if v4_3 = 0 then
            (f_N_noughts N_values N_vOp N_vA N_vB N_vX N_needed).bind fun r5 =>
            some (r5.1, r5.2.1, r5.2.2.1, r5.2.2.2.1, r5.2.2.2.2.1, r5.2.2.2.2.2.1, r5.2.2.2.2.2.2)
          else
            if v4_3 = (1 : Int32) then
              gd a1 48 <|
              some ((N_vA a1.toNatClampNeg), N_values, N_vOp, N_vA, N_vB, N_vX, N_needed)
            else
              gd a1 48 <|
              (f_N_value N_values N_vOp N_vA N_vB N_vX N_needed (7 : Int32) (N_vA a1.toNatClampNeg) (-1 : Int32) v4_3).bind fun r4 =>
              some (r4.1, r4.2.1, r4.2.2.1, r4.2.2.2.1, r4.2.2.2.2.1, r4.2.2.2.2.2.1, r4.2.2.2.2.2.2)
        else
          (f_N_value N_values N_vOp N_vA N_vB N_vX N_needed (7 : Int32) a1 (-1 : Int32) v3_2).bind fun r6 =>
          some (r6.1, r6.2.1, r6.2.2.1, r6.2.2.2.1, r6.2.2.2.2.1, r6.2.2.2.2.2.1, r6.2.2.2.2.2.2)
def f_N_valueOfInstruction (N_p : Int32) (N_op N_a N_b N_x : Nat → Int32) (N_values : Int32) (N_vOp N_vA N_vB N_vX N_needed N_valueOf : Nat → Int32) (a1 : Int32) : Option (Int32 × Int32 × (Nat → Int32) × (Nat → Int32) × (Nat → Int32) × (Nat → Int32) × (Nat → Int32)) :=
  gd a1 48 <|
  gd (N_a a1.toNatClampNeg) 48 <|
  nm (N_valueOf (N_a a1.toNatClampNeg).toNatClampNeg) fun v2_1 =>
  gd a1 48 <|
  gd (N_b a1.toNatClampNeg) 48 <|
  nm (N_valueOf (N_b a1.toNatClampNeg).toNatClampNeg) fun v3_2 =>
  gd a1 48 <|
  if (N_op a1.toNatClampNeg) = (3 : Int32) then
    (f_N_added N_values N_vOp N_vA N_vB N_vX N_needed v2_1 v3_2).bind fun r8 =>
    some (r8.1, r8.2.1, r8.2.2.1, r8.2.2.2.1, r8.2.2.2.2.1, r8.2.2.2.2.2.1, r8.2.2.2.2.2.2)
  else
    gd a1 48 <|
    if (N_op a1.toNatClampNeg) = (4 : Int32) then
      (f_N_less N_values N_vOp N_vA N_vB N_vX N_needed v2_1 v3_2).bind fun r7 =>
      some (r7.1, r7.2.1, r7.2.2.1, r7.2.2.2.1, r7.2.2.2.2.1, r7.2.2.2.2.2.1, r7.2.2.2.2.2.2)
    else
      gd a1 48 <|
      if (N_op a1.toNatClampNeg) = (5 : Int32) then
        (f_N_times N_values N_vOp N_vA N_vB N_vX N_needed v2_1 v3_2).bind fun r6 =>
        some (r6.1, r6.2.1, r6.2.2.1, r6.2.2.2.1, r6.2.2.2.2.1, r6.2.2.2.2.2.1, r6.2.2.2.2.2.2)
      else
        gd a1 48 <|
        if (N_op a1.toNatClampNeg) = (6 : Int32) then
          (f_N_turned N_values N_vOp N_vA N_vB N_vX N_needed v2_1).bind fun r5 =>
          some (r5.1, r5.2.1, r5.2.2.1, r5.2.2.2.1, r5.2.2.2.2.1, r5.2.2.2.2.2.1, r5.2.2.2.2.2.2)
        else
          gd a1 48 <|
          if (N_op a1.toNatClampNeg) = (7 : Int32) then
            gd a1 48 <|
            (f_N_scaled N_p N_values N_vOp N_vA N_vB N_vX N_needed v2_1 (N_x a1.toNatClampNeg)).bind fun r4 =>
            some (r4.1, r4.2.1, r4.2.2.1, r4.2.2.2.1, r4.2.2.2.2.1, r4.2.2.2.2.2.1, r4.2.2.2.2.2.2)
          else
            gd a1 48 <|
            gd a1 48 <|
            (f_N_value N_values N_vOp N_vA N_vB N_vX N_needed (N_op a1.toNatClampNeg) (-1 : Int32) (-1 : Int32) (N_x a1.toNatClampNeg)).bind fun r3 =>
            some (r3.1, r3.2.1, r3.2.2.1, r3.2.2.2.1, r3.2.2.2.2.1, r3.2.2.2.2.2.1, r3.2.2.2.2.2.2)
def f_N_optimise_218 (k141 : Int32 → Int32 → (Nat → Int32) → (Nat → Int32) → (Nat → Int32) → (Nat → Int32) → (Nat → Int32) → Option (Int32 × Int32 × (Nat → Int32) × (Nat → Int32) × (Nat → Int32) × (Nat → Int32) × Int32 × Int32 × Int32 × (Nat → Int32) × (Nat → Int32) × (Nat → Int32) × (Nat → Int32) × (Nat → Int32) × (Nat → Int32) × (Nat → Int32))) (v1 t0 t1 t2 t4 N_size : Int32) (N_op N_a N_b N_x : Nat → Int32) (N_outcome N_done N_values : Int32) (N_vOp N_vA N_vB N_vX N_needed N_valueOf N_place : Nat → Int32) : Option (Int32 × Int32 × (Nat → Int32) × (Nat → Int32) × (Nat → Int32) × (Nat → Int32) × Int32 × Int32 × Int32 × (Nat → Int32) × (Nat → Int32) × (Nat → Int32) × (Nat → Int32) × (Nat → Int32) × (Nat → Int32) × (Nat → Int32)) :=
  gd v1 48 <|
  (f_N_write N_size N_op N_a N_b N_x t2 t1 t0 (N_vX v1.toNatClampNeg)).bind fun r1 =>
  gd t4 48 <|
  k141 (v1 + (1 : Int32)) r1.2.1 r1.2.2.1 r1.2.2.2.1 r1.2.2.2.2.1 r1.2.2.2.2.2 (upd N_place t4.toNatClampNeg r1.1)
def f_N_optimise_194 (k141 : Int32 → Int32 → (Nat → Int32) → (Nat → Int32) → (Nat → Int32) → (Nat → Int32) → (Nat → Int32) → Option (Int32 × Int32 × (Nat → Int32) × (Nat → Int32) × (Nat → Int32) × (Nat → Int32) × Int32 × Int32 × Int32 × (Nat → Int32) × (Nat → Int32) × (Nat → Int32) × (Nat → Int32) × (Nat → Int32) × (Nat → Int32) × (Nat → Int32))) (v1 t0 t1 t3 N_size : Int32) (N_op N_a N_b N_x : Nat → Int32) (N_outcome N_done N_values : Int32) (N_vOp N_vA N_vB N_vX N_needed N_valueOf N_place : Nat → Int32) : Option (Int32 × Int32 × (Nat → Int32) × (Nat → Int32) × (Nat → Int32) × (Nat → Int32) × Int32 × Int32 × Int32 × (Nat → Int32) × (Nat → Int32) × (Nat → Int32) × (Nat → Int32) × (Nat → Int32) × (Nat → Int32) × (Nat → Int32)) :=
  gd v1 48 <|
  if 0 ≤ (N_vB v1.toNatClampNeg) then
    gd v1 48 <|
    gd (N_vB v1.toNatClampNeg) 48 <|
    f_N_optimise_218 k141 v1 (N_place (N_vB v1.toNatClampNeg).toNatClampNeg) t0 t1 t3 N_size N_op N_a N_b N_x N_outcome N_done N_values N_vOp N_vA N_vB N_vX N_needed N_valueOf N_place
  else
    f_N_optimise_218 k141 v1 (0 : Int32) t0 t1 t3 N_size N_op N_a N_b N_x N_outcome N_done N_values N_vOp N_vA N_vB N_vX N_needed N_valueOf N_place
def f_N_optimise_141 (N_outcome N_done N_values : Int32) (N_vOp N_vA N_vB N_vX N_needed N_valueOf : Nat → Int32) : Nat → Int32 → Int32 → (Nat → Int32) → (Nat → Int32) → (Nat → Int32) → (Nat → Int32) → (Nat → Int32) → Option (Int32 × Int32 × (Nat → Int32) × (Nat → Int32) × (Nat → Int32) × (Nat → Int32) × Int32 × Int32 × Int32 × (Nat → Int32) × (Nat → Int32) × (Nat → Int32) × (Nat → Int32) × (Nat → Int32) × (Nat → Int32) × (Nat → Int32))
  | 0, _, _, _, _, _, _, _ => none
  | fu + 1, v1, N_size, N_op, N_a, N_b, N_x, N_place =>
    if N_values ≤ v1 then
      some ((0 : Int32), N_size, N_op, N_a, N_b, N_x, (N_size - (1 : Int32)), (0 : Int32), N_values, N_vOp, N_vA, N_vB, N_vX, N_needed, N_valueOf, N_place)
    else
      gd v1 48 <|
      if (N_needed v1.toNatClampNeg) = 0 then
        f_N_optimise_141 N_outcome N_done N_values N_vOp N_vA N_vB N_vX N_needed N_valueOf fu (v1 + (1 : Int32)) N_size N_op N_a N_b N_x N_place
      else
        gd v1 48 <|
        gd v1 48 <|
        if 0 ≤ (N_vA v1.toNatClampNeg) then
          gd v1 48 <|
          gd (N_vA v1.toNatClampNeg) 48 <|
          f_N_optimise_194 (f_N_optimise_141 N_outcome N_done N_values N_vOp N_vA N_vB N_vX N_needed N_valueOf fu) v1 (N_place (N_vA v1.toNatClampNeg).toNatClampNeg) (N_vOp v1.toNatClampNeg) v1 N_size N_op N_a N_b N_x N_outcome N_done N_values N_vOp N_vA N_vB N_vX N_needed N_valueOf N_place
        else
          f_N_optimise_194 (f_N_optimise_141 N_outcome N_done N_values N_vOp N_vA N_vB N_vX N_needed N_valueOf fu) v1 (0 : Int32) (N_vOp v1.toNatClampNeg) v1 N_size N_op N_a N_b N_x N_outcome N_done N_values N_vOp N_vA N_vB N_vX N_needed N_valueOf N_place
def f_N_optimise_98 (k64 : Int32 → (Nat → Int32) → Option (Int32 × Int32 × (Nat → Int32) × (Nat → Int32) × (Nat → Int32) × (Nat → Int32) × Int32 × Int32 × Int32 × (Nat → Int32) × (Nat → Int32) × (Nat → Int32) × (Nat → Int32) × (Nat → Int32) × (Nat → Int32) × (Nat → Int32))) (v1 N_size : Int32) (N_op N_a N_b N_x : Nat → Int32) (N_outcome N_done N_values : Int32) (N_vOp N_vA N_vB N_vX N_needed N_valueOf N_place : Nat → Int32) : Option (Int32 × Int32 × (Nat → Int32) × (Nat → Int32) × (Nat → Int32) × (Nat → Int32) × Int32 × Int32 × Int32 × (Nat → Int32) × (Nat → Int32) × (Nat → Int32) × (Nat → Int32) × (Nat → Int32) × (Nat → Int32) × (Nat → Int32)) :=
  gd v1 48 <|
  if (N_needed v1.toNatClampNeg) = 0 then
    k64 (v1 + (-1 : Int32)) N_needed
  else
    gd v1 48 <|
    if (N_vB v1.toNatClampNeg) < 0 then
      k64 (v1 + (-1 : Int32)) N_needed
    else
      gd v1 48 <|
      gd (N_vB v1.toNatClampNeg) 48 <|
      k64 (v1 + (-1 : Int32)) (upd N_needed (N_vB v1.toNatClampNeg).toNatClampNeg (vp_nar .boolean (1 : Int32)))
def f_N_optimise_64 (N_size : Int32) (N_op N_a N_b N_x : Nat → Int32) (N_outcome N_done N_values : Int32) (N_vOp N_vA N_vB N_vX N_valueOf N_place : Nat → Int32) : Nat → Int32 → (Nat → Int32) → Option (Int32 × Int32 × (Nat → Int32) × (Nat → Int32) × (Nat → Int32) × (Nat → Int32) × Int32 × Int32 × Int32 × (Nat → Int32) × (Nat → Int32) × (Nat → Int32) × (Nat → Int32) × (Nat → Int32) × (Nat → Int32) × (Nat → Int32))
  | 0, _, _ => none
  | fu + 1, v1, N_needed =>
    if v1 < 0 then
      f_N_optimise_141 N_outcome N_done N_values N_vOp N_vA N_vB N_vX N_needed N_valueOf zFU (0 : Int32) (0 : Int32) N_op N_a N_b N_x N_place
    else
      gd v1 48 <|
      if (N_needed v1.toNatClampNeg) = 0 then
        f_N_optimise_98 (f_N_optimise_64 N_size N_op N_a N_b N_x N_outcome N_done N_values N_vOp N_vA N_vB N_vX N_valueOf N_place fu) v1 N_size N_op N_a N_b N_x N_outcome N_done N_values N_vOp N_vA N_vB N_vX N_needed N_valueOf N_place
      else
        gd v1 48 <|
        if (N_vA v1.toNatClampNeg) < 0 then
          f_N_optimise_98 (f_N_optimise_64 N_size N_op N_a N_b N_x N_outcome N_done N_values N_vOp N_vA N_vB N_vX N_valueOf N_place fu) v1 N_size N_op N_a N_b N_x N_outcome N_done N_values N_vOp N_vA N_vB N_vX N_needed N_valueOf N_place
        else
          gd v1 48 <|
          gd (N_vA v1.toNatClampNeg) 48 <|
          f_N_optimise_98 (f_N_optimise_64 N_size N_op N_a N_b N_x N_outcome N_done N_values N_vOp N_vA N_vB N_vX N_valueOf N_place fu) v1 N_size N_op N_a N_b N_x N_outcome N_done N_values N_vOp N_vA N_vB N_vX (upd N_needed (N_vA v1.toNatClampNeg).toNatClampNeg (vp_nar .boolean (1 : Int32))) N_valueOf N_place
def f_N_optimise_17 (N_p : Int32) (N_size : Int32) (N_op N_a N_b N_x : Nat → Int32) (N_outcome N_done : Int32) (N_place : Nat → Int32) : Nat → Int32 → Int32 → (Nat → Int32) → (Nat → Int32) → (Nat → Int32) → (Nat → Int32) → (Nat → Int32) → (Nat → Int32) → Option (Int32 × Int32 × (Nat → Int32) × (Nat → Int32) × (Nat → Int32) × (Nat → Int32) × Int32 × Int32 × Int32 × (Nat → Int32) × (Nat → Int32) × (Nat → Int32) × (Nat → Int32) × (Nat → Int32) × (Nat → Int32) × (Nat → Int32))
  | 0, _, _, _, _, _, _, _, _ => none
  | fu + 1, v1, N_values, N_vOp, N_vA, N_vB, N_vX, N_needed, N_valueOf =>
    if N_size ≤ v1 then
      gd N_outcome 48 <|
      gd (N_valueOf N_outcome.toNatClampNeg) 48 <|
      nm (N_values - (1 : Int32)) fun v1_2 =>
      f_N_optimise_64 N_size N_op N_a N_b N_x N_outcome N_done N_values N_vOp N_vA N_vB N_vX N_valueOf N_place zFU v1_2 (upd N_needed (N_valueOf N_outcome.toNatClampNeg).toNatClampNeg (vp_nar .boolean (1 : Int32)))
    else
      (f_N_valueOfInstruction N_p N_op N_a N_b N_x N_values N_vOp N_vA N_vB N_vX N_needed N_valueOf v1).bind fun r3 =>
      gd v1 48 <|
      f_N_optimise_17 N_p N_size N_op N_a N_b N_x N_outcome N_done N_place fu (v1 + (1 : Int32)) r3.2.1 r3.2.2.1 r3.2.2.2.1 r3.2.2.2.2.1 r3.2.2.2.2.2.1 r3.2.2.2.2.2.2 (upd N_valueOf v1.toNatClampNeg r3.1)
def f_N_optimise (N_p N_compiled N_size : Int32) (N_op N_a N_b N_x : Nat → Int32) (N_outcome N_done N_values : Int32) (N_vOp N_vA N_vB N_vX N_needed N_valueOf N_place : Nat → Int32) : Option (Int32 × Int32 × (Nat → Int32) × (Nat → Int32) × (Nat → Int32) × (Nat → Int32) × Int32 × Int32 × Int32 × (Nat → Int32) × (Nat → Int32) × (Nat → Int32) × (Nat → Int32) × (Nat → Int32) × (Nat → Int32) × (Nat → Int32)) :=
  if N_compiled = 0 then
    some ((7 : Int32), N_size, N_op, N_a, N_b, N_x, N_outcome, N_done, N_values, N_vOp, N_vA, N_vB, N_vX, N_needed, N_valueOf, N_place)
  else
    f_N_optimise_17 N_p N_size N_op N_a N_b N_x N_outcome N_done N_place zFU (0 : Int32) (0 : Int32) N_vOp N_vA N_vB N_vX N_needed N_valueOf
def f_N_run_97 (N_size : Int32) (N_table : Nat → Int32) (N_done : Int32) : Option (Int32 × (Nat → Int32) × Int32) :=
  if N_done = N_size then
    some ((0 : Int32), N_table, N_done)
  else
    some ((8 : Int32), N_table, N_done)
def f_N_run_12 (N_p N_n N_size : Int32) (N_op N_a N_b N_x : Nat → Int32) (a1 : Int32) : Nat → Int32 → (Nat → Int32) → Int32 → Option (Int32 × (Nat → Int32) × Int32)
  | 0, _, _, _ => none
  | fu + 1, v2, N_table, N_done =>
    if a1 ≤ v2 then
      f_N_run_97 N_size N_table N_done
    else
      if N_size ≤ N_done then
        f_N_run_97 N_size N_table N_done
      else
        gd N_done 48 <|
        gd N_done 48 <|
        gd N_done 48 <|
        gd N_done 48 <|
        (f_N_operate N_p N_n N_table (N_op N_done.toNatClampNeg) ((31 : Int32) + (N_a N_done.toNatClampNeg)) ((31 : Int32) + (N_b N_done.toNatClampNeg)) (N_x N_done.toNatClampNeg) ((31 : Int32) + N_done)).bind fun r1 =>
        f_N_run_12 N_p N_n N_size N_op N_a N_b N_x a1 fu (v2 + (1 : Int32)) r1 (N_done + (1 : Int32))
def f_N_run (N_p N_n : Int32) (N_table : Nat → Int32) (N_compiled N_size : Int32) (N_op N_a N_b N_x : Nat → Int32) (N_done a1 : Int32) : Option (Int32 × (Nat → Int32) × Int32) :=
  if N_compiled = 0 then
    some ((7 : Int32), N_table, N_done)
  else
    f_N_run_12 N_p N_n N_size N_op N_a N_b N_x a1 zFU (0 : Int32) N_table N_done
def f_N_out (N_n : Int32) (N_table : Nat → Int32) (N_compiled N_size N_outcome N_done a1 a2 : Int32) : Option (Int32) :=
  if N_compiled = 0 then
    some (-1 : Int32)
  else
    if N_done = N_size then
      (f_N_isPlace N_n a1 a2).bind fun r1 =>
      if r1 = 0 then
        some (-1 : Int32)
      else
        (f_N_get N_table ((31 : Int32) + N_outcome) a1 a2).bind fun r2 =>
        some r2
    else
      some (-1 : Int32)
def f_N_outDirect (N_n : Int32) (N_direct : Nat → Int32) (N_hasDirect a1 a2 : Int32) : Option (Int32) :=
  if N_hasDirect = 0 then
    some (-1 : Int32)
  else
    (f_N_isPlace N_n a1 a2).bind fun r1 =>
    if r1 = 0 then
      some (-1 : Int32)
    else
      gd (((4 : Int32) * a1) + a2) 16 <|
      some (N_direct (((4 : Int32) * a1) + a2).toNatClampNeg)
def f_N_codeAt_126 (N_op : Nat → Int32) (a1 : Int32) (t0 : Int32) : Option (Int32) :=
  gd a1 48 <|
  some (((10000 : Int32) * (N_op a1.toNatClampNeg)) + t0)
def f_N_codeAt (N_compiled N_size : Int32) (N_op N_a N_b N_x : Nat → Int32) (a1 : Int32) : Option (Int32) :=
  if N_compiled = 0 then
    some (-1 : Int32)
  else
    (f_N_in a1 (0 : Int32) (N_size - (1 : Int32))).bind fun r1 =>
    if r1 = 0 then
      some (-1 : Int32)
    else
      gd a1 48 <|
      if (N_op a1.toNatClampNeg) = 0 then
        gd a1 48 <|
        f_N_codeAt_126 N_op a1 (N_x a1.toNatClampNeg)
      else
        gd a1 48 <|
        if (N_op a1.toNatClampNeg) = (7 : Int32) then
          gd a1 48 <|
          gd a1 48 <|
          f_N_codeAt_126 N_op a1 (((100 : Int32) * (N_a a1.toNatClampNeg)) + (N_x a1.toNatClampNeg))
        else
          gd a1 48 <|
          (f_N_isTwo (N_op a1.toNatClampNeg)).bind fun r2 =>
          if r2 = 0 then
            gd a1 48 <|
            if (N_op a1.toNatClampNeg) = (6 : Int32) then
              gd a1 48 <|
              f_N_codeAt_126 N_op a1 ((100 : Int32) * (N_a a1.toNatClampNeg))
            else
              f_N_codeAt_126 N_op a1 (0 : Int32)
          else
            gd a1 48 <|
            gd a1 48 <|
            f_N_codeAt_126 N_op a1 (((100 : Int32) * (N_a a1.toNatClampNeg)) + (N_b a1.toNatClampNeg))
def f_N_codeSize (N_compiled N_size : Int32) : Option (Int32) :=
  if N_compiled = 0 then
    some (-1 : Int32)
  else
    some N_size
def f_N_products_4 (N_compiled N_size : Int32) (N_op : Nat → Int32) : Nat → Int32 → Int32 → Option (Int32)
  | 0, _, _ => none
  | fu + 1, v1, v2 =>
    if N_size ≤ v2 then
      if N_compiled = 0 then
        some (-1 : Int32)
      else
        some v1
    else
      gd v2 48 <|
      if (N_op v2.toNatClampNeg) = (5 : Int32) then
        nm (v1 + (1 : Int32)) fun v1_1 =>
        f_N_products_4 N_compiled N_size N_op fu v1_1 (v2 + (1 : Int32))
      else
        f_N_products_4 N_compiled N_size N_op fu v1 (v2 + (1 : Int32))
def f_N_products (N_compiled N_size : Int32) (N_op : Nat → Int32) : Option (Int32) :=
  f_N_products_4 N_compiled N_size N_op zFU (0 : Int32) (0 : Int32)
def f_N_reset_27 (N_words N_hasDirect N_compiled N_size N_done : Int32) : Nat → Int32 → (Nat → Int32) → Option (Int32 × (Nat → Int32) × Int32 × Int32 × Int32 × Int32)
  | 0, _, _ => none
  | fu + 1, v1, N_table =>
    if (64 : Int32) ≤ v1 then
      some (N_words, N_table, N_hasDirect, N_compiled, N_size, N_done)
    else
      gd v1 1136 <|
      f_N_reset_27 N_words N_hasDirect N_compiled N_size N_done fu (v1 + (1 : Int32)) (upd N_table v1.toNatClampNeg (0 : Int32))
def f_N_reset (N_words : Int32) (N_table : Nat → Int32) (N_hasDirect N_compiled N_size N_done : Int32) : Option (Int32 × (Nat → Int32) × Int32 × Int32 × Int32 × Int32) :=
  f_N_reset_27 (0 : Int32) (0 : Int32) (0 : Int32) (0 : Int32) (0 : Int32) zFU (0 : Int32) N_table
end
section
set_option maxHeartbeats 4000000 in
set_option maxRecDepth 100000 in
theorem c_R_isFull (l : Launch) (D : va_G) (kI kZ : ClassId) (qR : Nat → Nat) (R_length : Int32) (R_words : Nat → Int32)  (res : Int32) (hr : f_R_isFull R_length = some res) : zMi l D kI kZ y_R_isFull prog_6_method_3_code 1 ((some .boolean)) 0 0 [.ref (qR 0)] (W_R kI kZ qR R_length R_words) (W_R kI kZ qR R_length R_words) res := by
  refine zMi.of (by decide +kernel) (Nat.le_of_ble_eq_true rfl) ?_
  intro p e R s m args below meth c Q A hR hx hb hml hts hown hA hK hN hQ
  have hown : s.vm.findClass "SquareCode$Source" = some m.cls := hown
  intro ls H hl hP hD hS
  have hl : lv_has ls 1 [(0, .ref (qR 0))] := hl
  rw [f_R_isFull] at hr
  refine lv_aload_n hx hb d_R_isFull_0 rfl (lv_at hl 0 rfl) ?_
  refine va_get (D := D) (ci := 4) (v := .int R_length) (C := R_R) (T := T_R) (N := 2) hx hb hts in_R hown hK hP 0 rfl rfl 1 (by decide) (hts _ kw_49) (fun _ h9 => h9) rfl d_R_isFull_1 ?_
  refine lv_bipush (v := (24 : Int32)) hx hb d_R_isFull_4 (by decide) ?_
  refine lv_icmp_lt hx hb d_R_isFull_6 rfl (fun hc => ?_) (fun hc => ?_)
  · rw [if_pos hc] at hr
    refine lv_iconst (v := (0 : Int32)) hx hb d_R_isFull_13 (by decide) ?_
    obtain rfl := Option.some.inj hr
    exact hQ _ _ _ _ _ d_R_isFull_14 (by decide +kernel) rfl hP hD hS
  · rw [if_neg hc] at hr
    refine lv_iconst (v := (1 : Int32)) hx hb d_R_isFull_9 (by decide) ?_
    refine lv_goto hx hb d_R_isFull_10 rfl ?_
    obtain rfl := Option.some.inj hr
    exact hQ _ _ _ _ _ d_R_isFull_14 (by decide +kernel) rfl hP hD hS
set_option maxHeartbeats 4000000 in
set_option maxRecDepth 100000 in
theorem c_C_length (l : Launch) (D : va_G) (kI kZ : ClassId) (qC : Nat → Nat) (C_length : Int32) (C_instructions : Nat → Int32)  (res : Int32) (hr : f_C_length C_length = some res) : zMi l D kI kZ y_C_length prog_2_method_2_code 1 ((some .int)) 0 0 [.ref (qC 0)] (W_C kI kZ qC C_length C_instructions) (W_C kI kZ qC C_length C_instructions) res := by
  refine zMi.of (by decide +kernel) (Nat.le_of_ble_eq_true rfl) ?_
  intro p e R s m args below meth c Q A hR hx hb hml hts hown hA hK hN hQ
  have hown : s.vm.findClass "SquareCode$Code" = some m.cls := hown
  intro ls H hl hP hD hS
  have hl : lv_has ls 1 [(0, .ref (qC 0))] := hl
  rw [f_C_length] at hr
  refine lv_aload_n hx hb d_C_length_0 rfl (lv_at hl 0 rfl) ?_
  refine va_get (D := D) (ci := 0) (v := .int C_length) (C := R_C) (T := T_C) (N := 2) hx hb hts in_C hown hK hP 0 rfl rfl 1 (by decide) (hts _ kw_62) (fun _ h9 => h9) rfl d_C_length_1 ?_
  obtain rfl := Option.some.inj hr
  exact hQ _ _ _ _ _ d_C_length_4 rfl rfl hP hD hS
set_option maxHeartbeats 4000000 in
set_option maxRecDepth 100000 in
theorem c_X_hasCode (l : Launch) (D : va_G) (kI kZ : ClassId) (qX qM qR qC qP qO qV : Nat → Nat) (M_nc M_nf : Nat) (X_instructionsDone X_isWorkedOut M_modulus M_side M_size : Int32) (M_cells M_fresh : Nat → Int32) (R_length : Int32) (R_words : Nat → Int32) (C_length : Int32) (C_instructions P_registers : Nat → Int32) (O_modulus : Int32) (O_valueOf O_isNeeded O_registerOf : Nat → Int32) (V_length : Int32) (V_instructions : Nat → Int32)  (res : Int32) (hr : f_X_hasCode C_length = some res) : zMi l D kI kZ y_X_hasCode prog_1_method_14_code 1 ((some .boolean)) 1 20 [.ref (qX 0)] (W_XMRCPOV kI kZ qX qM qR qC qP qO qV M_nc M_nf X_instructionsDone X_isWorkedOut M_modulus M_side M_size M_cells M_fresh R_length R_words C_length C_instructions P_registers O_modulus O_valueOf O_isNeeded O_registerOf V_length V_instructions) (W_XMRCPOV kI kZ qX qM qR qC qP qO qV M_nc M_nf X_instructionsDone X_isWorkedOut M_modulus M_side M_size M_cells M_fresh R_length R_words C_length C_instructions P_registers O_modulus O_valueOf O_isNeeded O_registerOf V_length V_instructions) res := by
  refine zMi.of (by decide +kernel) (Nat.le_of_ble_eq_true rfl) ?_
  intro p e R s m args below meth c Q A hR hx hb hml hts hown hA hK hN hQ
  have hown : s.vm.findClass "SquareCode" = some m.cls := hown
  intro ls H hl hP hD hS
  have hl : lv_has ls 1 [(0, .ref (qX 0))] := hl
  rw [f_X_hasCode] at hr
  refine lv_aload_n hx hb d_X_hasCode_0 rfl (lv_at hl 0 rfl) ?_
  refine va_get (D := D) (ci := 5) (v := .ref (qC 0)) (C := R_X) (T := T_X) (N := 7) hx hb hts in_X hown hK hP 0 rfl rfl 2 (by decide) (hts _ kw_105) (fun _ h9 => h9) rfl d_X_hasCode_1 ?_
  obtain ⟨r1, hr1, hr⟩ := ob hr
  refine z_ci (ws := (W_XMRCPOV kI kZ qX qM qR qC qP qO qV M_nc M_nf X_instructionsDone X_isWorkedOut M_modulus M_side M_size M_cells M_fresh R_length R_words C_length C_instructions P_registers O_modulus O_valueOf O_isNeeded O_registerOf V_length V_instructions)) (wc := (W_C kI kZ qC C_length C_instructions)) (wr := (W_XMRPOV kI kZ qX qM qR qP qO qV qC M_nc M_nf X_instructionsDone X_isWorkedOut M_modulus M_side M_size M_cells M_fresh R_length R_words P_registers O_modulus O_valueOf O_isNeeded O_registerOf V_length V_instructions)) (w1 := (W_C kI kZ qC C_length C_instructions)) (w2 := (W_XMRCPOV kI kZ qX qM qR qC qP qO qV M_nc M_nf X_instructionsDone X_isWorkedOut M_modulus M_side M_size M_cells M_fresh R_length R_words C_length C_instructions P_registers O_modulus O_valueOf O_isNeeded O_registerOf V_length V_instructions)) (va_runV (As := []) (rest := []) ⟨hx, hb, hml, hown, hts⟩ (c_C_length l D kI kZ qC C_length C_instructions r1 hr1 H.size) (z_cwV hts mw_C_length kw_137 ⟨by rw [hR]; exact Nat.le_of_ble_eq_true rfl, by rw [hR]; exact Nat.le_of_ble_eq_true rfl⟩) (z_preV (ci := 0) hK hP hD hN rfl (he := (rfl : _[6]? = _)) [6, 7] (by decide) rfl) rfl rfl hl.1 rfl (lv_room (Nat.le_of_ble_eq_true rfl)) d_X_hasCode_4 ⟨Nat.zero_le _, Nat.zero_le _⟩) hP hD hS hA [6, 7] [0, 1, 2, 3, 4, 5, 8, 9, 10, 11, 12, 13, 14, 15] [0, 1, 2, 3, 4, 5, 14, 15, 6, 7, 8, 9, 10, 11, 12, 13] rfl rfl (by decide) (by decide) rfl (by decide) (fun H locs hP hD hS => ?_)
  refine lv_if_le hx hb d_X_hasCode_7 rfl (fun hc => ?_) (fun hc => ?_)
  · rw [if_pos hc] at hr
    refine lv_iconst (v := (0 : Int32)) hx hb d_X_hasCode_14 (by decide) ?_
    obtain rfl := Option.some.inj hr
    exact hQ _ _ _ _ _ d_X_hasCode_15 (by decide +kernel) rfl hP hD hS
  · rw [if_neg hc] at hr
    refine lv_iconst (v := (1 : Int32)) hx hb d_X_hasCode_10 (by decide) ?_
    refine lv_goto hx hb d_X_hasCode_11 rfl ?_
    obtain rfl := Option.some.inj hr
    exact hQ _ _ _ _ _ d_X_hasCode_15 (by decide +kernel) rfl hP hD hS
set_option maxHeartbeats 4000000 in
set_option maxRecDepth 100000 in
theorem c_R_append (l : Launch) (D : va_G) (kI kZ : ClassId) (qR : Nat → Nat) (R_length : Int32) (R_words : Nat → Int32) (a1 : Int32) (res : (Nat → Int32) × Int32) (hr : f_R_append R_words R_length a1 = some res) : zMv l D kI kZ y_R_append prog_6_method_4_code 2 none 0 0 [.ref (qR 0), .int a1] (W_R kI kZ qR R_length R_words) (W_R kI kZ qR (res.2) (res.1)) := by
  refine zMv.of (by decide +kernel) (Nat.le_of_ble_eq_true rfl) ?_
  intro p e R s m args below meth c Q A hR hx hb hml hts hown hA hK hN hQ
  have hown : s.vm.findClass "SquareCode$Source" = some m.cls := hown
  intro ls H hl hP hD hS
  have hl : lv_has ls 2 [(0, .ref (qR 0)), (1, .int a1)] := hl
  rw [f_R_append] at hr
  refine lv_aload_n hx hb d_R_append_0 rfl (lv_at hl 0 rfl) ?_
  refine va_get (D := D) (ci := 4) (v := .ref (qR 1)) (C := R_R) (T := T_R) (N := 2) hx hb hts in_R hown hK hP 0 rfl rfl 0 (by decide) (hts _ kw_48) (fun _ h9 => h9) rfl d_R_append_1 ?_
  refine lv_aload_n hx hb d_R_append_4 rfl (lv_at hl 0 rfl) ?_
  refine va_get (D := D) (ci := 4) (v := .int R_length) (C := R_R) (T := T_R) (N := 2) hx hb hts in_R hown hK hP 0 rfl rfl 1 (by decide) (hts _ kw_49) (fun _ h9 => h9) rfl d_R_append_5 ?_
  refine lv_iload_n hx hb d_R_append_8 rfl (lv_at hl 1 rfl) ?_
  obtain ⟨hi, hr⟩ := gd_some hr
  refine va_iast hx hb hK hP hD hS 1 0 rfl rfl hi d_R_append_9 (fun H locs hP hD hS => ?_)
  have hP : va_P D zCl (W_R kI kZ qR R_length (upd R_words R_length.toNatClampNeg a1)) H := hP
  have hD : va_D A (W_R kI kZ qR R_length (upd R_words R_length.toNatClampNeg a1)) := hD
  refine lv_aload_n hx hb d_R_append_10 rfl (lv_at hl 0 rfl) ?_
  refine lv_dup hx hb d_R_append_11 rfl ?_
  refine va_get (D := D) (ci := 4) (v := .int R_length) (C := R_R) (T := T_R) (N := 2) hx hb hts in_R hown hK hP 0 rfl rfl 1 (by decide) (hts _ kw_49) (fun _ h9 => h9) rfl d_R_append_12 ?_
  refine lv_iconst (v := (1 : Int32)) hx hb d_R_append_15 (by decide) ?_
  refine lv_iadd hx hb d_R_append_16 ?_
  refine va_put (D := D) (ci := 4) (v := .int (R_length + (1 : Int32))) (ty := .int) (C := R_R) (T := T_R) (N := 2) hx hb hts in_R ty_R tyo_R nm_R hown hK hP hD hS 0 rfl rfl 1 (by decide) (hts _ kw_49) (fun _ h9 => h9) rfl (by decide +kernel) rfl rfl (Nat.le_of_ble_eq_true rfl) d_R_append_17 (fun H locs hP hD hS => ?_)
  have hP : va_P D zCl (W_R kI kZ qR (R_length + (1 : Int32)) (upd R_words R_length.toNatClampNeg a1)) H := hP
  have hD : va_D A (W_R kI kZ qR (R_length + (1 : Int32)) (upd R_words R_length.toNatClampNeg a1)) := hD
  obtain rfl := Option.some.inj hr
  exact hQ _ _ _ _ d_R_append_20 hP hD hS
set_option maxHeartbeats 4000000 in
set_option maxRecDepth 100000 in
theorem c_X_feed (l : Launch) (D : va_G) (kI kZ : ClassId) (qX qM qR qC qP qO qV : Nat → Nat) (M_nc M_nf : Nat) (X_instructionsDone X_isWorkedOut M_modulus M_side M_size : Int32) (M_cells M_fresh : Nat → Int32) (R_length : Int32) (R_words : Nat → Int32) (C_length : Int32) (C_instructions P_registers : Nat → Int32) (O_modulus : Int32) (O_valueOf O_isNeeded O_registerOf : Nat → Int32) (V_length : Int32) (V_instructions : Nat → Int32) (a1 : Int32) (res : Int32 × (Nat → Int32) × Int32) (hr : f_X_feed R_words R_length C_length a1 = some res) : zMi l D kI kZ y_X_feed prog_1_method_2_code 2 ((some .int)) 2 40 [.ref (qX 0), .int a1] (W_XMRCPOV kI kZ qX qM qR qC qP qO qV M_nc M_nf X_instructionsDone X_isWorkedOut M_modulus M_side M_size M_cells M_fresh R_length R_words C_length C_instructions P_registers O_modulus O_valueOf O_isNeeded O_registerOf V_length V_instructions) (W_XMRCPOV kI kZ qX qM qR qC qP qO qV M_nc M_nf X_instructionsDone X_isWorkedOut M_modulus M_side M_size M_cells M_fresh (res.2.2) (res.2.1) C_length C_instructions P_registers O_modulus O_valueOf O_isNeeded O_registerOf V_length V_instructions) (res.1) := by
  refine zMi.of (by decide +kernel) (Nat.le_of_ble_eq_true rfl) ?_
  intro p e R s m args below meth c Q A hR hx hb hml hts hown hA hK hN hQ
  have hown : s.vm.findClass "SquareCode" = some m.cls := hown
  intro ls H hl hP hD hS
  have hl : lv_has ls 2 [(0, .ref (qX 0)), (1, .int a1)] := hl
  rw [f_X_feed] at hr
  refine lv_aload_n hx hb d_X_feed_0 rfl (lv_at hl 0 rfl) ?_
  refine va_get (D := D) (ci := 5) (v := .ref (qR 0)) (C := R_X) (T := T_X) (N := 7) hx hb hts in_X hown hK hP 0 rfl rfl 1 (by decide) (hts _ kw_104) (fun _ h9 => h9) rfl d_X_feed_1 ?_
  obtain ⟨r1, hr1, hr⟩ := ob hr
  refine z_ci (ws := (W_XMRCPOV kI kZ qX qM qR qC qP qO qV M_nc M_nf X_instructionsDone X_isWorkedOut M_modulus M_side M_size M_cells M_fresh R_length R_words C_length C_instructions P_registers O_modulus O_valueOf O_isNeeded O_registerOf V_length V_instructions)) (wc := (W_R kI kZ qR R_length R_words)) (wr := (W_XMCPOV kI kZ qX qM qC qP qO qV qR M_nc M_nf X_instructionsDone X_isWorkedOut M_modulus M_side M_size M_cells M_fresh C_length C_instructions P_registers O_modulus O_valueOf O_isNeeded O_registerOf V_length V_instructions)) (w1 := (W_R kI kZ qR R_length R_words)) (w2 := (W_XMRCPOV kI kZ qX qM qR qC qP qO qV M_nc M_nf X_instructionsDone X_isWorkedOut M_modulus M_side M_size M_cells M_fresh R_length R_words C_length C_instructions P_registers O_modulus O_valueOf O_isNeeded O_registerOf V_length V_instructions)) (va_runV (As := []) (rest := []) ⟨hx, hb, hml, hown, hts⟩ (c_R_isFull l D kI kZ qR R_length R_words r1 hr1 H.size) (z_cwV hts mw_R_isFull kw_129 ⟨by rw [hR]; exact Nat.le_of_ble_eq_true rfl, by rw [hR]; exact Nat.le_of_ble_eq_true rfl⟩) (z_preV (ci := 4) hK hP hD hN rfl (he := (rfl : _[4]? = _)) [4, 5] (by decide) rfl) rfl rfl hl.1 rfl (lv_room (Nat.le_of_ble_eq_true rfl)) d_X_feed_4 ⟨Nat.zero_le _, Nat.zero_le _⟩) hP hD hS hA [4, 5] [0, 1, 2, 3, 6, 7, 8, 9, 10, 11, 12, 13, 14, 15] [0, 1, 2, 3, 14, 15, 4, 5, 6, 7, 8, 9, 10, 11, 12, 13] rfl rfl (by decide) (by decide) rfl (by decide) (fun H locs hP hD hS => ?_)
  refine lv_if_ne hx hb d_X_feed_7 rfl (fun hc => ?_) (fun hc => ?_)
  · rw [if_neg hc] at hr
    refine lv_iconst (v := (1 : Int32)) hx hb d_X_feed_17 (by decide) ?_
    obtain rfl := Option.some.inj hr
    exact hQ _ _ _ _ _ d_X_feed_18 rfl rfl hP hD hS
  · rw [if_pos hc] at hr
    refine lv_aload_n hx hb d_X_feed_10 rfl (lv_at hl 0 rfl) ?_
    obtain ⟨r2, hr2, hr⟩ := ob hr
    refine z_ci (ws := (W_XMRCPOV kI kZ qX qM qR qC qP qO qV M_nc M_nf X_instructionsDone X_isWorkedOut M_modulus M_side M_size M_cells M_fresh R_length R_words C_length C_instructions P_registers O_modulus O_valueOf O_isNeeded O_registerOf V_length V_instructions)) (wc := (W_XMRCPOV kI kZ qX qM qR qC qP qO qV M_nc M_nf X_instructionsDone X_isWorkedOut M_modulus M_side M_size M_cells M_fresh R_length R_words C_length C_instructions P_registers O_modulus O_valueOf O_isNeeded O_registerOf V_length V_instructions)) (wr := ([] : va_W)) (w1 := (W_XMRCPOV kI kZ qX qM qR qC qP qO qV M_nc M_nf X_instructionsDone X_isWorkedOut M_modulus M_side M_size M_cells M_fresh R_length R_words C_length C_instructions P_registers O_modulus O_valueOf O_isNeeded O_registerOf V_length V_instructions)) (w2 := (W_XMRCPOV kI kZ qX qM qR qC qP qO qV M_nc M_nf X_instructionsDone X_isWorkedOut M_modulus M_side M_size M_cells M_fresh R_length R_words C_length C_instructions P_registers O_modulus O_valueOf O_isNeeded O_registerOf V_length V_instructions)) (va_runV (As := []) (rest := []) ⟨hx, hb, hml, hown, hts⟩ (c_X_hasCode l D kI kZ qX qM qR qC qP qO qV M_nc M_nf X_instructionsDone X_isWorkedOut M_modulus M_side M_size M_cells M_fresh R_length R_words C_length C_instructions P_registers O_modulus O_valueOf O_isNeeded O_registerOf V_length V_instructions r2 hr2 H.size) (z_cwV hts mw_X_hasCode kw_133 ⟨by rw [hR]; exact Nat.le_of_ble_eq_true rfl, by rw [hR]; exact Nat.le_of_ble_eq_true rfl⟩) (z_preV (ci := 5) hK hP hD hN rfl (he := (rfl : _[0]? = _)) [0, 1, 2, 3, 4, 5, 6, 7, 8, 9, 10, 11, 12, 13, 14, 15] (by decide) rfl) rfl rfl hl.1 rfl (lv_room (Nat.le_of_ble_eq_true rfl)) d_X_feed_11 ⟨Nat.zero_le _, Nat.zero_le _⟩) hP hD hS hA [0, 1, 2, 3, 4, 5, 6, 7, 8, 9, 10, 11, 12, 13, 14, 15] [] [0, 1, 2, 3, 4, 5, 6, 7, 8, 9, 10, 11, 12, 13, 14, 15] rfl rfl (by decide) (by decide) rfl (by decide) (fun H locs hP hD hS => ?_)
    refine lv_if_eq hx hb d_X_feed_14 rfl (fun hc => ?_) (fun hc => ?_)
    · rw [if_pos hc] at hr
      refine lv_aload_n hx hb d_X_feed_19 rfl (lv_at hl 0 rfl) ?_
      refine va_get (D := D) (ci := 5) (v := .ref (qR 0)) (C := R_X) (T := T_X) (N := 7) hx hb hts in_X hown hK hP 0 rfl rfl 1 (by decide) (hts _ kw_104) (fun _ h9 => h9) rfl d_X_feed_20 ?_
      refine lv_iload_n hx hb d_X_feed_23 rfl (lv_at hl 1 rfl) ?_
      obtain ⟨r3, hr3, hr⟩ := ob hr
      refine z_cv (ws := (W_XMRCPOV kI kZ qX qM qR qC qP qO qV M_nc M_nf X_instructionsDone X_isWorkedOut M_modulus M_side M_size M_cells M_fresh R_length R_words C_length C_instructions P_registers O_modulus O_valueOf O_isNeeded O_registerOf V_length V_instructions)) (wc := (W_R kI kZ qR R_length R_words)) (wr := (W_XMCPOV kI kZ qX qM qC qP qO qV qR M_nc M_nf X_instructionsDone X_isWorkedOut M_modulus M_side M_size M_cells M_fresh C_length C_instructions P_registers O_modulus O_valueOf O_isNeeded O_registerOf V_length V_instructions)) (w1 := (W_R kI kZ qR r3.2 r3.1)) (w2 := (W_XMRCPOV kI kZ qX qM qR qC qP qO qV M_nc M_nf X_instructionsDone X_isWorkedOut M_modulus M_side M_size M_cells M_fresh r3.2 r3.1 C_length C_instructions P_registers O_modulus O_valueOf O_isNeeded O_registerOf V_length V_instructions)) (va_runV (As := [.int a1]) (rest := []) ⟨hx, hb, hml, hown, hts⟩ (c_R_append l D kI kZ qR R_length R_words a1 r3 hr3 H.size) (z_cwV hts mw_R_append kw_141 ⟨by rw [hR]; exact Nat.le_of_ble_eq_true rfl, by rw [hR]; exact Nat.le_of_ble_eq_true rfl⟩) (z_preV (ci := 4) hK hP hD hN rfl (he := (rfl : _[4]? = _)) [4, 5] (by decide) rfl) rfl rfl hl.1 rfl (lv_room (Nat.le_of_ble_eq_true rfl)) d_X_feed_24 ⟨Nat.zero_le _, Nat.zero_le _⟩) hP hD hS hA [4, 5] [0, 1, 2, 3, 6, 7, 8, 9, 10, 11, 12, 13, 14, 15] [0, 1, 2, 3, 14, 15, 4, 5, 6, 7, 8, 9, 10, 11, 12, 13] rfl rfl (by decide) (by decide) rfl (by decide) (fun H locs hP hD hS => ?_)
      refine lv_iconst (v := (0 : Int32)) hx hb d_X_feed_27 (by decide) ?_
      obtain rfl := Option.some.inj hr
      exact hQ _ _ _ _ _ d_X_feed_28 rfl rfl hP hD hS
    · rw [if_neg hc] at hr
      refine lv_iconst (v := (1 : Int32)) hx hb d_X_feed_17 (by decide) ?_
      obtain rfl := Option.some.inj hr
      exact hQ _ _ _ _ _ d_X_feed_18 rfl rfl hP hD hS
set_option maxHeartbeats 4000000 in
set_option maxRecDepth 100000 in
theorem c_M_hasCell (l : Launch) (D : va_G) (kI kZ : ClassId) (qM : Nat → Nat) (M_nc M_nf : Nat) (M_modulus M_side M_size : Int32) (M_cells M_fresh : Nat → Int32) (a1 a2 : Int32) (res : Int32) (hr : f_M_hasCell M_side a1 a2 = some res) : zMi l D kI kZ y_M_hasCell prog_4_method_2_code 3 ((some .boolean)) 0 0 [.ref (qM 0), .int a1, .int a2] (W_M kI kZ qM M_nc M_nf M_modulus M_side M_size M_cells M_fresh) (W_M kI kZ qM M_nc M_nf M_modulus M_side M_size M_cells M_fresh) res := by
  refine zMi.of (by decide +kernel) (Nat.le_of_ble_eq_true rfl) ?_
  intro p e R s m args below meth c Q A hR hx hb hml hts hown hA hK hN hQ
  have hown : s.vm.findClass "SquareCode$Matrices" = some m.cls := hown
  intro ls H hl hP hD hS
  have hl : lv_has ls 3 [(0, .ref (qM 0)), (1, .int a1), (2, .int a2)] := hl
  rw [f_M_hasCell] at hr
  refine lv_iload_n hx hb d_M_hasCell_0 rfl (lv_at hl 1 rfl) ?_
  refine lv_if_lt hx hb d_M_hasCell_1 rfl (fun hc => ?_) (fun hc => ?_)
  · rw [if_pos hc] at hr
    refine lv_iconst (v := (0 : Int32)) hx hb d_M_hasCell_28 (by decide) ?_
    obtain rfl := Option.some.inj hr
    exact hQ _ _ _ _ _ d_M_hasCell_29 (by decide +kernel) rfl hP hD hS
  · rw [if_neg hc] at hr
    refine lv_iload_n hx hb d_M_hasCell_4 rfl (lv_at hl 1 rfl) ?_
    refine lv_aload_n hx hb d_M_hasCell_5 rfl (lv_at hl 0 rfl) ?_
    refine va_get (D := D) (ci := 2) (v := .int M_side) (C := R_M) (T := T_M) (N := 5) hx hb hts in_M hown hK hP 0 rfl rfl 1 (by decide) (hts _ kw_26) (fun _ h9 => h9) rfl d_M_hasCell_6 ?_
    refine lv_icmp_ge hx hb d_M_hasCell_9 rfl (fun hc => ?_) (fun hc => ?_)
    · rw [if_pos hc] at hr
      refine lv_iconst (v := (0 : Int32)) hx hb d_M_hasCell_28 (by decide) ?_
      obtain rfl := Option.some.inj hr
      exact hQ _ _ _ _ _ d_M_hasCell_29 (by decide +kernel) rfl hP hD hS
    · rw [if_neg hc] at hr
      refine lv_iload_n hx hb d_M_hasCell_12 rfl (lv_at hl 2 rfl) ?_
      refine lv_if_lt hx hb d_M_hasCell_13 rfl (fun hc => ?_) (fun hc => ?_)
      · rw [if_pos hc] at hr
        refine lv_iconst (v := (0 : Int32)) hx hb d_M_hasCell_28 (by decide) ?_
        obtain rfl := Option.some.inj hr
        exact hQ _ _ _ _ _ d_M_hasCell_29 (by decide +kernel) rfl hP hD hS
      · rw [if_neg hc] at hr
        refine lv_iload_n hx hb d_M_hasCell_16 rfl (lv_at hl 2 rfl) ?_
        refine lv_aload_n hx hb d_M_hasCell_17 rfl (lv_at hl 0 rfl) ?_
        refine va_get (D := D) (ci := 2) (v := .int M_side) (C := R_M) (T := T_M) (N := 5) hx hb hts in_M hown hK hP 0 rfl rfl 1 (by decide) (hts _ kw_26) (fun _ h9 => h9) rfl d_M_hasCell_18 ?_
        refine lv_icmp_ge hx hb d_M_hasCell_21 rfl (fun hc => ?_) (fun hc => ?_)
        · rw [if_pos hc] at hr
          refine lv_iconst (v := (0 : Int32)) hx hb d_M_hasCell_28 (by decide) ?_
          obtain rfl := Option.some.inj hr
          exact hQ _ _ _ _ _ d_M_hasCell_29 (by decide +kernel) rfl hP hD hS
        · rw [if_neg hc] at hr
          refine lv_iconst (v := (1 : Int32)) hx hb d_M_hasCell_24 (by decide) ?_
          refine lv_goto hx hb d_M_hasCell_25 rfl ?_
          obtain rfl := Option.some.inj hr
          exact hQ _ _ _ _ _ d_M_hasCell_29 (by decide +kernel) rfl hP hD hS
set_option maxHeartbeats 4000000 in
set_option maxRecDepth 100000 in
theorem c_JM_floorMod (l : Launch) (D : va_G) (kI kZ : ClassId)  (a0 a1 : Int32) (res : Int32) (hr : f_JM_floorMod a0 a1 = some res) : zMi l D kI kZ y_JM_floorMod prog_10_method_50_code 3 ((some .int)) 0 0 [.int a0, .int a1] ([] : va_W) ([] : va_W) res := by
  refine zMi.of (by decide +kernel) (Nat.le_of_ble_eq_true rfl) ?_
  intro p e R s m args below meth c Q A hR hx hb hml hts hown hA hK hN hQ
  have hown : s.vm.findClass "java/lang/Math" = some m.cls := hown
  intro ls H hl hP hD hS
  have hl : lv_has ls 3 [(0, .int a0), (1, .int a1)] := hl
  rw [f_JM_floorMod] at hr
  refine lv_iload_n hx hb d_JM_floorMod_0 rfl (lv_at hl 0 rfl) ?_
  refine lv_iload_n hx hb d_JM_floorMod_1 rfl (lv_at hl 1 rfl) ?_
  obtain ⟨hz, hr⟩ := nz_some hr
  refine z_irem hx hb d_JM_floorMod_2 hz ?_
  obtain ⟨v2_1, ev2_1, hr⟩ := nm_some hr
  refine z_top ev2_1 ?_
  refine lv_istore_n (lv' := [(2, .int v2_1), (0, .int a0), (1, .int a1)]) hx hb d_JM_floorMod_3 rfl hl (by decide) rfl (fun ls hl => ?_)
  refine lv_iload_n hx hb d_JM_floorMod_4 rfl (lv_at hl 1 rfl) ?_
  refine lv_iload_n hx hb d_JM_floorMod_5 rfl (lv_at hl 2 rfl) ?_
  refine lv_ixor hx hb d_JM_floorMod_6 ?_
  refine lv_if_ge hx hb d_JM_floorMod_7 rfl (fun hc => ?_) (fun hc => ?_)
  · rw [if_pos hc] at hr
    refine lv_iload_n hx hb d_JM_floorMod_18 rfl (lv_at hl 0 rfl) ?_
    obtain rfl := Option.some.inj hr
    exact hQ _ _ _ _ _ d_JM_floorMod_19 rfl rfl hP hD hS
  · rw [if_neg hc] at hr
    refine lv_iload_n hx hb d_JM_floorMod_10 rfl (lv_at hl 0 rfl) ?_
    refine lv_if_eq hx hb d_JM_floorMod_11 rfl (fun hc => ?_) (fun hc => ?_)
    · rw [if_pos hc] at hr
      refine lv_iload_n hx hb d_JM_floorMod_18 rfl (lv_at hl 0 rfl) ?_
      obtain rfl := Option.some.inj hr
      exact hQ _ _ _ _ _ d_JM_floorMod_19 rfl rfl hP hD hS
    · rw [if_neg hc] at hr
      refine lv_iload_n hx hb d_JM_floorMod_14 rfl (lv_at hl 0 rfl) ?_
      refine lv_iload_n hx hb d_JM_floorMod_15 rfl (lv_at hl 2 rfl) ?_
      refine lv_iadd hx hb d_JM_floorMod_16 ?_
      obtain rfl := Option.some.inj hr
      exact hQ _ _ _ _ _ d_JM_floorMod_17 rfl rfl hP hD hS
set_option maxHeartbeats 4000000 in
set_option maxRecDepth 100000 in
theorem c_M_put (l : Launch) (D : va_G) (kI kZ : ClassId) (qM : Nat → Nat) (M_nc M_nf : Nat) (M_modulus M_side M_size : Int32) (M_cells M_fresh : Nat → Int32) (a1 a2 a3 a4 : Int32) (res : (Nat → Int32)) (hr : f_M_put M_nc M_modulus M_side M_size M_cells a1 a2 a3 a4 = some res) : zMv l D kI kZ y_M_put prog_4_method_4_code 5 none 1 22 [.ref (qM 0), .int a1, .int a2, .int a3, .int a4] (W_M kI kZ qM M_nc M_nf M_modulus M_side M_size M_cells M_fresh) (W_M kI kZ qM M_nc M_nf M_modulus M_side M_size res M_fresh) := by
  refine zMv.of (by decide +kernel) (Nat.le_of_ble_eq_true rfl) ?_
  intro p e R s m args below meth c Q A hR hx hb hml hts hown hA hK hN hQ
  have hown : s.vm.findClass "SquareCode$Matrices" = some m.cls := hown
  intro ls H hl hP hD hS
  have hl : lv_has ls 5 [(0, .ref (qM 0)), (1, .int a1), (2, .int a2), (3, .int a3), (4, .int a4)] := hl
  rw [f_M_put] at hr
  refine lv_aload_n hx hb d_M_put_0 rfl (lv_at hl 0 rfl) ?_
  refine va_get (D := D) (ci := 2) (v := .ref (qM 1)) (C := R_M) (T := T_M) (N := 5) hx hb hts in_M hown hK hP 0 rfl rfl 3 (by decide) (hts _ kw_28) (fun _ h9 => h9) rfl d_M_put_1 ?_
  refine lv_iload_n hx hb d_M_put_4 rfl (lv_at hl 1 rfl) ?_
  refine lv_aload_n hx hb d_M_put_5 rfl (lv_at hl 0 rfl) ?_
  refine va_get (D := D) (ci := 2) (v := .int M_size) (C := R_M) (T := T_M) (N := 5) hx hb hts in_M hown hK hP 0 rfl rfl 2 (by decide) (hts _ kw_27) (fun _ h9 => h9) rfl d_M_put_6 ?_
  refine lv_imul hx hb d_M_put_9 ?_
  refine lv_iload_n hx hb d_M_put_10 rfl (lv_at hl 2 rfl) ?_
  refine lv_aload_n hx hb d_M_put_11 rfl (lv_at hl 0 rfl) ?_
  refine va_get (D := D) (ci := 2) (v := .int M_side) (C := R_M) (T := T_M) (N := 5) hx hb hts in_M hown hK hP 0 rfl rfl 1 (by decide) (hts _ kw_26) (fun _ h9 => h9) rfl d_M_put_12 ?_
  refine lv_imul hx hb d_M_put_15 ?_
  refine lv_iadd hx hb d_M_put_16 ?_
  refine lv_iload_n hx hb d_M_put_17 rfl (lv_at hl 3 rfl) ?_
  refine lv_iadd hx hb d_M_put_18 ?_
  refine lv_iload hx hb d_M_put_19 (lv_at hl 4 rfl) ?_
  refine lv_aload_n hx hb d_M_put_21 rfl (lv_at hl 0 rfl) ?_
  refine va_get (D := D) (ci := 2) (v := .int M_modulus) (C := R_M) (T := T_M) (N := 5) hx hb hts in_M hown hK hP 0 rfl rfl 0 (by decide) (hts _ kw_25) (fun _ h9 => h9) rfl d_M_put_22 ?_
  obtain ⟨r1, hr1, hr⟩ := ob hr
  refine z_ci (ws := (W_M kI kZ qM M_nc M_nf M_modulus M_side M_size M_cells M_fresh)) (wc := ([] : va_W)) (wr := (W_M kI kZ qM M_nc M_nf M_modulus M_side M_size M_cells M_fresh)) (w1 := ([] : va_W)) (w2 := (W_M kI kZ qM M_nc M_nf M_modulus M_side M_size M_cells M_fresh)) (va_runS (As := [.int a4, .int M_modulus]) (rest := [.int (((a1 * M_size) + (a2 * M_side)) + a3), .ref (qM 1)]) ⟨hx, hb, hml, hown, hts⟩ (c_JM_floorMod l D kI kZ a4 M_modulus r1 hr1 H.size) (z_cwS hts mw_JM_floorMod kw_157 ⟨by rw [hR]; exact Nat.le_of_ble_eq_true rfl, by rw [hR]; exact Nat.le_of_ble_eq_true rfl⟩) (z_pre hK hP hD hN [] (by decide) rfl) rfl rfl hl.1 rfl (lv_room (Nat.le_of_ble_eq_true rfl)) d_M_put_25 ⟨Nat.zero_le _, Nat.zero_le _⟩) hP hD hS hA [] [0, 1, 2] [0, 1, 2] rfl rfl (by decide) (by decide) rfl (by decide) (fun H locs hP hD hS => ?_)
  obtain ⟨hi, hr⟩ := gd_some hr
  refine va_iast hx hb hK hP hD hS 1 0 rfl rfl hi d_M_put_28 (fun H locs hP hD hS => ?_)
  have hP : va_P D zCl (W_M kI kZ qM M_nc M_nf M_modulus M_side M_size (upd M_cells (((a1 * M_size) + (a2 * M_side)) + a3).toNatClampNeg r1) M_fresh) H := hP
  have hD : va_D A (W_M kI kZ qM M_nc M_nf M_modulus M_side M_size (upd M_cells (((a1 * M_size) + (a2 * M_side)) + a3).toNatClampNeg r1) M_fresh) := hD
  obtain rfl := Option.some.inj hr
  exact hQ _ _ _ _ d_M_put_29 hP hD hS
set_option maxHeartbeats 4000000 in
set_option maxRecDepth 100000 in
theorem c_X_rewind (l : Launch) (D : va_G) (kI kZ : ClassId) (qX qM qR qC qP qO qV : Nat → Nat) (M_nc M_nf : Nat) (X_instructionsDone X_isWorkedOut M_modulus M_side M_size : Int32) (M_cells M_fresh : Nat → Int32) (R_length : Int32) (R_words : Nat → Int32) (C_length : Int32) (C_instructions P_registers : Nat → Int32) (O_modulus : Int32) (O_valueOf O_isNeeded O_registerOf : Nat → Int32) (V_length : Int32) (V_instructions : Nat → Int32)  (res : Int32) (hr : f_X_rewind X_instructionsDone = some res) : zMv l D kI kZ y_X_rewind prog_1_method_16_code 1 none 0 0 [.ref (qX 0)] (W_XMRCPOV kI kZ qX qM qR qC qP qO qV M_nc M_nf X_instructionsDone X_isWorkedOut M_modulus M_side M_size M_cells M_fresh R_length R_words C_length C_instructions P_registers O_modulus O_valueOf O_isNeeded O_registerOf V_length V_instructions) (W_XMRCPOV kI kZ qX qM qR qC qP qO qV M_nc M_nf res X_isWorkedOut M_modulus M_side M_size M_cells M_fresh R_length R_words C_length C_instructions P_registers O_modulus O_valueOf O_isNeeded O_registerOf V_length V_instructions) := by
  refine zMv.of (by decide +kernel) (Nat.le_of_ble_eq_true rfl) ?_
  intro p e R s m args below meth c Q A hR hx hb hml hts hown hA hK hN hQ
  have hown : s.vm.findClass "SquareCode" = some m.cls := hown
  intro ls H hl hP hD hS
  have hl : lv_has ls 1 [(0, .ref (qX 0))] := hl
  rw [f_X_rewind] at hr
  refine lv_aload_n hx hb d_X_rewind_0 rfl (lv_at hl 0 rfl) ?_
  refine lv_iconst (v := (0 : Int32)) hx hb d_X_rewind_1 (by decide) ?_
  refine va_put (D := D) (ci := 5) (v := .int (0 : Int32)) (ty := .int) (C := R_X) (T := T_X) (N := 7) hx hb hts in_X ty_X tyo_X nm_X hown hK hP hD hS 0 rfl rfl 5 (by decide) (hts _ kw_108) (fun _ h9 => h9) rfl (by decide +kernel) rfl rfl (Nat.le_of_ble_eq_true rfl) d_X_rewind_2 (fun H locs hP hD hS => ?_)
  have hP : va_P D zCl (W_XMRCPOV kI kZ qX qM qR qC qP qO qV M_nc M_nf (0 : Int32) X_isWorkedOut M_modulus M_side M_size M_cells M_fresh R_length R_words C_length C_instructions P_registers O_modulus O_valueOf O_isNeeded O_registerOf V_length V_instructions) H := hP
  have hD : va_D A (W_XMRCPOV kI kZ qX qM qR qC qP qO qV M_nc M_nf (0 : Int32) X_isWorkedOut M_modulus M_side M_size M_cells M_fresh R_length R_words C_length C_instructions P_registers O_modulus O_valueOf O_isNeeded O_registerOf V_length V_instructions) := hD
  obtain rfl := Option.some.inj hr
  exact hQ _ _ _ _ d_X_rewind_5 hP hD hS
set_option maxHeartbeats 4000000 in
set_option maxRecDepth 100000 in
theorem c_X_setInput (l : Launch) (D : va_G) (kI kZ : ClassId) (qX qM qR qC qP qO qV : Nat → Nat) (M_nc M_nf : Nat) (X_instructionsDone X_isWorkedOut M_modulus M_side M_size : Int32) (M_cells M_fresh : Nat → Int32) (R_length : Int32) (R_words : Nat → Int32) (C_length : Int32) (C_instructions P_registers : Nat → Int32) (O_modulus : Int32) (O_valueOf O_isNeeded O_registerOf : Nat → Int32) (V_length : Int32) (V_instructions : Nat → Int32) (a1 a2 a3 a4 : Int32) (res : Int32 × Int32 × (Nat → Int32)) (hr : f_X_setInput M_nc X_instructionsDone M_modulus M_side M_size M_cells a1 a2 a3 a4 = some res) : zMi l D kI kZ y_X_setInput prog_1_method_3_code 5 ((some .int)) 2 46 [.ref (qX 0), .int a1, .int a2, .int a3, .int a4] (W_XMRCPOV kI kZ qX qM qR qC qP qO qV M_nc M_nf X_instructionsDone X_isWorkedOut M_modulus M_side M_size M_cells M_fresh R_length R_words C_length C_instructions P_registers O_modulus O_valueOf O_isNeeded O_registerOf V_length V_instructions) (W_XMRCPOV kI kZ qX qM qR qC qP qO qV M_nc M_nf (res.2.1) X_isWorkedOut M_modulus M_side M_size (res.2.2) M_fresh R_length R_words C_length C_instructions P_registers O_modulus O_valueOf O_isNeeded O_registerOf V_length V_instructions) (res.1) := by
  refine zMi.of (by decide +kernel) (Nat.le_of_ble_eq_true rfl) ?_
  intro p e R s m args below meth c Q A hR hx hb hml hts hown hA hK hN hQ
  have hown : s.vm.findClass "SquareCode" = some m.cls := hown
  intro ls H hl hP hD hS
  have hl : lv_has ls 5 [(0, .ref (qX 0)), (1, .int a1), (2, .int a2), (3, .int a3), (4, .int a4)] := hl
  rw [f_X_setInput] at hr
  refine lv_iload_n hx hb d_X_setInput_0 rfl (lv_at hl 1 rfl) ?_
  refine lv_if_lt hx hb d_X_setInput_1 rfl (fun hc => ?_) (fun hc => ?_)
  · rw [if_pos hc] at hr
    refine lv_iconst (v := (2 : Int32)) hx hb d_X_setInput_21 (by decide) ?_
    obtain rfl := Option.some.inj hr
    exact hQ _ _ _ _ _ d_X_setInput_22 rfl rfl hP hD hS
  · rw [if_neg hc] at hr
    refine lv_iload_n hx hb d_X_setInput_4 rfl (lv_at hl 1 rfl) ?_
    refine lv_iconst (v := (4 : Int32)) hx hb d_X_setInput_5 (by decide) ?_
    refine lv_icmp_ge hx hb d_X_setInput_6 rfl (fun hc => ?_) (fun hc => ?_)
    · rw [if_pos hc] at hr
      refine lv_iconst (v := (2 : Int32)) hx hb d_X_setInput_21 (by decide) ?_
      obtain rfl := Option.some.inj hr
      exact hQ _ _ _ _ _ d_X_setInput_22 rfl rfl hP hD hS
    · rw [if_neg hc] at hr
      refine lv_aload_n hx hb d_X_setInput_9 rfl (lv_at hl 0 rfl) ?_
      refine va_get (D := D) (ci := 5) (v := .ref (qM 0)) (C := R_X) (T := T_X) (N := 7) hx hb hts in_X hown hK hP 0 rfl rfl 0 (by decide) (hts _ kw_103) (fun _ h9 => h9) rfl d_X_setInput_10 ?_
      refine lv_iload_n hx hb d_X_setInput_13 rfl (lv_at hl 2 rfl) ?_
      refine lv_iload_n hx hb d_X_setInput_14 rfl (lv_at hl 3 rfl) ?_
      obtain ⟨r1, hr1, hr⟩ := ob hr
      refine z_ci (ws := (W_XMRCPOV kI kZ qX qM qR qC qP qO qV M_nc M_nf X_instructionsDone X_isWorkedOut M_modulus M_side M_size M_cells M_fresh R_length R_words C_length C_instructions P_registers O_modulus O_valueOf O_isNeeded O_registerOf V_length V_instructions)) (wc := (W_M kI kZ qM M_nc M_nf M_modulus M_side M_size M_cells M_fresh)) (wr := (W_XRCPOV kI kZ qX qR qC qP qO qV qM X_instructionsDone X_isWorkedOut R_length R_words C_length C_instructions P_registers O_modulus O_valueOf O_isNeeded O_registerOf V_length V_instructions)) (w1 := (W_M kI kZ qM M_nc M_nf M_modulus M_side M_size M_cells M_fresh)) (w2 := (W_XMRCPOV kI kZ qX qM qR qC qP qO qV M_nc M_nf X_instructionsDone X_isWorkedOut M_modulus M_side M_size M_cells M_fresh R_length R_words C_length C_instructions P_registers O_modulus O_valueOf O_isNeeded O_registerOf V_length V_instructions)) (va_runV (As := [.int a2, .int a3]) (rest := []) ⟨hx, hb, hml, hown, hts⟩ (c_M_hasCell l D kI kZ qM M_nc M_nf M_modulus M_side M_size M_cells M_fresh a2 a3 r1 hr1 H.size) (z_cwV hts mw_M_hasCell kw_149 ⟨by rw [hR]; exact Nat.le_of_ble_eq_true rfl, by rw [hR]; exact Nat.le_of_ble_eq_true rfl⟩) (z_preV (ci := 2) hK hP hD hN rfl (he := (rfl : _[1]? = _)) [1, 2, 3] (by decide) rfl) rfl rfl hl.1 rfl (lv_room (Nat.le_of_ble_eq_true rfl)) d_X_setInput_15 ⟨Nat.zero_le _, Nat.zero_le _⟩) hP hD hS hA [1, 2, 3] [0, 4, 5, 6, 7, 8, 9, 10, 11, 12, 13, 14, 15] [0, 13, 14, 15, 1, 2, 3, 4, 5, 6, 7, 8, 9, 10, 11, 12] rfl rfl (by decide) (by decide) rfl (by decide) (fun H locs hP hD hS => ?_)
      refine lv_if_ne hx hb d_X_setInput_18 rfl (fun hc => ?_) (fun hc => ?_)
      · rw [if_neg hc] at hr
        refine lv_aload_n hx hb d_X_setInput_23 rfl (lv_at hl 0 rfl) ?_
        refine va_get (D := D) (ci := 5) (v := .ref (qM 0)) (C := R_X) (T := T_X) (N := 7) hx hb hts in_X hown hK hP 0 rfl rfl 0 (by decide) (hts _ kw_103) (fun _ h9 => h9) rfl d_X_setInput_24 ?_
        refine lv_bipush (v := (40 : Int32)) hx hb d_X_setInput_27 (by decide) ?_
        refine lv_iload_n hx hb d_X_setInput_29 rfl (lv_at hl 1 rfl) ?_
        refine lv_iadd hx hb d_X_setInput_30 ?_
        refine lv_iload_n hx hb d_X_setInput_31 rfl (lv_at hl 2 rfl) ?_
        refine lv_iload_n hx hb d_X_setInput_32 rfl (lv_at hl 3 rfl) ?_
        refine lv_iload hx hb d_X_setInput_33 (lv_at hl 4 rfl) ?_
        obtain ⟨r2, hr2, hr⟩ := ob hr
        refine z_cv (ws := (W_XMRCPOV kI kZ qX qM qR qC qP qO qV M_nc M_nf X_instructionsDone X_isWorkedOut M_modulus M_side M_size M_cells M_fresh R_length R_words C_length C_instructions P_registers O_modulus O_valueOf O_isNeeded O_registerOf V_length V_instructions)) (wc := (W_M kI kZ qM M_nc M_nf M_modulus M_side M_size M_cells M_fresh)) (wr := (W_XRCPOV kI kZ qX qR qC qP qO qV qM X_instructionsDone X_isWorkedOut R_length R_words C_length C_instructions P_registers O_modulus O_valueOf O_isNeeded O_registerOf V_length V_instructions)) (w1 := (W_M kI kZ qM M_nc M_nf M_modulus M_side M_size r2 M_fresh)) (w2 := (W_XMRCPOV kI kZ qX qM qR qC qP qO qV M_nc M_nf X_instructionsDone X_isWorkedOut M_modulus M_side M_size r2 M_fresh R_length R_words C_length C_instructions P_registers O_modulus O_valueOf O_isNeeded O_registerOf V_length V_instructions)) (va_runV (As := [.int ((40 : Int32) + a1), .int a2, .int a3, .int a4]) (rest := []) ⟨hx, hb, hml, hown, hts⟩ (c_M_put l D kI kZ qM M_nc M_nf M_modulus M_side M_size M_cells M_fresh ((40 : Int32) + a1) a2 a3 a4 r2 hr2 H.size) (z_cwV hts mw_M_put kw_153 ⟨by rw [hR]; exact Nat.le_of_ble_eq_true rfl, by rw [hR]; exact Nat.le_of_ble_eq_true rfl⟩) (z_preV (ci := 2) hK hP hD hN rfl (he := (rfl : _[1]? = _)) [1, 2, 3] (by decide) rfl) rfl rfl hl.1 rfl (lv_room (Nat.le_of_ble_eq_true rfl)) d_X_setInput_35 ⟨Nat.zero_le _, Nat.zero_le _⟩) hP hD hS hA [1, 2, 3] [0, 4, 5, 6, 7, 8, 9, 10, 11, 12, 13, 14, 15] [0, 13, 14, 15, 1, 2, 3, 4, 5, 6, 7, 8, 9, 10, 11, 12] rfl rfl (by decide) (by decide) rfl (by decide) (fun H locs hP hD hS => ?_)
        refine lv_aload_n hx hb d_X_setInput_38 rfl (lv_at hl 0 rfl) ?_
        obtain ⟨r3, hr3, hr⟩ := ob hr
        refine z_cv (ws := (W_XMRCPOV kI kZ qX qM qR qC qP qO qV M_nc M_nf X_instructionsDone X_isWorkedOut M_modulus M_side M_size r2 M_fresh R_length R_words C_length C_instructions P_registers O_modulus O_valueOf O_isNeeded O_registerOf V_length V_instructions)) (wc := (W_XMRCPOV kI kZ qX qM qR qC qP qO qV M_nc M_nf X_instructionsDone X_isWorkedOut M_modulus M_side M_size r2 M_fresh R_length R_words C_length C_instructions P_registers O_modulus O_valueOf O_isNeeded O_registerOf V_length V_instructions)) (wr := ([] : va_W)) (w1 := (W_XMRCPOV kI kZ qX qM qR qC qP qO qV M_nc M_nf r3 X_isWorkedOut M_modulus M_side M_size r2 M_fresh R_length R_words C_length C_instructions P_registers O_modulus O_valueOf O_isNeeded O_registerOf V_length V_instructions)) (w2 := (W_XMRCPOV kI kZ qX qM qR qC qP qO qV M_nc M_nf r3 X_isWorkedOut M_modulus M_side M_size r2 M_fresh R_length R_words C_length C_instructions P_registers O_modulus O_valueOf O_isNeeded O_registerOf V_length V_instructions)) (va_runV (As := []) (rest := []) ⟨hx, hb, hml, hown, hts⟩ (c_X_rewind l D kI kZ qX qM qR qC qP qO qV M_nc M_nf X_instructionsDone X_isWorkedOut M_modulus M_side M_size r2 M_fresh R_length R_words C_length C_instructions P_registers O_modulus O_valueOf O_isNeeded O_registerOf V_length V_instructions r3 hr3 H.size) (z_cwV hts mw_X_rewind kw_160 ⟨by rw [hR]; exact Nat.le_of_ble_eq_true rfl, by rw [hR]; exact Nat.le_of_ble_eq_true rfl⟩) (z_preV (ci := 5) hK hP hD hN rfl (he := (rfl : _[0]? = _)) [0, 1, 2, 3, 4, 5, 6, 7, 8, 9, 10, 11, 12, 13, 14, 15] (by decide) rfl) rfl rfl hl.1 rfl (lv_room (Nat.le_of_ble_eq_true rfl)) d_X_setInput_39 ⟨Nat.zero_le _, Nat.zero_le _⟩) hP hD hS hA [0, 1, 2, 3, 4, 5, 6, 7, 8, 9, 10, 11, 12, 13, 14, 15] [] [0, 1, 2, 3, 4, 5, 6, 7, 8, 9, 10, 11, 12, 13, 14, 15] rfl rfl (by decide) (by decide) rfl (by decide) (fun H locs hP hD hS => ?_)
        refine lv_iconst (v := (0 : Int32)) hx hb d_X_setInput_42 (by decide) ?_
        obtain rfl := Option.some.inj hr
        exact hQ _ _ _ _ _ d_X_setInput_43 rfl rfl hP hD hS
      · rw [if_pos hc] at hr
        refine lv_iconst (v := (2 : Int32)) hx hb d_X_setInput_21 (by decide) ?_
        obtain rfl := Option.some.inj hr
        exact hQ _ _ _ _ _ d_X_setInput_22 rfl rfl hP hD hS
set_option maxHeartbeats 4000000 in
set_option maxRecDepth 100000 in
theorem c_R_isWord (l : Launch) (D : va_G) (kI kZ : ClassId)  (a0 : Int32) (res : Int32) (hr : f_R_isWord a0 = some res) : zMi l D kI kZ y_R_isWord prog_6_method_11_code 2 ((some .boolean)) 0 0 [.int a0] ([] : va_W) ([] : va_W) res := by
  refine zMi.of (by decide +kernel) (Nat.le_of_ble_eq_true rfl) ?_
  intro p e R s m args below meth c Q A hR hx hb hml hts hown hA hK hN hQ
  have hown : s.vm.findClass "SquareCode$Source" = some m.cls := hown
  have hB75 : ∀ (v1 : Int32)   (H : Heap) (locs : List Loc) (ls : Array Slot), lv_has ls 2 [(1, .int v1)] → va_P D zCl ([] : va_W) H → va_D A ([] : va_W) → va_S A s.heap H locs → f_R_isWord_75 v1 = some res → W p l e R s m args below meth c H locs 0 0 Q (F0 m 75 ls []) := by
    intro v1 H locs ls hl hP hD hS hr
    rw [f_R_isWord_75] at hr
    refine lv_iload_n hx hb d_R_isWord_75 rfl (lv_at hl 0 rfl) ?_
    refine lv_if_ne hx hb d_R_isWord_76 rfl (fun hc => ?_) (fun hc => ?_)
    · rw [if_neg hc] at hr
      refine lv_iconst (v := (0 : Int32)) hx hb d_R_isWord_83 (by decide) ?_
      obtain rfl := Option.some.inj hr
      exact hQ _ _ _ _ _ d_R_isWord_84 (by decide +kernel) rfl hP hD hS
    · rw [if_pos hc] at hr
      refine lv_iconst (v := (1 : Int32)) hx hb d_R_isWord_79 (by decide) ?_
      refine lv_goto hx hb d_R_isWord_80 rfl ?_
      obtain rfl := Option.some.inj hr
      exact hQ _ _ _ _ _ d_R_isWord_84 (by decide +kernel) rfl hP hD hS
  intro ls H hl hP hD hS
  have hl : lv_has ls 2 [(0, .int a0)] := hl
  rw [f_R_isWord] at hr
  refine lv_iload_n hx hb d_R_isWord_0 rfl (lv_at hl 0 rfl) ?_
  refine lv_if_ge hx hb d_R_isWord_1 rfl (fun hc => ?_) (fun hc => ?_)
  · rw [if_pos hc] at hr
    refine lv_iload_n hx hb d_R_isWord_6 rfl (lv_at hl 0 rfl) ?_
    refine lv_bipush (v := (100 : Int32)) hx hb d_R_isWord_7 (by decide) ?_
    refine z_irem hx hb d_R_isWord_9 (by decide) ?_
    obtain ⟨v1_1, ev1_1, hr⟩ := nm_some hr
    refine z_top ev1_1 ?_
    refine lv_istore_n (lv' := [(1, .int v1_1), (0, .int a0)]) hx hb d_R_isWord_10 rfl hl (by decide) rfl (fun ls hl => ?_)
    refine lv_iload_n hx hb d_R_isWord_11 rfl (lv_at hl 1 rfl) ?_
    refine lv_bipush (v := (100 : Int32)) hx hb d_R_isWord_12 (by decide) ?_
    refine lv_idiv hx hb d_R_isWord_14 (by decide) ?_
    by_cases hs15_0 : (a0 / (100 : Int32)) = (0 : Int32)
    · rw [if_pos hs15_0] at hr
      refine lv_tableIn hx hb d_R_isWord_15 (by rw [hs15_0]; decide) (by rw [hs15_0]; decide) (by rw [hs15_0]; rfl) rfl ?_
      refine lv_iload_n hx hb d_R_isWord_64 rfl (lv_at hl 0 rfl) ?_
      refine lv_iconst (v := (4 : Int32)) hx hb d_R_isWord_65 (by decide) ?_
      refine lv_icmp_ge hx hb d_R_isWord_66 rfl (fun hc => ?_) (fun hc => ?_)
      · rw [if_pos hc] at hr
        refine lv_iconst (v := (0 : Int32)) hx hb d_R_isWord_73 (by decide) ?_
        obtain rfl := Option.some.inj hr
        exact hQ _ _ _ _ _ d_R_isWord_74 (by decide +kernel) rfl hP hD hS
      · rw [if_neg hc] at hr
        refine lv_iconst (v := (1 : Int32)) hx hb d_R_isWord_69 (by decide) ?_
        refine lv_goto hx hb d_R_isWord_70 rfl ?_
        obtain rfl := Option.some.inj hr
        exact hQ _ _ _ _ _ d_R_isWord_74 (by decide +kernel) rfl hP hD hS
    rw [if_neg hs15_0] at hr
    by_cases hs15_1 : (a0 / (100 : Int32)) = (1 : Int32)
    · rw [if_pos hs15_1] at hr
      refine lv_tableIn hx hb d_R_isWord_15 (by rw [hs15_1]; decide) (by rw [hs15_1]; decide) (by rw [hs15_1]; rfl) rfl ?_
      exact hB75 v1_1 _ _ _ (lv_sub hl [0] rfl) hP hD hS hr
    rw [if_neg hs15_1] at hr
    by_cases hs15_2 : (a0 / (100 : Int32)) = (2 : Int32)
    · rw [if_pos hs15_2] at hr
      refine lv_tableIn hx hb d_R_isWord_15 (by rw [hs15_2]; decide) (by rw [hs15_2]; decide) (by rw [hs15_2]; rfl) rfl ?_
      exact hB75 v1_1 _ _ _ (lv_sub hl [0] rfl) hP hD hS hr
    rw [if_neg hs15_2] at hr
    by_cases hs15_3 : (a0 / (100 : Int32)) = (3 : Int32)
    · rw [if_pos hs15_3] at hr
      refine lv_tableIn hx hb d_R_isWord_15 (by rw [hs15_3]; decide) (by rw [hs15_3]; decide) (by rw [hs15_3]; rfl) rfl ?_
      exact hB75 v1_1 _ _ _ (lv_sub hl [0] rfl) hP hD hS hr
    rw [if_neg hs15_3] at hr
    by_cases hs15_4 : (a0 / (100 : Int32)) = (4 : Int32)
    · rw [if_pos hs15_4] at hr
      refine lv_tableIn hx hb d_R_isWord_15 (by rw [hs15_4]; decide) (by rw [hs15_4]; decide) (by rw [hs15_4]; rfl) rfl ?_
      exact hB75 v1_1 _ _ _ (lv_sub hl [0] rfl) hP hD hS hr
    rw [if_neg hs15_4] at hr
    by_cases hs15_5 : (a0 / (100 : Int32)) = (5 : Int32)
    · rw [if_pos hs15_5] at hr
      refine lv_tableIn hx hb d_R_isWord_15 (by rw [hs15_5]; decide) (by rw [hs15_5]; decide) (by rw [hs15_5]; rfl) rfl ?_
      exact hB75 v1_1 _ _ _ (lv_sub hl [0] rfl) hP hD hS hr
    rw [if_neg hs15_5] at hr
    by_cases hs15_6 : (a0 / (100 : Int32)) = (6 : Int32)
    · rw [if_pos hs15_6] at hr
      refine lv_tableIn hx hb d_R_isWord_15 (by rw [hs15_6]; decide) (by rw [hs15_6]; decide) (by rw [hs15_6]; rfl) rfl ?_
      exact hB75 v1_1 _ _ _ (lv_sub hl [0] rfl) hP hD hS hr
    rw [if_neg hs15_6] at hr
    by_cases hs15_7 : (a0 / (100 : Int32)) = (7 : Int32)
    · rw [if_pos hs15_7] at hr
      refine lv_tableIn hx hb d_R_isWord_15 (by rw [hs15_7]; decide) (by rw [hs15_7]; decide) (by rw [hs15_7]; rfl) rfl ?_
      refine lv_iconst (v := (1 : Int32)) hx hb d_R_isWord_85 (by decide) ?_
      obtain rfl := Option.some.inj hr
      exact hQ _ _ _ _ _ d_R_isWord_86 (by decide +kernel) rfl hP hD hS
    rw [if_neg hs15_7] at hr
    by_cases hs15_8 : (a0 / (100 : Int32)) = (8 : Int32)
    · rw [if_pos hs15_8] at hr
      refine lv_tableIn hx hb d_R_isWord_15 (by rw [hs15_8]; decide) (by rw [hs15_8]; decide) (by rw [hs15_8]; rfl) rfl ?_
      refine lv_iconst (v := (1 : Int32)) hx hb d_R_isWord_85 (by decide) ?_
      obtain rfl := Option.some.inj hr
      exact hQ _ _ _ _ _ d_R_isWord_86 (by decide +kernel) rfl hP hD hS
    rw [if_neg hs15_8] at hr
    have hs15_0 := z_ne (k := 0) (by decide) hs15_0
    have hs15_1 := z_ne (k := 1) (by decide) hs15_1
    have hs15_2 := z_ne (k := 2) (by decide) hs15_2
    have hs15_3 := z_ne (k := 3) (by decide) hs15_3
    have hs15_4 := z_ne (k := 4) (by decide) hs15_4
    have hs15_5 := z_ne (k := 5) (by decide) hs15_5
    have hs15_6 := z_ne (k := 6) (by decide) hs15_6
    have hs15_7 := z_ne (k := 7) (by decide) hs15_7
    have hs15_8 := z_ne (k := 8) (by decide) hs15_8
    refine lv_tableOut hx hb d_R_isWord_15 (by omega) rfl ?_
    refine lv_iconst (v := (0 : Int32)) hx hb d_R_isWord_87 (by decide) ?_
    obtain rfl := Option.some.inj hr
    exact hQ _ _ _ _ _ d_R_isWord_88 (by decide +kernel) rfl hP hD hS
  · rw [if_neg hc] at hr
    refine lv_iconst (v := (0 : Int32)) hx hb d_R_isWord_4 (by decide) ?_
    obtain rfl := Option.some.inj hr
    exact hQ _ _ _ _ _ d_R_isWord_5 (by decide +kernel) rfl hP hD hS
set_option maxHeartbeats 4000000 in
set_option maxRecDepth 100000 in
theorem c_R_operation (l : Launch) (D : va_G) (kI kZ : ClassId) (qR : Nat → Nat) (R_length : Int32) (R_words : Nat → Int32) (a1 : Int32) (res : Int32) (hr : f_R_operation R_words a1 = some res) : zMi l D kI kZ y_R_operation prog_6_method_6_code 2 ((some .int)) 0 0 [.ref (qR 0), .int a1] (W_R kI kZ qR R_length R_words) (W_R kI kZ qR R_length R_words) res := by
  refine zMi.of (by decide +kernel) (Nat.le_of_ble_eq_true rfl) ?_
  intro p e R s m args below meth c Q A hR hx hb hml hts hown hA hK hN hQ
  have hown : s.vm.findClass "SquareCode$Source" = some m.cls := hown
  intro ls H hl hP hD hS
  have hl : lv_has ls 2 [(0, .ref (qR 0)), (1, .int a1)] := hl
  rw [f_R_operation] at hr
  refine lv_aload_n hx hb d_R_operation_0 rfl (lv_at hl 0 rfl) ?_
  refine va_get (D := D) (ci := 4) (v := .ref (qR 1)) (C := R_R) (T := T_R) (N := 2) hx hb hts in_R hown hK hP 0 rfl rfl 0 (by decide) (hts _ kw_48) (fun _ h9 => h9) rfl d_R_operation_1 ?_
  refine lv_iload_n hx hb d_R_operation_4 rfl (lv_at hl 1 rfl) ?_
  obtain ⟨hi, hr⟩ := gd_some hr
  refine va_iald hx hb hK hP 1 0 rfl rfl hi d_R_operation_5 ?_
  refine lv_bipush (v := (100 : Int32)) hx hb d_R_operation_6 (by decide) ?_
  refine lv_idiv hx hb d_R_operation_8 (by decide) ?_
  obtain rfl := Option.some.inj hr
  exact hQ _ _ _ _ _ d_R_operation_9 rfl rfl hP hD hS
end
section
set_option maxHeartbeats 4000000 in
set_option maxRecDepth 100000 in
theorem c_X_operandsOf (l : Launch) (D : va_G) (kI kZ : ClassId)  (a0 : Int32) (res : Int32) (hr : f_X_operandsOf a0 = some res) : zMi l D kI kZ y_X_operandsOf prog_1_method_18_code 1 ((some .int)) 0 0 [.int a0] ([] : va_W) ([] : va_W) res := by
  refine zMi.of (by decide +kernel) (Nat.le_of_ble_eq_true rfl) ?_
  intro p e R s m args below meth c Q A hR hx hb hml hts hown hA hK hN hQ
  have hown : s.vm.findClass "SquareCode" = some m.cls := hown
  intro ls H hl hP hD hS
  have hl : lv_has ls 1 [(0, .int a0)] := hl
  rw [f_X_operandsOf] at hr
  refine lv_iload_n hx hb d_X_operandsOf_0 rfl (lv_at hl 0 rfl) ?_
  by_cases hs1_0 : a0 = (0 : Int32)
  · rw [if_pos hs1_0] at hr
    refine lv_tableIn hx hb d_X_operandsOf_1 (by rw [hs1_0]; decide) (by rw [hs1_0]; decide) (by rw [hs1_0]; rfl) rfl ?_
    refine lv_iconst (v := (0 : Int32)) hx hb d_X_operandsOf_40 (by decide) ?_
    obtain rfl := Option.some.inj hr
    exact hQ _ _ _ _ _ d_X_operandsOf_41 rfl rfl hP hD hS
  rw [if_neg hs1_0] at hr
  by_cases hs1_1 : a0 = (1 : Int32)
  · rw [if_pos hs1_1] at hr
    refine lv_tableIn hx hb d_X_operandsOf_1 (by rw [hs1_1]; decide) (by rw [hs1_1]; decide) (by rw [hs1_1]; rfl) rfl ?_
    refine lv_iconst (v := (0 : Int32)) hx hb d_X_operandsOf_40 (by decide) ?_
    obtain rfl := Option.some.inj hr
    exact hQ _ _ _ _ _ d_X_operandsOf_41 rfl rfl hP hD hS
  rw [if_neg hs1_1] at hr
  by_cases hs1_2 : a0 = (2 : Int32)
  · rw [if_pos hs1_2] at hr
    refine lv_tableIn hx hb d_X_operandsOf_1 (by rw [hs1_2]; decide) (by rw [hs1_2]; decide) (by rw [hs1_2]; rfl) rfl ?_
    refine lv_iconst (v := (0 : Int32)) hx hb d_X_operandsOf_40 (by decide) ?_
    obtain rfl := Option.some.inj hr
    exact hQ _ _ _ _ _ d_X_operandsOf_41 rfl rfl hP hD hS
  rw [if_neg hs1_2] at hr
  by_cases hs1_3 : a0 = (3 : Int32)
  · rw [if_pos hs1_3] at hr
    refine lv_tableIn hx hb d_X_operandsOf_1 (by rw [hs1_3]; decide) (by rw [hs1_3]; decide) (by rw [hs1_3]; rfl) rfl ?_
    refine lv_iconst (v := (2 : Int32)) hx hb d_X_operandsOf_42 (by decide) ?_
    obtain rfl := Option.some.inj hr
    exact hQ _ _ _ _ _ d_X_operandsOf_43 rfl rfl hP hD hS
  rw [if_neg hs1_3] at hr
  by_cases hs1_4 : a0 = (4 : Int32)
  · rw [if_pos hs1_4] at hr
    refine lv_tableIn hx hb d_X_operandsOf_1 (by rw [hs1_4]; decide) (by rw [hs1_4]; decide) (by rw [hs1_4]; rfl) rfl ?_
    refine lv_iconst (v := (2 : Int32)) hx hb d_X_operandsOf_42 (by decide) ?_
    obtain rfl := Option.some.inj hr
    exact hQ _ _ _ _ _ d_X_operandsOf_43 rfl rfl hP hD hS
  rw [if_neg hs1_4] at hr
  by_cases hs1_5 : a0 = (5 : Int32)
  · rw [if_pos hs1_5] at hr
    refine lv_tableIn hx hb d_X_operandsOf_1 (by rw [hs1_5]; decide) (by rw [hs1_5]; decide) (by rw [hs1_5]; rfl) rfl ?_
    refine lv_iconst (v := (2 : Int32)) hx hb d_X_operandsOf_42 (by decide) ?_
    obtain rfl := Option.some.inj hr
    exact hQ _ _ _ _ _ d_X_operandsOf_43 rfl rfl hP hD hS
  rw [if_neg hs1_5] at hr
  have hs1_0 := z_ne (k := 0) (by decide) hs1_0
  have hs1_1 := z_ne (k := 1) (by decide) hs1_1
  have hs1_2 := z_ne (k := 2) (by decide) hs1_2
  have hs1_3 := z_ne (k := 3) (by decide) hs1_3
  have hs1_4 := z_ne (k := 4) (by decide) hs1_4
  have hs1_5 := z_ne (k := 5) (by decide) hs1_5
  refine lv_tableOut hx hb d_X_operandsOf_1 (by omega) rfl ?_
  refine lv_iconst (v := (1 : Int32)) hx hb d_X_operandsOf_44 (by decide) ?_
  obtain rfl := Option.some.inj hr
  exact hQ _ _ _ _ _ d_X_operandsOf_45 rfl rfl hP hD hS
set_option maxHeartbeats 4000000 in
set_option maxRecDepth 100000 in
theorem c_R_fault (l : Launch) (D : va_G) (kI kZ : ClassId) (qR : Nat → Nat) (R_length : Int32) (R_words : Nat → Int32)  (res : Int32) (hr : f_R_fault R_words R_length = some res) : zMi l D kI kZ y_R_fault prog_6_method_8_code 4 ((some .int)) 1 21 [.ref (qR 0)] (W_R kI kZ qR R_length R_words) (W_R kI kZ qR R_length R_words) res := by
  refine zMi.of (by decide +kernel) (Nat.le_of_ble_eq_true rfl) ?_
  intro p e R s m args below meth c Q A hR hx hb hml hts hown hA hK hN hQ
  have hown : s.vm.findClass "SquareCode$Source" = some m.cls := hown
  have hB4 : ∀ (fu : Nat) (v1 v2 : Int32) (H : Heap) (locs : List Loc) (ls : Array Slot), lv_has ls 4 [(0, .ref (qR 0)), (1, .int v1), (2, .int v2)] → va_P D zCl (W_R kI kZ qR R_length R_words) H → va_D A (W_R kI kZ qR R_length R_words) → va_S A s.heap H locs → f_R_fault_4 R_words R_length fu v1 v2 = some res → W p l e R s m args below meth c H locs 0 0 Q (F0 m 4 ls []) := by
    intro  fu
    induction fu with
    | zero => intro v1 v2 H locs ls hl hP hD hS hr; exact absurd hr (by rw [f_R_fault_4]; exact fun h => by cases h)
    | succ fu ih =>
      intro v1 v2 H locs ls hl hP hD hS hr
      rw [f_R_fault_4] at hr
      refine lv_iload_n hx hb d_R_fault_4 rfl (lv_at hl 2 rfl) ?_
      refine lv_aload_n hx hb d_R_fault_5 rfl (lv_at hl 0 rfl) ?_
      refine va_get (D := D) (ci := 4) (v := .int R_length) (C := R_R) (T := T_R) (N := 2) hx hb hts in_R hown hK hP 0 rfl rfl 1 (by decide) (hts _ kw_49) (fun _ h9 => h9) rfl d_R_fault_6 ?_
      refine lv_icmp_ge hx hb d_R_fault_9 rfl (fun hc => ?_) (fun hc => ?_)
      · rw [if_pos hc] at hr
        refine lv_iload_n hx hb d_R_fault_54 rfl (lv_at hl 1 rfl) ?_
        refine lv_iconst (v := (1 : Int32)) hx hb d_R_fault_55 (by decide) ?_
        refine lv_icmp_ne hx hb d_R_fault_56 rfl (fun hc => ?_) (fun hc => ?_)
        · rw [if_neg hc] at hr
          refine lv_iconst (v := (5 : Int32)) hx hb d_R_fault_63 (by decide) ?_
          obtain rfl := Option.some.inj hr
          exact hQ _ _ _ _ _ d_R_fault_64 rfl rfl hP hD hS
        · rw [if_pos hc] at hr
          refine lv_iconst (v := (0 : Int32)) hx hb d_R_fault_59 (by decide) ?_
          refine lv_goto hx hb d_R_fault_60 rfl ?_
          obtain rfl := Option.some.inj hr
          exact hQ _ _ _ _ _ d_R_fault_64 rfl rfl hP hD hS
      · rw [if_neg hc] at hr
        refine lv_aload_n hx hb d_R_fault_12 rfl (lv_at hl 0 rfl) ?_
        refine va_get (D := D) (ci := 4) (v := .ref (qR 1)) (C := R_R) (T := T_R) (N := 2) hx hb hts in_R hown hK hP 0 rfl rfl 0 (by decide) (hts _ kw_48) (fun _ h9 => h9) rfl d_R_fault_13 ?_
        refine lv_iload_n hx hb d_R_fault_16 rfl (lv_at hl 2 rfl) ?_
        obtain ⟨hi, hr⟩ := gd_some hr
        refine va_iald hx hb hK hP 1 0 rfl rfl hi d_R_fault_17 ?_
        obtain ⟨r1, hr1, hr⟩ := ob hr
        refine z_ci (ws := (W_R kI kZ qR R_length R_words)) (wc := ([] : va_W)) (wr := (W_R kI kZ qR R_length R_words)) (w1 := ([] : va_W)) (w2 := (W_R kI kZ qR R_length R_words)) (va_runS (As := [.int (R_words v2.toNatClampNeg)]) (rest := []) ⟨hx, hb, hml, hown, hts⟩ (c_R_isWord l D kI kZ (R_words v2.toNatClampNeg) r1 hr1 H.size) (z_cwS hts mw_R_isWord kw_172 ⟨by rw [hR]; exact Nat.le_of_ble_eq_true rfl, by rw [hR]; exact Nat.le_of_ble_eq_true rfl⟩) (z_pre hK hP hD hN [] (by decide) rfl) rfl rfl hl.1 rfl (lv_room (Nat.le_of_ble_eq_true rfl)) d_R_fault_18 ⟨Nat.zero_le _, Nat.zero_le _⟩) hP hD hS hA [] [0, 1] [0, 1] rfl rfl (by decide) (by decide) rfl (by decide) (fun H locs hP hD hS => ?_)
        refine lv_if_ne hx hb d_R_fault_21 rfl (fun hc => ?_) (fun hc => ?_)
        · rw [if_neg hc] at hr
          refine lv_aload_n hx hb d_R_fault_26 rfl (lv_at hl 0 rfl) ?_
          refine lv_iload_n hx hb d_R_fault_27 rfl (lv_at hl 2 rfl) ?_
          obtain ⟨r2, hr2, hr⟩ := ob hr
          refine z_ci (ws := (W_R kI kZ qR R_length R_words)) (wc := (W_R kI kZ qR R_length R_words)) (wr := ([] : va_W)) (w1 := (W_R kI kZ qR R_length R_words)) (w2 := (W_R kI kZ qR R_length R_words)) (va_runV (As := [.int v2]) (rest := []) ⟨hx, hb, hml, hown, hts⟩ (c_R_operation l D kI kZ qR R_length R_words v2 r2 hr2 H.size) (z_cwV hts mw_R_operation kw_175 ⟨by rw [hR]; exact Nat.le_of_ble_eq_true rfl, by rw [hR]; exact Nat.le_of_ble_eq_true rfl⟩) (z_preV (ci := 4) hK hP hD hN rfl (he := (rfl : _[0]? = _)) [0, 1] (by decide) rfl) rfl rfl hl.1 rfl (lv_room (Nat.le_of_ble_eq_true rfl)) d_R_fault_28 ⟨Nat.zero_le _, Nat.zero_le _⟩) hP hD hS hA [0, 1] [] [0, 1] rfl rfl (by decide) (by decide) rfl (by decide) (fun H locs hP hD hS => ?_)
          obtain ⟨r3, hr3, hr⟩ := ob hr
          refine z_ci (ws := (W_R kI kZ qR R_length R_words)) (wc := ([] : va_W)) (wr := (W_R kI kZ qR R_length R_words)) (w1 := ([] : va_W)) (w2 := (W_R kI kZ qR R_length R_words)) (va_runSN (As := [.int r2]) (rest := []) ⟨hx, hb, hml, hown, hts⟩ (c_X_operandsOf l D kI kZ r2 r3 hr3 H.size) (z_cwN hts mw_X_operandsOf (zNestOf 0 hN rfl) ⟨by rw [hR]; exact Nat.le_of_ble_eq_true rfl, by rw [hR]; exact Nat.le_of_ble_eq_true rfl⟩) (z_pre hK hP hD hN [] (by decide) rfl) rfl rfl hl.1 rfl (lv_room (Nat.le_of_ble_eq_true rfl)) d_R_fault_31 ⟨Nat.zero_le _, Nat.zero_le _⟩) hP hD hS hA [] [0, 1] [0, 1] rfl rfl (by decide) (by decide) rfl (by decide) (fun H locs hP hD hS => ?_)
          refine lv_istore_n (lv' := [(3, .int r3), (0, .ref (qR 0)), (1, .int v1), (2, .int v2)]) hx hb d_R_fault_34 rfl hl (by decide) rfl (fun ls hl => ?_)
          refine lv_iload_n hx hb d_R_fault_35 rfl (lv_at hl 2 rfl) ?_
          refine lv_iload_n hx hb d_R_fault_36 rfl (lv_at hl 0 rfl) ?_
          refine lv_icmp_ge hx hb d_R_fault_37 rfl (fun hc => ?_) (fun hc => ?_)
          · rw [if_pos hc] at hr
            refine lv_iload_n hx hb d_R_fault_42 rfl (lv_at hl 2 rfl) ?_
            refine lv_iconst (v := (1 : Int32)) hx hb d_R_fault_43 (by decide) ?_
            refine lv_iload_n hx hb d_R_fault_44 rfl (lv_at hl 0 rfl) ?_
            refine lv_isub hx hb d_R_fault_45 ?_
            refine lv_iadd hx hb d_R_fault_46 ?_
            obtain ⟨v1_4, ev1_4, hr⟩ := nm_some hr
            refine z_top ev1_4 ?_
            refine lv_istore_n (lv' := [(1, .int v1_4), (3, .int r3), (0, .ref (qR 0)), (2, .int v2)]) hx hb d_R_fault_47 rfl hl (by decide) rfl (fun ls hl => ?_)
            refine lv_iinc (k := 3) (v := (v2 + (1 : Int32))) (lv' := [(2, .int (v2 + (1 : Int32))), (1, .int v1_4), (3, .int r3), (0, .ref (qR 0))]) hx hb d_R_fault_48 hl rfl (congrArg (fun z => v2 + z) (by decide : Int32.ofInt 1 = (1 : Int32))) (by decide) rfl (fun ls hl => ?_)
            refine lv_goto hx hb d_R_fault_51 rfl ?_
            exact ih v1_4 (v2 + (1 : Int32)) _ _ _ (lv_sub hl [3, 1, 0] rfl) hP hD hS hr
          · rw [if_neg hc] at hr
            refine lv_iconst (v := (4 : Int32)) hx hb d_R_fault_40 (by decide) ?_
            obtain rfl := Option.some.inj hr
            exact hQ _ _ _ _ _ d_R_fault_41 rfl rfl hP hD hS
        · rw [if_pos hc] at hr
          refine lv_iconst (v := (3 : Int32)) hx hb d_R_fault_24 (by decide) ?_
          obtain rfl := Option.some.inj hr
          exact hQ _ _ _ _ _ d_R_fault_25 rfl rfl hP hD hS
  intro ls H hl hP hD hS
  have hl : lv_has ls 4 [(0, .ref (qR 0))] := hl
  rw [f_R_fault] at hr
  refine lv_iconst (v := (0 : Int32)) hx hb d_R_fault_0 (by decide) ?_
  refine lv_istore_n (lv' := [(1, .int (0 : Int32)), (0, .ref (qR 0))]) hx hb d_R_fault_1 rfl hl (by decide) rfl (fun ls hl => ?_)
  refine lv_iconst (v := (0 : Int32)) hx hb d_R_fault_2 (by decide) ?_
  refine lv_istore_n (lv' := [(2, .int (0 : Int32)), (1, .int (0 : Int32)), (0, .ref (qR 0))]) hx hb d_R_fault_3 rfl hl (by decide) rfl (fun ls hl => ?_)
  exact hB4 zFU (0 : Int32) (0 : Int32) _ _ _ (lv_sub hl [2, 1, 0] rfl) hP hD hS hr
set_option maxHeartbeats 4000000 in
set_option maxRecDepth 100000 in
theorem c_R_number (l : Launch) (D : va_G) (kI kZ : ClassId) (qR : Nat → Nat) (R_length : Int32) (R_words : Nat → Int32) (a1 : Int32) (res : Int32) (hr : f_R_number R_words a1 = some res) : zMi l D kI kZ y_R_number prog_6_method_7_code 2 ((some .int)) 0 0 [.ref (qR 0), .int a1] (W_R kI kZ qR R_length R_words) (W_R kI kZ qR R_length R_words) res := by
  refine zMi.of (by decide +kernel) (Nat.le_of_ble_eq_true rfl) ?_
  intro p e R s m args below meth c Q A hR hx hb hml hts hown hA hK hN hQ
  have hown : s.vm.findClass "SquareCode$Source" = some m.cls := hown
  intro ls H hl hP hD hS
  have hl : lv_has ls 2 [(0, .ref (qR 0)), (1, .int a1)] := hl
  rw [f_R_number] at hr
  refine lv_aload_n hx hb d_R_number_0 rfl (lv_at hl 0 rfl) ?_
  refine va_get (D := D) (ci := 4) (v := .ref (qR 1)) (C := R_R) (T := T_R) (N := 2) hx hb hts in_R hown hK hP 0 rfl rfl 0 (by decide) (hts _ kw_48) (fun _ h9 => h9) rfl d_R_number_1 ?_
  refine lv_iload_n hx hb d_R_number_4 rfl (lv_at hl 1 rfl) ?_
  obtain ⟨hi, hr⟩ := gd_some hr
  refine va_iald hx hb hK hP 1 0 rfl rfl hi d_R_number_5 ?_
  refine lv_bipush (v := (100 : Int32)) hx hb d_R_number_6 (by decide) ?_
  refine z_irem hx hb d_R_number_8 (by decide) ?_
  obtain rfl := Option.some.inj hr
  exact hQ _ _ _ _ _ d_R_number_9 rfl rfl hP hD hS
set_option maxHeartbeats 4000000 in
set_option maxRecDepth 100000 in
theorem c_X_topDigit (l : Launch) (D : va_G) (kI kZ : ClassId)  (a0 : Int32) (res : Int32) (hr : f_X_topDigit a0 = some res) : zMi l D kI kZ y_X_topDigit prog_1_method_19_code 3 ((some .int)) 0 0 [.int a0] ([] : va_W) ([] : va_W) res := by
  refine zMi.of (by decide +kernel) (Nat.le_of_ble_eq_true rfl) ?_
  intro p e R s m args below meth c Q A hR hx hb hml hts hown hA hK hN hQ
  have hown : s.vm.findClass "SquareCode" = some m.cls := hown
  have hB6 : ∀ (fu : Nat) (v1 v2 : Int32) (H : Heap) (locs : List Loc) (ls : Array Slot), lv_has ls 3 [(1, .int v1), (2, .int v2)] → va_P D zCl ([] : va_W) H → va_D A ([] : va_W) → va_S A s.heap H locs → f_X_topDigit_6 fu v1 v2 = some res → W p l e R s m args below meth c H locs 0 0 Q (F0 m 6 ls []) := by
    intro  fu
    induction fu with
    | zero => intro v1 v2 H locs ls hl hP hD hS hr; exact absurd hr (by rw [f_X_topDigit_6]; exact fun h => by cases h)
    | succ fu ih =>
      intro v1 v2 H locs ls hl hP hD hS hr
      rw [f_X_topDigit_6] at hr
      refine lv_iload_n hx hb d_X_topDigit_6 rfl (lv_at hl 1 rfl) ?_
      refine lv_if_le hx hb d_X_topDigit_7 rfl (fun hc => ?_) (fun hc => ?_)
      · rw [if_pos hc] at hr
        refine lv_iload_n hx hb d_X_topDigit_20 rfl (lv_at hl 0 rfl) ?_
        obtain rfl := Option.some.inj hr
        exact hQ _ _ _ _ _ d_X_topDigit_21 rfl rfl hP hD hS
      · rw [if_neg hc] at hr
        refine lv_iinc (k := 0) (v := (v1 + (1 : Int32))) (lv' := [(1, .int (v1 + (1 : Int32))), (2, .int v2)]) hx hb d_X_topDigit_10 hl rfl (congrArg (fun z => v1 + z) (by decide : Int32.ofInt 1 = (1 : Int32))) (by decide) rfl (fun ls hl => ?_)
        refine lv_iload_n hx hb d_X_topDigit_13 rfl (lv_at hl 1 rfl) ?_
        refine lv_iconst (v := (1 : Int32)) hx hb d_X_topDigit_14 (by decide) ?_
        refine lv_ishr hx hb d_X_topDigit_15 ?_
        obtain ⟨v2_1, ev2_1, hr⟩ := nm_some hr
        refine z_top ev2_1 ?_
        refine lv_istore_n (lv' := [(2, .int v2_1), (1, .int (v1 + (1 : Int32)))]) hx hb d_X_topDigit_16 rfl hl (by decide) rfl (fun ls hl => ?_)
        refine lv_goto hx hb d_X_topDigit_17 rfl ?_
        exact ih (v1 + (1 : Int32)) v2_1 _ _ _ (lv_sub hl [1, 0] rfl) hP hD hS hr
  intro ls H hl hP hD hS
  have hl : lv_has ls 3 [(0, .int a0)] := hl
  rw [f_X_topDigit] at hr
  refine lv_iconst (v := (0 : Int32)) hx hb d_X_topDigit_0 (by decide) ?_
  refine lv_istore_n (lv' := [(1, .int (0 : Int32)), (0, .int a0)]) hx hb d_X_topDigit_1 rfl hl (by decide) rfl (fun ls hl => ?_)
  refine lv_iload_n hx hb d_X_topDigit_2 rfl (lv_at hl 1 rfl) ?_
  refine lv_iconst (v := (1 : Int32)) hx hb d_X_topDigit_3 (by decide) ?_
  refine lv_ishr hx hb d_X_topDigit_4 ?_
  obtain ⟨v2_2, ev2_2, hr⟩ := nm_some hr
  refine z_top ev2_2 ?_
  refine lv_istore_n (lv' := [(2, .int v2_2), (1, .int (0 : Int32)), (0, .int a0)]) hx hb d_X_topDigit_5 rfl hl (by decide) rfl (fun ls hl => ?_)
  exact hB6 zFU (0 : Int32) v2_2 _ _ _ (lv_sub hl [1, 0] rfl) hP hD hS hr
set_option maxHeartbeats 4000000 in
set_option maxRecDepth 100000 in
theorem c_JI_bitCount (l : Launch) (D : va_G) (kI kZ : ClassId)  (a0 : Int32) (res : Int32) (hr : f_JI_bitCount a0 = some res) : zMi l D kI kZ y_JI_bitCount prog_9_method_49_code 1 ((some .int)) 0 0 [.int a0] ([] : va_W) ([] : va_W) res := by
  refine zMi.of (by decide +kernel) (Nat.le_of_ble_eq_true rfl) ?_
  intro p e R s m args below meth c Q A hR hx hb hml hts hown hA hK hN hQ
  have hown : s.vm.findClass "java/lang/Integer" = some m.cls := hown
  intro ls H hl hP hD hS
  have hl : lv_has ls 1 [(0, .int a0)] := hl
  rw [f_JI_bitCount] at hr
  refine lv_iload_n hx hb d_JI_bitCount_0 rfl (lv_at hl 0 rfl) ?_
  refine lv_iload_n hx hb d_JI_bitCount_1 rfl (lv_at hl 0 rfl) ?_
  refine lv_iconst (v := (1 : Int32)) hx hb d_JI_bitCount_2 (by decide) ?_
  refine lv_iushr (v := zushr a0 (1 : Int32)) hx hb d_JI_bitCount_3 rfl ?_
  refine lv_ldcw (v := (1431655765 : Int32)) hx hb hown (hts _ kw_199) d_JI_bitCount_4 ?_
  refine lv_iand hx hb d_JI_bitCount_7 ?_
  refine lv_isub hx hb d_JI_bitCount_8 ?_
  obtain ⟨v0_1, ev0_1, hr⟩ := nm_some hr
  refine z_top ev0_1 ?_
  refine lv_istore_n (lv' := [(0, .int v0_1)]) hx hb d_JI_bitCount_9 rfl hl (by decide) rfl (fun ls hl => ?_)
  refine lv_iload_n hx hb d_JI_bitCount_10 rfl (lv_at hl 0 rfl) ?_
  refine lv_ldcw (v := (858993459 : Int32)) hx hb hown (hts _ kw_200) d_JI_bitCount_11 ?_
  refine lv_iand hx hb d_JI_bitCount_14 ?_
  refine lv_iload_n hx hb d_JI_bitCount_15 rfl (lv_at hl 0 rfl) ?_
  refine lv_iconst (v := (2 : Int32)) hx hb d_JI_bitCount_16 (by decide) ?_
  refine lv_iushr (v := zushr v0_1 (2 : Int32)) hx hb d_JI_bitCount_17 rfl ?_
  refine lv_ldcw (v := (858993459 : Int32)) hx hb hown (hts _ kw_200) d_JI_bitCount_18 ?_
  refine lv_iand hx hb d_JI_bitCount_21 ?_
  refine lv_iadd hx hb d_JI_bitCount_22 ?_
  obtain ⟨v0_2, ev0_2, hr⟩ := nm_some hr
  refine z_top ev0_2 ?_
  refine lv_istore_n (lv' := [(0, .int v0_2)]) hx hb d_JI_bitCount_23 rfl hl (by decide) rfl (fun ls hl => ?_)
  refine lv_iload_n hx hb d_JI_bitCount_24 rfl (lv_at hl 0 rfl) ?_
  refine lv_iload_n hx hb d_JI_bitCount_25 rfl (lv_at hl 0 rfl) ?_
  refine lv_iconst (v := (4 : Int32)) hx hb d_JI_bitCount_26 (by decide) ?_
  refine lv_iushr (v := zushr v0_2 (4 : Int32)) hx hb d_JI_bitCount_27 rfl ?_
  refine lv_iadd hx hb d_JI_bitCount_28 ?_
  refine lv_ldcw (v := (252645135 : Int32)) hx hb hown (hts _ kw_201) d_JI_bitCount_29 ?_
  refine lv_iand hx hb d_JI_bitCount_32 ?_
  obtain ⟨v0_3, ev0_3, hr⟩ := nm_some hr
  refine z_top ev0_3 ?_
  refine lv_istore_n (lv' := [(0, .int v0_3)]) hx hb d_JI_bitCount_33 rfl hl (by decide) rfl (fun ls hl => ?_)
  refine lv_iload_n hx hb d_JI_bitCount_34 rfl (lv_at hl 0 rfl) ?_
  refine lv_iload_n hx hb d_JI_bitCount_35 rfl (lv_at hl 0 rfl) ?_
  refine lv_bipush (v := (8 : Int32)) hx hb d_JI_bitCount_36 (by decide) ?_
  refine lv_iushr (v := zushr v0_3 (8 : Int32)) hx hb d_JI_bitCount_38 rfl ?_
  refine lv_iadd hx hb d_JI_bitCount_39 ?_
  obtain ⟨v0_4, ev0_4, hr⟩ := nm_some hr
  refine z_top ev0_4 ?_
  refine lv_istore_n (lv' := [(0, .int v0_4)]) hx hb d_JI_bitCount_40 rfl hl (by decide) rfl (fun ls hl => ?_)
  refine lv_iload_n hx hb d_JI_bitCount_41 rfl (lv_at hl 0 rfl) ?_
  refine lv_iload_n hx hb d_JI_bitCount_42 rfl (lv_at hl 0 rfl) ?_
  refine lv_bipush (v := (16 : Int32)) hx hb d_JI_bitCount_43 (by decide) ?_
  refine lv_iushr (v := zushr v0_4 (16 : Int32)) hx hb d_JI_bitCount_45 rfl ?_
  refine lv_iadd hx hb d_JI_bitCount_46 ?_
  obtain ⟨v0_5, ev0_5, hr⟩ := nm_some hr
  refine z_top ev0_5 ?_
  refine lv_istore_n (lv' := [(0, .int v0_5)]) hx hb d_JI_bitCount_47 rfl hl (by decide) rfl (fun ls hl => ?_)
  refine lv_iload_n hx hb d_JI_bitCount_48 rfl (lv_at hl 0 rfl) ?_
  refine lv_bipush (v := (63 : Int32)) hx hb d_JI_bitCount_49 (by decide) ?_
  refine lv_iand hx hb d_JI_bitCount_51 ?_
  obtain rfl := Option.some.inj hr
  exact hQ _ _ _ _ _ d_JI_bitCount_52 rfl rfl hP hD hS
set_option maxHeartbeats 4000000 in
set_option maxRecDepth 100000 in
theorem c_R_powerInstructions (l : Launch) (D : va_G) (kI kZ : ClassId)  (a0 : Int32) (res : Int32) (hr : f_R_powerInstructions a0 = some res) : zMi l D kI kZ y_R_powerInstructions prog_6_method_10_code 1 ((some .int)) 1 22 [.int a0] ([] : va_W) ([] : va_W) res := by
  refine zMi.of (by decide +kernel) (Nat.le_of_ble_eq_true rfl) ?_
  intro p e R s m args below meth c Q A hR hx hb hml hts hown hA hK hN hQ
  have hown : s.vm.findClass "SquareCode$Source" = some m.cls := hown
  intro ls H hl hP hD hS
  have hl : lv_has ls 1 [(0, .int a0)] := hl
  rw [f_R_powerInstructions] at hr
  refine lv_iload_n hx hb d_R_powerInstructions_0 rfl (lv_at hl 0 rfl) ?_
  refine lv_if_ne hx hb d_R_powerInstructions_1 rfl (fun hc => ?_) (fun hc => ?_)
  · rw [if_neg hc] at hr
    refine lv_iload_n hx hb d_R_powerInstructions_6 rfl (lv_at hl 0 rfl) ?_
    obtain ⟨r1, hr1, hr⟩ := ob hr
    refine z_ci (ws := ([] : va_W)) (wc := ([] : va_W)) (wr := ([] : va_W)) (w1 := ([] : va_W)) (w2 := ([] : va_W)) (va_runSN (As := [.int a0]) (rest := []) ⟨hx, hb, hml, hown, hts⟩ (c_X_topDigit l D kI kZ a0 r1 hr1 H.size) (z_cwN hts mw_X_topDigit (zNestOf 1 hN rfl) ⟨by rw [hR]; exact Nat.le_of_ble_eq_true rfl, by rw [hR]; exact Nat.le_of_ble_eq_true rfl⟩) (z_pre hK hP hD hN [] (by decide) rfl) rfl rfl hl.1 rfl (lv_room (Nat.le_of_ble_eq_true rfl)) d_R_powerInstructions_7 ⟨Nat.zero_le _, Nat.zero_le _⟩) hP hD hS hA [] [] [] rfl rfl (by decide) (by decide) rfl (by decide) (fun H locs hP hD hS => ?_)
    refine lv_iload_n hx hb d_R_powerInstructions_10 rfl (lv_at hl 0 rfl) ?_
    obtain ⟨r2, hr2, hr⟩ := ob hr
    refine z_ci (ws := ([] : va_W)) (wc := ([] : va_W)) (wr := ([] : va_W)) (w1 := ([] : va_W)) (w2 := ([] : va_W)) (va_runS (As := [.int a0]) (rest := [.int r1]) ⟨hx, hb, hml, hown, hts⟩ (c_JI_bitCount l D kI kZ a0 r2 hr2 H.size) (z_cwS hts mw_JI_bitCount kw_196 ⟨by rw [hR]; exact Nat.le_of_ble_eq_true rfl, by rw [hR]; exact Nat.le_of_ble_eq_true rfl⟩) (z_pre hK hP hD hN [] (by decide) rfl) rfl rfl hl.1 rfl (lv_room (Nat.le_of_ble_eq_true rfl)) d_R_powerInstructions_11 ⟨Nat.zero_le _, Nat.zero_le _⟩) hP hD hS hA [] [] [] rfl rfl (by decide) (by decide) rfl (by decide) (fun H locs hP hD hS => ?_)
    refine lv_iadd hx hb d_R_powerInstructions_14 ?_
    refine lv_iconst (v := (1 : Int32)) hx hb d_R_powerInstructions_15 (by decide) ?_
    refine lv_isub hx hb d_R_powerInstructions_16 ?_
    obtain rfl := Option.some.inj hr
    exact hQ _ _ _ _ _ d_R_powerInstructions_17 rfl rfl hP hD hS
  · rw [if_pos hc] at hr
    refine lv_iconst (v := (1 : Int32)) hx hb d_R_powerInstructions_4 (by decide) ?_
    obtain rfl := Option.some.inj hr
    exact hQ _ _ _ _ _ d_R_powerInstructions_5 rfl rfl hP hD hS
set_option maxHeartbeats 4000000 in
set_option maxRecDepth 100000 in
theorem c_R_instructionsNeeded (l : Launch) (D : va_G) (kI kZ : ClassId) (qR : Nat → Nat) (R_length : Int32) (R_words : Nat → Int32)  (res : Int32) (hr : f_R_instructionsNeeded R_words R_length = some res) : zMi l D kI kZ y_R_instructionsNeeded prog_6_method_9_code 3 ((some .int)) 2 42 [.ref (qR 0)] (W_R kI kZ qR R_length R_words) (W_R kI kZ qR R_length R_words) res := by
  refine zMi.of (by decide +kernel) (Nat.le_of_ble_eq_true rfl) ?_
  intro p e R s m args below meth c Q A hR hx hb hml hts hown hA hK hN hQ
  have hown : s.vm.findClass "SquareCode$Source" = some m.cls := hown
  have hB4 : ∀ (fu : Nat) (v1 v2 : Int32) (H : Heap) (locs : List Loc) (ls : Array Slot), lv_has ls 3 [(0, .ref (qR 0)), (1, .int v1), (2, .int v2)] → va_P D zCl (W_R kI kZ qR R_length R_words) H → va_D A (W_R kI kZ qR R_length R_words) → va_S A s.heap H locs → f_R_instructionsNeeded_4 R_words R_length fu v1 v2 = some res → W p l e R s m args below meth c H locs 0 0 Q (F0 m 4 ls []) := by
    intro  fu
    induction fu with
    | zero => intro v1 v2 H locs ls hl hP hD hS hr; exact absurd hr (by rw [f_R_instructionsNeeded_4]; exact fun h => by cases h)
    | succ fu ih =>
      intro v1 v2 H locs ls hl hP hD hS hr
      rw [f_R_instructionsNeeded_4] at hr
      refine lv_iload_n hx hb d_R_instructionsNeeded_4 rfl (lv_at hl 2 rfl) ?_
      refine lv_aload_n hx hb d_R_instructionsNeeded_5 rfl (lv_at hl 0 rfl) ?_
      refine va_get (D := D) (ci := 4) (v := .int R_length) (C := R_R) (T := T_R) (N := 2) hx hb hts in_R hown hK hP 0 rfl rfl 1 (by decide) (hts _ kw_49) (fun _ h9 => h9) rfl d_R_instructionsNeeded_6 ?_
      refine lv_icmp_ge hx hb d_R_instructionsNeeded_9 rfl (fun hc => ?_) (fun hc => ?_)
      · rw [if_pos hc] at hr
        refine lv_iload_n hx hb d_R_instructionsNeeded_43 rfl (lv_at hl 1 rfl) ?_
        obtain rfl := Option.some.inj hr
        exact hQ _ _ _ _ _ d_R_instructionsNeeded_44 rfl rfl hP hD hS
      · rw [if_neg hc] at hr
        refine lv_iload_n hx hb d_R_instructionsNeeded_12 rfl (lv_at hl 1 rfl) ?_
        refine lv_aload_n hx hb d_R_instructionsNeeded_13 rfl (lv_at hl 0 rfl) ?_
        refine lv_iload_n hx hb d_R_instructionsNeeded_14 rfl (lv_at hl 2 rfl) ?_
        obtain ⟨r1, hr1, hr⟩ := ob hr
        refine z_ci (ws := (W_R kI kZ qR R_length R_words)) (wc := (W_R kI kZ qR R_length R_words)) (wr := ([] : va_W)) (w1 := (W_R kI kZ qR R_length R_words)) (w2 := (W_R kI kZ qR R_length R_words)) (va_runV (As := [.int v2]) (rest := [.int v1]) ⟨hx, hb, hml, hown, hts⟩ (c_R_operation l D kI kZ qR R_length R_words v2 r1 hr1 H.size) (z_cwV hts mw_R_operation kw_175 ⟨by rw [hR]; exact Nat.le_of_ble_eq_true rfl, by rw [hR]; exact Nat.le_of_ble_eq_true rfl⟩) (z_preV (ci := 4) hK hP hD hN rfl (he := (rfl : _[0]? = _)) [0, 1] (by decide) rfl) rfl rfl hl.1 rfl (lv_room (Nat.le_of_ble_eq_true rfl)) d_R_instructionsNeeded_15 ⟨Nat.zero_le _, Nat.zero_le _⟩) hP hD hS hA [0, 1] [] [0, 1] rfl rfl (by decide) (by decide) rfl (by decide) (fun H locs hP hD hS => ?_)
        refine lv_bipush (v := (8 : Int32)) hx hb d_R_instructionsNeeded_18 (by decide) ?_
        refine lv_icmp_ne hx hb d_R_instructionsNeeded_20 rfl (fun hc => ?_) (fun hc => ?_)
        · rw [if_neg hc] at hr
          refine lv_iconst (v := (1 : Int32)) hx hb d_R_instructionsNeeded_34 (by decide) ?_
          refine lv_iadd hx hb d_R_instructionsNeeded_35 ?_
          obtain ⟨v1_2, ev1_2, hr⟩ := nm_some hr
          refine z_top ev1_2 ?_
          refine lv_istore_n (lv' := [(1, .int v1_2), (0, .ref (qR 0)), (2, .int v2)]) hx hb d_R_instructionsNeeded_36 rfl hl (by decide) rfl (fun ls hl => ?_)
          refine lv_iinc (k := 2) (v := (v2 + (1 : Int32))) (lv' := [(2, .int (v2 + (1 : Int32))), (1, .int v1_2), (0, .ref (qR 0))]) hx hb d_R_instructionsNeeded_37 hl rfl (congrArg (fun z => v2 + z) (by decide : Int32.ofInt 1 = (1 : Int32))) (by decide) rfl (fun ls hl => ?_)
          refine lv_goto hx hb d_R_instructionsNeeded_40 rfl ?_
          exact ih v1_2 (v2 + (1 : Int32)) _ _ _ (lv_sub hl [2, 1, 0] rfl) hP hD hS hr
        · rw [if_pos hc] at hr
          refine lv_aload_n hx hb d_R_instructionsNeeded_23 rfl (lv_at hl 0 rfl) ?_
          refine lv_iload_n hx hb d_R_instructionsNeeded_24 rfl (lv_at hl 2 rfl) ?_
          obtain ⟨r3, hr3, hr⟩ := ob hr
          refine z_ci (ws := (W_R kI kZ qR R_length R_words)) (wc := (W_R kI kZ qR R_length R_words)) (wr := ([] : va_W)) (w1 := (W_R kI kZ qR R_length R_words)) (w2 := (W_R kI kZ qR R_length R_words)) (va_runV (As := [.int v2]) (rest := [.int v1]) ⟨hx, hb, hml, hown, hts⟩ (c_R_number l D kI kZ qR R_length R_words v2 r3 hr3 H.size) (z_cwV hts mw_R_number kw_186 ⟨by rw [hR]; exact Nat.le_of_ble_eq_true rfl, by rw [hR]; exact Nat.le_of_ble_eq_true rfl⟩) (z_preV (ci := 4) hK hP hD hN rfl (he := (rfl : _[0]? = _)) [0, 1] (by decide) rfl) rfl rfl hl.1 rfl (lv_room (Nat.le_of_ble_eq_true rfl)) d_R_instructionsNeeded_25 ⟨Nat.zero_le _, Nat.zero_le _⟩) hP hD hS hA [0, 1] [] [0, 1] rfl rfl (by decide) (by decide) rfl (by decide) (fun H locs hP hD hS => ?_)
          obtain ⟨r4, hr4, hr⟩ := ob hr
          refine z_ci (ws := (W_R kI kZ qR R_length R_words)) (wc := ([] : va_W)) (wr := (W_R kI kZ qR R_length R_words)) (w1 := ([] : va_W)) (w2 := (W_R kI kZ qR R_length R_words)) (va_runS (As := [.int r3]) (rest := [.int v1]) ⟨hx, hb, hml, hown, hts⟩ (c_R_powerInstructions l D kI kZ r3 r4 hr4 H.size) (z_cwS hts mw_R_powerInstructions kw_190 ⟨by rw [hR]; exact Nat.le_of_ble_eq_true rfl, by rw [hR]; exact Nat.le_of_ble_eq_true rfl⟩) (z_pre hK hP hD hN [] (by decide) rfl) rfl rfl hl.1 rfl (lv_room (Nat.le_of_ble_eq_true rfl)) d_R_instructionsNeeded_28 ⟨Nat.zero_le _, Nat.zero_le _⟩) hP hD hS hA [] [0, 1] [0, 1] rfl rfl (by decide) (by decide) rfl (by decide) (fun H locs hP hD hS => ?_)
          refine lv_goto hx hb d_R_instructionsNeeded_31 rfl ?_
          refine lv_iadd hx hb d_R_instructionsNeeded_35 ?_
          obtain ⟨v1_5, ev1_5, hr⟩ := nm_some hr
          refine z_top ev1_5 ?_
          refine lv_istore_n (lv' := [(1, .int v1_5), (0, .ref (qR 0)), (2, .int v2)]) hx hb d_R_instructionsNeeded_36 rfl hl (by decide) rfl (fun ls hl => ?_)
          refine lv_iinc (k := 2) (v := (v2 + (1 : Int32))) (lv' := [(2, .int (v2 + (1 : Int32))), (1, .int v1_5), (0, .ref (qR 0))]) hx hb d_R_instructionsNeeded_37 hl rfl (congrArg (fun z => v2 + z) (by decide : Int32.ofInt 1 = (1 : Int32))) (by decide) rfl (fun ls hl => ?_)
          refine lv_goto hx hb d_R_instructionsNeeded_40 rfl ?_
          exact ih v1_5 (v2 + (1 : Int32)) _ _ _ (lv_sub hl [2, 1, 0] rfl) hP hD hS hr
  intro ls H hl hP hD hS
  have hl : lv_has ls 3 [(0, .ref (qR 0))] := hl
  rw [f_R_instructionsNeeded] at hr
  refine lv_iconst (v := (0 : Int32)) hx hb d_R_instructionsNeeded_0 (by decide) ?_
  refine lv_istore_n (lv' := [(1, .int (0 : Int32)), (0, .ref (qR 0))]) hx hb d_R_instructionsNeeded_1 rfl hl (by decide) rfl (fun ls hl => ?_)
  refine lv_iconst (v := (0 : Int32)) hx hb d_R_instructionsNeeded_2 (by decide) ?_
  refine lv_istore_n (lv' := [(2, .int (0 : Int32)), (1, .int (0 : Int32)), (0, .ref (qR 0))]) hx hb d_R_instructionsNeeded_3 rfl hl (by decide) rfl (fun ls hl => ?_)
  exact hB4 zFU (0 : Int32) (0 : Int32) _ _ _ (lv_sub hl [2, 1, 0] rfl) hP hD hS hr
set_option maxHeartbeats 4000000 in
set_option maxRecDepth 100000 in
theorem c_C_clear (l : Launch) (D : va_G) (kI kZ : ClassId) (qC : Nat → Nat) (C_length : Int32) (C_instructions : Nat → Int32)  (res : Int32) (hr : f_C_clear C_length = some res) : zMv l D kI kZ y_C_clear prog_2_method_3_code 1 none 0 0 [.ref (qC 0)] (W_C kI kZ qC C_length C_instructions) (W_C kI kZ qC res C_instructions) := by
  refine zMv.of (by decide +kernel) (Nat.le_of_ble_eq_true rfl) ?_
  intro p e R s m args below meth c Q A hR hx hb hml hts hown hA hK hN hQ
  have hown : s.vm.findClass "SquareCode$Code" = some m.cls := hown
  intro ls H hl hP hD hS
  have hl : lv_has ls 1 [(0, .ref (qC 0))] := hl
  rw [f_C_clear] at hr
  refine lv_aload_n hx hb d_C_clear_0 rfl (lv_at hl 0 rfl) ?_
  refine lv_iconst (v := (0 : Int32)) hx hb d_C_clear_1 (by decide) ?_
  refine va_put (D := D) (ci := 0) (v := .int (0 : Int32)) (ty := .int) (C := R_C) (T := T_C) (N := 2) hx hb hts in_C ty_C tyo_C nm_C hown hK hP hD hS 0 rfl rfl 1 (by decide) (hts _ kw_62) (fun _ h9 => h9) rfl (by decide +kernel) rfl rfl (Nat.le_of_ble_eq_true rfl) d_C_clear_2 (fun H locs hP hD hS => ?_)
  have hP : va_P D zCl (W_C kI kZ qC (0 : Int32) C_instructions) H := hP
  have hD : va_D A (W_C kI kZ qC (0 : Int32) C_instructions) := hD
  obtain rfl := Option.some.inj hr
  exact hQ _ _ _ _ d_C_clear_5 hP hD hS
set_option maxHeartbeats 4000000 in
set_option maxRecDepth 100000 in
theorem c_R_length (l : Launch) (D : va_G) (kI kZ : ClassId) (qR : Nat → Nat) (R_length : Int32) (R_words : Nat → Int32)  (res : Int32) (hr : f_R_length R_length = some res) : zMi l D kI kZ y_R_length prog_6_method_2_code 1 ((some .int)) 0 0 [.ref (qR 0)] (W_R kI kZ qR R_length R_words) (W_R kI kZ qR R_length R_words) res := by
  refine zMi.of (by decide +kernel) (Nat.le_of_ble_eq_true rfl) ?_
  intro p e R s m args below meth c Q A hR hx hb hml hts hown hA hK hN hQ
  have hown : s.vm.findClass "SquareCode$Source" = some m.cls := hown
  intro ls H hl hP hD hS
  have hl : lv_has ls 1 [(0, .ref (qR 0))] := hl
  rw [f_R_length] at hr
  refine lv_aload_n hx hb d_R_length_0 rfl (lv_at hl 0 rfl) ?_
  refine va_get (D := D) (ci := 4) (v := .int R_length) (C := R_R) (T := T_R) (N := 2) hx hb hts in_R hown hK hP 0 rfl rfl 1 (by decide) (hts _ kw_49) (fun _ h9 => h9) rfl d_R_length_1 ?_
  obtain rfl := Option.some.inj hr
  exact hQ _ _ _ _ _ d_R_length_4 rfl rfl hP hD hS
set_option maxHeartbeats 4000000 in
set_option maxRecDepth 100000 in
theorem c_C_packed (l : Launch) (D : va_G) (kI kZ : ClassId)  (a0 a1 a2 : Int32) (res : Int32) (hr : f_C_packed a0 a1 a2 = some res) : zMi l D kI kZ y_C_packed prog_2_method_12_code 3 ((some .int)) 0 0 [.int a0, .int a1, .int a2] ([] : va_W) ([] : va_W) res := by
  refine zMi.of (by decide +kernel) (Nat.le_of_ble_eq_true rfl) ?_
  intro p e R s m args below meth c Q A hR hx hb hml hts hown hA hK hN hQ
  have hown : s.vm.findClass "SquareCode$Code" = some m.cls := hown
  intro ls H hl hP hD hS
  have hl : lv_has ls 3 [(0, .int a0), (1, .int a1), (2, .int a2)] := hl
  rw [f_C_packed] at hr
  refine lv_iload_n hx hb d_C_packed_0 rfl (lv_at hl 0 rfl) ?_
  refine lv_bipush (v := (100 : Int32)) hx hb d_C_packed_1 (by decide) ?_
  refine lv_imul hx hb d_C_packed_3 ?_
  refine lv_iload_n hx hb d_C_packed_4 rfl (lv_at hl 1 rfl) ?_
  refine lv_iadd hx hb d_C_packed_5 ?_
  refine lv_bipush (v := (100 : Int32)) hx hb d_C_packed_6 (by decide) ?_
  refine lv_imul hx hb d_C_packed_8 ?_
  refine lv_iload_n hx hb d_C_packed_9 rfl (lv_at hl 2 rfl) ?_
  refine lv_iadd hx hb d_C_packed_10 ?_
  obtain rfl := Option.some.inj hr
  exact hQ _ _ _ _ _ d_C_packed_11 rfl rfl hP hD hS
end
section
set_option maxHeartbeats 4000000 in
set_option maxRecDepth 100000 in
theorem c_C_append (l : Launch) (D : va_G) (kI kZ : ClassId) (qC : Nat → Nat) (C_length : Int32) (C_instructions : Nat → Int32) (a1 a2 a3 : Int32) (res : Int32 × (Nat → Int32) × Int32) (hr : f_C_append C_instructions C_length a1 a2 a3 = some res) : zMi l D kI kZ y_C_append prog_2_method_10_code 4 ((some .int)) 1 22 [.ref (qC 0), .int a1, .int a2, .int a3] (W_C kI kZ qC C_length C_instructions) (W_C kI kZ qC (res.2.2) (res.2.1)) (res.1) := by
  refine zMi.of (by decide +kernel) (Nat.le_of_ble_eq_true rfl) ?_
  intro p e R s m args below meth c Q A hR hx hb hml hts hown hA hK hN hQ
  have hown : s.vm.findClass "SquareCode$Code" = some m.cls := hown
  intro ls H hl hP hD hS
  have hl : lv_has ls 4 [(0, .ref (qC 0)), (1, .int a1), (2, .int a2), (3, .int a3)] := hl
  rw [f_C_append] at hr
  refine lv_aload_n hx hb d_C_append_0 rfl (lv_at hl 0 rfl) ?_
  refine va_get (D := D) (ci := 0) (v := .ref (qC 1)) (C := R_C) (T := T_C) (N := 2) hx hb hts in_C hown hK hP 0 rfl rfl 0 (by decide) (hts _ kw_61) (fun _ h9 => h9) rfl d_C_append_1 ?_
  refine lv_aload_n hx hb d_C_append_4 rfl (lv_at hl 0 rfl) ?_
  refine va_get (D := D) (ci := 0) (v := .int C_length) (C := R_C) (T := T_C) (N := 2) hx hb hts in_C hown hK hP 0 rfl rfl 1 (by decide) (hts _ kw_62) (fun _ h9 => h9) rfl d_C_append_5 ?_
  refine lv_iload_n hx hb d_C_append_8 rfl (lv_at hl 1 rfl) ?_
  refine lv_iload_n hx hb d_C_append_9 rfl (lv_at hl 2 rfl) ?_
  refine lv_iload_n hx hb d_C_append_10 rfl (lv_at hl 3 rfl) ?_
  obtain ⟨r1, hr1, hr⟩ := ob hr
  refine z_ci (ws := (W_C kI kZ qC C_length C_instructions)) (wc := ([] : va_W)) (wr := (W_C kI kZ qC C_length C_instructions)) (w1 := ([] : va_W)) (w2 := (W_C kI kZ qC C_length C_instructions)) (va_runS (As := [.int a1, .int a2, .int a3]) (rest := [.int C_length, .ref (qC 1)]) ⟨hx, hb, hml, hown, hts⟩ (c_C_packed l D kI kZ a1 a2 a3 r1 hr1 H.size) (z_cwS hts mw_C_packed kw_225 ⟨by rw [hR]; exact Nat.le_of_ble_eq_true rfl, by rw [hR]; exact Nat.le_of_ble_eq_true rfl⟩) (z_pre hK hP hD hN [] (by decide) rfl) rfl rfl hl.1 rfl (lv_room (Nat.le_of_ble_eq_true rfl)) d_C_append_11 ⟨Nat.zero_le _, Nat.zero_le _⟩) hP hD hS hA [] [0, 1] [0, 1] rfl rfl (by decide) (by decide) rfl (by decide) (fun H locs hP hD hS => ?_)
  obtain ⟨hi, hr⟩ := gd_some hr
  refine va_iast hx hb hK hP hD hS 1 0 rfl rfl hi d_C_append_14 (fun H locs hP hD hS => ?_)
  have hP : va_P D zCl (W_C kI kZ qC C_length (upd C_instructions C_length.toNatClampNeg r1)) H := hP
  have hD : va_D A (W_C kI kZ qC C_length (upd C_instructions C_length.toNatClampNeg r1)) := hD
  refine lv_aload_n hx hb d_C_append_15 rfl (lv_at hl 0 rfl) ?_
  refine lv_dup hx hb d_C_append_16 rfl ?_
  refine va_get (D := D) (ci := 0) (v := .int C_length) (C := R_C) (T := T_C) (N := 2) hx hb hts in_C hown hK hP 0 rfl rfl 1 (by decide) (hts _ kw_62) (fun _ h9 => h9) rfl d_C_append_17 ?_
  refine lv_iconst (v := (1 : Int32)) hx hb d_C_append_20 (by decide) ?_
  refine lv_iadd hx hb d_C_append_21 ?_
  refine va_put (D := D) (ci := 0) (v := .int (C_length + (1 : Int32))) (ty := .int) (C := R_C) (T := T_C) (N := 2) hx hb hts in_C ty_C tyo_C nm_C hown hK hP hD hS 0 rfl rfl 1 (by decide) (hts _ kw_62) (fun _ h9 => h9) rfl (by decide +kernel) rfl rfl (Nat.le_of_ble_eq_true rfl) d_C_append_22 (fun H locs hP hD hS => ?_)
  have hP : va_P D zCl (W_C kI kZ qC (C_length + (1 : Int32)) (upd C_instructions C_length.toNatClampNeg r1)) H := hP
  have hD : va_D A (W_C kI kZ qC (C_length + (1 : Int32)) (upd C_instructions C_length.toNatClampNeg r1)) := hD
  refine lv_aload_n hx hb d_C_append_25 rfl (lv_at hl 0 rfl) ?_
  refine va_get (D := D) (ci := 0) (v := .int (C_length + (1 : Int32))) (C := R_C) (T := T_C) (N := 2) hx hb hts in_C hown hK hP 0 rfl rfl 1 (by decide) (hts _ kw_62) (fun _ h9 => h9) rfl d_C_append_26 ?_
  refine lv_iconst (v := (1 : Int32)) hx hb d_C_append_29 (by decide) ?_
  refine lv_isub hx hb d_C_append_30 ?_
  obtain rfl := Option.some.inj hr
  exact hQ _ _ _ _ _ d_C_append_31 rfl rfl hP hD hS
set_option maxHeartbeats 4000000 in
set_option maxRecDepth 100000 in
theorem c_X_isDigitOne (l : Launch) (D : va_G) (kI kZ : ClassId)  (a0 a1 : Int32) (res : Int32) (hr : f_X_isDigitOne a0 a1 = some res) : zMi l D kI kZ y_X_isDigitOne prog_1_method_20_code 2 ((some .boolean)) 0 0 [.int a0, .int a1] ([] : va_W) ([] : va_W) res := by
  refine zMi.of (by decide +kernel) (Nat.le_of_ble_eq_true rfl) ?_
  intro p e R s m args below meth c Q A hR hx hb hml hts hown hA hK hN hQ
  have hown : s.vm.findClass "SquareCode" = some m.cls := hown
  intro ls H hl hP hD hS
  have hl : lv_has ls 2 [(0, .int a0), (1, .int a1)] := hl
  rw [f_X_isDigitOne] at hr
  refine lv_iload_n hx hb d_X_isDigitOne_0 rfl (lv_at hl 0 rfl) ?_
  refine lv_iload_n hx hb d_X_isDigitOne_1 rfl (lv_at hl 1 rfl) ?_
  refine lv_ishr hx hb d_X_isDigitOne_2 ?_
  refine lv_iconst (v := (1 : Int32)) hx hb d_X_isDigitOne_3 (by decide) ?_
  refine lv_iand hx hb d_X_isDigitOne_4 ?_
  refine lv_iconst (v := (1 : Int32)) hx hb d_X_isDigitOne_5 (by decide) ?_
  refine lv_icmp_ne hx hb d_X_isDigitOne_6 rfl (fun hc => ?_) (fun hc => ?_)
  · rw [if_neg hc] at hr
    refine lv_iconst (v := (0 : Int32)) hx hb d_X_isDigitOne_13 (by decide) ?_
    obtain rfl := Option.some.inj hr
    exact hQ _ _ _ _ _ d_X_isDigitOne_14 (by decide +kernel) rfl hP hD hS
  · rw [if_pos hc] at hr
    refine lv_iconst (v := (1 : Int32)) hx hb d_X_isDigitOne_9 (by decide) ?_
    refine lv_goto hx hb d_X_isDigitOne_10 rfl ?_
    obtain rfl := Option.some.inj hr
    exact hQ _ _ _ _ _ d_X_isDigitOne_14 (by decide +kernel) rfl hP hD hS
set_option maxHeartbeats 4000000 in
set_option maxRecDepth 100000 in
theorem c_P_powerOf (l : Launch) (D : va_G) (kI kZ : ClassId) (qC : Nat → Nat) (C_length : Int32) (C_instructions : Nat → Int32) (a0 a1 : Int32) (res : Int32 × (Nat → Int32) × Int32) (hr : f_P_powerOf C_instructions C_length a0 a1 = some res) : zMi l D kI kZ y_P_powerOf prog_3_method_4_code 5 ((some .int)) 2 45 [.int a0, .int a1, .ref (qC 0)] (W_C kI kZ qC C_length C_instructions) (W_C kI kZ qC (res.2.2) (res.2.1)) (res.1) := by
  refine zMi.of (by decide +kernel) (Nat.le_of_ble_eq_true rfl) ?_
  intro p e R s m args below meth c Q A hR hx hb hml hts hown hA hK hN hQ
  have hown : s.vm.findClass "SquareCode$Compiler" = some m.cls := hown
  have hB22 : ∀ (fu : Nat) (v3 v4 : Int32) (C_instructions : Nat → Int32) (C_length : Int32) (H : Heap) (locs : List Loc) (ls : Array Slot), lv_has ls 5 [(0, .int a0), (1, .int a1), (2, .ref (qC 0)), (3, .int v3), (4, .int v4)] → va_P D zCl (W_C kI kZ qC C_length C_instructions) H → va_D A (W_C kI kZ qC C_length C_instructions) → va_S A s.heap H locs → f_P_powerOf_22 a0 a1 fu v3 v4 C_instructions C_length = some res → W p l e R s m args below meth c H locs 0 0 Q (F0 m 22 ls []) := by
    intro  fu
    induction fu with
    | zero => intro v3 v4 C_instructions C_length H locs ls hl hP hD hS hr; exact absurd hr (by rw [f_P_powerOf_22]; exact fun h => by cases h)
    | succ fu ih =>
      intro v3 v4 C_instructions C_length H locs ls hl hP hD hS hr
      rw [f_P_powerOf_22] at hr
      refine lv_iload hx hb d_P_powerOf_22 (lv_at hl 4 rfl) ?_
      refine lv_if_lt hx hb d_P_powerOf_24 rfl (fun hc => ?_) (fun hc => ?_)
      · rw [if_pos hc] at hr
        refine lv_iload_n hx hb d_P_powerOf_58 rfl (lv_at hl 3 rfl) ?_
        obtain rfl := Option.some.inj hr
        exact hQ _ _ _ _ _ d_P_powerOf_59 rfl rfl hP hD hS
      · rw [if_neg hc] at hr
        refine lv_aload_n hx hb d_P_powerOf_27 rfl (lv_at hl 2 rfl) ?_
        refine lv_iconst (v := (5 : Int32)) hx hb d_P_powerOf_28 (by decide) ?_
        refine lv_iload_n hx hb d_P_powerOf_29 rfl (lv_at hl 3 rfl) ?_
        refine lv_iload_n hx hb d_P_powerOf_30 rfl (lv_at hl 3 rfl) ?_
        obtain ⟨r1, hr1, hr⟩ := ob hr
        refine z_ci (ws := (W_C kI kZ qC C_length C_instructions)) (wc := (W_C kI kZ qC C_length C_instructions)) (wr := ([] : va_W)) (w1 := (W_C kI kZ qC r1.2.2 r1.2.1)) (w2 := (W_C kI kZ qC r1.2.2 r1.2.1)) (va_runV (As := [.int (5 : Int32), .int v3, .int v3]) (rest := []) ⟨hx, hb, hml, hown, hts⟩ (c_C_append l D kI kZ qC C_length C_instructions (5 : Int32) v3 v3 r1 hr1 H.size) (z_cwV hts mw_C_append kw_221 ⟨by rw [hR]; exact Nat.le_of_ble_eq_true rfl, by rw [hR]; exact Nat.le_of_ble_eq_true rfl⟩) (z_preV (ci := 0) hK hP hD hN rfl (he := (rfl : _[0]? = _)) [0, 1] (by decide) rfl) rfl rfl hl.1 rfl (lv_room (Nat.le_of_ble_eq_true rfl)) d_P_powerOf_31 ⟨Nat.zero_le _, Nat.zero_le _⟩) hP hD hS hA [0, 1] [] [0, 1] rfl rfl (by decide) (by decide) rfl (by decide) (fun H locs hP hD hS => ?_)
        refine lv_istore_n (lv' := [(3, .int r1.1), (0, .int a0), (1, .int a1), (2, .ref (qC 0)), (4, .int v4)]) hx hb d_P_powerOf_34 rfl hl (by decide) rfl (fun ls hl => ?_)
        refine lv_iload_n hx hb d_P_powerOf_35 rfl (lv_at hl 2 rfl) ?_
        refine lv_iload hx hb d_P_powerOf_36 (lv_at hl 4 rfl) ?_
        obtain ⟨r2, hr2, hr⟩ := ob hr
        refine z_ci (ws := (W_C kI kZ qC r1.2.2 r1.2.1)) (wc := ([] : va_W)) (wr := (W_C kI kZ qC r1.2.2 r1.2.1)) (w1 := ([] : va_W)) (w2 := (W_C kI kZ qC r1.2.2 r1.2.1)) (va_runSN (As := [.int a1, .int v4]) (rest := []) ⟨hx, hb, hml, hown, hts⟩ (c_X_isDigitOne l D kI kZ a1 v4 r2 hr2 H.size) (z_cwN hts mw_X_isDigitOne (zNestOf 4 hN rfl) ⟨by rw [hR]; exact Nat.le_of_ble_eq_true rfl, by rw [hR]; exact Nat.le_of_ble_eq_true rfl⟩) (z_pre hK hP hD hN [] (by decide) rfl) rfl rfl hl.1 rfl (lv_room (Nat.le_of_ble_eq_true rfl)) d_P_powerOf_38 ⟨Nat.zero_le _, Nat.zero_le _⟩) hP hD hS hA [] [0, 1] [0, 1] rfl rfl (by decide) (by decide) rfl (by decide) (fun H locs hP hD hS => ?_)
        refine lv_if_eq hx hb d_P_powerOf_41 rfl (fun hc => ?_) (fun hc => ?_)
        · rw [if_pos hc] at hr
          refine lv_iinc (k := 4) (v := (v4 + (-1 : Int32))) (lv' := [(4, .int (v4 + (-1 : Int32))), (3, .int r1.1), (0, .int a0), (1, .int a1), (2, .ref (qC 0))]) hx hb d_P_powerOf_52 hl rfl (congrArg (fun z => v4 + z) (by decide : Int32.ofInt (-1) = (-1 : Int32))) (by decide) rfl (fun ls hl => ?_)
          refine lv_goto hx hb d_P_powerOf_55 rfl ?_
          exact ih r1.1 (v4 + (-1 : Int32)) r1.2.1 r1.2.2 _ _ _ (lv_sub hl [2, 3, 4, 1, 0] rfl) hP hD hS hr
        · rw [if_neg hc] at hr
          refine lv_aload_n hx hb d_P_powerOf_44 rfl (lv_at hl 3 rfl) ?_
          refine lv_iconst (v := (5 : Int32)) hx hb d_P_powerOf_45 (by decide) ?_
          refine lv_iload_n hx hb d_P_powerOf_46 rfl (lv_at hl 0 rfl) ?_
          refine lv_iload_n hx hb d_P_powerOf_47 rfl (lv_at hl 1 rfl) ?_
          obtain ⟨r3, hr3, hr⟩ := ob hr
          refine z_ci (ws := (W_C kI kZ qC r1.2.2 r1.2.1)) (wc := (W_C kI kZ qC r1.2.2 r1.2.1)) (wr := ([] : va_W)) (w1 := (W_C kI kZ qC r3.2.2 r3.2.1)) (w2 := (W_C kI kZ qC r3.2.2 r3.2.1)) (va_runV (As := [.int (5 : Int32), .int r1.1, .int a0]) (rest := []) ⟨hx, hb, hml, hown, hts⟩ (c_C_append l D kI kZ qC r1.2.2 r1.2.1 (5 : Int32) r1.1 a0 r3 hr3 H.size) (z_cwV hts mw_C_append kw_221 ⟨by rw [hR]; exact Nat.le_of_ble_eq_true rfl, by rw [hR]; exact Nat.le_of_ble_eq_true rfl⟩) (z_preV (ci := 0) hK hP hD hN rfl (he := (rfl : _[0]? = _)) [0, 1] (by decide) rfl) rfl rfl hl.1 rfl (lv_room (Nat.le_of_ble_eq_true rfl)) d_P_powerOf_48 ⟨Nat.zero_le _, Nat.zero_le _⟩) hP hD hS hA [0, 1] [] [0, 1] rfl rfl (by decide) (by decide) rfl (by decide) (fun H locs hP hD hS => ?_)
          refine lv_istore_n (lv' := [(3, .int r3.1), (0, .int a0), (1, .int a1), (2, .ref (qC 0)), (4, .int v4)]) hx hb d_P_powerOf_51 rfl hl (by decide) rfl (fun ls hl => ?_)
          refine lv_iinc (k := 4) (v := (v4 + (-1 : Int32))) (lv' := [(4, .int (v4 + (-1 : Int32))), (3, .int r3.1), (0, .int a0), (1, .int a1), (2, .ref (qC 0))]) hx hb d_P_powerOf_52 hl rfl (congrArg (fun z => v4 + z) (by decide : Int32.ofInt (-1) = (-1 : Int32))) (by decide) rfl (fun ls hl => ?_)
          refine lv_goto hx hb d_P_powerOf_55 rfl ?_
          exact ih r3.1 (v4 + (-1 : Int32)) r3.2.1 r3.2.2 _ _ _ (lv_sub hl [2, 3, 4, 1, 0] rfl) hP hD hS hr
  intro ls H hl hP hD hS
  have hl : lv_has ls 5 [(0, .int a0), (1, .int a1), (2, .ref (qC 0))] := hl
  rw [f_P_powerOf] at hr
  refine lv_iload_n hx hb d_P_powerOf_0 rfl (lv_at hl 1 rfl) ?_
  refine lv_if_ne hx hb d_P_powerOf_1 rfl (fun hc => ?_) (fun hc => ?_)
  · rw [if_neg hc] at hr
    refine lv_iload_n hx hb d_P_powerOf_12 rfl (lv_at hl 0 rfl) ?_
    refine lv_istore_n (lv' := [(3, .int a0), (0, .int a0), (1, .int a1), (2, .ref (qC 0))]) hx hb d_P_powerOf_13 rfl hl (by decide) rfl (fun ls hl => ?_)
    refine lv_iload_n hx hb d_P_powerOf_14 rfl (lv_at hl 2 rfl) ?_
    obtain ⟨r4, hr4, hr⟩ := ob hr
    refine z_ci (ws := (W_C kI kZ qC C_length C_instructions)) (wc := ([] : va_W)) (wr := (W_C kI kZ qC C_length C_instructions)) (w1 := ([] : va_W)) (w2 := (W_C kI kZ qC C_length C_instructions)) (va_runSN (As := [.int a1]) (rest := []) ⟨hx, hb, hml, hown, hts⟩ (c_X_topDigit l D kI kZ a1 r4 hr4 H.size) (z_cwN hts mw_X_topDigit (zNestOf 3 hN rfl) ⟨by rw [hR]; exact Nat.le_of_ble_eq_true rfl, by rw [hR]; exact Nat.le_of_ble_eq_true rfl⟩) (z_pre hK hP hD hN [] (by decide) rfl) rfl rfl hl.1 rfl (lv_room (Nat.le_of_ble_eq_true rfl)) d_P_powerOf_15 ⟨Nat.zero_le _, Nat.zero_le _⟩) hP hD hS hA [] [0, 1] [0, 1] rfl rfl (by decide) (by decide) rfl (by decide) (fun H locs hP hD hS => ?_)
    refine lv_iconst (v := (1 : Int32)) hx hb d_P_powerOf_18 (by decide) ?_
    refine lv_isub hx hb d_P_powerOf_19 ?_
    obtain ⟨v4_5, ev4_5, hr⟩ := nm_some hr
    refine z_top ev4_5 ?_
    refine lv_istore (lv' := [(4, .int v4_5), (3, .int a0), (0, .int a0), (1, .int a1), (2, .ref (qC 0))]) hx hb d_P_powerOf_20 hl (by decide) rfl (fun ls hl => ?_)
    exact hB22 zFU a0 v4_5 C_instructions C_length _ _ _ (lv_sub hl [2, 3, 4, 1, 0] rfl) hP hD hS hr
  · rw [if_pos hc] at hr
    refine lv_aload_n hx hb d_P_powerOf_4 rfl (lv_at hl 2 rfl) ?_
    refine lv_iconst (v := (1 : Int32)) hx hb d_P_powerOf_5 (by decide) ?_
    refine lv_iconst (v := (0 : Int32)) hx hb d_P_powerOf_6 (by decide) ?_
    refine lv_iconst (v := (0 : Int32)) hx hb d_P_powerOf_7 (by decide) ?_
    obtain ⟨r6, hr6, hr⟩ := ob hr
    refine z_ci (ws := (W_C kI kZ qC C_length C_instructions)) (wc := (W_C kI kZ qC C_length C_instructions)) (wr := ([] : va_W)) (w1 := (W_C kI kZ qC r6.2.2 r6.2.1)) (w2 := (W_C kI kZ qC r6.2.2 r6.2.1)) (va_runV (As := [.int (1 : Int32), .int (0 : Int32), .int (0 : Int32)]) (rest := []) ⟨hx, hb, hml, hown, hts⟩ (c_C_append l D kI kZ qC C_length C_instructions (1 : Int32) (0 : Int32) (0 : Int32) r6 hr6 H.size) (z_cwV hts mw_C_append kw_221 ⟨by rw [hR]; exact Nat.le_of_ble_eq_true rfl, by rw [hR]; exact Nat.le_of_ble_eq_true rfl⟩) (z_preV (ci := 0) hK hP hD hN rfl (he := (rfl : _[0]? = _)) [0, 1] (by decide) rfl) rfl rfl hl.1 rfl (lv_room (Nat.le_of_ble_eq_true rfl)) d_P_powerOf_8 ⟨Nat.zero_le _, Nat.zero_le _⟩) hP hD hS hA [0, 1] [] [0, 1] rfl rfl (by decide) (by decide) rfl (by decide) (fun H locs hP hD hS => ?_)
    obtain rfl := Option.some.inj hr
    exact hQ _ _ _ _ _ d_P_powerOf_11 rfl rfl hP hD hS
set_option maxHeartbeats 4000000 in
set_option maxRecDepth 100000 in
theorem c_P_instructionsFor (l : Launch) (D : va_G) (kI kZ : ClassId) (qC qP : Nat → Nat) (C_length : Int32) (C_instructions P_registers : Nat → Int32) (a1 a2 a3 : Int32) (res : Int32 × (Nat → Int32) × Int32) (hr : f_P_instructionsFor C_instructions C_length P_registers a1 a2 a3 = some res) : zMi l D kI kZ y_P_instructionsFor prog_3_method_3_code 5 ((some .int)) 3 69 [.ref (qP 0), .int a1, .int a2, .int a3, .ref (qC 0)] (W_CP kI kZ qC qP C_length C_instructions P_registers) (W_CP kI kZ qC qP (res.2.2) (res.2.1) P_registers) (res.1) := by
  refine zMi.of (by decide +kernel) (Nat.le_of_ble_eq_true rfl) ?_
  intro p e R s m args below meth c Q A hR hx hb hml hts hown hA hK hN hQ
  have hown : s.vm.findClass "SquareCode$Compiler" = some m.cls := hown
  have hB52 : ∀ (C_instructions : Nat → Int32) (C_length : Int32)   (H : Heap) (locs : List Loc) (ls : Array Slot), lv_has ls 5 [(1, .int a1), (2, .int a2), (4, .ref (qC 0))] → va_P D zCl (W_CP kI kZ qC qP C_length C_instructions P_registers) H → va_D A (W_CP kI kZ qC qP C_length C_instructions P_registers) → va_S A s.heap H locs → f_P_instructionsFor_52 a1 a2 C_instructions C_length = some res → W p l e R s m args below meth c H locs 0 0 Q (F0 m 52 ls []) := by
    intro C_instructions C_length H locs ls hl hP hD hS hr
    rw [f_P_instructionsFor_52] at hr
    refine lv_aload hx hb d_P_instructionsFor_52 (lv_at hl 2 rfl) ?_
    refine lv_iload_n hx hb d_P_instructionsFor_54 rfl (lv_at hl 0 rfl) ?_
    refine lv_iconst (v := (0 : Int32)) hx hb d_P_instructionsFor_55 (by decide) ?_
    refine lv_iload_n hx hb d_P_instructionsFor_56 rfl (lv_at hl 1 rfl) ?_
    obtain ⟨r1, hr1, hr⟩ := ob hr
    refine z_ci (ws := (W_CP kI kZ qC qP C_length C_instructions P_registers)) (wc := (W_C kI kZ qC C_length C_instructions)) (wr := (W_P kI kZ qP P_registers)) (w1 := (W_C kI kZ qC r1.2.2 r1.2.1)) (w2 := (W_CP kI kZ qC qP r1.2.2 r1.2.1 P_registers)) (va_runV (As := [.int a1, .int (0 : Int32), .int a2]) (rest := []) ⟨hx, hb, hml, hown, hts⟩ (c_C_append l D kI kZ qC C_length C_instructions a1 (0 : Int32) a2 r1 hr1 H.size) (z_cwV hts mw_C_append kw_221 ⟨by rw [hR]; exact Nat.le_of_ble_eq_true rfl, by rw [hR]; exact Nat.le_of_ble_eq_true rfl⟩) (z_preV (ci := 0) hK hP hD hN rfl (he := (rfl : _[0]? = _)) [0, 1] (by decide) rfl) rfl rfl hl.1 rfl (lv_room (Nat.le_of_ble_eq_true rfl)) d_P_instructionsFor_57 ⟨Nat.zero_le _, Nat.zero_le _⟩) hP hD hS hA [0, 1] [2, 3] [2, 3, 0, 1] rfl rfl (by decide) (by decide) rfl (by decide) (fun H locs hP hD hS => ?_)
    obtain rfl := Option.some.inj hr
    exact hQ _ _ _ _ _ d_P_instructionsFor_60 rfl rfl hP hD hS
  have hB61 : ∀ (C_instructions : Nat → Int32) (C_length : Int32)   (H : Heap) (locs : List Loc) (ls : Array Slot), lv_has ls 5 [(0, .ref (qP 0)), (1, .int a1), (3, .int a3), (4, .ref (qC 0))] → va_P D zCl (W_CP kI kZ qC qP C_length C_instructions P_registers) H → va_D A (W_CP kI kZ qC qP C_length C_instructions P_registers) → va_S A s.heap H locs → f_P_instructionsFor_61 P_registers a1 a3 C_instructions C_length = some res → W p l e R s m args below meth c H locs 0 0 Q (F0 m 61 ls []) := by
    intro C_instructions C_length H locs ls hl hP hD hS hr
    rw [f_P_instructionsFor_61] at hr
    refine lv_aload hx hb d_P_instructionsFor_61 (lv_at hl 3 rfl) ?_
    refine lv_iload_n hx hb d_P_instructionsFor_63 rfl (lv_at hl 1 rfl) ?_
    refine lv_aload_n hx hb d_P_instructionsFor_64 rfl (lv_at hl 0 rfl) ?_
    refine va_get (D := D) (ci := 1) (v := .ref (qP 1)) (C := R_P) (T := T_P) (N := 1) hx hb hts in_P hown hK hP 2 rfl rfl 0 (by decide) (hts _ kw_74) (fun _ h9 => h9) rfl d_P_instructionsFor_65 ?_
    refine lv_iload_n hx hb d_P_instructionsFor_68 rfl (lv_at hl 2 rfl) ?_
    obtain ⟨hi, hr⟩ := gd_some hr
    refine va_iald hx hb hK hP 3 0 rfl rfl hi d_P_instructionsFor_69 ?_
    refine lv_aload_n hx hb d_P_instructionsFor_70 rfl (lv_at hl 0 rfl) ?_
    refine va_get (D := D) (ci := 1) (v := .ref (qP 1)) (C := R_P) (T := T_P) (N := 1) hx hb hts in_P hown hK hP 2 rfl rfl 0 (by decide) (hts _ kw_74) (fun _ h9 => h9) rfl d_P_instructionsFor_71 ?_
    refine lv_iload_n hx hb d_P_instructionsFor_74 rfl (lv_at hl 2 rfl) ?_
    refine lv_iconst (v := (1 : Int32)) hx hb d_P_instructionsFor_75 (by decide) ?_
    refine lv_iadd hx hb d_P_instructionsFor_76 ?_
    obtain ⟨hi, hr⟩ := gd_some hr
    refine va_iald hx hb hK hP 3 0 rfl rfl hi d_P_instructionsFor_77 ?_
    obtain ⟨r2, hr2, hr⟩ := ob hr
    refine z_ci (ws := (W_CP kI kZ qC qP C_length C_instructions P_registers)) (wc := (W_C kI kZ qC C_length C_instructions)) (wr := (W_P kI kZ qP P_registers)) (w1 := (W_C kI kZ qC r2.2.2 r2.2.1)) (w2 := (W_CP kI kZ qC qP r2.2.2 r2.2.1 P_registers)) (va_runV (As := [.int a1, .int (P_registers a3.toNatClampNeg), .int (P_registers (a3 + (1 : Int32)).toNatClampNeg)]) (rest := []) ⟨hx, hb, hml, hown, hts⟩ (c_C_append l D kI kZ qC C_length C_instructions a1 (P_registers a3.toNatClampNeg) (P_registers (a3 + (1 : Int32)).toNatClampNeg) r2 hr2 H.size) (z_cwV hts mw_C_append kw_221 ⟨by rw [hR]; exact Nat.le_of_ble_eq_true rfl, by rw [hR]; exact Nat.le_of_ble_eq_true rfl⟩) (z_preV (ci := 0) hK hP hD hN rfl (he := (rfl : _[0]? = _)) [0, 1] (by decide) rfl) rfl rfl hl.1 rfl (lv_room (Nat.le_of_ble_eq_true rfl)) d_P_instructionsFor_78 ⟨Nat.zero_le _, Nat.zero_le _⟩) hP hD hS hA [0, 1] [2, 3] [2, 3, 0, 1] rfl rfl (by decide) (by decide) rfl (by decide) (fun H locs hP hD hS => ?_)
    obtain rfl := Option.some.inj hr
    exact hQ _ _ _ _ _ d_P_instructionsFor_81 rfl rfl hP hD hS
  have hB95 : ∀ (C_instructions : Nat → Int32) (C_length : Int32)   (H : Heap) (locs : List Loc) (ls : Array Slot), lv_has ls 5 [(0, .ref (qP 0)), (1, .int a1), (2, .int a2), (3, .int a3), (4, .ref (qC 0))] → va_P D zCl (W_CP kI kZ qC qP C_length C_instructions P_registers) H → va_D A (W_CP kI kZ qC qP C_length C_instructions P_registers) → va_S A s.heap H locs → f_P_instructionsFor_95 P_registers a1 a2 a3 C_instructions C_length = some res → W p l e R s m args below meth c H locs 0 0 Q (F0 m 95 ls []) := by
    intro C_instructions C_length H locs ls hl hP hD hS hr
    rw [f_P_instructionsFor_95] at hr
    refine lv_aload hx hb d_P_instructionsFor_95 (lv_at hl 4 rfl) ?_
    refine lv_iload_n hx hb d_P_instructionsFor_97 rfl (lv_at hl 1 rfl) ?_
    refine lv_aload_n hx hb d_P_instructionsFor_98 rfl (lv_at hl 0 rfl) ?_
    refine va_get (D := D) (ci := 1) (v := .ref (qP 1)) (C := R_P) (T := T_P) (N := 1) hx hb hts in_P hown hK hP 2 rfl rfl 0 (by decide) (hts _ kw_74) (fun _ h9 => h9) rfl d_P_instructionsFor_99 ?_
    refine lv_iload_n hx hb d_P_instructionsFor_102 rfl (lv_at hl 3 rfl) ?_
    obtain ⟨hi, hr⟩ := gd_some hr
    refine va_iald hx hb hK hP 3 0 rfl rfl hi d_P_instructionsFor_103 ?_
    refine lv_iload_n hx hb d_P_instructionsFor_104 rfl (lv_at hl 2 rfl) ?_
    obtain ⟨r3, hr3, hr⟩ := ob hr
    refine z_ci (ws := (W_CP kI kZ qC qP C_length C_instructions P_registers)) (wc := (W_C kI kZ qC C_length C_instructions)) (wr := (W_P kI kZ qP P_registers)) (w1 := (W_C kI kZ qC r3.2.2 r3.2.1)) (w2 := (W_CP kI kZ qC qP r3.2.2 r3.2.1 P_registers)) (va_runV (As := [.int a1, .int (P_registers a3.toNatClampNeg), .int a2]) (rest := []) ⟨hx, hb, hml, hown, hts⟩ (c_C_append l D kI kZ qC C_length C_instructions a1 (P_registers a3.toNatClampNeg) a2 r3 hr3 H.size) (z_cwV hts mw_C_append kw_221 ⟨by rw [hR]; exact Nat.le_of_ble_eq_true rfl, by rw [hR]; exact Nat.le_of_ble_eq_true rfl⟩) (z_preV (ci := 0) hK hP hD hN rfl (he := (rfl : _[0]? = _)) [0, 1] (by decide) rfl) rfl rfl hl.1 rfl (lv_room (Nat.le_of_ble_eq_true rfl)) d_P_instructionsFor_105 ⟨Nat.zero_le _, Nat.zero_le _⟩) hP hD hS hA [0, 1] [2, 3] [2, 3, 0, 1] rfl rfl (by decide) (by decide) rfl (by decide) (fun H locs hP hD hS => ?_)
    obtain rfl := Option.some.inj hr
    exact hQ _ _ _ _ _ d_P_instructionsFor_108 rfl rfl hP hD hS
  intro ls H hl hP hD hS
  have hl : lv_has ls 5 [(0, .ref (qP 0)), (1, .int a1), (2, .int a2), (3, .int a3), (4, .ref (qC 0))] := hl
  rw [f_P_instructionsFor] at hr
  refine lv_iload_n hx hb d_P_instructionsFor_0 rfl (lv_at hl 1 rfl) ?_
  by_cases hs1_0 : a1 = (0 : Int32)
  · rw [if_pos hs1_0] at hr
    refine lv_tableIn hx hb d_P_instructionsFor_1 (by rw [hs1_0]; decide) (by rw [hs1_0]; decide) (by rw [hs1_0]; rfl) rfl ?_
    exact hB52 C_instructions C_length _ _ _ (lv_sub hl [1, 2, 4] rfl) hP hD hS hr
  rw [if_neg hs1_0] at hr
  by_cases hs1_1 : a1 = (1 : Int32)
  · rw [if_pos hs1_1] at hr
    refine lv_tableIn hx hb d_P_instructionsFor_1 (by rw [hs1_1]; decide) (by rw [hs1_1]; decide) (by rw [hs1_1]; rfl) rfl ?_
    exact hB52 C_instructions C_length _ _ _ (lv_sub hl [1, 2, 4] rfl) hP hD hS hr
  rw [if_neg hs1_1] at hr
  by_cases hs1_2 : a1 = (2 : Int32)
  · rw [if_pos hs1_2] at hr
    refine lv_tableIn hx hb d_P_instructionsFor_1 (by rw [hs1_2]; decide) (by rw [hs1_2]; decide) (by rw [hs1_2]; rfl) rfl ?_
    exact hB52 C_instructions C_length _ _ _ (lv_sub hl [1, 2, 4] rfl) hP hD hS hr
  rw [if_neg hs1_2] at hr
  by_cases hs1_3 : a1 = (3 : Int32)
  · rw [if_pos hs1_3] at hr
    refine lv_tableIn hx hb d_P_instructionsFor_1 (by rw [hs1_3]; decide) (by rw [hs1_3]; decide) (by rw [hs1_3]; rfl) rfl ?_
    exact hB61 C_instructions C_length _ _ _ (lv_sub hl [0, 1, 3, 4] rfl) hP hD hS hr
  rw [if_neg hs1_3] at hr
  by_cases hs1_4 : a1 = (4 : Int32)
  · rw [if_pos hs1_4] at hr
    refine lv_tableIn hx hb d_P_instructionsFor_1 (by rw [hs1_4]; decide) (by rw [hs1_4]; decide) (by rw [hs1_4]; rfl) rfl ?_
    exact hB61 C_instructions C_length _ _ _ (lv_sub hl [0, 1, 3, 4] rfl) hP hD hS hr
  rw [if_neg hs1_4] at hr
  by_cases hs1_5 : a1 = (5 : Int32)
  · rw [if_pos hs1_5] at hr
    refine lv_tableIn hx hb d_P_instructionsFor_1 (by rw [hs1_5]; decide) (by rw [hs1_5]; decide) (by rw [hs1_5]; rfl) rfl ?_
    exact hB61 C_instructions C_length _ _ _ (lv_sub hl [0, 1, 3, 4] rfl) hP hD hS hr
  rw [if_neg hs1_5] at hr
  by_cases hs1_6 : a1 = (6 : Int32)
  · rw [if_pos hs1_6] at hr
    refine lv_tableIn hx hb d_P_instructionsFor_1 (by rw [hs1_6]; decide) (by rw [hs1_6]; decide) (by rw [hs1_6]; rfl) rfl ?_
    exact hB95 C_instructions C_length _ _ _ hl hP hD hS hr
  rw [if_neg hs1_6] at hr
  by_cases hs1_7 : a1 = (7 : Int32)
  · rw [if_pos hs1_7] at hr
    refine lv_tableIn hx hb d_P_instructionsFor_1 (by rw [hs1_7]; decide) (by rw [hs1_7]; decide) (by rw [hs1_7]; rfl) rfl ?_
    exact hB95 C_instructions C_length _ _ _ hl hP hD hS hr
  rw [if_neg hs1_7] at hr
  by_cases hs1_8 : a1 = (8 : Int32)
  · rw [if_pos hs1_8] at hr
    refine lv_tableIn hx hb d_P_instructionsFor_1 (by rw [hs1_8]; decide) (by rw [hs1_8]; decide) (by rw [hs1_8]; rfl) rfl ?_
    refine lv_aload_n hx hb d_P_instructionsFor_82 rfl (lv_at hl 0 rfl) ?_
    refine va_get (D := D) (ci := 1) (v := .ref (qP 1)) (C := R_P) (T := T_P) (N := 1) hx hb hts in_P hown hK hP 2 rfl rfl 0 (by decide) (hts _ kw_74) (fun _ h9 => h9) rfl d_P_instructionsFor_83 ?_
    refine lv_iload_n hx hb d_P_instructionsFor_86 rfl (lv_at hl 3 rfl) ?_
    obtain ⟨hi, hr⟩ := gd_some hr
    refine va_iald hx hb hK hP 3 0 rfl rfl hi d_P_instructionsFor_87 ?_
    refine lv_iload_n hx hb d_P_instructionsFor_88 rfl (lv_at hl 2 rfl) ?_
    refine lv_aload hx hb d_P_instructionsFor_89 (lv_at hl 4 rfl) ?_
    obtain ⟨r4, hr4, hr⟩ := ob hr
    refine z_ci (ws := (W_CP kI kZ qC qP C_length C_instructions P_registers)) (wc := (W_C kI kZ qC C_length C_instructions)) (wr := (W_P kI kZ qP P_registers)) (w1 := (W_C kI kZ qC r4.2.2 r4.2.1)) (w2 := (W_CP kI kZ qC qP r4.2.2 r4.2.1 P_registers)) (va_runS (As := [.int (P_registers a3.toNatClampNeg), .int a2, .ref (qC 0)]) (rest := []) ⟨hx, hb, hml, hown, hts⟩ (c_P_powerOf l D kI kZ qC C_length C_instructions (P_registers a3.toNatClampNeg) a2 r4 hr4 H.size) (z_cwS hts mw_P_powerOf kw_228 ⟨by rw [hR]; exact Nat.le_of_ble_eq_true rfl, by rw [hR]; exact Nat.le_of_ble_eq_true rfl⟩) (z_pre hK hP hD hN [0, 1] (by decide) rfl) rfl rfl hl.1 rfl (lv_room (Nat.le_of_ble_eq_true rfl)) d_P_instructionsFor_91 ⟨Nat.zero_le _, Nat.zero_le _⟩) hP hD hS hA [0, 1] [2, 3] [2, 3, 0, 1] rfl rfl (by decide) (by decide) rfl (by decide) (fun H locs hP hD hS => ?_)
    obtain rfl := Option.some.inj hr
    exact hQ _ _ _ _ _ d_P_instructionsFor_94 rfl rfl hP hD hS
  rw [if_neg hs1_8] at hr
  have hs1_0 := z_ne (k := 0) (by decide) hs1_0
  have hs1_1 := z_ne (k := 1) (by decide) hs1_1
  have hs1_2 := z_ne (k := 2) (by decide) hs1_2
  have hs1_3 := z_ne (k := 3) (by decide) hs1_3
  have hs1_4 := z_ne (k := 4) (by decide) hs1_4
  have hs1_5 := z_ne (k := 5) (by decide) hs1_5
  have hs1_6 := z_ne (k := 6) (by decide) hs1_6
  have hs1_7 := z_ne (k := 7) (by decide) hs1_7
  have hs1_8 := z_ne (k := 8) (by decide) hs1_8
  refine lv_tableOut hx hb d_P_instructionsFor_1 (by omega) rfl ?_
  exact hB95 C_instructions C_length _ _ _ hl hP hD hS hr
set_option maxHeartbeats 4000000 in
set_option maxRecDepth 100000 in
theorem c_P_translate (l : Launch) (D : va_G) (kI kZ : ClassId) (qR qC qP : Nat → Nat) (R_length : Int32) (R_words : Nat → Int32) (C_length : Int32) (C_instructions P_registers : Nat → Int32)  (res : (Nat → Int32) × Int32 × (Nat → Int32)) (hr : f_P_translate R_words R_length C_instructions C_length P_registers = some res) : zMv l D kI kZ y_P_translate prog_3_method_2_code 6 none 4 93 [.ref (qP 0), .ref (qR 0), .ref (qC 0)] (W_RCP kI kZ qR qC qP R_length R_words C_length C_instructions P_registers) (W_RCP kI kZ qR qC qP R_length R_words (res.2.1) (res.1) (res.2.2)) := by
  refine zMv.of (by decide +kernel) (Nat.le_of_ble_eq_true rfl) ?_
  intro p e R s m args below meth c Q A hR hx hb hml hts hown hA hK hN hQ
  have hown : s.vm.findClass "SquareCode$Compiler" = some m.cls := hown
  have hB9 : ∀ (fu : Nat) (v3 v4 : Int32) (C_instructions : Nat → Int32) (C_length : Int32) (P_registers : Nat → Int32) (H : Heap) (locs : List Loc) (ls : Array Slot), lv_has ls 6 [(0, .ref (qP 0)), (1, .ref (qR 0)), (2, .ref (qC 0)), (3, .int v3), (4, .int v4)] → va_P D zCl (W_RCP kI kZ qR qC qP R_length R_words C_length C_instructions P_registers) H → va_D A (W_RCP kI kZ qR qC qP R_length R_words C_length C_instructions P_registers) → va_S A s.heap H locs → f_P_translate_9 R_words R_length fu v3 v4 C_instructions C_length P_registers = some res → W p l e R s m args below meth c H locs 0 0 Q (F0 m 9 ls []) := by
    intro  fu
    induction fu with
    | zero => intro v3 v4 C_instructions C_length P_registers H locs ls hl hP hD hS hr; exact absurd hr (by rw [f_P_translate_9]; exact fun h => by cases h)
    | succ fu ih =>
      intro v3 v4 C_instructions C_length P_registers H locs ls hl hP hD hS hr
      rw [f_P_translate_9] at hr
      refine lv_iload hx hb d_P_translate_9 (lv_at hl 4 rfl) ?_
      refine lv_aload_n hx hb d_P_translate_11 rfl (lv_at hl 1 rfl) ?_
      obtain ⟨r1, hr1, hr⟩ := ob hr
      refine z_ci (ws := (W_RCP kI kZ qR qC qP R_length R_words C_length C_instructions P_registers)) (wc := (W_R kI kZ qR R_length R_words)) (wr := (W_CP kI kZ qC qP C_length C_instructions P_registers)) (w1 := (W_R kI kZ qR R_length R_words)) (w2 := (W_RCP kI kZ qR qC qP R_length R_words C_length C_instructions P_registers)) (va_runV (As := []) (rest := [.int v4]) ⟨hx, hb, hml, hown, hts⟩ (c_R_length l D kI kZ qR R_length R_words r1 hr1 H.size) (z_cwV hts mw_R_length kw_210 ⟨by rw [hR]; exact Nat.le_of_ble_eq_true rfl, by rw [hR]; exact Nat.le_of_ble_eq_true rfl⟩) (z_preV (ci := 4) hK hP hD hN rfl (he := (rfl : _[0]? = _)) [0, 1] (by decide) rfl) rfl rfl hl.1 rfl (lv_room (Nat.le_of_ble_eq_true rfl)) d_P_translate_12 ⟨Nat.zero_le _, Nat.zero_le _⟩) hP hD hS hA [0, 1] [2, 3, 4, 5] [4, 5, 0, 1, 2, 3] rfl rfl (by decide) (by decide) rfl (by decide) (fun H locs hP hD hS => ?_)
      refine lv_icmp_ge hx hb d_P_translate_15 rfl (fun hc => ?_) (fun hc => ?_)
      · rw [if_pos hc] at hr
        obtain rfl := Option.some.inj hr
        exact hQ _ _ _ _ d_P_translate_63 hP hD hS
      · rw [if_neg hc] at hr
        refine lv_aload_n hx hb d_P_translate_18 rfl (lv_at hl 1 rfl) ?_
        refine lv_iload hx hb d_P_translate_19 (lv_at hl 4 rfl) ?_
        obtain ⟨r2, hr2, hr⟩ := ob hr
        refine z_ci (ws := (W_RCP kI kZ qR qC qP R_length R_words C_length C_instructions P_registers)) (wc := (W_R kI kZ qR R_length R_words)) (wr := (W_CP kI kZ qC qP C_length C_instructions P_registers)) (w1 := (W_R kI kZ qR R_length R_words)) (w2 := (W_RCP kI kZ qR qC qP R_length R_words C_length C_instructions P_registers)) (va_runV (As := [.int v4]) (rest := []) ⟨hx, hb, hml, hown, hts⟩ (c_R_operation l D kI kZ qR R_length R_words v4 r2 hr2 H.size) (z_cwV hts mw_R_operation kw_214 ⟨by rw [hR]; exact Nat.le_of_ble_eq_true rfl, by rw [hR]; exact Nat.le_of_ble_eq_true rfl⟩) (z_preV (ci := 4) hK hP hD hN rfl (he := (rfl : _[0]? = _)) [0, 1] (by decide) rfl) rfl rfl hl.1 rfl (lv_room (Nat.le_of_ble_eq_true rfl)) d_P_translate_21 ⟨Nat.zero_le _, Nat.zero_le _⟩) hP hD hS hA [0, 1] [2, 3, 4, 5] [4, 5, 0, 1, 2, 3] rfl rfl (by decide) (by decide) rfl (by decide) (fun H locs hP hD hS => ?_)
        refine lv_istore (lv' := [(5, .int r2), (0, .ref (qP 0)), (1, .ref (qR 0)), (2, .ref (qC 0)), (3, .int v3), (4, .int v4)]) hx hb d_P_translate_24 hl (by decide) rfl (fun ls hl => ?_)
        refine lv_iload_n hx hb d_P_translate_26 rfl (lv_at hl 4 rfl) ?_
        refine lv_iload hx hb d_P_translate_27 (lv_at hl 0 rfl) ?_
        obtain ⟨r3, hr3, hr⟩ := ob hr
        refine z_ci (ws := (W_RCP kI kZ qR qC qP R_length R_words C_length C_instructions P_registers)) (wc := ([] : va_W)) (wr := (W_RCP kI kZ qR qC qP R_length R_words C_length C_instructions P_registers)) (w1 := ([] : va_W)) (w2 := (W_RCP kI kZ qR qC qP R_length R_words C_length C_instructions P_registers)) (va_runSN (As := [.int r2]) (rest := [.int v3]) ⟨hx, hb, hml, hown, hts⟩ (c_X_operandsOf l D kI kZ r2 r3 hr3 H.size) (z_cwN hts mw_X_operandsOf (zNestOf 2 hN rfl) ⟨by rw [hR]; exact Nat.le_of_ble_eq_true rfl, by rw [hR]; exact Nat.le_of_ble_eq_true rfl⟩) (z_pre hK hP hD hN [] (by decide) rfl) rfl rfl hl.1 rfl (lv_room (Nat.le_of_ble_eq_true rfl)) d_P_translate_29 ⟨Nat.zero_le _, Nat.zero_le _⟩) hP hD hS hA [] [0, 1, 2, 3, 4, 5] [0, 1, 2, 3, 4, 5] rfl rfl (by decide) (by decide) rfl (by decide) (fun H locs hP hD hS => ?_)
        refine lv_isub hx hb d_P_translate_32 ?_
        obtain ⟨v3_4, ev3_4, hr⟩ := nm_some hr
        refine z_top ev3_4 ?_
        refine lv_istore_n (lv' := [(3, .int v3_4), (5, .int r2), (0, .ref (qP 0)), (1, .ref (qR 0)), (2, .ref (qC 0)), (4, .int v4)]) hx hb d_P_translate_33 rfl hl (by decide) rfl (fun ls hl => ?_)
        refine lv_aload_n hx hb d_P_translate_34 rfl (lv_at hl 2 rfl) ?_
        refine va_get (D := D) (ci := 1) (v := .ref (qP 1)) (C := R_P) (T := T_P) (N := 1) hx hb hts in_P hown hK hP 4 rfl rfl 0 (by decide) (hts _ kw_74) (fun _ h9 => h9) rfl d_P_translate_35 ?_
        refine lv_iload_n hx hb d_P_translate_38 rfl (lv_at hl 0 rfl) ?_
        refine lv_aload_n hx hb d_P_translate_39 rfl (lv_at hl 2 rfl) ?_
        refine lv_iload hx hb d_P_translate_40 (lv_at hl 1 rfl) ?_
        refine lv_aload_n hx hb d_P_translate_42 rfl (lv_at hl 3 rfl) ?_
        refine lv_iload hx hb d_P_translate_43 (lv_at hl 5 rfl) ?_
        obtain ⟨r5, hr5, hr⟩ := ob hr
        refine z_ci (ws := (W_RCP kI kZ qR qC qP R_length R_words C_length C_instructions P_registers)) (wc := (W_R kI kZ qR R_length R_words)) (wr := (W_CP kI kZ qC qP C_length C_instructions P_registers)) (w1 := (W_R kI kZ qR R_length R_words)) (w2 := (W_RCP kI kZ qR qC qP R_length R_words C_length C_instructions P_registers)) (va_runV (As := [.int v4]) (rest := [.int r2, .ref (qP 0), .int v3_4, .ref (qP 1)]) ⟨hx, hb, hml, hown, hts⟩ (c_R_number l D kI kZ qR R_length R_words v4 r5 hr5 H.size) (z_cwV hts mw_R_number kw_216 ⟨by rw [hR]; exact Nat.le_of_ble_eq_true rfl, by rw [hR]; exact Nat.le_of_ble_eq_true rfl⟩) (z_preV (ci := 4) hK hP hD hN rfl (he := (rfl : _[0]? = _)) [0, 1] (by decide) rfl) rfl rfl hl.1 rfl (lv_room (Nat.le_of_ble_eq_true rfl)) d_P_translate_45 ⟨Nat.zero_le _, Nat.zero_le _⟩) hP hD hS hA [0, 1] [2, 3, 4, 5] [4, 5, 0, 1, 2, 3] rfl rfl (by decide) (by decide) rfl (by decide) (fun H locs hP hD hS => ?_)
        refine lv_iload_n hx hb d_P_translate_48 rfl (lv_at hl 0 rfl) ?_
        refine lv_aload_n hx hb d_P_translate_49 rfl (lv_at hl 4 rfl) ?_
        obtain ⟨r6, hr6, hr⟩ := ob hr
        refine z_ci (ws := (W_RCP kI kZ qR qC qP R_length R_words C_length C_instructions P_registers)) (wc := (W_CP kI kZ qC qP C_length C_instructions P_registers)) (wr := (W_R kI kZ qR R_length R_words)) (w1 := (W_CP kI kZ qC qP r6.2.2 r6.2.1 P_registers)) (w2 := (W_RCP kI kZ qR qC qP R_length R_words r6.2.2 r6.2.1 P_registers)) (va_runV (As := [.int r2, .int r5, .int v3_4, .ref (qC 0)]) (rest := [.int v3_4, .ref (qP 1)]) ⟨hx, hb, hml, hown, hts⟩ (c_P_instructionsFor l D kI kZ qC qP C_length C_instructions P_registers r2 r5 v3_4 r6 hr6 H.size) (z_cwV hts mw_P_instructionsFor kw_217 ⟨by rw [hR]; exact Nat.le_of_ble_eq_true rfl, by rw [hR]; exact Nat.le_of_ble_eq_true rfl⟩) (z_preV (ci := 1) hK hP hD hN rfl (he := (rfl : _[4]? = _)) [2, 3, 4, 5] (by decide) rfl) rfl rfl hl.1 rfl (lv_room (Nat.le_of_ble_eq_true rfl)) d_P_translate_50 ⟨Nat.zero_le _, Nat.zero_le _⟩) hP hD hS hA [2, 3, 4, 5] [0, 1] [0, 1, 2, 3, 4, 5] rfl rfl (by decide) (by decide) rfl (by decide) (fun H locs hP hD hS => ?_)
        obtain ⟨hi, hr⟩ := gd_some hr
        refine va_iast hx hb hK hP hD hS 5 0 rfl rfl hi d_P_translate_53 (fun H locs hP hD hS => ?_)
        have hP : va_P D zCl (W_RCP kI kZ qR qC qP R_length R_words r6.2.2 r6.2.1 (upd P_registers v3_4.toNatClampNeg r6.1)) H := hP
        have hD : va_D A (W_RCP kI kZ qR qC qP R_length R_words r6.2.2 r6.2.1 (upd P_registers v3_4.toNatClampNeg r6.1)) := hD
        refine lv_iinc (k := 0) (v := (v3_4 + (1 : Int32))) (lv' := [(3, .int (v3_4 + (1 : Int32))), (5, .int r2), (0, .ref (qP 0)), (1, .ref (qR 0)), (2, .ref (qC 0)), (4, .int v4)]) hx hb d_P_translate_54 hl rfl (congrArg (fun z => v3_4 + z) (by decide : Int32.ofInt 1 = (1 : Int32))) (by decide) rfl (fun ls hl => ?_)
        refine lv_iinc (k := 5) (v := (v4 + (1 : Int32))) (lv' := [(4, .int (v4 + (1 : Int32))), (3, .int (v3_4 + (1 : Int32))), (5, .int r2), (0, .ref (qP 0)), (1, .ref (qR 0)), (2, .ref (qC 0))]) hx hb d_P_translate_57 hl rfl (congrArg (fun z => v4 + z) (by decide : Int32.ofInt 1 = (1 : Int32))) (by decide) rfl (fun ls hl => ?_)
        refine lv_goto hx hb d_P_translate_60 rfl ?_
        exact ih (v3_4 + (1 : Int32)) (v4 + (1 : Int32)) r6.2.1 r6.2.2 (upd P_registers v3_4.toNatClampNeg r6.1) _ _ _ (lv_sub hl [3, 4, 5, 1, 0] rfl) hP hD hS hr
  intro ls H hl hP hD hS
  have hl : lv_has ls 6 [(0, .ref (qP 0)), (1, .ref (qR 0)), (2, .ref (qC 0))] := hl
  rw [f_P_translate] at hr
  refine lv_aload_n hx hb d_P_translate_0 rfl (lv_at hl 2 rfl) ?_
  obtain ⟨r7, hr7, hr⟩ := ob hr
  refine z_cv (ws := (W_RCP kI kZ qR qC qP R_length R_words C_length C_instructions P_registers)) (wc := (W_C kI kZ qC C_length C_instructions)) (wr := (W_RP kI kZ qR qP R_length R_words P_registers)) (w1 := (W_C kI kZ qC r7 C_instructions)) (w2 := (W_RCP kI kZ qR qC qP R_length R_words r7 C_instructions P_registers)) (va_runV (As := []) (rest := []) ⟨hx, hb, hml, hown, hts⟩ (c_C_clear l D kI kZ qC C_length C_instructions r7 hr7 H.size) (z_cwV hts mw_C_clear kw_206 ⟨by rw [hR]; exact Nat.le_of_ble_eq_true rfl, by rw [hR]; exact Nat.le_of_ble_eq_true rfl⟩) (z_preV (ci := 0) hK hP hD hN rfl (he := (rfl : _[2]? = _)) [2, 3] (by decide) rfl) rfl rfl hl.1 rfl (lv_room (Nat.le_of_ble_eq_true rfl)) d_P_translate_1 ⟨Nat.zero_le _, Nat.zero_le _⟩) hP hD hS hA [2, 3] [0, 1, 4, 5] [0, 1, 4, 5, 2, 3] rfl rfl (by decide) (by decide) rfl (by decide) (fun H locs hP hD hS => ?_)
  refine lv_iconst (v := (0 : Int32)) hx hb d_P_translate_4 (by decide) ?_
  refine lv_istore_n (lv' := [(3, .int (0 : Int32)), (0, .ref (qP 0)), (1, .ref (qR 0)), (2, .ref (qC 0))]) hx hb d_P_translate_5 rfl hl (by decide) rfl (fun ls hl => ?_)
  refine lv_iconst (v := (0 : Int32)) hx hb d_P_translate_6 (by decide) ?_
  refine lv_istore (lv' := [(4, .int (0 : Int32)), (3, .int (0 : Int32)), (0, .ref (qP 0)), (1, .ref (qR 0)), (2, .ref (qC 0))]) hx hb d_P_translate_7 hl (by decide) rfl (fun ls hl => ?_)
  exact hB9 zFU (0 : Int32) (0 : Int32) C_instructions r7 P_registers _ _ _ (lv_sub hl [2, 3, 4, 1, 0] rfl) hP hD hS hr
set_option maxHeartbeats 4000000 in
set_option maxRecDepth 100000 in
theorem c_X_compile (l : Launch) (D : va_G) (kI kZ : ClassId) (qX qM qR qC qP qO qV : Nat → Nat) (M_nc M_nf : Nat) (X_instructionsDone X_isWorkedOut M_modulus M_side M_size : Int32) (M_cells M_fresh : Nat → Int32) (R_length : Int32) (R_words : Nat → Int32) (C_length : Int32) (C_instructions P_registers : Nat → Int32) (O_modulus : Int32) (O_valueOf O_isNeeded O_registerOf : Nat → Int32) (V_length : Int32) (V_instructions : Nat → Int32)  (res : Int32 × Int32 × (Nat → Int32) × Int32 × (Nat → Int32)) (hr : f_X_compile X_instructionsDone R_words R_length C_instructions C_length P_registers = some res) : zMi l D kI kZ y_X_compile prog_1_method_4_code 2 ((some .int)) 5 118 [.ref (qX 0)] (W_XMRCPOV kI kZ qX qM qR qC qP qO qV M_nc M_nf X_instructionsDone X_isWorkedOut M_modulus M_side M_size M_cells M_fresh R_length R_words C_length C_instructions P_registers O_modulus O_valueOf O_isNeeded O_registerOf V_length V_instructions) (W_XMRCPOV kI kZ qX qM qR qC qP qO qV M_nc M_nf (res.2.1) X_isWorkedOut M_modulus M_side M_size M_cells M_fresh R_length R_words (res.2.2.2.1) (res.2.2.1) (res.2.2.2.2) O_modulus O_valueOf O_isNeeded O_registerOf V_length V_instructions) (res.1) := by
  refine zMi.of (by decide +kernel) (Nat.le_of_ble_eq_true rfl) ?_
  intro p e R s m args below meth c Q A hR hx hb hml hts hown hA hK hN hQ
  have hown : s.vm.findClass "SquareCode" = some m.cls := hown
  intro ls H hl hP hD hS
  have hl : lv_has ls 2 [(0, .ref (qX 0))] := hl
  rw [f_X_compile] at hr
  refine lv_aload_n hx hb d_X_compile_0 rfl (lv_at hl 0 rfl) ?_
  refine va_get (D := D) (ci := 5) (v := .ref (qR 0)) (C := R_X) (T := T_X) (N := 7) hx hb hts in_X hown hK hP 0 rfl rfl 1 (by decide) (hts _ kw_104) (fun _ h9 => h9) rfl d_X_compile_1 ?_
  obtain ⟨r1, hr1, hr⟩ := ob hr
  refine z_ci (ws := (W_XMRCPOV kI kZ qX qM qR qC qP qO qV M_nc M_nf X_instructionsDone X_isWorkedOut M_modulus M_side M_size M_cells M_fresh R_length R_words C_length C_instructions P_registers O_modulus O_valueOf O_isNeeded O_registerOf V_length V_instructions)) (wc := (W_R kI kZ qR R_length R_words)) (wr := (W_XMCPOV kI kZ qX qM qC qP qO qV qR M_nc M_nf X_instructionsDone X_isWorkedOut M_modulus M_side M_size M_cells M_fresh C_length C_instructions P_registers O_modulus O_valueOf O_isNeeded O_registerOf V_length V_instructions)) (w1 := (W_R kI kZ qR R_length R_words)) (w2 := (W_XMRCPOV kI kZ qX qM qR qC qP qO qV M_nc M_nf X_instructionsDone X_isWorkedOut M_modulus M_side M_size M_cells M_fresh R_length R_words C_length C_instructions P_registers O_modulus O_valueOf O_isNeeded O_registerOf V_length V_instructions)) (va_runV (As := []) (rest := []) ⟨hx, hb, hml, hown, hts⟩ (c_R_fault l D kI kZ qR R_length R_words r1 hr1 H.size) (z_cwV hts mw_R_fault kw_168 ⟨by rw [hR]; exact Nat.le_of_ble_eq_true rfl, by rw [hR]; exact Nat.le_of_ble_eq_true rfl⟩) (z_preV (ci := 4) hK hP hD hN rfl (he := (rfl : _[4]? = _)) [4, 5] (by decide) rfl) rfl rfl hl.1 rfl (lv_room (Nat.le_of_ble_eq_true rfl)) d_X_compile_4 ⟨Nat.zero_le _, Nat.zero_le _⟩) hP hD hS hA [4, 5] [0, 1, 2, 3, 6, 7, 8, 9, 10, 11, 12, 13, 14, 15] [0, 1, 2, 3, 14, 15, 4, 5, 6, 7, 8, 9, 10, 11, 12, 13] rfl rfl (by decide) (by decide) rfl (by decide) (fun H locs hP hD hS => ?_)
  refine lv_istore_n (lv' := [(1, .int r1), (0, .ref (qX 0))]) hx hb d_X_compile_7 rfl hl (by decide) rfl (fun ls hl => ?_)
  refine lv_iload_n hx hb d_X_compile_8 rfl (lv_at hl 0 rfl) ?_
  refine lv_if_eq hx hb d_X_compile_9 rfl (fun hc => ?_) (fun hc => ?_)
  · rw [if_pos hc] at hr
    refine lv_aload_n hx hb d_X_compile_14 rfl (lv_at hl 1 rfl) ?_
    refine va_get (D := D) (ci := 5) (v := .ref (qR 0)) (C := R_X) (T := T_X) (N := 7) hx hb hts in_X hown hK hP 0 rfl rfl 1 (by decide) (hts _ kw_104) (fun _ h9 => h9) rfl d_X_compile_15 ?_
    obtain ⟨r2, hr2, hr⟩ := ob hr
    refine z_ci (ws := (W_XMRCPOV kI kZ qX qM qR qC qP qO qV M_nc M_nf X_instructionsDone X_isWorkedOut M_modulus M_side M_size M_cells M_fresh R_length R_words C_length C_instructions P_registers O_modulus O_valueOf O_isNeeded O_registerOf V_length V_instructions)) (wc := (W_R kI kZ qR R_length R_words)) (wr := (W_XMCPOV kI kZ qX qM qC qP qO qV qR M_nc M_nf X_instructionsDone X_isWorkedOut M_modulus M_side M_size M_cells M_fresh C_length C_instructions P_registers O_modulus O_valueOf O_isNeeded O_registerOf V_length V_instructions)) (w1 := (W_R kI kZ qR R_length R_words)) (w2 := (W_XMRCPOV kI kZ qX qM qR qC qP qO qV M_nc M_nf X_instructionsDone X_isWorkedOut M_modulus M_side M_size M_cells M_fresh R_length R_words C_length C_instructions P_registers O_modulus O_valueOf O_isNeeded O_registerOf V_length V_instructions)) (va_runV (As := []) (rest := []) ⟨hx, hb, hml, hown, hts⟩ (c_R_instructionsNeeded l D kI kZ qR R_length R_words r2 hr2 H.size) (z_cwV hts mw_R_instructionsNeeded kw_182 ⟨by rw [hR]; exact Nat.le_of_ble_eq_true rfl, by rw [hR]; exact Nat.le_of_ble_eq_true rfl⟩) (z_preV (ci := 4) hK hP hD hN rfl (he := (rfl : _[4]? = _)) [4, 5] (by decide) rfl) rfl rfl hl.1 rfl (lv_room (Nat.le_of_ble_eq_true rfl)) d_X_compile_18 ⟨Nat.zero_le _, Nat.zero_le _⟩) hP hD hS hA [4, 5] [0, 1, 2, 3, 6, 7, 8, 9, 10, 11, 12, 13, 14, 15] [0, 1, 2, 3, 14, 15, 4, 5, 6, 7, 8, 9, 10, 11, 12, 13] rfl rfl (by decide) (by decide) rfl (by decide) (fun H locs hP hD hS => ?_)
    refine lv_bipush (v := (40 : Int32)) hx hb d_X_compile_21 (by decide) ?_
    refine lv_icmp_le hx hb d_X_compile_23 rfl (fun hc => ?_) (fun hc => ?_)
    · rw [if_pos hc] at hr
      refine lv_aload_n hx hb d_X_compile_29 rfl (lv_at hl 1 rfl) ?_
      refine va_get (D := D) (ci := 5) (v := .ref (qP 0)) (C := R_X) (T := T_X) (N := 7) hx hb hts in_X hown hK hP 0 rfl rfl 3 (by decide) (hts _ kw_106) (fun _ h9 => h9) rfl d_X_compile_30 ?_
      refine lv_aload_n hx hb d_X_compile_33 rfl (lv_at hl 1 rfl) ?_
      refine va_get (D := D) (ci := 5) (v := .ref (qR 0)) (C := R_X) (T := T_X) (N := 7) hx hb hts in_X hown hK hP 0 rfl rfl 1 (by decide) (hts _ kw_104) (fun _ h9 => h9) rfl d_X_compile_34 ?_
      refine lv_aload_n hx hb d_X_compile_37 rfl (lv_at hl 1 rfl) ?_
      refine va_get (D := D) (ci := 5) (v := .ref (qC 0)) (C := R_X) (T := T_X) (N := 7) hx hb hts in_X hown hK hP 0 rfl rfl 2 (by decide) (hts _ kw_105) (fun _ h9 => h9) rfl d_X_compile_38 ?_
      obtain ⟨r3, hr3, hr⟩ := ob hr
      refine z_cv (ws := (W_XMRCPOV kI kZ qX qM qR qC qP qO qV M_nc M_nf X_instructionsDone X_isWorkedOut M_modulus M_side M_size M_cells M_fresh R_length R_words C_length C_instructions P_registers O_modulus O_valueOf O_isNeeded O_registerOf V_length V_instructions)) (wc := (W_RCP kI kZ qR qC qP R_length R_words C_length C_instructions P_registers)) (wr := (W_XMOV kI kZ qX qM qO qV qR qC qP M_nc M_nf X_instructionsDone X_isWorkedOut M_modulus M_side M_size M_cells M_fresh O_modulus O_valueOf O_isNeeded O_registerOf V_length V_instructions)) (w1 := (W_RCP kI kZ qR qC qP R_length R_words r3.2.1 r3.1 r3.2.2)) (w2 := (W_XMRCPOV kI kZ qX qM qR qC qP qO qV M_nc M_nf X_instructionsDone X_isWorkedOut M_modulus M_side M_size M_cells M_fresh R_length R_words r3.2.1 r3.1 r3.2.2 O_modulus O_valueOf O_isNeeded O_registerOf V_length V_instructions)) (va_runV (As := [.ref (qR 0), .ref (qC 0)]) (rest := []) ⟨hx, hb, hml, hown, hts⟩ (c_P_translate l D kI kZ qR qC qP R_length R_words C_length C_instructions P_registers r3 hr3 H.size) (z_cwV hts mw_P_translate kw_202 ⟨by rw [hR]; exact Nat.le_of_ble_eq_true rfl, by rw [hR]; exact Nat.le_of_ble_eq_true rfl⟩) (z_preV (ci := 1) hK hP hD hN rfl (he := (rfl : _[8]? = _)) [4, 5, 6, 7, 8, 9] (by decide) rfl) rfl rfl hl.1 rfl (lv_room (Nat.le_of_ble_eq_true rfl)) d_X_compile_41 ⟨Nat.zero_le _, Nat.zero_le _⟩) hP hD hS hA [4, 5, 6, 7, 8, 9] [0, 1, 2, 3, 10, 11, 12, 13, 14, 15] [0, 1, 2, 3, 10, 11, 12, 13, 14, 15, 4, 5, 6, 7, 8, 9] rfl rfl (by decide) (by decide) rfl (by decide) (fun H locs hP hD hS => ?_)
      refine lv_aload_n hx hb d_X_compile_44 rfl (lv_at hl 1 rfl) ?_
      obtain ⟨r4, hr4, hr⟩ := ob hr
      refine z_cv (ws := (W_XMRCPOV kI kZ qX qM qR qC qP qO qV M_nc M_nf X_instructionsDone X_isWorkedOut M_modulus M_side M_size M_cells M_fresh R_length R_words r3.2.1 r3.1 r3.2.2 O_modulus O_valueOf O_isNeeded O_registerOf V_length V_instructions)) (wc := (W_XMRCPOV kI kZ qX qM qR qC qP qO qV M_nc M_nf X_instructionsDone X_isWorkedOut M_modulus M_side M_size M_cells M_fresh R_length R_words r3.2.1 r3.1 r3.2.2 O_modulus O_valueOf O_isNeeded O_registerOf V_length V_instructions)) (wr := ([] : va_W)) (w1 := (W_XMRCPOV kI kZ qX qM qR qC qP qO qV M_nc M_nf r4 X_isWorkedOut M_modulus M_side M_size M_cells M_fresh R_length R_words r3.2.1 r3.1 r3.2.2 O_modulus O_valueOf O_isNeeded O_registerOf V_length V_instructions)) (w2 := (W_XMRCPOV kI kZ qX qM qR qC qP qO qV M_nc M_nf r4 X_isWorkedOut M_modulus M_side M_size M_cells M_fresh R_length R_words r3.2.1 r3.1 r3.2.2 O_modulus O_valueOf O_isNeeded O_registerOf V_length V_instructions)) (va_runV (As := []) (rest := []) ⟨hx, hb, hml, hown, hts⟩ (c_X_rewind l D kI kZ qX qM qR qC qP qO qV M_nc M_nf X_instructionsDone X_isWorkedOut M_modulus M_side M_size M_cells M_fresh R_length R_words r3.2.1 r3.1 r3.2.2 O_modulus O_valueOf O_isNeeded O_registerOf V_length V_instructions r4 hr4 H.size) (z_cwV hts mw_X_rewind kw_160 ⟨by rw [hR]; exact Nat.le_of_ble_eq_true rfl, by rw [hR]; exact Nat.le_of_ble_eq_true rfl⟩) (z_preV (ci := 5) hK hP hD hN rfl (he := (rfl : _[0]? = _)) [0, 1, 2, 3, 4, 5, 6, 7, 8, 9, 10, 11, 12, 13, 14, 15] (by decide) rfl) rfl rfl hl.1 rfl (lv_room (Nat.le_of_ble_eq_true rfl)) d_X_compile_45 ⟨Nat.zero_le _, Nat.zero_le _⟩) hP hD hS hA [0, 1, 2, 3, 4, 5, 6, 7, 8, 9, 10, 11, 12, 13, 14, 15] [] [0, 1, 2, 3, 4, 5, 6, 7, 8, 9, 10, 11, 12, 13, 14, 15] rfl rfl (by decide) (by decide) rfl (by decide) (fun H locs hP hD hS => ?_)
      refine lv_iconst (v := (0 : Int32)) hx hb d_X_compile_48 (by decide) ?_
      obtain rfl := Option.some.inj hr
      exact hQ _ _ _ _ _ d_X_compile_49 rfl rfl hP hD hS
    · rw [if_neg hc] at hr
      refine lv_bipush (v := (6 : Int32)) hx hb d_X_compile_26 (by decide) ?_
      obtain rfl := Option.some.inj hr
      exact hQ _ _ _ _ _ d_X_compile_28 rfl rfl hP hD hS
  · rw [if_neg hc] at hr
    refine lv_iload_n hx hb d_X_compile_12 rfl (lv_at hl 0 rfl) ?_
    obtain rfl := Option.some.inj hr
    exact hQ _ _ _ _ _ d_X_compile_13 rfl rfl hP hD hS
end
section
set_option maxHeartbeats 4000000 in
set_option maxRecDepth 100000 in
theorem c_C_operation (l : Launch) (D : va_G) (kI kZ : ClassId) (qC : Nat → Nat) (C_length : Int32) (C_instructions : Nat → Int32) (a1 : Int32) (res : Int32) (hr : f_C_operation C_instructions a1 = some res) : zMi l D kI kZ y_C_operation prog_2_method_5_code 2 ((some .int)) 0 0 [.ref (qC 0), .int a1] (W_C kI kZ qC C_length C_instructions) (W_C kI kZ qC C_length C_instructions) res := by
  refine zMi.of (by decide +kernel) (Nat.le_of_ble_eq_true rfl) ?_
  intro p e R s m args below meth c Q A hR hx hb hml hts hown hA hK hN hQ
  have hown : s.vm.findClass "SquareCode$Code" = some m.cls := hown
  intro ls H hl hP hD hS
  have hl : lv_has ls 2 [(0, .ref (qC 0)), (1, .int a1)] := hl
  rw [f_C_operation] at hr
  refine lv_aload_n hx hb d_C_operation_0 rfl (lv_at hl 0 rfl) ?_
  refine va_get (D := D) (ci := 0) (v := .ref (qC 1)) (C := R_C) (T := T_C) (N := 2) hx hb hts in_C hown hK hP 0 rfl rfl 0 (by decide) (hts _ kw_61) (fun _ h9 => h9) rfl d_C_operation_1 ?_
  refine lv_iload_n hx hb d_C_operation_4 rfl (lv_at hl 1 rfl) ?_
  obtain ⟨hi, hr⟩ := gd_some hr
  refine va_iald hx hb hK hP 1 0 rfl rfl hi d_C_operation_5 ?_
  refine lv_sipush (v := (10000 : Int32)) hx hb d_C_operation_6 (by decide) ?_
  refine lv_idiv hx hb d_C_operation_9 (by decide) ?_
  obtain rfl := Option.some.inj hr
  exact hQ _ _ _ _ _ d_C_operation_10 rfl rfl hP hD hS
set_option maxHeartbeats 4000000 in
set_option maxRecDepth 100000 in
theorem c_C_first (l : Launch) (D : va_G) (kI kZ : ClassId) (qC : Nat → Nat) (C_length : Int32) (C_instructions : Nat → Int32) (a1 : Int32) (res : Int32) (hr : f_C_first C_instructions a1 = some res) : zMi l D kI kZ y_C_first prog_2_method_6_code 2 ((some .int)) 0 0 [.ref (qC 0), .int a1] (W_C kI kZ qC C_length C_instructions) (W_C kI kZ qC C_length C_instructions) res := by
  refine zMi.of (by decide +kernel) (Nat.le_of_ble_eq_true rfl) ?_
  intro p e R s m args below meth c Q A hR hx hb hml hts hown hA hK hN hQ
  have hown : s.vm.findClass "SquareCode$Code" = some m.cls := hown
  intro ls H hl hP hD hS
  have hl : lv_has ls 2 [(0, .ref (qC 0)), (1, .int a1)] := hl
  rw [f_C_first] at hr
  refine lv_aload_n hx hb d_C_first_0 rfl (lv_at hl 0 rfl) ?_
  refine va_get (D := D) (ci := 0) (v := .ref (qC 1)) (C := R_C) (T := T_C) (N := 2) hx hb hts in_C hown hK hP 0 rfl rfl 0 (by decide) (hts _ kw_61) (fun _ h9 => h9) rfl d_C_first_1 ?_
  refine lv_iload_n hx hb d_C_first_4 rfl (lv_at hl 1 rfl) ?_
  obtain ⟨hi, hr⟩ := gd_some hr
  refine va_iald hx hb hK hP 1 0 rfl rfl hi d_C_first_5 ?_
  refine lv_bipush (v := (100 : Int32)) hx hb d_C_first_6 (by decide) ?_
  refine lv_idiv hx hb d_C_first_8 (by decide) ?_
  refine lv_bipush (v := (100 : Int32)) hx hb d_C_first_9 (by decide) ?_
  refine z_irem hx hb d_C_first_11 (by decide) ?_
  obtain rfl := Option.some.inj hr
  exact hQ _ _ _ _ _ d_C_first_12 rfl rfl hP hD hS
set_option maxHeartbeats 4000000 in
set_option maxRecDepth 100000 in
theorem c_C_second (l : Launch) (D : va_G) (kI kZ : ClassId) (qC : Nat → Nat) (C_length : Int32) (C_instructions : Nat → Int32) (a1 : Int32) (res : Int32) (hr : f_C_second C_instructions a1 = some res) : zMi l D kI kZ y_C_second prog_2_method_7_code 2 ((some .int)) 0 0 [.ref (qC 0), .int a1] (W_C kI kZ qC C_length C_instructions) (W_C kI kZ qC C_length C_instructions) res := by
  refine zMi.of (by decide +kernel) (Nat.le_of_ble_eq_true rfl) ?_
  intro p e R s m args below meth c Q A hR hx hb hml hts hown hA hK hN hQ
  have hown : s.vm.findClass "SquareCode$Code" = some m.cls := hown
  intro ls H hl hP hD hS
  have hl : lv_has ls 2 [(0, .ref (qC 0)), (1, .int a1)] := hl
  rw [f_C_second] at hr
  refine lv_aload_n hx hb d_C_second_0 rfl (lv_at hl 0 rfl) ?_
  refine va_get (D := D) (ci := 0) (v := .ref (qC 1)) (C := R_C) (T := T_C) (N := 2) hx hb hts in_C hown hK hP 0 rfl rfl 0 (by decide) (hts _ kw_61) (fun _ h9 => h9) rfl d_C_second_1 ?_
  refine lv_iload_n hx hb d_C_second_4 rfl (lv_at hl 1 rfl) ?_
  obtain ⟨hi, hr⟩ := gd_some hr
  refine va_iald hx hb hK hP 1 0 rfl rfl hi d_C_second_5 ?_
  refine lv_bipush (v := (100 : Int32)) hx hb d_C_second_6 (by decide) ?_
  refine z_irem hx hb d_C_second_8 (by decide) ?_
  obtain rfl := Option.some.inj hr
  exact hQ _ _ _ _ _ d_C_second_9 rfl rfl hP hD hS
set_option maxHeartbeats 4000000 in
set_option maxRecDepth 100000 in
theorem c_O_is (l : Launch) (D : va_G) (kI kZ : ClassId) (qO qV : Nat → Nat) (O_modulus : Int32) (O_valueOf O_isNeeded O_registerOf : Nat → Int32) (V_length : Int32) (V_instructions : Nat → Int32) (a1 a2 : Int32) (res : Int32) (hr : f_O_is V_instructions a1 a2 = some res) : zMi l D kI kZ y_O_is prog_5_method_4_code 3 ((some .boolean)) 1 21 [.ref (qO 0), .int a1, .int a2] (W_OV kI kZ qO qV O_modulus O_valueOf O_isNeeded O_registerOf V_length V_instructions) (W_OV kI kZ qO qV O_modulus O_valueOf O_isNeeded O_registerOf V_length V_instructions) res := by
  refine zMi.of (by decide +kernel) (Nat.le_of_ble_eq_true rfl) ?_
  intro p e R s m args below meth c Q A hR hx hb hml hts hown hA hK hN hQ
  have hown : s.vm.findClass "SquareCode$Optimiser" = some m.cls := hown
  intro ls H hl hP hD hS
  have hl : lv_has ls 3 [(0, .ref (qO 0)), (1, .int a1), (2, .int a2)] := hl
  rw [f_O_is] at hr
  refine lv_aload_n hx hb d_O_is_0 rfl (lv_at hl 0 rfl) ?_
  refine va_get (D := D) (ci := 3) (v := .ref (qV 0)) (C := R_O) (T := T_O) (N := 5) hx hb hts in_O hown hK hP 0 rfl rfl 1 (by decide) (hts _ kw_87) (fun _ h9 => h9) rfl d_O_is_1 ?_
  refine lv_iload_n hx hb d_O_is_4 rfl (lv_at hl 2 rfl) ?_
  obtain ⟨r1, hr1, hr⟩ := ob hr
  refine z_ci (ws := (W_OV kI kZ qO qV O_modulus O_valueOf O_isNeeded O_registerOf V_length V_instructions)) (wc := (W_C kI kZ qV V_length V_instructions)) (wr := (W_O kI kZ qO qV O_modulus O_valueOf O_isNeeded O_registerOf)) (w1 := (W_C kI kZ qV V_length V_instructions)) (w2 := (W_OV kI kZ qO qV O_modulus O_valueOf O_isNeeded O_registerOf V_length V_instructions)) (va_runV (As := [.int a2]) (rest := []) ⟨hx, hb, hml, hown, hts⟩ (c_C_operation l D kI kZ qV V_length V_instructions a2 r1 hr1 H.size) (z_cwV hts mw_C_operation kw_245 ⟨by rw [hR]; exact Nat.le_of_ble_eq_true rfl, by rw [hR]; exact Nat.le_of_ble_eq_true rfl⟩) (z_preV (ci := 0) hK hP hD hN rfl (he := (rfl : _[4]? = _)) [4, 5] (by decide) rfl) rfl rfl hl.1 rfl (lv_room (Nat.le_of_ble_eq_true rfl)) d_O_is_5 ⟨Nat.zero_le _, Nat.zero_le _⟩) hP hD hS hA [4, 5] [0, 1, 2, 3] [0, 1, 2, 3, 4, 5] rfl rfl (by decide) (by decide) rfl (by decide) (fun H locs hP hD hS => ?_)
  refine lv_iload_n hx hb d_O_is_8 rfl (lv_at hl 1 rfl) ?_
  refine lv_icmp_ne hx hb d_O_is_9 rfl (fun hc => ?_) (fun hc => ?_)
  · rw [if_neg hc] at hr
    refine lv_iconst (v := (0 : Int32)) hx hb d_O_is_16 (by decide) ?_
    obtain rfl := Option.some.inj hr
    exact hQ _ _ _ _ _ d_O_is_17 (by decide +kernel) rfl hP hD hS
  · rw [if_pos hc] at hr
    refine lv_iconst (v := (1 : Int32)) hx hb d_O_is_12 (by decide) ?_
    refine lv_goto hx hb d_O_is_13 rfl ?_
    obtain rfl := Option.some.inj hr
    exact hQ _ _ _ _ _ d_O_is_17 (by decide +kernel) rfl hP hD hS
set_option maxHeartbeats 4000000 in
set_option maxRecDepth 100000 in
theorem c_C_findOrAppend (l : Launch) (D : va_G) (kI kZ : ClassId) (qC : Nat → Nat) (C_length : Int32) (C_instructions : Nat → Int32) (a1 a2 a3 : Int32) (res : Int32 × (Nat → Int32) × Int32) (hr : f_C_findOrAppend C_instructions C_length a1 a2 a3 = some res) : zMi l D kI kZ y_C_findOrAppend prog_2_method_11_code 6 ((some .int)) 2 45 [.ref (qC 0), .int a1, .int a2, .int a3] (W_C kI kZ qC C_length C_instructions) (W_C kI kZ qC (res.2.2) (res.2.1)) (res.1) := by
  refine zMi.of (by decide +kernel) (Nat.le_of_ble_eq_true rfl) ?_
  intro p e R s m args below meth c Q A hR hx hb hml hts hown hA hK hN hQ
  have hown : s.vm.findClass "SquareCode$Code" = some m.cls := hown
  have hB11 : ∀ (v4 : Int32) (C_instructions : Nat → Int32) (C_length : Int32)   (fu : Nat) (v5 : Int32) (H : Heap) (locs : List Loc) (ls : Array Slot), lv_has ls 6 [(0, .ref (qC 0)), (1, .int a1), (2, .int a2), (3, .int a3), (4, .int v4), (5, .int v5)] → va_P D zCl (W_C kI kZ qC C_length C_instructions) H → va_D A (W_C kI kZ qC C_length C_instructions) → va_S A s.heap H locs → f_C_findOrAppend_11 a1 a2 a3 v4 C_instructions C_length fu v5 = some res → W p l e R s m args below meth c H locs 0 0 Q (F0 m 11 ls []) := by
    intro v4 C_instructions C_length fu
    induction fu with
    | zero => intro v5 H locs ls hl hP hD hS hr; exact absurd hr (by rw [f_C_findOrAppend_11]; exact fun h => by cases h)
    | succ fu ih =>
      intro v5 H locs ls hl hP hD hS hr
      rw [f_C_findOrAppend_11] at hr
      refine lv_iload hx hb d_C_findOrAppend_11 (lv_at hl 5 rfl) ?_
      refine lv_aload_n hx hb d_C_findOrAppend_13 rfl (lv_at hl 0 rfl) ?_
      refine va_get (D := D) (ci := 0) (v := .int C_length) (C := R_C) (T := T_C) (N := 2) hx hb hts in_C hown hK hP 0 rfl rfl 1 (by decide) (hts _ kw_62) (fun _ h9 => h9) rfl d_C_findOrAppend_14 ?_
      refine lv_icmp_ge hx hb d_C_findOrAppend_17 rfl (fun hc => ?_) (fun hc => ?_)
      · rw [if_pos hc] at hr
        refine lv_aload_n hx hb d_C_findOrAppend_41 rfl (lv_at hl 0 rfl) ?_
        refine lv_iload_n hx hb d_C_findOrAppend_42 rfl (lv_at hl 1 rfl) ?_
        refine lv_iload_n hx hb d_C_findOrAppend_43 rfl (lv_at hl 2 rfl) ?_
        refine lv_iload_n hx hb d_C_findOrAppend_44 rfl (lv_at hl 3 rfl) ?_
        obtain ⟨r1, hr1, hr⟩ := ob hr
        refine z_ci (ws := (W_C kI kZ qC C_length C_instructions)) (wc := (W_C kI kZ qC C_length C_instructions)) (wr := ([] : va_W)) (w1 := (W_C kI kZ qC r1.2.2 r1.2.1)) (w2 := (W_C kI kZ qC r1.2.2 r1.2.1)) (va_runV (As := [.int a1, .int a2, .int a3]) (rest := []) ⟨hx, hb, hml, hown, hts⟩ (c_C_append l D kI kZ qC C_length C_instructions a1 a2 a3 r1 hr1 H.size) (z_cwV hts mw_C_append kw_279 ⟨by rw [hR]; exact Nat.le_of_ble_eq_true rfl, by rw [hR]; exact Nat.le_of_ble_eq_true rfl⟩) (z_preV (ci := 0) hK hP hD hN rfl (he := (rfl : _[0]? = _)) [0, 1] (by decide) rfl) rfl rfl hl.1 rfl (lv_room (Nat.le_of_ble_eq_true rfl)) d_C_findOrAppend_45 ⟨Nat.zero_le _, Nat.zero_le _⟩) hP hD hS hA [0, 1] [] [0, 1] rfl rfl (by decide) (by decide) rfl (by decide) (fun H locs hP hD hS => ?_)
        obtain rfl := Option.some.inj hr
        exact hQ _ _ _ _ _ d_C_findOrAppend_48 rfl rfl hP hD hS
      · rw [if_neg hc] at hr
        refine lv_aload_n hx hb d_C_findOrAppend_20 rfl (lv_at hl 0 rfl) ?_
        refine va_get (D := D) (ci := 0) (v := .ref (qC 1)) (C := R_C) (T := T_C) (N := 2) hx hb hts in_C hown hK hP 0 rfl rfl 0 (by decide) (hts _ kw_61) (fun _ h9 => h9) rfl d_C_findOrAppend_21 ?_
        refine lv_iload hx hb d_C_findOrAppend_24 (lv_at hl 5 rfl) ?_
        obtain ⟨hi, hr⟩ := gd_some hr
        refine va_iald hx hb hK hP 1 0 rfl rfl hi d_C_findOrAppend_26 ?_
        refine lv_iload hx hb d_C_findOrAppend_27 (lv_at hl 4 rfl) ?_
        refine lv_icmp_ne hx hb d_C_findOrAppend_29 rfl (fun hc => ?_) (fun hc => ?_)
        · rw [if_neg hc] at hr
          refine lv_iinc (k := 5) (v := (v5 + (1 : Int32))) (lv' := [(5, .int (v5 + (1 : Int32))), (0, .ref (qC 0)), (1, .int a1), (2, .int a2), (3, .int a3), (4, .int v4)]) hx hb d_C_findOrAppend_35 hl rfl (congrArg (fun z => v5 + z) (by decide : Int32.ofInt 1 = (1 : Int32))) (by decide) rfl (fun ls hl => ?_)
          refine lv_goto hx hb d_C_findOrAppend_38 rfl ?_
          exact ih (v5 + (1 : Int32)) _ _ _ (lv_sub hl [1, 2, 3, 4, 5, 0] rfl) hP hD hS hr
        · rw [if_pos hc] at hr
          refine lv_iload hx hb d_C_findOrAppend_32 (lv_at hl 5 rfl) ?_
          obtain rfl := Option.some.inj hr
          exact hQ _ _ _ _ _ d_C_findOrAppend_34 rfl rfl hP hD hS
  intro ls H hl hP hD hS
  have hl : lv_has ls 6 [(0, .ref (qC 0)), (1, .int a1), (2, .int a2), (3, .int a3)] := hl
  rw [f_C_findOrAppend] at hr
  refine lv_iload_n hx hb d_C_findOrAppend_0 rfl (lv_at hl 1 rfl) ?_
  refine lv_iload_n hx hb d_C_findOrAppend_1 rfl (lv_at hl 2 rfl) ?_
  refine lv_iload_n hx hb d_C_findOrAppend_2 rfl (lv_at hl 3 rfl) ?_
  obtain ⟨r2, hr2, hr⟩ := ob hr
  refine z_ci (ws := (W_C kI kZ qC C_length C_instructions)) (wc := ([] : va_W)) (wr := (W_C kI kZ qC C_length C_instructions)) (w1 := ([] : va_W)) (w2 := (W_C kI kZ qC C_length C_instructions)) (va_runS (As := [.int a1, .int a2, .int a3]) (rest := []) ⟨hx, hb, hml, hown, hts⟩ (c_C_packed l D kI kZ a1 a2 a3 r2 hr2 H.size) (z_cwS hts mw_C_packed kw_225 ⟨by rw [hR]; exact Nat.le_of_ble_eq_true rfl, by rw [hR]; exact Nat.le_of_ble_eq_true rfl⟩) (z_pre hK hP hD hN [] (by decide) rfl) rfl rfl hl.1 rfl (lv_room (Nat.le_of_ble_eq_true rfl)) d_C_findOrAppend_3 ⟨Nat.zero_le _, Nat.zero_le _⟩) hP hD hS hA [] [0, 1] [0, 1] rfl rfl (by decide) (by decide) rfl (by decide) (fun H locs hP hD hS => ?_)
  refine lv_istore (lv' := [(4, .int r2), (0, .ref (qC 0)), (1, .int a1), (2, .int a2), (3, .int a3)]) hx hb d_C_findOrAppend_6 hl (by decide) rfl (fun ls hl => ?_)
  refine lv_iconst (v := (0 : Int32)) hx hb d_C_findOrAppend_8 (by decide) ?_
  refine lv_istore (lv' := [(5, .int (0 : Int32)), (4, .int r2), (0, .ref (qC 0)), (1, .int a1), (2, .int a2), (3, .int a3)]) hx hb d_C_findOrAppend_9 hl (by decide) rfl (fun ls hl => ?_)
  exact hB11 r2 C_instructions C_length zFU (0 : Int32) _ _ _ (lv_sub hl [2, 3, 4, 5, 1, 0] rfl) hP hD hS hr
set_option maxHeartbeats 4000000 in
set_option maxRecDepth 100000 in
theorem c_O_sum (l : Launch) (D : va_G) (kI kZ : ClassId) (qO qV : Nat → Nat) (O_modulus : Int32) (O_valueOf O_isNeeded O_registerOf : Nat → Int32) (V_length : Int32) (V_instructions : Nat → Int32) (a1 a2 : Int32) (res : Int32 × (Nat → Int32) × Int32) (hr : f_O_sum V_instructions V_length a1 a2 = some res) : zMi l D kI kZ y_O_sum prog_5_method_6_code 3 ((some .int)) 3 70 [.ref (qO 0), .int a1, .int a2] (W_OV kI kZ qO qV O_modulus O_valueOf O_isNeeded O_registerOf V_length V_instructions) (W_OV kI kZ qO qV O_modulus O_valueOf O_isNeeded O_registerOf (res.2.2) (res.2.1)) (res.1) := by
  refine zMi.of (by decide +kernel) (Nat.le_of_ble_eq_true rfl) ?_
  intro p e R s m args below meth c Q A hR hx hb hml hts hown hA hK hN hQ
  have hown : s.vm.findClass "SquareCode$Optimiser" = some m.cls := hown
  intro ls H hl hP hD hS
  have hl : lv_has ls 3 [(0, .ref (qO 0)), (1, .int a1), (2, .int a2)] := hl
  rw [f_O_sum] at hr
  refine lv_aload_n hx hb d_O_sum_0 rfl (lv_at hl 0 rfl) ?_
  refine lv_iconst (v := (2 : Int32)) hx hb d_O_sum_1 (by decide) ?_
  refine lv_iload_n hx hb d_O_sum_2 rfl (lv_at hl 2 rfl) ?_
  obtain ⟨r1, hr1, hr⟩ := ob hr
  refine z_ci (ws := (W_OV kI kZ qO qV O_modulus O_valueOf O_isNeeded O_registerOf V_length V_instructions)) (wc := (W_OV kI kZ qO qV O_modulus O_valueOf O_isNeeded O_registerOf V_length V_instructions)) (wr := ([] : va_W)) (w1 := (W_OV kI kZ qO qV O_modulus O_valueOf O_isNeeded O_registerOf V_length V_instructions)) (w2 := (W_OV kI kZ qO qV O_modulus O_valueOf O_isNeeded O_registerOf V_length V_instructions)) (va_runV (As := [.int (2 : Int32), .int a2]) (rest := []) ⟨hx, hb, hml, hown, hts⟩ (c_O_is l D kI kZ qO qV O_modulus O_valueOf O_isNeeded O_registerOf V_length V_instructions (2 : Int32) a2 r1 hr1 H.size) (z_cwV hts mw_O_is kw_265 ⟨by rw [hR]; exact Nat.le_of_ble_eq_true rfl, by rw [hR]; exact Nat.le_of_ble_eq_true rfl⟩) (z_preV (ci := 3) hK hP hD hN rfl (he := (rfl : _[0]? = _)) [0, 1, 2, 3, 4, 5] (by decide) rfl) rfl rfl hl.1 rfl (lv_room (Nat.le_of_ble_eq_true rfl)) d_O_sum_3 ⟨Nat.zero_le _, Nat.zero_le _⟩) hP hD hS hA [0, 1, 2, 3, 4, 5] [] [0, 1, 2, 3, 4, 5] rfl rfl (by decide) (by decide) rfl (by decide) (fun H locs hP hD hS => ?_)
  refine lv_if_eq hx hb d_O_sum_6 rfl (fun hc => ?_) (fun hc => ?_)
  · rw [if_pos hc] at hr
    refine lv_aload_n hx hb d_O_sum_11 rfl (lv_at hl 0 rfl) ?_
    refine lv_iconst (v := (2 : Int32)) hx hb d_O_sum_12 (by decide) ?_
    refine lv_iload_n hx hb d_O_sum_13 rfl (lv_at hl 1 rfl) ?_
    obtain ⟨r2, hr2, hr⟩ := ob hr
    refine z_ci (ws := (W_OV kI kZ qO qV O_modulus O_valueOf O_isNeeded O_registerOf V_length V_instructions)) (wc := (W_OV kI kZ qO qV O_modulus O_valueOf O_isNeeded O_registerOf V_length V_instructions)) (wr := ([] : va_W)) (w1 := (W_OV kI kZ qO qV O_modulus O_valueOf O_isNeeded O_registerOf V_length V_instructions)) (w2 := (W_OV kI kZ qO qV O_modulus O_valueOf O_isNeeded O_registerOf V_length V_instructions)) (va_runV (As := [.int (2 : Int32), .int a1]) (rest := []) ⟨hx, hb, hml, hown, hts⟩ (c_O_is l D kI kZ qO qV O_modulus O_valueOf O_isNeeded O_registerOf V_length V_instructions (2 : Int32) a1 r2 hr2 H.size) (z_cwV hts mw_O_is kw_265 ⟨by rw [hR]; exact Nat.le_of_ble_eq_true rfl, by rw [hR]; exact Nat.le_of_ble_eq_true rfl⟩) (z_preV (ci := 3) hK hP hD hN rfl (he := (rfl : _[0]? = _)) [0, 1, 2, 3, 4, 5] (by decide) rfl) rfl rfl hl.1 rfl (lv_room (Nat.le_of_ble_eq_true rfl)) d_O_sum_14 ⟨Nat.zero_le _, Nat.zero_le _⟩) hP hD hS hA [0, 1, 2, 3, 4, 5] [] [0, 1, 2, 3, 4, 5] rfl rfl (by decide) (by decide) rfl (by decide) (fun H locs hP hD hS => ?_)
    refine lv_if_eq hx hb d_O_sum_17 rfl (fun hc => ?_) (fun hc => ?_)
    · rw [if_pos hc] at hr
      refine lv_aload_n hx hb d_O_sum_22 rfl (lv_at hl 0 rfl) ?_
      refine va_get (D := D) (ci := 3) (v := .ref (qV 0)) (C := R_O) (T := T_O) (N := 5) hx hb hts in_O hown hK hP 0 rfl rfl 1 (by decide) (hts _ kw_87) (fun _ h9 => h9) rfl d_O_sum_23 ?_
      refine lv_iconst (v := (3 : Int32)) hx hb d_O_sum_26 (by decide) ?_
      refine lv_iload_n hx hb d_O_sum_27 rfl (lv_at hl 1 rfl) ?_
      refine lv_iload_n hx hb d_O_sum_28 rfl (lv_at hl 2 rfl) ?_
      refine z_min hx hb (hml.trans hl.1.symm) hown (hts _ kw_269) (hts _ kw_270) (hts _ kw_8) (hts _ kw_271) (by rw [hR]; exact Nat.le_of_ble_eq_true rfl) (by rw [hR]; exact Nat.le_of_ble_eq_true rfl) (Nat.zero_le _) (Nat.zero_le _) d_O_sum_29 ?_
      refine lv_iload_n hx hb d_O_sum_32 rfl (lv_at hl 1 rfl) ?_
      refine lv_iload_n hx hb d_O_sum_33 rfl (lv_at hl 2 rfl) ?_
      refine z_max hx hb (hml.trans hl.1.symm) hown (hts _ kw_272) (hts _ kw_273) (hts _ kw_8) (hts _ kw_274) (by rw [hR]; exact Nat.le_of_ble_eq_true rfl) (by rw [hR]; exact Nat.le_of_ble_eq_true rfl) (Nat.zero_le _) (Nat.zero_le _) d_O_sum_34 ?_
      obtain ⟨r3, hr3, hr⟩ := ob hr
      refine z_ci (ws := (W_OV kI kZ qO qV O_modulus O_valueOf O_isNeeded O_registerOf V_length V_instructions)) (wc := (W_C kI kZ qV V_length V_instructions)) (wr := (W_O kI kZ qO qV O_modulus O_valueOf O_isNeeded O_registerOf)) (w1 := (W_C kI kZ qV r3.2.2 r3.2.1)) (w2 := (W_OV kI kZ qO qV O_modulus O_valueOf O_isNeeded O_registerOf r3.2.2 r3.2.1)) (va_runV (As := [.int (3 : Int32), .int (zmin a1 a2), .int (zmax a1 a2)]) (rest := []) ⟨hx, hb, hml, hown, hts⟩ (c_C_findOrAppend l D kI kZ qV V_length V_instructions (3 : Int32) (zmin a1 a2) (zmax a1 a2) r3 hr3 H.size) (z_cwV hts mw_C_findOrAppend kw_275 ⟨by rw [hR]; exact Nat.le_of_ble_eq_true rfl, by rw [hR]; exact Nat.le_of_ble_eq_true rfl⟩) (z_preV (ci := 0) hK hP hD hN rfl (he := (rfl : _[4]? = _)) [4, 5] (by decide) rfl) rfl rfl hl.1 rfl (lv_room (Nat.le_of_ble_eq_true rfl)) d_O_sum_37 ⟨Nat.zero_le _, Nat.zero_le _⟩) hP hD hS hA [4, 5] [0, 1, 2, 3] [0, 1, 2, 3, 4, 5] rfl rfl (by decide) (by decide) rfl (by decide) (fun H locs hP hD hS => ?_)
      obtain rfl := Option.some.inj hr
      exact hQ _ _ _ _ _ d_O_sum_40 rfl rfl hP hD hS
    · rw [if_neg hc] at hr
      refine lv_iload_n hx hb d_O_sum_20 rfl (lv_at hl 2 rfl) ?_
      obtain rfl := Option.some.inj hr
      exact hQ _ _ _ _ _ d_O_sum_21 rfl rfl hP hD hS
  · rw [if_neg hc] at hr
    refine lv_iload_n hx hb d_O_sum_9 rfl (lv_at hl 1 rfl) ?_
    obtain rfl := Option.some.inj hr
    exact hQ _ _ _ _ _ d_O_sum_10 rfl rfl hP hD hS
set_option maxHeartbeats 4000000 in
set_option maxRecDepth 100000 in
theorem c_O_nought (l : Launch) (D : va_G) (kI kZ : ClassId) (qO qV : Nat → Nat) (O_modulus : Int32) (O_valueOf O_isNeeded O_registerOf : Nat → Int32) (V_length : Int32) (V_instructions : Nat → Int32)  (res : Int32 × (Nat → Int32) × Int32) (hr : f_O_nought V_instructions V_length = some res) : zMi l D kI kZ y_O_nought prog_5_method_5_code 1 ((some .int)) 3 70 [.ref (qO 0)] (W_OV kI kZ qO qV O_modulus O_valueOf O_isNeeded O_registerOf V_length V_instructions) (W_OV kI kZ qO qV O_modulus O_valueOf O_isNeeded O_registerOf (res.2.2) (res.2.1)) (res.1) := by
  refine zMi.of (by decide +kernel) (Nat.le_of_ble_eq_true rfl) ?_
  intro p e R s m args below meth c Q A hR hx hb hml hts hown hA hK hN hQ
  have hown : s.vm.findClass "SquareCode$Optimiser" = some m.cls := hown
  intro ls H hl hP hD hS
  have hl : lv_has ls 1 [(0, .ref (qO 0))] := hl
  rw [f_O_nought] at hr
  refine lv_aload_n hx hb d_O_nought_0 rfl (lv_at hl 0 rfl) ?_
  refine va_get (D := D) (ci := 3) (v := .ref (qV 0)) (C := R_O) (T := T_O) (N := 5) hx hb hts in_O hown hK hP 0 rfl rfl 1 (by decide) (hts _ kw_87) (fun _ h9 => h9) rfl d_O_nought_1 ?_
  refine lv_iconst (v := (2 : Int32)) hx hb d_O_nought_4 (by decide) ?_
  refine lv_iconst (v := (0 : Int32)) hx hb d_O_nought_5 (by decide) ?_
  refine lv_iconst (v := (0 : Int32)) hx hb d_O_nought_6 (by decide) ?_
  obtain ⟨r1, hr1, hr⟩ := ob hr
  refine z_ci (ws := (W_OV kI kZ qO qV O_modulus O_valueOf O_isNeeded O_registerOf V_length V_instructions)) (wc := (W_C kI kZ qV V_length V_instructions)) (wr := (W_O kI kZ qO qV O_modulus O_valueOf O_isNeeded O_registerOf)) (w1 := (W_C kI kZ qV r1.2.2 r1.2.1)) (w2 := (W_OV kI kZ qO qV O_modulus O_valueOf O_isNeeded O_registerOf r1.2.2 r1.2.1)) (va_runV (As := [.int (2 : Int32), .int (0 : Int32), .int (0 : Int32)]) (rest := []) ⟨hx, hb, hml, hown, hts⟩ (c_C_findOrAppend l D kI kZ qV V_length V_instructions (2 : Int32) (0 : Int32) (0 : Int32) r1 hr1 H.size) (z_cwV hts mw_C_findOrAppend kw_275 ⟨by rw [hR]; exact Nat.le_of_ble_eq_true rfl, by rw [hR]; exact Nat.le_of_ble_eq_true rfl⟩) (z_preV (ci := 0) hK hP hD hN rfl (he := (rfl : _[4]? = _)) [4, 5] (by decide) rfl) rfl rfl hl.1 rfl (lv_room (Nat.le_of_ble_eq_true rfl)) d_O_nought_7 ⟨Nat.zero_le _, Nat.zero_le _⟩) hP hD hS hA [4, 5] [0, 1, 2, 3] [0, 1, 2, 3, 4, 5] rfl rfl (by decide) (by decide) rfl (by decide) (fun H locs hP hD hS => ?_)
  obtain rfl := Option.some.inj hr
  exact hQ _ _ _ _ _ d_O_nought_10 rfl rfl hP hD hS
set_option maxHeartbeats 4000000 in
set_option maxRecDepth 100000 in
theorem c_O_difference (l : Launch) (D : va_G) (kI kZ : ClassId) (qO qV : Nat → Nat) (O_modulus : Int32) (O_valueOf O_isNeeded O_registerOf : Nat → Int32) (V_length : Int32) (V_instructions : Nat → Int32) (a1 a2 : Int32) (res : Int32 × (Nat → Int32) × Int32) (hr : f_O_difference V_instructions V_length a1 a2 = some res) : zMi l D kI kZ y_O_difference prog_5_method_7_code 3 ((some .int)) 4 90 [.ref (qO 0), .int a1, .int a2] (W_OV kI kZ qO qV O_modulus O_valueOf O_isNeeded O_registerOf V_length V_instructions) (W_OV kI kZ qO qV O_modulus O_valueOf O_isNeeded O_registerOf (res.2.2) (res.2.1)) (res.1) := by
  refine zMi.of (by decide +kernel) (Nat.le_of_ble_eq_true rfl) ?_
  intro p e R s m args below meth c Q A hR hx hb hml hts hown hA hK hN hQ
  have hown : s.vm.findClass "SquareCode$Optimiser" = some m.cls := hown
  intro ls H hl hP hD hS
  have hl : lv_has ls 3 [(0, .ref (qO 0)), (1, .int a1), (2, .int a2)] := hl
  rw [f_O_difference] at hr
  refine lv_aload_n hx hb d_O_difference_0 rfl (lv_at hl 0 rfl) ?_
  refine lv_iconst (v := (2 : Int32)) hx hb d_O_difference_1 (by decide) ?_
  refine lv_iload_n hx hb d_O_difference_2 rfl (lv_at hl 2 rfl) ?_
  obtain ⟨r1, hr1, hr⟩ := ob hr
  refine z_ci (ws := (W_OV kI kZ qO qV O_modulus O_valueOf O_isNeeded O_registerOf V_length V_instructions)) (wc := (W_OV kI kZ qO qV O_modulus O_valueOf O_isNeeded O_registerOf V_length V_instructions)) (wr := ([] : va_W)) (w1 := (W_OV kI kZ qO qV O_modulus O_valueOf O_isNeeded O_registerOf V_length V_instructions)) (w2 := (W_OV kI kZ qO qV O_modulus O_valueOf O_isNeeded O_registerOf V_length V_instructions)) (va_runV (As := [.int (2 : Int32), .int a2]) (rest := []) ⟨hx, hb, hml, hown, hts⟩ (c_O_is l D kI kZ qO qV O_modulus O_valueOf O_isNeeded O_registerOf V_length V_instructions (2 : Int32) a2 r1 hr1 H.size) (z_cwV hts mw_O_is kw_265 ⟨by rw [hR]; exact Nat.le_of_ble_eq_true rfl, by rw [hR]; exact Nat.le_of_ble_eq_true rfl⟩) (z_preV (ci := 3) hK hP hD hN rfl (he := (rfl : _[0]? = _)) [0, 1, 2, 3, 4, 5] (by decide) rfl) rfl rfl hl.1 rfl (lv_room (Nat.le_of_ble_eq_true rfl)) d_O_difference_3 ⟨Nat.zero_le _, Nat.zero_le _⟩) hP hD hS hA [0, 1, 2, 3, 4, 5] [] [0, 1, 2, 3, 4, 5] rfl rfl (by decide) (by decide) rfl (by decide) (fun H locs hP hD hS => ?_)
  refine lv_if_eq hx hb d_O_difference_6 rfl (fun hc => ?_) (fun hc => ?_)
  · rw [if_pos hc] at hr
    refine lv_iload_n hx hb d_O_difference_11 rfl (lv_at hl 1 rfl) ?_
    refine lv_iload_n hx hb d_O_difference_12 rfl (lv_at hl 2 rfl) ?_
    refine lv_icmp_ne hx hb d_O_difference_13 rfl (fun hc => ?_) (fun hc => ?_)
    · rw [if_neg hc] at hr
      refine lv_aload_n hx hb d_O_difference_21 rfl (lv_at hl 0 rfl) ?_
      refine va_get (D := D) (ci := 3) (v := .ref (qV 0)) (C := R_O) (T := T_O) (N := 5) hx hb hts in_O hown hK hP 0 rfl rfl 1 (by decide) (hts _ kw_87) (fun _ h9 => h9) rfl d_O_difference_22 ?_
      refine lv_iconst (v := (4 : Int32)) hx hb d_O_difference_25 (by decide) ?_
      refine lv_iload_n hx hb d_O_difference_26 rfl (lv_at hl 1 rfl) ?_
      refine lv_iload_n hx hb d_O_difference_27 rfl (lv_at hl 2 rfl) ?_
      obtain ⟨r2, hr2, hr⟩ := ob hr
      refine z_ci (ws := (W_OV kI kZ qO qV O_modulus O_valueOf O_isNeeded O_registerOf V_length V_instructions)) (wc := (W_C kI kZ qV V_length V_instructions)) (wr := (W_O kI kZ qO qV O_modulus O_valueOf O_isNeeded O_registerOf)) (w1 := (W_C kI kZ qV r2.2.2 r2.2.1)) (w2 := (W_OV kI kZ qO qV O_modulus O_valueOf O_isNeeded O_registerOf r2.2.2 r2.2.1)) (va_runV (As := [.int (4 : Int32), .int a1, .int a2]) (rest := []) ⟨hx, hb, hml, hown, hts⟩ (c_C_findOrAppend l D kI kZ qV V_length V_instructions (4 : Int32) a1 a2 r2 hr2 H.size) (z_cwV hts mw_C_findOrAppend kw_275 ⟨by rw [hR]; exact Nat.le_of_ble_eq_true rfl, by rw [hR]; exact Nat.le_of_ble_eq_true rfl⟩) (z_preV (ci := 0) hK hP hD hN rfl (he := (rfl : _[4]? = _)) [4, 5] (by decide) rfl) rfl rfl hl.1 rfl (lv_room (Nat.le_of_ble_eq_true rfl)) d_O_difference_28 ⟨Nat.zero_le _, Nat.zero_le _⟩) hP hD hS hA [4, 5] [0, 1, 2, 3] [0, 1, 2, 3, 4, 5] rfl rfl (by decide) (by decide) rfl (by decide) (fun H locs hP hD hS => ?_)
      obtain rfl := Option.some.inj hr
      exact hQ _ _ _ _ _ d_O_difference_31 rfl rfl hP hD hS
    · rw [if_pos hc] at hr
      refine lv_aload_n hx hb d_O_difference_16 rfl (lv_at hl 0 rfl) ?_
      obtain ⟨r3, hr3, hr⟩ := ob hr
      refine z_ci (ws := (W_OV kI kZ qO qV O_modulus O_valueOf O_isNeeded O_registerOf V_length V_instructions)) (wc := (W_OV kI kZ qO qV O_modulus O_valueOf O_isNeeded O_registerOf V_length V_instructions)) (wr := ([] : va_W)) (w1 := (W_OV kI kZ qO qV O_modulus O_valueOf O_isNeeded O_registerOf r3.2.2 r3.2.1)) (w2 := (W_OV kI kZ qO qV O_modulus O_valueOf O_isNeeded O_registerOf r3.2.2 r3.2.1)) (va_runV (As := []) (rest := []) ⟨hx, hb, hml, hown, hts⟩ (c_O_nought l D kI kZ qO qV O_modulus O_valueOf O_isNeeded O_registerOf V_length V_instructions r3 hr3 H.size) (z_cwV hts mw_O_nought kw_284 ⟨by rw [hR]; exact Nat.le_of_ble_eq_true rfl, by rw [hR]; exact Nat.le_of_ble_eq_true rfl⟩) (z_preV (ci := 3) hK hP hD hN rfl (he := (rfl : _[0]? = _)) [0, 1, 2, 3, 4, 5] (by decide) rfl) rfl rfl hl.1 rfl (lv_room (Nat.le_of_ble_eq_true rfl)) d_O_difference_17 ⟨Nat.zero_le _, Nat.zero_le _⟩) hP hD hS hA [0, 1, 2, 3, 4, 5] [] [0, 1, 2, 3, 4, 5] rfl rfl (by decide) (by decide) rfl (by decide) (fun H locs hP hD hS => ?_)
      obtain rfl := Option.some.inj hr
      exact hQ _ _ _ _ _ d_O_difference_20 rfl rfl hP hD hS
  · rw [if_neg hc] at hr
    refine lv_iload_n hx hb d_O_difference_9 rfl (lv_at hl 1 rfl) ?_
    obtain rfl := Option.some.inj hr
    exact hQ _ _ _ _ _ d_O_difference_10 rfl rfl hP hD hS
set_option maxHeartbeats 4000000 in
set_option maxRecDepth 100000 in
theorem c_O_product (l : Launch) (D : va_G) (kI kZ : ClassId) (qO qV : Nat → Nat) (O_modulus : Int32) (O_valueOf O_isNeeded O_registerOf : Nat → Int32) (V_length : Int32) (V_instructions : Nat → Int32) (a1 a2 : Int32) (res : Int32 × (Nat → Int32) × Int32) (hr : f_O_product V_instructions V_length a1 a2 = some res) : zMi l D kI kZ y_O_product prog_5_method_8_code 3 ((some .int)) 4 90 [.ref (qO 0), .int a1, .int a2] (W_OV kI kZ qO qV O_modulus O_valueOf O_isNeeded O_registerOf V_length V_instructions) (W_OV kI kZ qO qV O_modulus O_valueOf O_isNeeded O_registerOf (res.2.2) (res.2.1)) (res.1) := by
  refine zMi.of (by decide +kernel) (Nat.le_of_ble_eq_true rfl) ?_
  intro p e R s m args below meth c Q A hR hx hb hml hts hown hA hK hN hQ
  have hown : s.vm.findClass "SquareCode$Optimiser" = some m.cls := hown
  have hB18 : ∀ (V_instructions : Nat → Int32) (V_length : Int32)   (H : Heap) (locs : List Loc) (ls : Array Slot), lv_has ls 3 [(0, .ref (qO 0))] → va_P D zCl (W_OV kI kZ qO qV O_modulus O_valueOf O_isNeeded O_registerOf V_length V_instructions) H → va_D A (W_OV kI kZ qO qV O_modulus O_valueOf O_isNeeded O_registerOf V_length V_instructions) → va_S A s.heap H locs → f_O_product_18 V_instructions V_length = some res → W p l e R s m args below meth c H locs 0 0 Q (F0 m 18 ls []) := by
    intro V_instructions V_length H locs ls hl hP hD hS hr
    rw [f_O_product_18] at hr
    refine lv_aload_n hx hb d_O_product_18 rfl (lv_at hl 0 rfl) ?_
    obtain ⟨r1, hr1, hr⟩ := ob hr
    refine z_ci (ws := (W_OV kI kZ qO qV O_modulus O_valueOf O_isNeeded O_registerOf V_length V_instructions)) (wc := (W_OV kI kZ qO qV O_modulus O_valueOf O_isNeeded O_registerOf V_length V_instructions)) (wr := ([] : va_W)) (w1 := (W_OV kI kZ qO qV O_modulus O_valueOf O_isNeeded O_registerOf r1.2.2 r1.2.1)) (w2 := (W_OV kI kZ qO qV O_modulus O_valueOf O_isNeeded O_registerOf r1.2.2 r1.2.1)) (va_runV (As := []) (rest := []) ⟨hx, hb, hml, hown, hts⟩ (c_O_nought l D kI kZ qO qV O_modulus O_valueOf O_isNeeded O_registerOf V_length V_instructions r1 hr1 H.size) (z_cwV hts mw_O_nought kw_284 ⟨by rw [hR]; exact Nat.le_of_ble_eq_true rfl, by rw [hR]; exact Nat.le_of_ble_eq_true rfl⟩) (z_preV (ci := 3) hK hP hD hN rfl (he := (rfl : _[0]? = _)) [0, 1, 2, 3, 4, 5] (by decide) rfl) rfl rfl hl.1 rfl (lv_room (Nat.le_of_ble_eq_true rfl)) d_O_product_19 ⟨Nat.zero_le _, Nat.zero_le _⟩) hP hD hS hA [0, 1, 2, 3, 4, 5] [] [0, 1, 2, 3, 4, 5] rfl rfl (by decide) (by decide) rfl (by decide) (fun H locs hP hD hS => ?_)
    obtain rfl := Option.some.inj hr
    exact hQ _ _ _ _ _ d_O_product_22 rfl rfl hP hD hS
  intro ls H hl hP hD hS
  have hl : lv_has ls 3 [(0, .ref (qO 0)), (1, .int a1), (2, .int a2)] := hl
  rw [f_O_product] at hr
  refine lv_aload_n hx hb d_O_product_0 rfl (lv_at hl 0 rfl) ?_
  refine lv_iconst (v := (2 : Int32)) hx hb d_O_product_1 (by decide) ?_
  refine lv_iload_n hx hb d_O_product_2 rfl (lv_at hl 1 rfl) ?_
  obtain ⟨r2, hr2, hr⟩ := ob hr
  refine z_ci (ws := (W_OV kI kZ qO qV O_modulus O_valueOf O_isNeeded O_registerOf V_length V_instructions)) (wc := (W_OV kI kZ qO qV O_modulus O_valueOf O_isNeeded O_registerOf V_length V_instructions)) (wr := ([] : va_W)) (w1 := (W_OV kI kZ qO qV O_modulus O_valueOf O_isNeeded O_registerOf V_length V_instructions)) (w2 := (W_OV kI kZ qO qV O_modulus O_valueOf O_isNeeded O_registerOf V_length V_instructions)) (va_runV (As := [.int (2 : Int32), .int a1]) (rest := []) ⟨hx, hb, hml, hown, hts⟩ (c_O_is l D kI kZ qO qV O_modulus O_valueOf O_isNeeded O_registerOf V_length V_instructions (2 : Int32) a1 r2 hr2 H.size) (z_cwV hts mw_O_is kw_265 ⟨by rw [hR]; exact Nat.le_of_ble_eq_true rfl, by rw [hR]; exact Nat.le_of_ble_eq_true rfl⟩) (z_preV (ci := 3) hK hP hD hN rfl (he := (rfl : _[0]? = _)) [0, 1, 2, 3, 4, 5] (by decide) rfl) rfl rfl hl.1 rfl (lv_room (Nat.le_of_ble_eq_true rfl)) d_O_product_3 ⟨Nat.zero_le _, Nat.zero_le _⟩) hP hD hS hA [0, 1, 2, 3, 4, 5] [] [0, 1, 2, 3, 4, 5] rfl rfl (by decide) (by decide) rfl (by decide) (fun H locs hP hD hS => ?_)
  refine lv_if_ne hx hb d_O_product_6 rfl (fun hc => ?_) (fun hc => ?_)
  · rw [if_neg hc] at hr
    exact hB18 V_instructions V_length _ _ _ (lv_sub hl [0] rfl) hP hD hS hr
  · rw [if_pos hc] at hr
    refine lv_aload_n hx hb d_O_product_9 rfl (lv_at hl 0 rfl) ?_
    refine lv_iconst (v := (2 : Int32)) hx hb d_O_product_10 (by decide) ?_
    refine lv_iload_n hx hb d_O_product_11 rfl (lv_at hl 2 rfl) ?_
    obtain ⟨r3, hr3, hr⟩ := ob hr
    refine z_ci (ws := (W_OV kI kZ qO qV O_modulus O_valueOf O_isNeeded O_registerOf V_length V_instructions)) (wc := (W_OV kI kZ qO qV O_modulus O_valueOf O_isNeeded O_registerOf V_length V_instructions)) (wr := ([] : va_W)) (w1 := (W_OV kI kZ qO qV O_modulus O_valueOf O_isNeeded O_registerOf V_length V_instructions)) (w2 := (W_OV kI kZ qO qV O_modulus O_valueOf O_isNeeded O_registerOf V_length V_instructions)) (va_runV (As := [.int (2 : Int32), .int a2]) (rest := []) ⟨hx, hb, hml, hown, hts⟩ (c_O_is l D kI kZ qO qV O_modulus O_valueOf O_isNeeded O_registerOf V_length V_instructions (2 : Int32) a2 r3 hr3 H.size) (z_cwV hts mw_O_is kw_265 ⟨by rw [hR]; exact Nat.le_of_ble_eq_true rfl, by rw [hR]; exact Nat.le_of_ble_eq_true rfl⟩) (z_preV (ci := 3) hK hP hD hN rfl (he := (rfl : _[0]? = _)) [0, 1, 2, 3, 4, 5] (by decide) rfl) rfl rfl hl.1 rfl (lv_room (Nat.le_of_ble_eq_true rfl)) d_O_product_12 ⟨Nat.zero_le _, Nat.zero_le _⟩) hP hD hS hA [0, 1, 2, 3, 4, 5] [] [0, 1, 2, 3, 4, 5] rfl rfl (by decide) (by decide) rfl (by decide) (fun H locs hP hD hS => ?_)
    refine lv_if_eq hx hb d_O_product_15 rfl (fun hc => ?_) (fun hc => ?_)
    · rw [if_pos hc] at hr
      refine lv_aload_n hx hb d_O_product_23 rfl (lv_at hl 0 rfl) ?_
      refine lv_iconst (v := (1 : Int32)) hx hb d_O_product_24 (by decide) ?_
      refine lv_iload_n hx hb d_O_product_25 rfl (lv_at hl 2 rfl) ?_
      obtain ⟨r4, hr4, hr⟩ := ob hr
      refine z_ci (ws := (W_OV kI kZ qO qV O_modulus O_valueOf O_isNeeded O_registerOf V_length V_instructions)) (wc := (W_OV kI kZ qO qV O_modulus O_valueOf O_isNeeded O_registerOf V_length V_instructions)) (wr := ([] : va_W)) (w1 := (W_OV kI kZ qO qV O_modulus O_valueOf O_isNeeded O_registerOf V_length V_instructions)) (w2 := (W_OV kI kZ qO qV O_modulus O_valueOf O_isNeeded O_registerOf V_length V_instructions)) (va_runV (As := [.int (1 : Int32), .int a2]) (rest := []) ⟨hx, hb, hml, hown, hts⟩ (c_O_is l D kI kZ qO qV O_modulus O_valueOf O_isNeeded O_registerOf V_length V_instructions (1 : Int32) a2 r4 hr4 H.size) (z_cwV hts mw_O_is kw_265 ⟨by rw [hR]; exact Nat.le_of_ble_eq_true rfl, by rw [hR]; exact Nat.le_of_ble_eq_true rfl⟩) (z_preV (ci := 3) hK hP hD hN rfl (he := (rfl : _[0]? = _)) [0, 1, 2, 3, 4, 5] (by decide) rfl) rfl rfl hl.1 rfl (lv_room (Nat.le_of_ble_eq_true rfl)) d_O_product_26 ⟨Nat.zero_le _, Nat.zero_le _⟩) hP hD hS hA [0, 1, 2, 3, 4, 5] [] [0, 1, 2, 3, 4, 5] rfl rfl (by decide) (by decide) rfl (by decide) (fun H locs hP hD hS => ?_)
      refine lv_if_eq hx hb d_O_product_29 rfl (fun hc => ?_) (fun hc => ?_)
      · rw [if_pos hc] at hr
        refine lv_aload_n hx hb d_O_product_34 rfl (lv_at hl 0 rfl) ?_
        refine lv_iconst (v := (1 : Int32)) hx hb d_O_product_35 (by decide) ?_
        refine lv_iload_n hx hb d_O_product_36 rfl (lv_at hl 1 rfl) ?_
        obtain ⟨r5, hr5, hr⟩ := ob hr
        refine z_ci (ws := (W_OV kI kZ qO qV O_modulus O_valueOf O_isNeeded O_registerOf V_length V_instructions)) (wc := (W_OV kI kZ qO qV O_modulus O_valueOf O_isNeeded O_registerOf V_length V_instructions)) (wr := ([] : va_W)) (w1 := (W_OV kI kZ qO qV O_modulus O_valueOf O_isNeeded O_registerOf V_length V_instructions)) (w2 := (W_OV kI kZ qO qV O_modulus O_valueOf O_isNeeded O_registerOf V_length V_instructions)) (va_runV (As := [.int (1 : Int32), .int a1]) (rest := []) ⟨hx, hb, hml, hown, hts⟩ (c_O_is l D kI kZ qO qV O_modulus O_valueOf O_isNeeded O_registerOf V_length V_instructions (1 : Int32) a1 r5 hr5 H.size) (z_cwV hts mw_O_is kw_265 ⟨by rw [hR]; exact Nat.le_of_ble_eq_true rfl, by rw [hR]; exact Nat.le_of_ble_eq_true rfl⟩) (z_preV (ci := 3) hK hP hD hN rfl (he := (rfl : _[0]? = _)) [0, 1, 2, 3, 4, 5] (by decide) rfl) rfl rfl hl.1 rfl (lv_room (Nat.le_of_ble_eq_true rfl)) d_O_product_37 ⟨Nat.zero_le _, Nat.zero_le _⟩) hP hD hS hA [0, 1, 2, 3, 4, 5] [] [0, 1, 2, 3, 4, 5] rfl rfl (by decide) (by decide) rfl (by decide) (fun H locs hP hD hS => ?_)
        refine lv_if_eq hx hb d_O_product_40 rfl (fun hc => ?_) (fun hc => ?_)
        · rw [if_pos hc] at hr
          refine lv_aload_n hx hb d_O_product_45 rfl (lv_at hl 0 rfl) ?_
          refine va_get (D := D) (ci := 3) (v := .ref (qV 0)) (C := R_O) (T := T_O) (N := 5) hx hb hts in_O hown hK hP 0 rfl rfl 1 (by decide) (hts _ kw_87) (fun _ h9 => h9) rfl d_O_product_46 ?_
          refine lv_iconst (v := (5 : Int32)) hx hb d_O_product_49 (by decide) ?_
          refine lv_iload_n hx hb d_O_product_50 rfl (lv_at hl 1 rfl) ?_
          refine lv_iload_n hx hb d_O_product_51 rfl (lv_at hl 2 rfl) ?_
          obtain ⟨r6, hr6, hr⟩ := ob hr
          refine z_ci (ws := (W_OV kI kZ qO qV O_modulus O_valueOf O_isNeeded O_registerOf V_length V_instructions)) (wc := (W_C kI kZ qV V_length V_instructions)) (wr := (W_O kI kZ qO qV O_modulus O_valueOf O_isNeeded O_registerOf)) (w1 := (W_C kI kZ qV r6.2.2 r6.2.1)) (w2 := (W_OV kI kZ qO qV O_modulus O_valueOf O_isNeeded O_registerOf r6.2.2 r6.2.1)) (va_runV (As := [.int (5 : Int32), .int a1, .int a2]) (rest := []) ⟨hx, hb, hml, hown, hts⟩ (c_C_findOrAppend l D kI kZ qV V_length V_instructions (5 : Int32) a1 a2 r6 hr6 H.size) (z_cwV hts mw_C_findOrAppend kw_275 ⟨by rw [hR]; exact Nat.le_of_ble_eq_true rfl, by rw [hR]; exact Nat.le_of_ble_eq_true rfl⟩) (z_preV (ci := 0) hK hP hD hN rfl (he := (rfl : _[4]? = _)) [4, 5] (by decide) rfl) rfl rfl hl.1 rfl (lv_room (Nat.le_of_ble_eq_true rfl)) d_O_product_52 ⟨Nat.zero_le _, Nat.zero_le _⟩) hP hD hS hA [4, 5] [0, 1, 2, 3] [0, 1, 2, 3, 4, 5] rfl rfl (by decide) (by decide) rfl (by decide) (fun H locs hP hD hS => ?_)
          obtain rfl := Option.some.inj hr
          exact hQ _ _ _ _ _ d_O_product_55 rfl rfl hP hD hS
        · rw [if_neg hc] at hr
          refine lv_iload_n hx hb d_O_product_43 rfl (lv_at hl 2 rfl) ?_
          obtain rfl := Option.some.inj hr
          exact hQ _ _ _ _ _ d_O_product_44 rfl rfl hP hD hS
      · rw [if_neg hc] at hr
        refine lv_iload_n hx hb d_O_product_32 rfl (lv_at hl 1 rfl) ?_
        obtain rfl := Option.some.inj hr
        exact hQ _ _ _ _ _ d_O_product_33 rfl rfl hP hD hS
    · rw [if_neg hc] at hr
      exact hB18 V_instructions V_length _ _ _ (lv_sub hl [0] rfl) hP hD hS hr
set_option maxHeartbeats 4000000 in
set_option maxRecDepth 100000 in
theorem c_O_turned (l : Launch) (D : va_G) (kI kZ : ClassId) (qO qV : Nat → Nat) (O_modulus : Int32) (O_valueOf O_isNeeded O_registerOf : Nat → Int32) (V_length : Int32) (V_instructions : Nat → Int32) (a1 : Int32) (res : Int32 × (Nat → Int32) × Int32) (hr : f_O_turned V_instructions V_length a1 = some res) : zMi l D kI kZ y_O_turned prog_5_method_9_code 2 ((some .int)) 3 70 [.ref (qO 0), .int a1] (W_OV kI kZ qO qV O_modulus O_valueOf O_isNeeded O_registerOf V_length V_instructions) (W_OV kI kZ qO qV O_modulus O_valueOf O_isNeeded O_registerOf (res.2.2) (res.2.1)) (res.1) := by
  refine zMi.of (by decide +kernel) (Nat.le_of_ble_eq_true rfl) ?_
  intro p e R s m args below meth c Q A hR hx hb hml hts hown hA hK hN hQ
  have hown : s.vm.findClass "SquareCode$Optimiser" = some m.cls := hown
  intro ls H hl hP hD hS
  have hl : lv_has ls 2 [(0, .ref (qO 0)), (1, .int a1)] := hl
  rw [f_O_turned] at hr
  refine lv_aload_n hx hb d_O_turned_0 rfl (lv_at hl 0 rfl) ?_
  refine lv_iconst (v := (1 : Int32)) hx hb d_O_turned_1 (by decide) ?_
  refine lv_iload_n hx hb d_O_turned_2 rfl (lv_at hl 1 rfl) ?_
  obtain ⟨r1, hr1, hr⟩ := ob hr
  refine z_ci (ws := (W_OV kI kZ qO qV O_modulus O_valueOf O_isNeeded O_registerOf V_length V_instructions)) (wc := (W_OV kI kZ qO qV O_modulus O_valueOf O_isNeeded O_registerOf V_length V_instructions)) (wr := ([] : va_W)) (w1 := (W_OV kI kZ qO qV O_modulus O_valueOf O_isNeeded O_registerOf V_length V_instructions)) (w2 := (W_OV kI kZ qO qV O_modulus O_valueOf O_isNeeded O_registerOf V_length V_instructions)) (va_runV (As := [.int (1 : Int32), .int a1]) (rest := []) ⟨hx, hb, hml, hown, hts⟩ (c_O_is l D kI kZ qO qV O_modulus O_valueOf O_isNeeded O_registerOf V_length V_instructions (1 : Int32) a1 r1 hr1 H.size) (z_cwV hts mw_O_is kw_265 ⟨by rw [hR]; exact Nat.le_of_ble_eq_true rfl, by rw [hR]; exact Nat.le_of_ble_eq_true rfl⟩) (z_preV (ci := 3) hK hP hD hN rfl (he := (rfl : _[0]? = _)) [0, 1, 2, 3, 4, 5] (by decide) rfl) rfl rfl hl.1 rfl (lv_room (Nat.le_of_ble_eq_true rfl)) d_O_turned_3 ⟨Nat.zero_le _, Nat.zero_le _⟩) hP hD hS hA [0, 1, 2, 3, 4, 5] [] [0, 1, 2, 3, 4, 5] rfl rfl (by decide) (by decide) rfl (by decide) (fun H locs hP hD hS => ?_)
  refine lv_if_ne hx hb d_O_turned_6 rfl (fun hc => ?_) (fun hc => ?_)
  · rw [if_neg hc] at hr
    refine lv_iload_n hx hb d_O_turned_18 rfl (lv_at hl 1 rfl) ?_
    obtain rfl := Option.some.inj hr
    exact hQ _ _ _ _ _ d_O_turned_19 rfl rfl hP hD hS
  · rw [if_pos hc] at hr
    refine lv_aload_n hx hb d_O_turned_9 rfl (lv_at hl 0 rfl) ?_
    refine lv_iconst (v := (2 : Int32)) hx hb d_O_turned_10 (by decide) ?_
    refine lv_iload_n hx hb d_O_turned_11 rfl (lv_at hl 1 rfl) ?_
    obtain ⟨r2, hr2, hr⟩ := ob hr
    refine z_ci (ws := (W_OV kI kZ qO qV O_modulus O_valueOf O_isNeeded O_registerOf V_length V_instructions)) (wc := (W_OV kI kZ qO qV O_modulus O_valueOf O_isNeeded O_registerOf V_length V_instructions)) (wr := ([] : va_W)) (w1 := (W_OV kI kZ qO qV O_modulus O_valueOf O_isNeeded O_registerOf V_length V_instructions)) (w2 := (W_OV kI kZ qO qV O_modulus O_valueOf O_isNeeded O_registerOf V_length V_instructions)) (va_runV (As := [.int (2 : Int32), .int a1]) (rest := []) ⟨hx, hb, hml, hown, hts⟩ (c_O_is l D kI kZ qO qV O_modulus O_valueOf O_isNeeded O_registerOf V_length V_instructions (2 : Int32) a1 r2 hr2 H.size) (z_cwV hts mw_O_is kw_265 ⟨by rw [hR]; exact Nat.le_of_ble_eq_true rfl, by rw [hR]; exact Nat.le_of_ble_eq_true rfl⟩) (z_preV (ci := 3) hK hP hD hN rfl (he := (rfl : _[0]? = _)) [0, 1, 2, 3, 4, 5] (by decide) rfl) rfl rfl hl.1 rfl (lv_room (Nat.le_of_ble_eq_true rfl)) d_O_turned_12 ⟨Nat.zero_le _, Nat.zero_le _⟩) hP hD hS hA [0, 1, 2, 3, 4, 5] [] [0, 1, 2, 3, 4, 5] rfl rfl (by decide) (by decide) rfl (by decide) (fun H locs hP hD hS => ?_)
    refine lv_if_eq hx hb d_O_turned_15 rfl (fun hc => ?_) (fun hc => ?_)
    · rw [if_pos hc] at hr
      refine lv_aload_n hx hb d_O_turned_20 rfl (lv_at hl 0 rfl) ?_
      refine lv_bipush (v := (6 : Int32)) hx hb d_O_turned_21 (by decide) ?_
      refine lv_iload_n hx hb d_O_turned_23 rfl (lv_at hl 1 rfl) ?_
      obtain ⟨r3, hr3, hr⟩ := ob hr
      refine z_ci (ws := (W_OV kI kZ qO qV O_modulus O_valueOf O_isNeeded O_registerOf V_length V_instructions)) (wc := (W_OV kI kZ qO qV O_modulus O_valueOf O_isNeeded O_registerOf V_length V_instructions)) (wr := ([] : va_W)) (w1 := (W_OV kI kZ qO qV O_modulus O_valueOf O_isNeeded O_registerOf V_length V_instructions)) (w2 := (W_OV kI kZ qO qV O_modulus O_valueOf O_isNeeded O_registerOf V_length V_instructions)) (va_runV (As := [.int (6 : Int32), .int a1]) (rest := []) ⟨hx, hb, hml, hown, hts⟩ (c_O_is l D kI kZ qO qV O_modulus O_valueOf O_isNeeded O_registerOf V_length V_instructions (6 : Int32) a1 r3 hr3 H.size) (z_cwV hts mw_O_is kw_265 ⟨by rw [hR]; exact Nat.le_of_ble_eq_true rfl, by rw [hR]; exact Nat.le_of_ble_eq_true rfl⟩) (z_preV (ci := 3) hK hP hD hN rfl (he := (rfl : _[0]? = _)) [0, 1, 2, 3, 4, 5] (by decide) rfl) rfl rfl hl.1 rfl (lv_room (Nat.le_of_ble_eq_true rfl)) d_O_turned_24 ⟨Nat.zero_le _, Nat.zero_le _⟩) hP hD hS hA [0, 1, 2, 3, 4, 5] [] [0, 1, 2, 3, 4, 5] rfl rfl (by decide) (by decide) rfl (by decide) (fun H locs hP hD hS => ?_)
      refine lv_if_eq hx hb d_O_turned_27 rfl (fun hc => ?_) (fun hc => ?_)
      · rw [if_pos hc] at hr
        refine lv_aload_n hx hb d_O_turned_39 rfl (lv_at hl 0 rfl) ?_
        refine va_get (D := D) (ci := 3) (v := .ref (qV 0)) (C := R_O) (T := T_O) (N := 5) hx hb hts in_O hown hK hP 0 rfl rfl 1 (by decide) (hts _ kw_87) (fun _ h9 => h9) rfl d_O_turned_40 ?_
        refine lv_bipush (v := (6 : Int32)) hx hb d_O_turned_43 (by decide) ?_
        refine lv_iload_n hx hb d_O_turned_45 rfl (lv_at hl 1 rfl) ?_
        refine lv_iconst (v := (0 : Int32)) hx hb d_O_turned_46 (by decide) ?_
        obtain ⟨r4, hr4, hr⟩ := ob hr
        refine z_ci (ws := (W_OV kI kZ qO qV O_modulus O_valueOf O_isNeeded O_registerOf V_length V_instructions)) (wc := (W_C kI kZ qV V_length V_instructions)) (wr := (W_O kI kZ qO qV O_modulus O_valueOf O_isNeeded O_registerOf)) (w1 := (W_C kI kZ qV r4.2.2 r4.2.1)) (w2 := (W_OV kI kZ qO qV O_modulus O_valueOf O_isNeeded O_registerOf r4.2.2 r4.2.1)) (va_runV (As := [.int (6 : Int32), .int a1, .int (0 : Int32)]) (rest := []) ⟨hx, hb, hml, hown, hts⟩ (c_C_findOrAppend l D kI kZ qV V_length V_instructions (6 : Int32) a1 (0 : Int32) r4 hr4 H.size) (z_cwV hts mw_C_findOrAppend kw_275 ⟨by rw [hR]; exact Nat.le_of_ble_eq_true rfl, by rw [hR]; exact Nat.le_of_ble_eq_true rfl⟩) (z_preV (ci := 0) hK hP hD hN rfl (he := (rfl : _[4]? = _)) [4, 5] (by decide) rfl) rfl rfl hl.1 rfl (lv_room (Nat.le_of_ble_eq_true rfl)) d_O_turned_47 ⟨Nat.zero_le _, Nat.zero_le _⟩) hP hD hS hA [4, 5] [0, 1, 2, 3] [0, 1, 2, 3, 4, 5] rfl rfl (by decide) (by decide) rfl (by decide) (fun H locs hP hD hS => ?_)
        obtain rfl := Option.some.inj hr
        exact hQ _ _ _ _ _ d_O_turned_50 rfl rfl hP hD hS
      · rw [if_neg hc] at hr
        refine lv_aload_n hx hb d_O_turned_30 rfl (lv_at hl 0 rfl) ?_
        refine va_get (D := D) (ci := 3) (v := .ref (qV 0)) (C := R_O) (T := T_O) (N := 5) hx hb hts in_O hown hK hP 0 rfl rfl 1 (by decide) (hts _ kw_87) (fun _ h9 => h9) rfl d_O_turned_31 ?_
        refine lv_iload_n hx hb d_O_turned_34 rfl (lv_at hl 1 rfl) ?_
        obtain ⟨r5, hr5, hr⟩ := ob hr
        refine z_ci (ws := (W_OV kI kZ qO qV O_modulus O_valueOf O_isNeeded O_registerOf V_length V_instructions)) (wc := (W_C kI kZ qV V_length V_instructions)) (wr := (W_O kI kZ qO qV O_modulus O_valueOf O_isNeeded O_registerOf)) (w1 := (W_C kI kZ qV V_length V_instructions)) (w2 := (W_OV kI kZ qO qV O_modulus O_valueOf O_isNeeded O_registerOf V_length V_instructions)) (va_runV (As := [.int a1]) (rest := []) ⟨hx, hb, hml, hown, hts⟩ (c_C_first l D kI kZ qV V_length V_instructions a1 r5 hr5 H.size) (z_cwV hts mw_C_first kw_249 ⟨by rw [hR]; exact Nat.le_of_ble_eq_true rfl, by rw [hR]; exact Nat.le_of_ble_eq_true rfl⟩) (z_preV (ci := 0) hK hP hD hN rfl (he := (rfl : _[4]? = _)) [4, 5] (by decide) rfl) rfl rfl hl.1 rfl (lv_room (Nat.le_of_ble_eq_true rfl)) d_O_turned_35 ⟨Nat.zero_le _, Nat.zero_le _⟩) hP hD hS hA [4, 5] [0, 1, 2, 3] [0, 1, 2, 3, 4, 5] rfl rfl (by decide) (by decide) rfl (by decide) (fun H locs hP hD hS => ?_)
        obtain rfl := Option.some.inj hr
        exact hQ _ _ _ _ _ d_O_turned_38 rfl rfl hP hD hS
    · rw [if_neg hc] at hr
      refine lv_iload_n hx hb d_O_turned_18 rfl (lv_at hl 1 rfl) ?_
      obtain rfl := Option.some.inj hr
      exact hQ _ _ _ _ _ d_O_turned_19 rfl rfl hP hD hS
end
section
set_option maxHeartbeats 4000000 in
set_option maxRecDepth 100000 in
theorem c_O_scaled (l : Launch) (D : va_G) (kI kZ : ClassId) (qO qV : Nat → Nat) (O_modulus : Int32) (O_valueOf O_isNeeded O_registerOf : Nat → Int32) (V_length : Int32) (V_instructions : Nat → Int32) (a1 a2 : Int32) (res : Int32 × (Nat → Int32) × Int32) (hr : f_O_scaled O_modulus V_instructions V_length a1 a2 = some res) : zMi l D kI kZ y_O_scaled prog_5_method_10_code 6 ((some .int)) 4 90 [.ref (qO 0), .int a1, .int a2] (W_OV kI kZ qO qV O_modulus O_valueOf O_isNeeded O_registerOf V_length V_instructions) (W_OV kI kZ qO qV O_modulus O_valueOf O_isNeeded O_registerOf (res.2.2) (res.2.1)) (res.1) := by
  refine zMi.of (by decide +kernel) (Nat.le_of_ble_eq_true rfl) ?_
  intro p e R s m args below meth c Q A hR hx hb hml hts hown hA hK hN hQ
  have hown : s.vm.findClass "SquareCode$Optimiser" = some m.cls := hown
  have hB66 : ∀ (V_instructions : Nat → Int32) (V_length : Int32)   (H : Heap) (locs : List Loc) (ls : Array Slot), lv_has ls 6 [(0, .ref (qO 0))] → va_P D zCl (W_OV kI kZ qO qV O_modulus O_valueOf O_isNeeded O_registerOf V_length V_instructions) H → va_D A (W_OV kI kZ qO qV O_modulus O_valueOf O_isNeeded O_registerOf V_length V_instructions) → va_S A s.heap H locs → f_O_scaled_66 V_instructions V_length = some res → W p l e R s m args below meth c H locs 0 0 Q (F0 m 66 ls []) := by
    intro V_instructions V_length H locs ls hl hP hD hS hr
    rw [f_O_scaled_66] at hr
    refine lv_aload_n hx hb d_O_scaled_66 rfl (lv_at hl 0 rfl) ?_
    obtain ⟨r1, hr1, hr⟩ := ob hr
    refine z_ci (ws := (W_OV kI kZ qO qV O_modulus O_valueOf O_isNeeded O_registerOf V_length V_instructions)) (wc := (W_OV kI kZ qO qV O_modulus O_valueOf O_isNeeded O_registerOf V_length V_instructions)) (wr := ([] : va_W)) (w1 := (W_OV kI kZ qO qV O_modulus O_valueOf O_isNeeded O_registerOf r1.2.2 r1.2.1)) (w2 := (W_OV kI kZ qO qV O_modulus O_valueOf O_isNeeded O_registerOf r1.2.2 r1.2.1)) (va_runV (As := []) (rest := []) ⟨hx, hb, hml, hown, hts⟩ (c_O_nought l D kI kZ qO qV O_modulus O_valueOf O_isNeeded O_registerOf V_length V_instructions r1 hr1 H.size) (z_cwV hts mw_O_nought kw_284 ⟨by rw [hR]; exact Nat.le_of_ble_eq_true rfl, by rw [hR]; exact Nat.le_of_ble_eq_true rfl⟩) (z_preV (ci := 3) hK hP hD hN rfl (he := (rfl : _[0]? = _)) [0, 1, 2, 3, 4, 5] (by decide) rfl) rfl rfl hl.1 rfl (lv_room (Nat.le_of_ble_eq_true rfl)) d_O_scaled_67 ⟨Nat.zero_le _, Nat.zero_le _⟩) hP hD hS hA [0, 1, 2, 3, 4, 5] [] [0, 1, 2, 3, 4, 5] rfl rfl (by decide) (by decide) rfl (by decide) (fun H locs hP hD hS => ?_)
    obtain rfl := Option.some.inj hr
    exact hQ _ _ _ _ _ d_O_scaled_70 rfl rfl hP hD hS
  have hB49 : ∀ (v4 t0 : Int32) (V_instructions : Nat → Int32) (V_length : Int32)   (H : Heap) (locs : List Loc) (ls : Array Slot), lv_has ls 6 [(0, .ref (qO 0)), (4, .int v4)] → va_P D zCl (W_OV kI kZ qO qV O_modulus O_valueOf O_isNeeded O_registerOf V_length V_instructions) H → va_D A (W_OV kI kZ qO qV O_modulus O_valueOf O_isNeeded O_registerOf V_length V_instructions) → va_S A s.heap H locs → f_O_scaled_49 v4 t0 V_instructions V_length = some res → W p l e R s m args below meth c H locs 0 0 Q (F0 m 49 ls [.int t0]) := by
    intro v4 t0 V_instructions V_length H locs ls hl hP hD hS hr
    rw [f_O_scaled_49] at hr
    refine lv_istore (lv' := [(5, .int t0), (0, .ref (qO 0)), (4, .int v4)]) hx hb d_O_scaled_49 hl (by decide) rfl (fun ls hl => ?_)
    refine lv_iload hx hb d_O_scaled_51 (lv_at hl 0 rfl) ?_
    refine lv_if_eq hx hb d_O_scaled_53 rfl (fun hc => ?_) (fun hc => ?_)
    · rw [if_pos hc] at hr
      exact hB66 V_instructions V_length _ _ _ (lv_sub hl [1] rfl) hP hD hS hr
    · rw [if_neg hc] at hr
      refine lv_aload_n hx hb d_O_scaled_56 rfl (lv_at hl 1 rfl) ?_
      refine lv_iconst (v := (2 : Int32)) hx hb d_O_scaled_57 (by decide) ?_
      refine lv_iload hx hb d_O_scaled_58 (lv_at hl 2 rfl) ?_
      obtain ⟨r2, hr2, hr⟩ := ob hr
      refine z_ci (ws := (W_OV kI kZ qO qV O_modulus O_valueOf O_isNeeded O_registerOf V_length V_instructions)) (wc := (W_OV kI kZ qO qV O_modulus O_valueOf O_isNeeded O_registerOf V_length V_instructions)) (wr := ([] : va_W)) (w1 := (W_OV kI kZ qO qV O_modulus O_valueOf O_isNeeded O_registerOf V_length V_instructions)) (w2 := (W_OV kI kZ qO qV O_modulus O_valueOf O_isNeeded O_registerOf V_length V_instructions)) (va_runV (As := [.int (2 : Int32), .int v4]) (rest := []) ⟨hx, hb, hml, hown, hts⟩ (c_O_is l D kI kZ qO qV O_modulus O_valueOf O_isNeeded O_registerOf V_length V_instructions (2 : Int32) v4 r2 hr2 H.size) (z_cwV hts mw_O_is kw_265 ⟨by rw [hR]; exact Nat.le_of_ble_eq_true rfl, by rw [hR]; exact Nat.le_of_ble_eq_true rfl⟩) (z_preV (ci := 3) hK hP hD hN rfl (he := (rfl : _[0]? = _)) [0, 1, 2, 3, 4, 5] (by decide) rfl) rfl rfl hl.1 rfl (lv_room (Nat.le_of_ble_eq_true rfl)) d_O_scaled_60 ⟨Nat.zero_le _, Nat.zero_le _⟩) hP hD hS hA [0, 1, 2, 3, 4, 5] [] [0, 1, 2, 3, 4, 5] rfl rfl (by decide) (by decide) rfl (by decide) (fun H locs hP hD hS => ?_)
      refine lv_if_eq hx hb d_O_scaled_63 rfl (fun hc => ?_) (fun hc => ?_)
      · rw [if_pos hc] at hr
        refine lv_iload hx hb d_O_scaled_71 (lv_at hl 0 rfl) ?_
        refine lv_iconst (v := (1 : Int32)) hx hb d_O_scaled_73 (by decide) ?_
        refine lv_icmp_ne hx hb d_O_scaled_74 rfl (fun hc => ?_) (fun hc => ?_)
        · rw [if_neg hc] at hr
          refine lv_aload_n hx hb d_O_scaled_80 rfl (lv_at hl 1 rfl) ?_
          refine va_get (D := D) (ci := 3) (v := .ref (qV 0)) (C := R_O) (T := T_O) (N := 5) hx hb hts in_O hown hK hP 0 rfl rfl 1 (by decide) (hts _ kw_87) (fun _ h9 => h9) rfl d_O_scaled_81 ?_
          refine lv_bipush (v := (7 : Int32)) hx hb d_O_scaled_84 (by decide) ?_
          refine lv_iload hx hb d_O_scaled_86 (lv_at hl 2 rfl) ?_
          refine lv_iload hx hb d_O_scaled_88 (lv_at hl 0 rfl) ?_
          obtain ⟨r3, hr3, hr⟩ := ob hr
          refine z_ci (ws := (W_OV kI kZ qO qV O_modulus O_valueOf O_isNeeded O_registerOf V_length V_instructions)) (wc := (W_C kI kZ qV V_length V_instructions)) (wr := (W_O kI kZ qO qV O_modulus O_valueOf O_isNeeded O_registerOf)) (w1 := (W_C kI kZ qV r3.2.2 r3.2.1)) (w2 := (W_OV kI kZ qO qV O_modulus O_valueOf O_isNeeded O_registerOf r3.2.2 r3.2.1)) (va_runV (As := [.int (7 : Int32), .int v4, .int t0]) (rest := []) ⟨hx, hb, hml, hown, hts⟩ (c_C_findOrAppend l D kI kZ qV V_length V_instructions (7 : Int32) v4 t0 r3 hr3 H.size) (z_cwV hts mw_C_findOrAppend kw_275 ⟨by rw [hR]; exact Nat.le_of_ble_eq_true rfl, by rw [hR]; exact Nat.le_of_ble_eq_true rfl⟩) (z_preV (ci := 0) hK hP hD hN rfl (he := (rfl : _[4]? = _)) [4, 5] (by decide) rfl) rfl rfl hl.1 rfl (lv_room (Nat.le_of_ble_eq_true rfl)) d_O_scaled_90 ⟨Nat.zero_le _, Nat.zero_le _⟩) hP hD hS hA [4, 5] [0, 1, 2, 3] [0, 1, 2, 3, 4, 5] rfl rfl (by decide) (by decide) rfl (by decide) (fun H locs hP hD hS => ?_)
          obtain rfl := Option.some.inj hr
          exact hQ _ _ _ _ _ d_O_scaled_93 rfl rfl hP hD hS
        · rw [if_pos hc] at hr
          refine lv_iload hx hb d_O_scaled_77 (lv_at hl 2 rfl) ?_
          obtain rfl := Option.some.inj hr
          exact hQ _ _ _ _ _ d_O_scaled_79 rfl rfl hP hD hS
      · rw [if_neg hc] at hr
        exact hB66 V_instructions V_length _ _ _ (lv_sub hl [1] rfl) hP hD hS hr
  have hB24 : ∀ (v3 t0 : Int32) (V_instructions : Nat → Int32) (V_length : Int32)   (H : Heap) (locs : List Loc) (ls : Array Slot), lv_has ls 6 [(0, .ref (qO 0)), (1, .int a1), (2, .int a2), (3, .int v3)] → va_P D zCl (W_OV kI kZ qO qV O_modulus O_valueOf O_isNeeded O_registerOf V_length V_instructions) H → va_D A (W_OV kI kZ qO qV O_modulus O_valueOf O_isNeeded O_registerOf V_length V_instructions) → va_S A s.heap H locs → f_O_scaled_24 O_modulus a1 a2 v3 t0 V_instructions V_length = some res → W p l e R s m args below meth c H locs 0 0 Q (F0 m 24 ls [.int t0]) := by
    intro v3 t0 V_instructions V_length H locs ls hl hP hD hS hr
    rw [f_O_scaled_24] at hr
    refine lv_istore (lv' := [(4, .int t0), (0, .ref (qO 0)), (1, .int a1), (2, .int a2), (3, .int v3)]) hx hb d_O_scaled_24 hl (by decide) rfl (fun ls hl => ?_)
    refine lv_iload_n hx hb d_O_scaled_26 rfl (lv_at hl 4 rfl) ?_
    refine lv_if_eq hx hb d_O_scaled_27 rfl (fun hc => ?_) (fun hc => ?_)
    · rw [if_pos hc] at hr
      refine lv_iload_n hx hb d_O_scaled_48 rfl (lv_at hl 3 rfl) ?_
      exact hB49 t0 a2 V_instructions V_length _ _ _ (lv_sub hl [1, 0] rfl) hP hD hS hr
    · rw [if_neg hc] at hr
      refine lv_aload_n hx hb d_O_scaled_30 rfl (lv_at hl 1 rfl) ?_
      refine va_get (D := D) (ci := 3) (v := .ref (qV 0)) (C := R_O) (T := T_O) (N := 5) hx hb hts in_O hown hK hP 0 rfl rfl 1 (by decide) (hts _ kw_87) (fun _ h9 => h9) rfl d_O_scaled_31 ?_
      refine lv_iload_n hx hb d_O_scaled_34 rfl (lv_at hl 2 rfl) ?_
      obtain ⟨r4, hr4, hr⟩ := ob hr
      refine z_ci (ws := (W_OV kI kZ qO qV O_modulus O_valueOf O_isNeeded O_registerOf V_length V_instructions)) (wc := (W_C kI kZ qV V_length V_instructions)) (wr := (W_O kI kZ qO qV O_modulus O_valueOf O_isNeeded O_registerOf)) (w1 := (W_C kI kZ qV V_length V_instructions)) (w2 := (W_OV kI kZ qO qV O_modulus O_valueOf O_isNeeded O_registerOf V_length V_instructions)) (va_runV (As := [.int a1]) (rest := []) ⟨hx, hb, hml, hown, hts⟩ (c_C_second l D kI kZ qV V_length V_instructions a1 r4 hr4 H.size) (z_cwV hts mw_C_second kw_253 ⟨by rw [hR]; exact Nat.le_of_ble_eq_true rfl, by rw [hR]; exact Nat.le_of_ble_eq_true rfl⟩) (z_preV (ci := 0) hK hP hD hN rfl (he := (rfl : _[4]? = _)) [4, 5] (by decide) rfl) rfl rfl hl.1 rfl (lv_room (Nat.le_of_ble_eq_true rfl)) d_O_scaled_35 ⟨Nat.zero_le _, Nat.zero_le _⟩) hP hD hS hA [4, 5] [0, 1, 2, 3] [0, 1, 2, 3, 4, 5] rfl rfl (by decide) (by decide) rfl (by decide) (fun H locs hP hD hS => ?_)
      refine lv_iload_n hx hb d_O_scaled_38 rfl (lv_at hl 3 rfl) ?_
      refine lv_imul hx hb d_O_scaled_39 ?_
      refine lv_aload_n hx hb d_O_scaled_40 rfl (lv_at hl 1 rfl) ?_
      refine va_get (D := D) (ci := 3) (v := .int O_modulus) (C := R_O) (T := T_O) (N := 5) hx hb hts in_O hown hK hP 0 rfl rfl 0 (by decide) (hts _ kw_86) (fun _ h9 => h9) rfl d_O_scaled_41 ?_
      obtain ⟨hz, hr⟩ := nz_some hr
      refine z_irem hx hb d_O_scaled_44 hz ?_
      refine lv_goto hx hb d_O_scaled_45 rfl ?_
      exact hB49 t0 (zrem (r4 * a2) O_modulus) V_instructions V_length _ _ _ (lv_sub hl [1, 0] rfl) hP hD hS hr
  intro ls H hl hP hD hS
  have hl : lv_has ls 6 [(0, .ref (qO 0)), (1, .int a1), (2, .int a2)] := hl
  rw [f_O_scaled] at hr
  refine lv_aload_n hx hb d_O_scaled_0 rfl (lv_at hl 0 rfl) ?_
  refine lv_bipush (v := (7 : Int32)) hx hb d_O_scaled_1 (by decide) ?_
  refine lv_iload_n hx hb d_O_scaled_3 rfl (lv_at hl 1 rfl) ?_
  obtain ⟨r5, hr5, hr⟩ := ob hr
  refine z_ci (ws := (W_OV kI kZ qO qV O_modulus O_valueOf O_isNeeded O_registerOf V_length V_instructions)) (wc := (W_OV kI kZ qO qV O_modulus O_valueOf O_isNeeded O_registerOf V_length V_instructions)) (wr := ([] : va_W)) (w1 := (W_OV kI kZ qO qV O_modulus O_valueOf O_isNeeded O_registerOf V_length V_instructions)) (w2 := (W_OV kI kZ qO qV O_modulus O_valueOf O_isNeeded O_registerOf V_length V_instructions)) (va_runV (As := [.int (7 : Int32), .int a1]) (rest := []) ⟨hx, hb, hml, hown, hts⟩ (c_O_is l D kI kZ qO qV O_modulus O_valueOf O_isNeeded O_registerOf V_length V_instructions (7 : Int32) a1 r5 hr5 H.size) (z_cwV hts mw_O_is kw_265 ⟨by rw [hR]; exact Nat.le_of_ble_eq_true rfl, by rw [hR]; exact Nat.le_of_ble_eq_true rfl⟩) (z_preV (ci := 3) hK hP hD hN rfl (he := (rfl : _[0]? = _)) [0, 1, 2, 3, 4, 5] (by decide) rfl) rfl rfl hl.1 rfl (lv_room (Nat.le_of_ble_eq_true rfl)) d_O_scaled_4 ⟨Nat.zero_le _, Nat.zero_le _⟩) hP hD hS hA [0, 1, 2, 3, 4, 5] [] [0, 1, 2, 3, 4, 5] rfl rfl (by decide) (by decide) rfl (by decide) (fun H locs hP hD hS => ?_)
  refine lv_istore_n (lv' := [(3, .int r5), (0, .ref (qO 0)), (1, .int a1), (2, .int a2)]) hx hb d_O_scaled_7 rfl hl (by decide) rfl (fun ls hl => ?_)
  refine lv_iload_n hx hb d_O_scaled_8 rfl (lv_at hl 0 rfl) ?_
  refine lv_if_eq hx hb d_O_scaled_9 rfl (fun hc => ?_) (fun hc => ?_)
  · rw [if_pos hc] at hr
    refine lv_iload_n hx hb d_O_scaled_23 rfl (lv_at hl 2 rfl) ?_
    exact hB24 r5 a1 V_instructions V_length _ _ _ (lv_sub hl [1, 2, 3, 0] rfl) hP hD hS hr
  · rw [if_neg hc] at hr
    refine lv_aload_n hx hb d_O_scaled_12 rfl (lv_at hl 1 rfl) ?_
    refine va_get (D := D) (ci := 3) (v := .ref (qV 0)) (C := R_O) (T := T_O) (N := 5) hx hb hts in_O hown hK hP 0 rfl rfl 1 (by decide) (hts _ kw_87) (fun _ h9 => h9) rfl d_O_scaled_13 ?_
    refine lv_iload_n hx hb d_O_scaled_16 rfl (lv_at hl 2 rfl) ?_
    obtain ⟨r6, hr6, hr⟩ := ob hr
    refine z_ci (ws := (W_OV kI kZ qO qV O_modulus O_valueOf O_isNeeded O_registerOf V_length V_instructions)) (wc := (W_C kI kZ qV V_length V_instructions)) (wr := (W_O kI kZ qO qV O_modulus O_valueOf O_isNeeded O_registerOf)) (w1 := (W_C kI kZ qV V_length V_instructions)) (w2 := (W_OV kI kZ qO qV O_modulus O_valueOf O_isNeeded O_registerOf V_length V_instructions)) (va_runV (As := [.int a1]) (rest := []) ⟨hx, hb, hml, hown, hts⟩ (c_C_first l D kI kZ qV V_length V_instructions a1 r6 hr6 H.size) (z_cwV hts mw_C_first kw_249 ⟨by rw [hR]; exact Nat.le_of_ble_eq_true rfl, by rw [hR]; exact Nat.le_of_ble_eq_true rfl⟩) (z_preV (ci := 0) hK hP hD hN rfl (he := (rfl : _[4]? = _)) [4, 5] (by decide) rfl) rfl rfl hl.1 rfl (lv_room (Nat.le_of_ble_eq_true rfl)) d_O_scaled_17 ⟨Nat.zero_le _, Nat.zero_le _⟩) hP hD hS hA [4, 5] [0, 1, 2, 3] [0, 1, 2, 3, 4, 5] rfl rfl (by decide) (by decide) rfl (by decide) (fun H locs hP hD hS => ?_)
    refine lv_goto hx hb d_O_scaled_20 rfl ?_
    exact hB24 r5 r6 V_instructions V_length _ _ _ (lv_sub hl [1, 2, 3, 0] rfl) hP hD hS hr
set_option maxHeartbeats 4000000 in
set_option maxRecDepth 100000 in
theorem c_O_value (l : Launch) (D : va_G) (kI kZ : ClassId) (qO qV : Nat → Nat) (O_modulus : Int32) (O_valueOf O_isNeeded O_registerOf : Nat → Int32) (V_length : Int32) (V_instructions : Nat → Int32) (a1 a2 a3 : Int32) (res : Int32 × (Nat → Int32) × Int32) (hr : f_O_value O_modulus O_valueOf V_instructions V_length a1 a2 a3 = some res) : zMi l D kI kZ y_O_value prog_5_method_3_code 4 ((some .int)) 5 115 [.ref (qO 0), .int a1, .int a2, .int a3] (W_OV kI kZ qO qV O_modulus O_valueOf O_isNeeded O_registerOf V_length V_instructions) (W_OV kI kZ qO qV O_modulus O_valueOf O_isNeeded O_registerOf (res.2.2) (res.2.1)) (res.1) := by
  refine zMi.of (by decide +kernel) (Nat.le_of_ble_eq_true rfl) ?_
  intro p e R s m args below meth c Q A hR hx hb hml hts hown hA hK hN hQ
  have hown : s.vm.findClass "SquareCode$Optimiser" = some m.cls := hown
  intro ls H hl hP hD hS
  have hl : lv_has ls 4 [(0, .ref (qO 0)), (1, .int a1), (2, .int a2), (3, .int a3)] := hl
  rw [f_O_value] at hr
  refine lv_iload_n hx hb d_O_value_0 rfl (lv_at hl 1 rfl) ?_
  by_cases hs1_3 : a1 = (3 : Int32)
  · rw [if_pos hs1_3] at hr
    refine lv_tableIn hx hb d_O_value_1 (by rw [hs1_3]; decide) (by rw [hs1_3]; decide) (by rw [hs1_3]; rfl) rfl ?_
    refine lv_aload_n hx hb d_O_value_36 rfl (lv_at hl 0 rfl) ?_
    refine lv_aload_n hx hb d_O_value_37 rfl (lv_at hl 0 rfl) ?_
    refine va_get (D := D) (ci := 3) (v := .ref (qO 1)) (C := R_O) (T := T_O) (N := 5) hx hb hts in_O hown hK hP 0 rfl rfl 2 (by decide) (hts _ kw_88) (fun _ h9 => h9) rfl d_O_value_38 ?_
    refine lv_iload_n hx hb d_O_value_41 rfl (lv_at hl 2 rfl) ?_
    obtain ⟨hi, hr⟩ := gd_some hr
    refine va_iald hx hb hK hP 1 0 rfl rfl hi d_O_value_42 ?_
    refine lv_aload_n hx hb d_O_value_43 rfl (lv_at hl 0 rfl) ?_
    refine va_get (D := D) (ci := 3) (v := .ref (qO 1)) (C := R_O) (T := T_O) (N := 5) hx hb hts in_O hown hK hP 0 rfl rfl 2 (by decide) (hts _ kw_88) (fun _ h9 => h9) rfl d_O_value_44 ?_
    refine lv_iload_n hx hb d_O_value_47 rfl (lv_at hl 3 rfl) ?_
    obtain ⟨hi, hr⟩ := gd_some hr
    refine va_iald hx hb hK hP 1 0 rfl rfl hi d_O_value_48 ?_
    obtain ⟨r1, hr1, hr⟩ := ob hr
    refine z_ci (ws := (W_OV kI kZ qO qV O_modulus O_valueOf O_isNeeded O_registerOf V_length V_instructions)) (wc := (W_OV kI kZ qO qV O_modulus O_valueOf O_isNeeded O_registerOf V_length V_instructions)) (wr := ([] : va_W)) (w1 := (W_OV kI kZ qO qV O_modulus O_valueOf O_isNeeded O_registerOf r1.2.2 r1.2.1)) (w2 := (W_OV kI kZ qO qV O_modulus O_valueOf O_isNeeded O_registerOf r1.2.2 r1.2.1)) (va_runV (As := [.int (O_valueOf a2.toNatClampNeg), .int (O_valueOf a3.toNatClampNeg)]) (rest := []) ⟨hx, hb, hml, hown, hts⟩ (c_O_sum l D kI kZ qO qV O_modulus O_valueOf O_isNeeded O_registerOf V_length V_instructions (O_valueOf a2.toNatClampNeg) (O_valueOf a3.toNatClampNeg) r1 hr1 H.size) (z_cwV hts mw_O_sum kw_261 ⟨by rw [hR]; exact Nat.le_of_ble_eq_true rfl, by rw [hR]; exact Nat.le_of_ble_eq_true rfl⟩) (z_preV (ci := 3) hK hP hD hN rfl (he := (rfl : _[0]? = _)) [0, 1, 2, 3, 4, 5] (by decide) rfl) rfl rfl hl.1 rfl (lv_room (Nat.le_of_ble_eq_true rfl)) d_O_value_49 ⟨Nat.zero_le _, Nat.zero_le _⟩) hP hD hS hA [0, 1, 2, 3, 4, 5] [] [0, 1, 2, 3, 4, 5] rfl rfl (by decide) (by decide) rfl (by decide) (fun H locs hP hD hS => ?_)
    obtain rfl := Option.some.inj hr
    exact hQ _ _ _ _ _ d_O_value_52 rfl rfl hP hD hS
  rw [if_neg hs1_3] at hr
  by_cases hs1_4 : a1 = (4 : Int32)
  · rw [if_pos hs1_4] at hr
    refine lv_tableIn hx hb d_O_value_1 (by rw [hs1_4]; decide) (by rw [hs1_4]; decide) (by rw [hs1_4]; rfl) rfl ?_
    refine lv_aload_n hx hb d_O_value_53 rfl (lv_at hl 0 rfl) ?_
    refine lv_aload_n hx hb d_O_value_54 rfl (lv_at hl 0 rfl) ?_
    refine va_get (D := D) (ci := 3) (v := .ref (qO 1)) (C := R_O) (T := T_O) (N := 5) hx hb hts in_O hown hK hP 0 rfl rfl 2 (by decide) (hts _ kw_88) (fun _ h9 => h9) rfl d_O_value_55 ?_
    refine lv_iload_n hx hb d_O_value_58 rfl (lv_at hl 2 rfl) ?_
    obtain ⟨hi, hr⟩ := gd_some hr
    refine va_iald hx hb hK hP 1 0 rfl rfl hi d_O_value_59 ?_
    refine lv_aload_n hx hb d_O_value_60 rfl (lv_at hl 0 rfl) ?_
    refine va_get (D := D) (ci := 3) (v := .ref (qO 1)) (C := R_O) (T := T_O) (N := 5) hx hb hts in_O hown hK hP 0 rfl rfl 2 (by decide) (hts _ kw_88) (fun _ h9 => h9) rfl d_O_value_61 ?_
    refine lv_iload_n hx hb d_O_value_64 rfl (lv_at hl 3 rfl) ?_
    obtain ⟨hi, hr⟩ := gd_some hr
    refine va_iald hx hb hK hP 1 0 rfl rfl hi d_O_value_65 ?_
    obtain ⟨r2, hr2, hr⟩ := ob hr
    refine z_ci (ws := (W_OV kI kZ qO qV O_modulus O_valueOf O_isNeeded O_registerOf V_length V_instructions)) (wc := (W_OV kI kZ qO qV O_modulus O_valueOf O_isNeeded O_registerOf V_length V_instructions)) (wr := ([] : va_W)) (w1 := (W_OV kI kZ qO qV O_modulus O_valueOf O_isNeeded O_registerOf r2.2.2 r2.2.1)) (w2 := (W_OV kI kZ qO qV O_modulus O_valueOf O_isNeeded O_registerOf r2.2.2 r2.2.1)) (va_runV (As := [.int (O_valueOf a2.toNatClampNeg), .int (O_valueOf a3.toNatClampNeg)]) (rest := []) ⟨hx, hb, hml, hown, hts⟩ (c_O_difference l D kI kZ qO qV O_modulus O_valueOf O_isNeeded O_registerOf V_length V_instructions (O_valueOf a2.toNatClampNeg) (O_valueOf a3.toNatClampNeg) r2 hr2 H.size) (z_cwV hts mw_O_difference kw_280 ⟨by rw [hR]; exact Nat.le_of_ble_eq_true rfl, by rw [hR]; exact Nat.le_of_ble_eq_true rfl⟩) (z_preV (ci := 3) hK hP hD hN rfl (he := (rfl : _[0]? = _)) [0, 1, 2, 3, 4, 5] (by decide) rfl) rfl rfl hl.1 rfl (lv_room (Nat.le_of_ble_eq_true rfl)) d_O_value_66 ⟨Nat.zero_le _, Nat.zero_le _⟩) hP hD hS hA [0, 1, 2, 3, 4, 5] [] [0, 1, 2, 3, 4, 5] rfl rfl (by decide) (by decide) rfl (by decide) (fun H locs hP hD hS => ?_)
    obtain rfl := Option.some.inj hr
    exact hQ _ _ _ _ _ d_O_value_69 rfl rfl hP hD hS
  rw [if_neg hs1_4] at hr
  by_cases hs1_5 : a1 = (5 : Int32)
  · rw [if_pos hs1_5] at hr
    refine lv_tableIn hx hb d_O_value_1 (by rw [hs1_5]; decide) (by rw [hs1_5]; decide) (by rw [hs1_5]; rfl) rfl ?_
    refine lv_aload_n hx hb d_O_value_70 rfl (lv_at hl 0 rfl) ?_
    refine lv_aload_n hx hb d_O_value_71 rfl (lv_at hl 0 rfl) ?_
    refine va_get (D := D) (ci := 3) (v := .ref (qO 1)) (C := R_O) (T := T_O) (N := 5) hx hb hts in_O hown hK hP 0 rfl rfl 2 (by decide) (hts _ kw_88) (fun _ h9 => h9) rfl d_O_value_72 ?_
    refine lv_iload_n hx hb d_O_value_75 rfl (lv_at hl 2 rfl) ?_
    obtain ⟨hi, hr⟩ := gd_some hr
    refine va_iald hx hb hK hP 1 0 rfl rfl hi d_O_value_76 ?_
    refine lv_aload_n hx hb d_O_value_77 rfl (lv_at hl 0 rfl) ?_
    refine va_get (D := D) (ci := 3) (v := .ref (qO 1)) (C := R_O) (T := T_O) (N := 5) hx hb hts in_O hown hK hP 0 rfl rfl 2 (by decide) (hts _ kw_88) (fun _ h9 => h9) rfl d_O_value_78 ?_
    refine lv_iload_n hx hb d_O_value_81 rfl (lv_at hl 3 rfl) ?_
    obtain ⟨hi, hr⟩ := gd_some hr
    refine va_iald hx hb hK hP 1 0 rfl rfl hi d_O_value_82 ?_
    obtain ⟨r3, hr3, hr⟩ := ob hr
    refine z_ci (ws := (W_OV kI kZ qO qV O_modulus O_valueOf O_isNeeded O_registerOf V_length V_instructions)) (wc := (W_OV kI kZ qO qV O_modulus O_valueOf O_isNeeded O_registerOf V_length V_instructions)) (wr := ([] : va_W)) (w1 := (W_OV kI kZ qO qV O_modulus O_valueOf O_isNeeded O_registerOf r3.2.2 r3.2.1)) (w2 := (W_OV kI kZ qO qV O_modulus O_valueOf O_isNeeded O_registerOf r3.2.2 r3.2.1)) (va_runV (As := [.int (O_valueOf a2.toNatClampNeg), .int (O_valueOf a3.toNatClampNeg)]) (rest := []) ⟨hx, hb, hml, hown, hts⟩ (c_O_product l D kI kZ qO qV O_modulus O_valueOf O_isNeeded O_registerOf V_length V_instructions (O_valueOf a2.toNatClampNeg) (O_valueOf a3.toNatClampNeg) r3 hr3 H.size) (z_cwV hts mw_O_product kw_288 ⟨by rw [hR]; exact Nat.le_of_ble_eq_true rfl, by rw [hR]; exact Nat.le_of_ble_eq_true rfl⟩) (z_preV (ci := 3) hK hP hD hN rfl (he := (rfl : _[0]? = _)) [0, 1, 2, 3, 4, 5] (by decide) rfl) rfl rfl hl.1 rfl (lv_room (Nat.le_of_ble_eq_true rfl)) d_O_value_83 ⟨Nat.zero_le _, Nat.zero_le _⟩) hP hD hS hA [0, 1, 2, 3, 4, 5] [] [0, 1, 2, 3, 4, 5] rfl rfl (by decide) (by decide) rfl (by decide) (fun H locs hP hD hS => ?_)
    obtain rfl := Option.some.inj hr
    exact hQ _ _ _ _ _ d_O_value_86 rfl rfl hP hD hS
  rw [if_neg hs1_5] at hr
  by_cases hs1_6 : a1 = (6 : Int32)
  · rw [if_pos hs1_6] at hr
    refine lv_tableIn hx hb d_O_value_1 (by rw [hs1_6]; decide) (by rw [hs1_6]; decide) (by rw [hs1_6]; rfl) rfl ?_
    refine lv_aload_n hx hb d_O_value_87 rfl (lv_at hl 0 rfl) ?_
    refine lv_aload_n hx hb d_O_value_88 rfl (lv_at hl 0 rfl) ?_
    refine va_get (D := D) (ci := 3) (v := .ref (qO 1)) (C := R_O) (T := T_O) (N := 5) hx hb hts in_O hown hK hP 0 rfl rfl 2 (by decide) (hts _ kw_88) (fun _ h9 => h9) rfl d_O_value_89 ?_
    refine lv_iload_n hx hb d_O_value_92 rfl (lv_at hl 2 rfl) ?_
    obtain ⟨hi, hr⟩ := gd_some hr
    refine va_iald hx hb hK hP 1 0 rfl rfl hi d_O_value_93 ?_
    obtain ⟨r4, hr4, hr⟩ := ob hr
    refine z_ci (ws := (W_OV kI kZ qO qV O_modulus O_valueOf O_isNeeded O_registerOf V_length V_instructions)) (wc := (W_OV kI kZ qO qV O_modulus O_valueOf O_isNeeded O_registerOf V_length V_instructions)) (wr := ([] : va_W)) (w1 := (W_OV kI kZ qO qV O_modulus O_valueOf O_isNeeded O_registerOf r4.2.2 r4.2.1)) (w2 := (W_OV kI kZ qO qV O_modulus O_valueOf O_isNeeded O_registerOf r4.2.2 r4.2.1)) (va_runV (As := [.int (O_valueOf a2.toNatClampNeg)]) (rest := []) ⟨hx, hb, hml, hown, hts⟩ (c_O_turned l D kI kZ qO qV O_modulus O_valueOf O_isNeeded O_registerOf V_length V_instructions (O_valueOf a2.toNatClampNeg) r4 hr4 H.size) (z_cwV hts mw_O_turned kw_292 ⟨by rw [hR]; exact Nat.le_of_ble_eq_true rfl, by rw [hR]; exact Nat.le_of_ble_eq_true rfl⟩) (z_preV (ci := 3) hK hP hD hN rfl (he := (rfl : _[0]? = _)) [0, 1, 2, 3, 4, 5] (by decide) rfl) rfl rfl hl.1 rfl (lv_room (Nat.le_of_ble_eq_true rfl)) d_O_value_94 ⟨Nat.zero_le _, Nat.zero_le _⟩) hP hD hS hA [0, 1, 2, 3, 4, 5] [] [0, 1, 2, 3, 4, 5] rfl rfl (by decide) (by decide) rfl (by decide) (fun H locs hP hD hS => ?_)
    obtain rfl := Option.some.inj hr
    exact hQ _ _ _ _ _ d_O_value_97 rfl rfl hP hD hS
  rw [if_neg hs1_6] at hr
  by_cases hs1_7 : a1 = (7 : Int32)
  · rw [if_pos hs1_7] at hr
    refine lv_tableIn hx hb d_O_value_1 (by rw [hs1_7]; decide) (by rw [hs1_7]; decide) (by rw [hs1_7]; rfl) rfl ?_
    refine lv_aload_n hx hb d_O_value_98 rfl (lv_at hl 0 rfl) ?_
    refine lv_aload_n hx hb d_O_value_99 rfl (lv_at hl 0 rfl) ?_
    refine va_get (D := D) (ci := 3) (v := .ref (qO 1)) (C := R_O) (T := T_O) (N := 5) hx hb hts in_O hown hK hP 0 rfl rfl 2 (by decide) (hts _ kw_88) (fun _ h9 => h9) rfl d_O_value_100 ?_
    refine lv_iload_n hx hb d_O_value_103 rfl (lv_at hl 2 rfl) ?_
    obtain ⟨hi, hr⟩ := gd_some hr
    refine va_iald hx hb hK hP 1 0 rfl rfl hi d_O_value_104 ?_
    refine lv_iload_n hx hb d_O_value_105 rfl (lv_at hl 3 rfl) ?_
    refine lv_aload_n hx hb d_O_value_106 rfl (lv_at hl 0 rfl) ?_
    refine va_get (D := D) (ci := 3) (v := .int O_modulus) (C := R_O) (T := T_O) (N := 5) hx hb hts in_O hown hK hP 0 rfl rfl 0 (by decide) (hts _ kw_86) (fun _ h9 => h9) rfl d_O_value_107 ?_
    obtain ⟨hz, hr⟩ := nz_some hr
    refine z_irem hx hb d_O_value_110 hz ?_
    obtain ⟨r5, hr5, hr⟩ := ob hr
    refine z_ci (ws := (W_OV kI kZ qO qV O_modulus O_valueOf O_isNeeded O_registerOf V_length V_instructions)) (wc := (W_OV kI kZ qO qV O_modulus O_valueOf O_isNeeded O_registerOf V_length V_instructions)) (wr := ([] : va_W)) (w1 := (W_OV kI kZ qO qV O_modulus O_valueOf O_isNeeded O_registerOf r5.2.2 r5.2.1)) (w2 := (W_OV kI kZ qO qV O_modulus O_valueOf O_isNeeded O_registerOf r5.2.2 r5.2.1)) (va_runV (As := [.int (O_valueOf a2.toNatClampNeg), .int (zrem a3 O_modulus)]) (rest := []) ⟨hx, hb, hml, hown, hts⟩ (c_O_scaled l D kI kZ qO qV O_modulus O_valueOf O_isNeeded O_registerOf V_length V_instructions (O_valueOf a2.toNatClampNeg) (zrem a3 O_modulus) r5 hr5 H.size) (z_cwV hts mw_O_scaled kw_296 ⟨by rw [hR]; exact Nat.le_of_ble_eq_true rfl, by rw [hR]; exact Nat.le_of_ble_eq_true rfl⟩) (z_preV (ci := 3) hK hP hD hN rfl (he := (rfl : _[0]? = _)) [0, 1, 2, 3, 4, 5] (by decide) rfl) rfl rfl hl.1 rfl (lv_room (Nat.le_of_ble_eq_true rfl)) d_O_value_111 ⟨Nat.zero_le _, Nat.zero_le _⟩) hP hD hS hA [0, 1, 2, 3, 4, 5] [] [0, 1, 2, 3, 4, 5] rfl rfl (by decide) (by decide) rfl (by decide) (fun H locs hP hD hS => ?_)
    obtain rfl := Option.some.inj hr
    exact hQ _ _ _ _ _ d_O_value_114 rfl rfl hP hD hS
  rw [if_neg hs1_7] at hr
  have hs1_3 := z_ne (k := 3) (by decide) hs1_3
  have hs1_4 := z_ne (k := 4) (by decide) hs1_4
  have hs1_5 := z_ne (k := 5) (by decide) hs1_5
  have hs1_6 := z_ne (k := 6) (by decide) hs1_6
  have hs1_7 := z_ne (k := 7) (by decide) hs1_7
  refine lv_tableOut hx hb d_O_value_1 (by omega) rfl ?_
  refine lv_aload_n hx hb d_O_value_115 rfl (lv_at hl 0 rfl) ?_
  refine va_get (D := D) (ci := 3) (v := .ref (qV 0)) (C := R_O) (T := T_O) (N := 5) hx hb hts in_O hown hK hP 0 rfl rfl 1 (by decide) (hts _ kw_87) (fun _ h9 => h9) rfl d_O_value_116 ?_
  refine lv_iload_n hx hb d_O_value_119 rfl (lv_at hl 1 rfl) ?_
  refine lv_iload_n hx hb d_O_value_120 rfl (lv_at hl 2 rfl) ?_
  refine lv_iload_n hx hb d_O_value_121 rfl (lv_at hl 3 rfl) ?_
  obtain ⟨r6, hr6, hr⟩ := ob hr
  refine z_ci (ws := (W_OV kI kZ qO qV O_modulus O_valueOf O_isNeeded O_registerOf V_length V_instructions)) (wc := (W_C kI kZ qV V_length V_instructions)) (wr := (W_O kI kZ qO qV O_modulus O_valueOf O_isNeeded O_registerOf)) (w1 := (W_C kI kZ qV r6.2.2 r6.2.1)) (w2 := (W_OV kI kZ qO qV O_modulus O_valueOf O_isNeeded O_registerOf r6.2.2 r6.2.1)) (va_runV (As := [.int a1, .int a2, .int a3]) (rest := []) ⟨hx, hb, hml, hown, hts⟩ (c_C_findOrAppend l D kI kZ qV V_length V_instructions a1 a2 a3 r6 hr6 H.size) (z_cwV hts mw_C_findOrAppend kw_275 ⟨by rw [hR]; exact Nat.le_of_ble_eq_true rfl, by rw [hR]; exact Nat.le_of_ble_eq_true rfl⟩) (z_preV (ci := 0) hK hP hD hN rfl (he := (rfl : _[4]? = _)) [4, 5] (by decide) rfl) rfl rfl hl.1 rfl (lv_room (Nat.le_of_ble_eq_true rfl)) d_O_value_122 ⟨Nat.zero_le _, Nat.zero_le _⟩) hP hD hS hA [4, 5] [0, 1, 2, 3] [0, 1, 2, 3, 4, 5] rfl rfl (by decide) (by decide) rfl (by decide) (fun H locs hP hD hS => ?_)
  obtain rfl := Option.some.inj hr
  exact hQ _ _ _ _ _ d_O_value_125 rfl rfl hP hD hS
set_option maxHeartbeats 4000000 in
set_option maxRecDepth 100000 in
theorem c_C_result (l : Launch) (D : va_G) (kI kZ : ClassId) (qC : Nat → Nat) (C_length : Int32) (C_instructions : Nat → Int32)  (res : Int32) (hr : f_C_result C_length = some res) : zMi l D kI kZ y_C_result prog_2_method_8_code 1 ((some .int)) 0 0 [.ref (qC 0)] (W_C kI kZ qC C_length C_instructions) (W_C kI kZ qC C_length C_instructions) res := by
  refine zMi.of (by decide +kernel) (Nat.le_of_ble_eq_true rfl) ?_
  intro p e R s m args below meth c Q A hR hx hb hml hts hown hA hK hN hQ
  have hown : s.vm.findClass "SquareCode$Code" = some m.cls := hown
  intro ls H hl hP hD hS
  have hl : lv_has ls 1 [(0, .ref (qC 0))] := hl
  rw [f_C_result] at hr
  refine lv_aload_n hx hb d_C_result_0 rfl (lv_at hl 0 rfl) ?_
  refine va_get (D := D) (ci := 0) (v := .int C_length) (C := R_C) (T := T_C) (N := 2) hx hb hts in_C hown hK hP 0 rfl rfl 1 (by decide) (hts _ kw_62) (fun _ h9 => h9) rfl d_C_result_1 ?_
  refine lv_iconst (v := (1 : Int32)) hx hb d_C_result_4 (by decide) ?_
  refine lv_isub hx hb d_C_result_5 ?_
  obtain rfl := Option.some.inj hr
  exact hQ _ _ _ _ _ d_C_result_6 rfl rfl hP hD hS
set_option maxHeartbeats 4000000 in
set_option maxRecDepth 100000 in
theorem c_O_markNeeded (l : Launch) (D : va_G) (kI kZ : ClassId) (qO qV : Nat → Nat) (O_modulus : Int32) (O_valueOf O_isNeeded O_registerOf : Nat → Int32) (V_length : Int32) (V_instructions : Nat → Int32) (a1 : Int32) (res : (Nat → Int32)) (hr : f_O_markNeeded O_isNeeded V_instructions V_length a1 = some res) : zMv l D kI kZ y_O_markNeeded prog_5_method_11_code 4 none 1 21 [.ref (qO 0), .int a1] (W_OV kI kZ qO qV O_modulus O_valueOf O_isNeeded O_registerOf V_length V_instructions) (W_OV kI kZ qO qV O_modulus O_valueOf res O_registerOf V_length V_instructions) := by
  refine zMv.of (by decide +kernel) (Nat.le_of_ble_eq_true rfl) ?_
  intro p e R s m args below meth c Q A hR hx hb hml hts hown hA hK hN hQ
  have hown : s.vm.findClass "SquareCode$Optimiser" = some m.cls := hown
  have hB84 : ∀ (v2 v3 : Int32) (O_isNeeded : Nat → Int32) (k37 : Int32 → (Nat → Int32) → Option ((Nat → Int32))) (hk37 : ∀ (v2 : Int32) (O_isNeeded : Nat → Int32) (H : Heap) (locs : List Loc) (ls : Array Slot), lv_has ls 4 [(0, .ref (qO 0)), (2, .int v2)] → va_P D zCl (W_OV kI kZ qO qV O_modulus O_valueOf O_isNeeded O_registerOf V_length V_instructions) H → va_D A (W_OV kI kZ qO qV O_modulus O_valueOf O_isNeeded O_registerOf V_length V_instructions) → va_S A s.heap H locs → k37 v2 O_isNeeded = some res → W p l e R s m args below meth c H locs 0 0 Q (F0 m 37 ls [])) (H : Heap) (locs : List Loc) (ls : Array Slot), lv_has ls 4 [(0, .ref (qO 0)), (2, .int v2), (3, .int v3)] → va_P D zCl (W_OV kI kZ qO qV O_modulus O_valueOf O_isNeeded O_registerOf V_length V_instructions) H → va_D A (W_OV kI kZ qO qV O_modulus O_valueOf O_isNeeded O_registerOf V_length V_instructions) → va_S A s.heap H locs → f_O_markNeeded_84 V_instructions k37 v2 v3 O_isNeeded = some res → W p l e R s m args below meth c H locs 0 0 Q (F0 m 84 ls []) := by
    intro v2 v3 O_isNeeded k37 hk37 H locs ls hl hP hD hS hr
    rw [f_O_markNeeded_84] at hr
    refine lv_iload_n hx hb d_O_markNeeded_84 rfl (lv_at hl 2 rfl) ?_
    refine lv_iconst (v := (2 : Int32)) hx hb d_O_markNeeded_85 (by decide) ?_
    refine lv_icmp_ne hx hb d_O_markNeeded_86 rfl (fun hc => ?_) (fun hc => ?_)
    · rw [if_neg hc] at hr
      refine lv_iinc (k := 1) (v := (v2 + (-1 : Int32))) (lv' := [(2, .int (v2 + (-1 : Int32))), (0, .ref (qO 0)), (3, .int v3)]) hx hb d_O_markNeeded_103 hl rfl (congrArg (fun z => v2 + z) (by decide : Int32.ofInt (-1) = (-1 : Int32))) (by decide) rfl (fun ls hl => ?_)
      refine lv_goto hx hb d_O_markNeeded_106 rfl ?_
      exact hk37 (v2 + (-1 : Int32)) O_isNeeded _ _ _ (lv_sub hl [1, 0] rfl) hP hD hS hr
    · rw [if_pos hc] at hr
      refine lv_aload_n hx hb d_O_markNeeded_89 rfl (lv_at hl 0 rfl) ?_
      refine va_get (D := D) (ci := 3) (v := .ref (qO 2)) (C := R_O) (T := T_O) (N := 5) hx hb hts in_O hown hK hP 0 rfl rfl 3 (by decide) (hts _ kw_89) (fun _ h9 => h9) rfl d_O_markNeeded_90 ?_
      refine lv_aload_n hx hb d_O_markNeeded_93 rfl (lv_at hl 0 rfl) ?_
      refine va_get (D := D) (ci := 3) (v := .ref (qV 0)) (C := R_O) (T := T_O) (N := 5) hx hb hts in_O hown hK hP 0 rfl rfl 1 (by decide) (hts _ kw_87) (fun _ h9 => h9) rfl d_O_markNeeded_94 ?_
      refine lv_iload_n hx hb d_O_markNeeded_97 rfl (lv_at hl 1 rfl) ?_
      obtain ⟨r1, hr1, hr⟩ := ob hr
      refine z_ci (ws := (W_OV kI kZ qO qV O_modulus O_valueOf O_isNeeded O_registerOf V_length V_instructions)) (wc := (W_C kI kZ qV V_length V_instructions)) (wr := (W_O kI kZ qO qV O_modulus O_valueOf O_isNeeded O_registerOf)) (w1 := (W_C kI kZ qV V_length V_instructions)) (w2 := (W_OV kI kZ qO qV O_modulus O_valueOf O_isNeeded O_registerOf V_length V_instructions)) (va_runV (As := [.int v2]) (rest := [.ref (qO 2)]) ⟨hx, hb, hml, hown, hts⟩ (c_C_second l D kI kZ qV V_length V_instructions v2 r1 hr1 H.size) (z_cwV hts mw_C_second kw_253 ⟨by rw [hR]; exact Nat.le_of_ble_eq_true rfl, by rw [hR]; exact Nat.le_of_ble_eq_true rfl⟩) (z_preV (ci := 0) hK hP hD hN rfl (he := (rfl : _[4]? = _)) [4, 5] (by decide) rfl) rfl rfl hl.1 rfl (lv_room (Nat.le_of_ble_eq_true rfl)) d_O_markNeeded_98 ⟨Nat.zero_le _, Nat.zero_le _⟩) hP hD hS hA [4, 5] [0, 1, 2, 3] [0, 1, 2, 3, 4, 5] rfl rfl (by decide) (by decide) rfl (by decide) (fun H locs hP hD hS => ?_)
      refine lv_iconst (v := (1 : Int32)) hx hb d_O_markNeeded_101 (by decide) ?_
      obtain ⟨hi, hr⟩ := gd_some hr
      refine va_zast hx hb hK hP hD hS 2 1 rfl rfl hi d_O_markNeeded_102 (fun H locs hP hD hS => ?_)
      have hP : va_P D zCl (W_OV kI kZ qO qV O_modulus O_valueOf (upd O_isNeeded r1.toNatClampNeg (vp_nar .boolean (1 : Int32))) O_registerOf V_length V_instructions) H := hP
      have hD : va_D A (W_OV kI kZ qO qV O_modulus O_valueOf (upd O_isNeeded r1.toNatClampNeg (vp_nar .boolean (1 : Int32))) O_registerOf V_length V_instructions) := hD
      refine lv_iinc (k := 1) (v := (v2 + (-1 : Int32))) (lv' := [(2, .int (v2 + (-1 : Int32))), (0, .ref (qO 0)), (3, .int v3)]) hx hb d_O_markNeeded_103 hl rfl (congrArg (fun z => v2 + z) (by decide : Int32.ofInt (-1) = (-1 : Int32))) (by decide) rfl (fun ls hl => ?_)
      refine lv_goto hx hb d_O_markNeeded_106 rfl ?_
      exact hk37 (v2 + (-1 : Int32)) (upd O_isNeeded r1.toNatClampNeg (vp_nar .boolean (1 : Int32))) _ _ _ (lv_sub hl [1, 0] rfl) hP hD hS hr
  have hB37 : ∀ (fu : Nat) (v2 : Int32) (O_isNeeded : Nat → Int32) (H : Heap) (locs : List Loc) (ls : Array Slot), lv_has ls 4 [(0, .ref (qO 0)), (2, .int v2)] → va_P D zCl (W_OV kI kZ qO qV O_modulus O_valueOf O_isNeeded O_registerOf V_length V_instructions) H → va_D A (W_OV kI kZ qO qV O_modulus O_valueOf O_isNeeded O_registerOf V_length V_instructions) → va_S A s.heap H locs → f_O_markNeeded_37 V_instructions fu v2 O_isNeeded = some res → W p l e R s m args below meth c H locs 0 0 Q (F0 m 37 ls []) := by
    intro  fu
    induction fu with
    | zero => intro v2 O_isNeeded H locs ls hl hP hD hS hr; exact absurd hr (by rw [f_O_markNeeded_37]; exact fun h => by cases h)
    | succ fu ih =>
      intro v2 O_isNeeded H locs ls hl hP hD hS hr
      rw [f_O_markNeeded_37] at hr
      refine lv_iload_n hx hb d_O_markNeeded_37 rfl (lv_at hl 1 rfl) ?_
      refine lv_if_lt hx hb d_O_markNeeded_38 rfl (fun hc => ?_) (fun hc => ?_)
      · rw [if_pos hc] at hr
        obtain rfl := Option.some.inj hr
        exact hQ _ _ _ _ d_O_markNeeded_109 hP hD hS
      · rw [if_neg hc] at hr
        refine lv_aload_n hx hb d_O_markNeeded_41 rfl (lv_at hl 0 rfl) ?_
        refine va_get (D := D) (ci := 3) (v := .ref (qO 2)) (C := R_O) (T := T_O) (N := 5) hx hb hts in_O hown hK hP 0 rfl rfl 3 (by decide) (hts _ kw_89) (fun _ h9 => h9) rfl d_O_markNeeded_42 ?_
        refine lv_iload_n hx hb d_O_markNeeded_45 rfl (lv_at hl 1 rfl) ?_
        obtain ⟨hi, hr⟩ := gd_some hr
        refine va_zald hx hb hK hP 2 1 rfl rfl hi d_O_markNeeded_46 ?_
        refine lv_if_ne hx hb d_O_markNeeded_47 rfl (fun hc => ?_) (fun hc => ?_)
        · rw [if_neg hc] at hr
          refine lv_aload_n hx hb d_O_markNeeded_53 rfl (lv_at hl 0 rfl) ?_
          refine va_get (D := D) (ci := 3) (v := .ref (qV 0)) (C := R_O) (T := T_O) (N := 5) hx hb hts in_O hown hK hP 0 rfl rfl 1 (by decide) (hts _ kw_87) (fun _ h9 => h9) rfl d_O_markNeeded_54 ?_
          refine lv_iload_n hx hb d_O_markNeeded_57 rfl (lv_at hl 1 rfl) ?_
          obtain ⟨r2, hr2, hr⟩ := ob hr
          refine z_ci (ws := (W_OV kI kZ qO qV O_modulus O_valueOf O_isNeeded O_registerOf V_length V_instructions)) (wc := (W_C kI kZ qV V_length V_instructions)) (wr := (W_O kI kZ qO qV O_modulus O_valueOf O_isNeeded O_registerOf)) (w1 := (W_C kI kZ qV V_length V_instructions)) (w2 := (W_OV kI kZ qO qV O_modulus O_valueOf O_isNeeded O_registerOf V_length V_instructions)) (va_runV (As := [.int v2]) (rest := []) ⟨hx, hb, hml, hown, hts⟩ (c_C_operation l D kI kZ qV V_length V_instructions v2 r2 hr2 H.size) (z_cwV hts mw_C_operation kw_245 ⟨by rw [hR]; exact Nat.le_of_ble_eq_true rfl, by rw [hR]; exact Nat.le_of_ble_eq_true rfl⟩) (z_preV (ci := 0) hK hP hD hN rfl (he := (rfl : _[4]? = _)) [4, 5] (by decide) rfl) rfl rfl hl.1 rfl (lv_room (Nat.le_of_ble_eq_true rfl)) d_O_markNeeded_58 ⟨Nat.zero_le _, Nat.zero_le _⟩) hP hD hS hA [4, 5] [0, 1, 2, 3] [0, 1, 2, 3, 4, 5] rfl rfl (by decide) (by decide) rfl (by decide) (fun H locs hP hD hS => ?_)
          obtain ⟨r3, hr3, hr⟩ := ob hr
          refine z_ci (ws := (W_OV kI kZ qO qV O_modulus O_valueOf O_isNeeded O_registerOf V_length V_instructions)) (wc := ([] : va_W)) (wr := (W_OV kI kZ qO qV O_modulus O_valueOf O_isNeeded O_registerOf V_length V_instructions)) (w1 := ([] : va_W)) (w2 := (W_OV kI kZ qO qV O_modulus O_valueOf O_isNeeded O_registerOf V_length V_instructions)) (va_runSN (As := [.int r2]) (rest := []) ⟨hx, hb, hml, hown, hts⟩ (c_X_operandsOf l D kI kZ r2 r3 hr3 H.size) (z_cwN hts mw_X_operandsOf (zNestOf 5 hN rfl) ⟨by rw [hR]; exact Nat.le_of_ble_eq_true rfl, by rw [hR]; exact Nat.le_of_ble_eq_true rfl⟩) (z_pre hK hP hD hN [] (by decide) rfl) rfl rfl hl.1 rfl (lv_room (Nat.le_of_ble_eq_true rfl)) d_O_markNeeded_61 ⟨Nat.zero_le _, Nat.zero_le _⟩) hP hD hS hA [] [0, 1, 2, 3, 4, 5] [0, 1, 2, 3, 4, 5] rfl rfl (by decide) (by decide) rfl (by decide) (fun H locs hP hD hS => ?_)
          refine lv_istore_n (lv' := [(3, .int r3), (0, .ref (qO 0)), (2, .int v2)]) hx hb d_O_markNeeded_64 rfl hl (by decide) rfl (fun ls hl => ?_)
          refine lv_iload_n hx hb d_O_markNeeded_65 rfl (lv_at hl 0 rfl) ?_
          refine lv_iconst (v := (1 : Int32)) hx hb d_O_markNeeded_66 (by decide) ?_
          refine lv_icmp_lt hx hb d_O_markNeeded_67 rfl (fun hc => ?_) (fun hc => ?_)
          · rw [if_pos hc] at hr
            exact hB84 v2 r3 O_isNeeded _ ih _ _ _ (lv_sub hl [1, 2, 0] rfl) hP hD hS hr
          · rw [if_neg hc] at hr
            refine lv_aload_n hx hb d_O_markNeeded_70 rfl (lv_at hl 1 rfl) ?_
            refine va_get (D := D) (ci := 3) (v := .ref (qO 2)) (C := R_O) (T := T_O) (N := 5) hx hb hts in_O hown hK hP 0 rfl rfl 3 (by decide) (hts _ kw_89) (fun _ h9 => h9) rfl d_O_markNeeded_71 ?_
            refine lv_aload_n hx hb d_O_markNeeded_74 rfl (lv_at hl 1 rfl) ?_
            refine va_get (D := D) (ci := 3) (v := .ref (qV 0)) (C := R_O) (T := T_O) (N := 5) hx hb hts in_O hown hK hP 0 rfl rfl 1 (by decide) (hts _ kw_87) (fun _ h9 => h9) rfl d_O_markNeeded_75 ?_
            refine lv_iload_n hx hb d_O_markNeeded_78 rfl (lv_at hl 2 rfl) ?_
            obtain ⟨r4, hr4, hr⟩ := ob hr
            refine z_ci (ws := (W_OV kI kZ qO qV O_modulus O_valueOf O_isNeeded O_registerOf V_length V_instructions)) (wc := (W_C kI kZ qV V_length V_instructions)) (wr := (W_O kI kZ qO qV O_modulus O_valueOf O_isNeeded O_registerOf)) (w1 := (W_C kI kZ qV V_length V_instructions)) (w2 := (W_OV kI kZ qO qV O_modulus O_valueOf O_isNeeded O_registerOf V_length V_instructions)) (va_runV (As := [.int v2]) (rest := [.ref (qO 2)]) ⟨hx, hb, hml, hown, hts⟩ (c_C_first l D kI kZ qV V_length V_instructions v2 r4 hr4 H.size) (z_cwV hts mw_C_first kw_249 ⟨by rw [hR]; exact Nat.le_of_ble_eq_true rfl, by rw [hR]; exact Nat.le_of_ble_eq_true rfl⟩) (z_preV (ci := 0) hK hP hD hN rfl (he := (rfl : _[4]? = _)) [4, 5] (by decide) rfl) rfl rfl hl.1 rfl (lv_room (Nat.le_of_ble_eq_true rfl)) d_O_markNeeded_79 ⟨Nat.zero_le _, Nat.zero_le _⟩) hP hD hS hA [4, 5] [0, 1, 2, 3] [0, 1, 2, 3, 4, 5] rfl rfl (by decide) (by decide) rfl (by decide) (fun H locs hP hD hS => ?_)
            refine lv_iconst (v := (1 : Int32)) hx hb d_O_markNeeded_82 (by decide) ?_
            obtain ⟨hi, hr⟩ := gd_some hr
            refine va_zast hx hb hK hP hD hS 2 1 rfl rfl hi d_O_markNeeded_83 (fun H locs hP hD hS => ?_)
            have hP : va_P D zCl (W_OV kI kZ qO qV O_modulus O_valueOf (upd O_isNeeded r4.toNatClampNeg (vp_nar .boolean (1 : Int32))) O_registerOf V_length V_instructions) H := hP
            have hD : va_D A (W_OV kI kZ qO qV O_modulus O_valueOf (upd O_isNeeded r4.toNatClampNeg (vp_nar .boolean (1 : Int32))) O_registerOf V_length V_instructions) := hD
            exact hB84 v2 r3 (upd O_isNeeded r4.toNatClampNeg (vp_nar .boolean (1 : Int32))) _ ih _ _ _ (lv_sub hl [1, 2, 0] rfl) hP hD hS hr
        · rw [if_pos hc] at hr
          refine lv_goto hx hb d_O_markNeeded_50 rfl ?_
          refine lv_iinc (k := 1) (v := (v2 + (-1 : Int32))) (lv' := [(2, .int (v2 + (-1 : Int32))), (0, .ref (qO 0))]) hx hb d_O_markNeeded_103 hl rfl (congrArg (fun z => v2 + z) (by decide : Int32.ofInt (-1) = (-1 : Int32))) (by decide) rfl (fun ls hl => ?_)
          refine lv_goto hx hb d_O_markNeeded_106 rfl ?_
          exact ih (v2 + (-1 : Int32)) O_isNeeded _ _ _ (lv_sub hl [1, 0] rfl) hP hD hS hr
  have hB28 : ∀ (v2 t0 t1 : Int32) (O_isNeeded : Nat → Int32) (k2 : Int32 → (Nat → Int32) → Option ((Nat → Int32))) (hk2 : ∀ (v2 : Int32) (O_isNeeded : Nat → Int32) (H : Heap) (locs : List Loc) (ls : Array Slot), lv_has ls 4 [(0, .ref (qO 0)), (1, .int a1), (2, .int v2)] → va_P D zCl (W_OV kI kZ qO qV O_modulus O_valueOf O_isNeeded O_registerOf V_length V_instructions) H → va_D A (W_OV kI kZ qO qV O_modulus O_valueOf O_isNeeded O_registerOf V_length V_instructions) → va_S A s.heap H locs → k2 v2 O_isNeeded = some res → W p l e R s m args below meth c H locs 0 0 Q (F0 m 2 ls [])) (H : Heap) (locs : List Loc) (ls : Array Slot), lv_has ls 4 [(0, .ref (qO 0)), (1, .int a1), (2, .int v2)] → va_P D zCl (W_OV kI kZ qO qV O_modulus O_valueOf O_isNeeded O_registerOf V_length V_instructions) H → va_D A (W_OV kI kZ qO qV O_modulus O_valueOf O_isNeeded O_registerOf V_length V_instructions) → va_S A s.heap H locs → f_O_markNeeded_28 k2 v2 t0 t1 O_isNeeded = some res → W p l e R s m args below meth c H locs 0 0 Q (F0 m 28 ls [.int t0, .int t1, .ref (qO 2)]) := by
    intro v2 t0 t1 O_isNeeded k2 hk2 H locs ls hl hP hD hS hr
    rw [f_O_markNeeded_28] at hr
    obtain ⟨hi, hr⟩ := gd_some hr
    refine va_zast hx hb hK hP hD hS 2 1 rfl rfl hi d_O_markNeeded_28 (fun H locs hP hD hS => ?_)
    have hP : va_P D zCl (W_OV kI kZ qO qV O_modulus O_valueOf (upd O_isNeeded t1.toNatClampNeg (vp_nar .boolean t0)) O_registerOf V_length V_instructions) H := hP
    have hD : va_D A (W_OV kI kZ qO qV O_modulus O_valueOf (upd O_isNeeded t1.toNatClampNeg (vp_nar .boolean t0)) O_registerOf V_length V_instructions) := hD
    refine lv_iinc (k := 2) (v := (v2 + (1 : Int32))) (lv' := [(2, .int (v2 + (1 : Int32))), (0, .ref (qO 0)), (1, .int a1)]) hx hb d_O_markNeeded_29 hl rfl (congrArg (fun z => v2 + z) (by decide : Int32.ofInt 1 = (1 : Int32))) (by decide) rfl (fun ls hl => ?_)
    refine lv_goto hx hb d_O_markNeeded_32 rfl ?_
    exact hk2 (v2 + (1 : Int32)) (upd O_isNeeded t1.toNatClampNeg (vp_nar .boolean t0)) _ _ _ (lv_sub hl [1, 2, 0] rfl) hP hD hS hr
  have hB2 : ∀ (fu : Nat) (v2 : Int32) (O_isNeeded : Nat → Int32) (H : Heap) (locs : List Loc) (ls : Array Slot), lv_has ls 4 [(0, .ref (qO 0)), (1, .int a1), (2, .int v2)] → va_P D zCl (W_OV kI kZ qO qV O_modulus O_valueOf O_isNeeded O_registerOf V_length V_instructions) H → va_D A (W_OV kI kZ qO qV O_modulus O_valueOf O_isNeeded O_registerOf V_length V_instructions) → va_S A s.heap H locs → f_O_markNeeded_2 V_instructions V_length a1 fu v2 O_isNeeded = some res → W p l e R s m args below meth c H locs 0 0 Q (F0 m 2 ls []) := by
    intro  fu
    induction fu with
    | zero => intro v2 O_isNeeded H locs ls hl hP hD hS hr; exact absurd hr (by rw [f_O_markNeeded_2]; exact fun h => by cases h)
    | succ fu ih =>
      intro v2 O_isNeeded H locs ls hl hP hD hS hr
      rw [f_O_markNeeded_2] at hr
      refine lv_iload_n hx hb d_O_markNeeded_2 rfl (lv_at hl 2 rfl) ?_
      refine lv_aload_n hx hb d_O_markNeeded_3 rfl (lv_at hl 0 rfl) ?_
      refine va_get (D := D) (ci := 3) (v := .ref (qV 0)) (C := R_O) (T := T_O) (N := 5) hx hb hts in_O hown hK hP 0 rfl rfl 1 (by decide) (hts _ kw_87) (fun _ h9 => h9) rfl d_O_markNeeded_4 ?_
      obtain ⟨r5, hr5, hr⟩ := ob hr
      refine z_ci (ws := (W_OV kI kZ qO qV O_modulus O_valueOf O_isNeeded O_registerOf V_length V_instructions)) (wc := (W_C kI kZ qV V_length V_instructions)) (wr := (W_O kI kZ qO qV O_modulus O_valueOf O_isNeeded O_registerOf)) (w1 := (W_C kI kZ qV V_length V_instructions)) (w2 := (W_OV kI kZ qO qV O_modulus O_valueOf O_isNeeded O_registerOf V_length V_instructions)) (va_runV (As := []) (rest := [.int v2]) ⟨hx, hb, hml, hown, hts⟩ (c_C_length l D kI kZ qV V_length V_instructions r5 hr5 H.size) (z_cwV hts mw_C_length kw_244 ⟨by rw [hR]; exact Nat.le_of_ble_eq_true rfl, by rw [hR]; exact Nat.le_of_ble_eq_true rfl⟩) (z_preV (ci := 0) hK hP hD hN rfl (he := (rfl : _[4]? = _)) [4, 5] (by decide) rfl) rfl rfl hl.1 rfl (lv_room (Nat.le_of_ble_eq_true rfl)) d_O_markNeeded_7 ⟨Nat.zero_le _, Nat.zero_le _⟩) hP hD hS hA [4, 5] [0, 1, 2, 3] [0, 1, 2, 3, 4, 5] rfl rfl (by decide) (by decide) rfl (by decide) (fun H locs hP hD hS => ?_)
      refine lv_icmp_ge hx hb d_O_markNeeded_10 rfl (fun hc => ?_) (fun hc => ?_)
      · rw [if_pos hc] at hr
        refine lv_iload_n hx hb d_O_markNeeded_35 rfl (lv_at hl 1 rfl) ?_
        refine lv_istore_n (lv' := [(2, .int a1), (0, .ref (qO 0)), (1, .int a1)]) hx hb d_O_markNeeded_36 rfl hl (by decide) rfl (fun ls hl => ?_)
        exact hB37 zFU a1 O_isNeeded _ _ _ (lv_sub hl [1, 0] rfl) hP hD hS hr
      · rw [if_neg hc] at hr
        refine lv_aload_n hx hb d_O_markNeeded_13 rfl (lv_at hl 0 rfl) ?_
        refine va_get (D := D) (ci := 3) (v := .ref (qO 2)) (C := R_O) (T := T_O) (N := 5) hx hb hts in_O hown hK hP 0 rfl rfl 3 (by decide) (hts _ kw_89) (fun _ h9 => h9) rfl d_O_markNeeded_14 ?_
        refine lv_iload_n hx hb d_O_markNeeded_17 rfl (lv_at hl 2 rfl) ?_
        refine lv_iload_n hx hb d_O_markNeeded_18 rfl (lv_at hl 2 rfl) ?_
        refine lv_iload_n hx hb d_O_markNeeded_19 rfl (lv_at hl 1 rfl) ?_
        refine lv_icmp_ne hx hb d_O_markNeeded_20 rfl (fun hc => ?_) (fun hc => ?_)
        · rw [if_neg hc] at hr
          refine lv_iconst (v := (0 : Int32)) hx hb d_O_markNeeded_27 (by decide) ?_
          exact hB28 v2 (0 : Int32) v2 O_isNeeded _ ih _ _ _ hl hP hD hS hr
        · rw [if_pos hc] at hr
          refine lv_iconst (v := (1 : Int32)) hx hb d_O_markNeeded_23 (by decide) ?_
          refine lv_goto hx hb d_O_markNeeded_24 rfl ?_
          exact hB28 v2 (1 : Int32) v2 O_isNeeded _ ih _ _ _ hl hP hD hS hr
  intro ls H hl hP hD hS
  have hl : lv_has ls 4 [(0, .ref (qO 0)), (1, .int a1)] := hl
  rw [f_O_markNeeded] at hr
  refine lv_iconst (v := (0 : Int32)) hx hb d_O_markNeeded_0 (by decide) ?_
  refine lv_istore_n (lv' := [(2, .int (0 : Int32)), (0, .ref (qO 0)), (1, .int a1)]) hx hb d_O_markNeeded_1 rfl hl (by decide) rfl (fun ls hl => ?_)
  exact hB2 zFU (0 : Int32) O_isNeeded _ _ _ (lv_sub hl [1, 2, 0] rfl) hP hD hS hr
end
section
set_option maxHeartbeats 4000000 in
set_option maxRecDepth 100000 in
theorem c_O_rewritten (l : Launch) (D : va_G) (kI kZ : ClassId) (qC qO qV : Nat → Nat) (C_length : Int32) (C_instructions : Nat → Int32) (O_modulus : Int32) (O_valueOf O_isNeeded O_registerOf : Nat → Int32) (V_length : Int32) (V_instructions : Nat → Int32) (a1 : Int32) (res : Int32 × (Nat → Int32) × Int32) (hr : f_O_rewritten C_instructions C_length O_registerOf V_instructions a1 = some res) : zMi l D kI kZ y_O_rewritten prog_5_method_13_code 7 ((some .int)) 2 45 [.ref (qO 0), .int a1, .ref (qC 0)] (W_COV kI kZ qC qO qV C_length C_instructions O_modulus O_valueOf O_isNeeded O_registerOf V_length V_instructions) (W_COV kI kZ qC qO qV (res.2.2) (res.2.1) O_modulus O_valueOf O_isNeeded O_registerOf V_length V_instructions) (res.1) := by
  refine zMi.of (by decide +kernel) (Nat.le_of_ble_eq_true rfl) ?_
  intro p e R s m args below meth c Q A hR hx hb hml hts hown hA hK hN hQ
  have hown : s.vm.findClass "SquareCode$Optimiser" = some m.cls := hown
  have hB70 : ∀ (v3 v5 t0 : Int32) (C_instructions : Nat → Int32) (C_length : Int32)   (H : Heap) (locs : List Loc) (ls : Array Slot), lv_has ls 7 [(2, .ref (qC 0)), (3, .int v3), (5, .int v5)] → va_P D zCl (W_COV kI kZ qC qO qV C_length C_instructions O_modulus O_valueOf O_isNeeded O_registerOf V_length V_instructions) H → va_D A (W_COV kI kZ qC qO qV C_length C_instructions O_modulus O_valueOf O_isNeeded O_registerOf V_length V_instructions) → va_S A s.heap H locs → f_O_rewritten_70 v3 v5 t0 C_instructions C_length = some res → W p l e R s m args below meth c H locs 0 0 Q (F0 m 70 ls [.int t0]) := by
    intro v3 v5 t0 C_instructions C_length H locs ls hl hP hD hS hr
    rw [f_O_rewritten_70] at hr
    refine lv_istore (lv' := [(6, .int t0), (2, .ref (qC 0)), (3, .int v3), (5, .int v5)]) hx hb d_O_rewritten_70 hl (by decide) rfl (fun ls hl => ?_)
    refine lv_aload_n hx hb d_O_rewritten_72 rfl (lv_at hl 1 rfl) ?_
    refine lv_iload_n hx hb d_O_rewritten_73 rfl (lv_at hl 2 rfl) ?_
    refine lv_iload hx hb d_O_rewritten_74 (lv_at hl 3 rfl) ?_
    refine lv_iload hx hb d_O_rewritten_76 (lv_at hl 0 rfl) ?_
    obtain ⟨r1, hr1, hr⟩ := ob hr
    refine z_ci (ws := (W_COV kI kZ qC qO qV C_length C_instructions O_modulus O_valueOf O_isNeeded O_registerOf V_length V_instructions)) (wc := (W_C kI kZ qC C_length C_instructions)) (wr := (W_OV kI kZ qO qV O_modulus O_valueOf O_isNeeded O_registerOf V_length V_instructions)) (w1 := (W_C kI kZ qC r1.2.2 r1.2.1)) (w2 := (W_COV kI kZ qC qO qV r1.2.2 r1.2.1 O_modulus O_valueOf O_isNeeded O_registerOf V_length V_instructions)) (va_runV (As := [.int v3, .int v5, .int t0]) (rest := []) ⟨hx, hb, hml, hown, hts⟩ (c_C_append l D kI kZ qC C_length C_instructions v3 v5 t0 r1 hr1 H.size) (z_cwV hts mw_C_append kw_317 ⟨by rw [hR]; exact Nat.le_of_ble_eq_true rfl, by rw [hR]; exact Nat.le_of_ble_eq_true rfl⟩) (z_preV (ci := 0) hK hP hD hN rfl (he := (rfl : _[0]? = _)) [0, 1] (by decide) rfl) rfl rfl hl.1 rfl (lv_room (Nat.le_of_ble_eq_true rfl)) d_O_rewritten_78 ⟨Nat.zero_le _, Nat.zero_le _⟩) hP hD hS hA [0, 1] [2, 3, 4, 5, 6, 7] [6, 7, 0, 1, 2, 3, 4, 5] rfl rfl (by decide) (by decide) rfl (by decide) (fun H locs hP hD hS => ?_)
    obtain rfl := Option.some.inj hr
    exact hQ _ _ _ _ _ d_O_rewritten_81 rfl rfl hP hD hS
  have hB38 : ∀ (v3 v4 t0 : Int32) (C_instructions : Nat → Int32) (C_length : Int32)   (H : Heap) (locs : List Loc) (ls : Array Slot), lv_has ls 7 [(0, .ref (qO 0)), (1, .int a1), (2, .ref (qC 0)), (3, .int v3), (4, .int v4)] → va_P D zCl (W_COV kI kZ qC qO qV C_length C_instructions O_modulus O_valueOf O_isNeeded O_registerOf V_length V_instructions) H → va_D A (W_COV kI kZ qC qO qV C_length C_instructions O_modulus O_valueOf O_isNeeded O_registerOf V_length V_instructions) → va_S A s.heap H locs → f_O_rewritten_38 O_registerOf V_instructions a1 v3 v4 t0 C_instructions C_length = some res → W p l e R s m args below meth c H locs 0 0 Q (F0 m 38 ls [.int t0]) := by
    intro v3 v4 t0 C_instructions C_length H locs ls hl hP hD hS hr
    rw [f_O_rewritten_38] at hr
    refine lv_istore (lv' := [(5, .int t0), (0, .ref (qO 0)), (1, .int a1), (2, .ref (qC 0)), (3, .int v3), (4, .int v4)]) hx hb d_O_rewritten_38 hl (by decide) rfl (fun ls hl => ?_)
    refine lv_iload hx hb d_O_rewritten_40 (lv_at hl 5 rfl) ?_
    refine lv_iconst (v := (2 : Int32)) hx hb d_O_rewritten_42 (by decide) ?_
    refine lv_icmp_ne hx hb d_O_rewritten_43 rfl (fun hc => ?_) (fun hc => ?_)
    · rw [if_neg hc] at hr
      refine lv_aload_n hx hb d_O_rewritten_62 rfl (lv_at hl 1 rfl) ?_
      refine va_get (D := D) (ci := 3) (v := .ref (qV 0)) (C := R_O) (T := T_O) (N := 5) hx hb hts in_O hown hK hP 2 rfl rfl 1 (by decide) (hts _ kw_87) (fun _ h9 => h9) rfl d_O_rewritten_63 ?_
      refine lv_iload_n hx hb d_O_rewritten_66 rfl (lv_at hl 2 rfl) ?_
      obtain ⟨r2, hr2, hr⟩ := ob hr
      refine z_ci (ws := (W_COV kI kZ qC qO qV C_length C_instructions O_modulus O_valueOf O_isNeeded O_registerOf V_length V_instructions)) (wc := (W_C kI kZ qV V_length V_instructions)) (wr := (W_CO kI kZ qC qO qV C_length C_instructions O_modulus O_valueOf O_isNeeded O_registerOf)) (w1 := (W_C kI kZ qV V_length V_instructions)) (w2 := (W_COV kI kZ qC qO qV C_length C_instructions O_modulus O_valueOf O_isNeeded O_registerOf V_length V_instructions)) (va_runV (As := [.int a1]) (rest := []) ⟨hx, hb, hml, hown, hts⟩ (c_C_second l D kI kZ qV V_length V_instructions a1 r2 hr2 H.size) (z_cwV hts mw_C_second kw_253 ⟨by rw [hR]; exact Nat.le_of_ble_eq_true rfl, by rw [hR]; exact Nat.le_of_ble_eq_true rfl⟩) (z_preV (ci := 0) hK hP hD hN rfl (he := (rfl : _[6]? = _)) [6, 7] (by decide) rfl) rfl rfl hl.1 rfl (lv_room (Nat.le_of_ble_eq_true rfl)) d_O_rewritten_67 ⟨Nat.zero_le _, Nat.zero_le _⟩) hP hD hS hA [6, 7] [0, 1, 2, 3, 4, 5] [0, 1, 2, 3, 4, 5, 6, 7] rfl rfl (by decide) (by decide) rfl (by decide) (fun H locs hP hD hS => ?_)
      exact hB70 v3 t0 r2 C_instructions C_length _ _ _ (lv_sub hl [3, 4, 0] rfl) hP hD hS hr
    · rw [if_pos hc] at hr
      refine lv_aload_n hx hb d_O_rewritten_46 rfl (lv_at hl 1 rfl) ?_
      refine va_get (D := D) (ci := 3) (v := .ref (qO 3)) (C := R_O) (T := T_O) (N := 5) hx hb hts in_O hown hK hP 2 rfl rfl 4 (by decide) (hts _ kw_90) (fun _ h9 => h9) rfl d_O_rewritten_47 ?_
      refine lv_aload_n hx hb d_O_rewritten_50 rfl (lv_at hl 1 rfl) ?_
      refine va_get (D := D) (ci := 3) (v := .ref (qV 0)) (C := R_O) (T := T_O) (N := 5) hx hb hts in_O hown hK hP 2 rfl rfl 1 (by decide) (hts _ kw_87) (fun _ h9 => h9) rfl d_O_rewritten_51 ?_
      refine lv_iload_n hx hb d_O_rewritten_54 rfl (lv_at hl 2 rfl) ?_
      obtain ⟨r3, hr3, hr⟩ := ob hr
      refine z_ci (ws := (W_COV kI kZ qC qO qV C_length C_instructions O_modulus O_valueOf O_isNeeded O_registerOf V_length V_instructions)) (wc := (W_C kI kZ qV V_length V_instructions)) (wr := (W_CO kI kZ qC qO qV C_length C_instructions O_modulus O_valueOf O_isNeeded O_registerOf)) (w1 := (W_C kI kZ qV V_length V_instructions)) (w2 := (W_COV kI kZ qC qO qV C_length C_instructions O_modulus O_valueOf O_isNeeded O_registerOf V_length V_instructions)) (va_runV (As := [.int a1]) (rest := [.ref (qO 3)]) ⟨hx, hb, hml, hown, hts⟩ (c_C_second l D kI kZ qV V_length V_instructions a1 r3 hr3 H.size) (z_cwV hts mw_C_second kw_253 ⟨by rw [hR]; exact Nat.le_of_ble_eq_true rfl, by rw [hR]; exact Nat.le_of_ble_eq_true rfl⟩) (z_preV (ci := 0) hK hP hD hN rfl (he := (rfl : _[6]? = _)) [6, 7] (by decide) rfl) rfl rfl hl.1 rfl (lv_room (Nat.le_of_ble_eq_true rfl)) d_O_rewritten_55 ⟨Nat.zero_le _, Nat.zero_le _⟩) hP hD hS hA [6, 7] [0, 1, 2, 3, 4, 5] [0, 1, 2, 3, 4, 5, 6, 7] rfl rfl (by decide) (by decide) rfl (by decide) (fun H locs hP hD hS => ?_)
      obtain ⟨hi, hr⟩ := gd_some hr
      refine va_iald hx hb hK hP 5 0 rfl rfl hi d_O_rewritten_58 ?_
      refine lv_goto hx hb d_O_rewritten_59 rfl ?_
      exact hB70 v3 t0 (O_registerOf r3.toNatClampNeg) C_instructions C_length _ _ _ (lv_sub hl [3, 4, 0] rfl) hP hD hS hr
  intro ls H hl hP hD hS
  have hl : lv_has ls 7 [(0, .ref (qO 0)), (1, .int a1), (2, .ref (qC 0))] := hl
  rw [f_O_rewritten] at hr
  refine lv_aload_n hx hb d_O_rewritten_0 rfl (lv_at hl 0 rfl) ?_
  refine va_get (D := D) (ci := 3) (v := .ref (qV 0)) (C := R_O) (T := T_O) (N := 5) hx hb hts in_O hown hK hP 2 rfl rfl 1 (by decide) (hts _ kw_87) (fun _ h9 => h9) rfl d_O_rewritten_1 ?_
  refine lv_iload_n hx hb d_O_rewritten_4 rfl (lv_at hl 1 rfl) ?_
  obtain ⟨r4, hr4, hr⟩ := ob hr
  refine z_ci (ws := (W_COV kI kZ qC qO qV C_length C_instructions O_modulus O_valueOf O_isNeeded O_registerOf V_length V_instructions)) (wc := (W_C kI kZ qV V_length V_instructions)) (wr := (W_CO kI kZ qC qO qV C_length C_instructions O_modulus O_valueOf O_isNeeded O_registerOf)) (w1 := (W_C kI kZ qV V_length V_instructions)) (w2 := (W_COV kI kZ qC qO qV C_length C_instructions O_modulus O_valueOf O_isNeeded O_registerOf V_length V_instructions)) (va_runV (As := [.int a1]) (rest := []) ⟨hx, hb, hml, hown, hts⟩ (c_C_operation l D kI kZ qV V_length V_instructions a1 r4 hr4 H.size) (z_cwV hts mw_C_operation kw_245 ⟨by rw [hR]; exact Nat.le_of_ble_eq_true rfl, by rw [hR]; exact Nat.le_of_ble_eq_true rfl⟩) (z_preV (ci := 0) hK hP hD hN rfl (he := (rfl : _[6]? = _)) [6, 7] (by decide) rfl) rfl rfl hl.1 rfl (lv_room (Nat.le_of_ble_eq_true rfl)) d_O_rewritten_5 ⟨Nat.zero_le _, Nat.zero_le _⟩) hP hD hS hA [6, 7] [0, 1, 2, 3, 4, 5] [0, 1, 2, 3, 4, 5, 6, 7] rfl rfl (by decide) (by decide) rfl (by decide) (fun H locs hP hD hS => ?_)
  refine lv_istore_n (lv' := [(3, .int r4), (0, .ref (qO 0)), (1, .int a1), (2, .ref (qC 0))]) hx hb d_O_rewritten_8 rfl hl (by decide) rfl (fun ls hl => ?_)
  refine lv_iload_n hx hb d_O_rewritten_9 rfl (lv_at hl 0 rfl) ?_
  obtain ⟨r5, hr5, hr⟩ := ob hr
  refine z_ci (ws := (W_COV kI kZ qC qO qV C_length C_instructions O_modulus O_valueOf O_isNeeded O_registerOf V_length V_instructions)) (wc := ([] : va_W)) (wr := (W_COV kI kZ qC qO qV C_length C_instructions O_modulus O_valueOf O_isNeeded O_registerOf V_length V_instructions)) (w1 := ([] : va_W)) (w2 := (W_COV kI kZ qC qO qV C_length C_instructions O_modulus O_valueOf O_isNeeded O_registerOf V_length V_instructions)) (va_runSN (As := [.int r4]) (rest := []) ⟨hx, hb, hml, hown, hts⟩ (c_X_operandsOf l D kI kZ r4 r5 hr5 H.size) (z_cwN hts mw_X_operandsOf (zNestOf 5 hN rfl) ⟨by rw [hR]; exact Nat.le_of_ble_eq_true rfl, by rw [hR]; exact Nat.le_of_ble_eq_true rfl⟩) (z_pre hK hP hD hN [] (by decide) rfl) rfl rfl hl.1 rfl (lv_room (Nat.le_of_ble_eq_true rfl)) d_O_rewritten_10 ⟨Nat.zero_le _, Nat.zero_le _⟩) hP hD hS hA [] [0, 1, 2, 3, 4, 5, 6, 7] [0, 1, 2, 3, 4, 5, 6, 7] rfl rfl (by decide) (by decide) rfl (by decide) (fun H locs hP hD hS => ?_)
  refine lv_istore (lv' := [(4, .int r5), (3, .int r4), (0, .ref (qO 0)), (1, .int a1), (2, .ref (qC 0))]) hx hb d_O_rewritten_13 hl (by decide) rfl (fun ls hl => ?_)
  refine lv_iload hx hb d_O_rewritten_15 (lv_at hl 0 rfl) ?_
  refine lv_iconst (v := (1 : Int32)) hx hb d_O_rewritten_17 (by decide) ?_
  refine lv_icmp_lt hx hb d_O_rewritten_18 rfl (fun hc => ?_) (fun hc => ?_)
  · rw [if_pos hc] at hr
    refine lv_iconst (v := (0 : Int32)) hx hb d_O_rewritten_37 (by decide) ?_
    exact hB38 r4 r5 (0 : Int32) C_instructions C_length _ _ _ (lv_sub hl [2, 3, 4, 1, 0] rfl) hP hD hS hr
  · rw [if_neg hc] at hr
    refine lv_aload_n hx hb d_O_rewritten_21 rfl (lv_at hl 2 rfl) ?_
    refine va_get (D := D) (ci := 3) (v := .ref (qO 3)) (C := R_O) (T := T_O) (N := 5) hx hb hts in_O hown hK hP 2 rfl rfl 4 (by decide) (hts _ kw_90) (fun _ h9 => h9) rfl d_O_rewritten_22 ?_
    refine lv_aload_n hx hb d_O_rewritten_25 rfl (lv_at hl 2 rfl) ?_
    refine va_get (D := D) (ci := 3) (v := .ref (qV 0)) (C := R_O) (T := T_O) (N := 5) hx hb hts in_O hown hK hP 2 rfl rfl 1 (by decide) (hts _ kw_87) (fun _ h9 => h9) rfl d_O_rewritten_26 ?_
    refine lv_iload_n hx hb d_O_rewritten_29 rfl (lv_at hl 3 rfl) ?_
    obtain ⟨r6, hr6, hr⟩ := ob hr
    refine z_ci (ws := (W_COV kI kZ qC qO qV C_length C_instructions O_modulus O_valueOf O_isNeeded O_registerOf V_length V_instructions)) (wc := (W_C kI kZ qV V_length V_instructions)) (wr := (W_CO kI kZ qC qO qV C_length C_instructions O_modulus O_valueOf O_isNeeded O_registerOf)) (w1 := (W_C kI kZ qV V_length V_instructions)) (w2 := (W_COV kI kZ qC qO qV C_length C_instructions O_modulus O_valueOf O_isNeeded O_registerOf V_length V_instructions)) (va_runV (As := [.int a1]) (rest := [.ref (qO 3)]) ⟨hx, hb, hml, hown, hts⟩ (c_C_first l D kI kZ qV V_length V_instructions a1 r6 hr6 H.size) (z_cwV hts mw_C_first kw_249 ⟨by rw [hR]; exact Nat.le_of_ble_eq_true rfl, by rw [hR]; exact Nat.le_of_ble_eq_true rfl⟩) (z_preV (ci := 0) hK hP hD hN rfl (he := (rfl : _[6]? = _)) [6, 7] (by decide) rfl) rfl rfl hl.1 rfl (lv_room (Nat.le_of_ble_eq_true rfl)) d_O_rewritten_30 ⟨Nat.zero_le _, Nat.zero_le _⟩) hP hD hS hA [6, 7] [0, 1, 2, 3, 4, 5] [0, 1, 2, 3, 4, 5, 6, 7] rfl rfl (by decide) (by decide) rfl (by decide) (fun H locs hP hD hS => ?_)
    obtain ⟨hi, hr⟩ := gd_some hr
    refine va_iald hx hb hK hP 5 0 rfl rfl hi d_O_rewritten_33 ?_
    refine lv_goto hx hb d_O_rewritten_34 rfl ?_
    exact hB38 r4 r5 (O_registerOf r6.toNatClampNeg) C_instructions C_length _ _ _ (lv_sub hl [2, 3, 4, 1, 0] rfl) hP hD hS hr
set_option maxHeartbeats 4000000 in
set_option maxRecDepth 100000 in
theorem c_O_rewrite (l : Launch) (D : va_G) (kI kZ : ClassId) (qC qO qV : Nat → Nat) (C_length : Int32) (C_instructions : Nat → Int32) (O_modulus : Int32) (O_valueOf O_isNeeded O_registerOf : Nat → Int32) (V_length : Int32) (V_instructions : Nat → Int32)  (res : (Nat → Int32) × Int32 × (Nat → Int32)) (hr : f_O_rewrite C_instructions C_length O_isNeeded O_registerOf V_instructions V_length = some res) : zMv l D kI kZ y_O_rewrite prog_5_method_12_code 3 none 3 71 [.ref (qO 0), .ref (qC 0)] (W_COV kI kZ qC qO qV C_length C_instructions O_modulus O_valueOf O_isNeeded O_registerOf V_length V_instructions) (W_COV kI kZ qC qO qV (res.2.1) (res.1) O_modulus O_valueOf O_isNeeded (res.2.2) V_length V_instructions) := by
  refine zMv.of (by decide +kernel) (Nat.le_of_ble_eq_true rfl) ?_
  intro p e R s m args below meth c Q A hR hx hb hml hts hown hA hK hN hQ
  have hown : s.vm.findClass "SquareCode$Optimiser" = some m.cls := hown
  have hB6 : ∀ (fu : Nat) (v2 : Int32) (C_instructions : Nat → Int32) (C_length : Int32) (O_registerOf : Nat → Int32) (H : Heap) (locs : List Loc) (ls : Array Slot), lv_has ls 3 [(0, .ref (qO 0)), (1, .ref (qC 0)), (2, .int v2)] → va_P D zCl (W_COV kI kZ qC qO qV C_length C_instructions O_modulus O_valueOf O_isNeeded O_registerOf V_length V_instructions) H → va_D A (W_COV kI kZ qC qO qV C_length C_instructions O_modulus O_valueOf O_isNeeded O_registerOf V_length V_instructions) → va_S A s.heap H locs → f_O_rewrite_6 O_isNeeded V_instructions V_length fu v2 C_instructions C_length O_registerOf = some res → W p l e R s m args below meth c H locs 0 0 Q (F0 m 6 ls []) := by
    intro  fu
    induction fu with
    | zero => intro v2 C_instructions C_length O_registerOf H locs ls hl hP hD hS hr; exact absurd hr (by rw [f_O_rewrite_6]; exact fun h => by cases h)
    | succ fu ih =>
      intro v2 C_instructions C_length O_registerOf H locs ls hl hP hD hS hr
      rw [f_O_rewrite_6] at hr
      refine lv_iload_n hx hb d_O_rewrite_6 rfl (lv_at hl 2 rfl) ?_
      refine lv_aload_n hx hb d_O_rewrite_7 rfl (lv_at hl 0 rfl) ?_
      refine va_get (D := D) (ci := 3) (v := .ref (qV 0)) (C := R_O) (T := T_O) (N := 5) hx hb hts in_O hown hK hP 2 rfl rfl 1 (by decide) (hts _ kw_87) (fun _ h9 => h9) rfl d_O_rewrite_8 ?_
      obtain ⟨r1, hr1, hr⟩ := ob hr
      refine z_ci (ws := (W_COV kI kZ qC qO qV C_length C_instructions O_modulus O_valueOf O_isNeeded O_registerOf V_length V_instructions)) (wc := (W_C kI kZ qV V_length V_instructions)) (wr := (W_CO kI kZ qC qO qV C_length C_instructions O_modulus O_valueOf O_isNeeded O_registerOf)) (w1 := (W_C kI kZ qV V_length V_instructions)) (w2 := (W_COV kI kZ qC qO qV C_length C_instructions O_modulus O_valueOf O_isNeeded O_registerOf V_length V_instructions)) (va_runV (As := []) (rest := [.int v2]) ⟨hx, hb, hml, hown, hts⟩ (c_C_length l D kI kZ qV V_length V_instructions r1 hr1 H.size) (z_cwV hts mw_C_length kw_244 ⟨by rw [hR]; exact Nat.le_of_ble_eq_true rfl, by rw [hR]; exact Nat.le_of_ble_eq_true rfl⟩) (z_preV (ci := 0) hK hP hD hN rfl (he := (rfl : _[6]? = _)) [6, 7] (by decide) rfl) rfl rfl hl.1 rfl (lv_room (Nat.le_of_ble_eq_true rfl)) d_O_rewrite_11 ⟨Nat.zero_le _, Nat.zero_le _⟩) hP hD hS hA [6, 7] [0, 1, 2, 3, 4, 5] [0, 1, 2, 3, 4, 5, 6, 7] rfl rfl (by decide) (by decide) rfl (by decide) (fun H locs hP hD hS => ?_)
      refine lv_icmp_ge hx hb d_O_rewrite_14 rfl (fun hc => ?_) (fun hc => ?_)
      · rw [if_pos hc] at hr
        obtain rfl := Option.some.inj hr
        exact hQ _ _ _ _ d_O_rewrite_44 hP hD hS
      · rw [if_neg hc] at hr
        refine lv_aload_n hx hb d_O_rewrite_17 rfl (lv_at hl 0 rfl) ?_
        refine va_get (D := D) (ci := 3) (v := .ref (qO 2)) (C := R_O) (T := T_O) (N := 5) hx hb hts in_O hown hK hP 2 rfl rfl 3 (by decide) (hts _ kw_89) (fun _ h9 => h9) rfl d_O_rewrite_18 ?_
        refine lv_iload_n hx hb d_O_rewrite_21 rfl (lv_at hl 2 rfl) ?_
        obtain ⟨hi, hr⟩ := gd_some hr
        refine va_zald hx hb hK hP 4 1 rfl rfl hi d_O_rewrite_22 ?_
        refine lv_if_eq hx hb d_O_rewrite_23 rfl (fun hc => ?_) (fun hc => ?_)
        · rw [if_pos hc] at hr
          refine lv_iinc (k := 2) (v := (v2 + (1 : Int32))) (lv' := [(2, .int (v2 + (1 : Int32))), (0, .ref (qO 0)), (1, .ref (qC 0))]) hx hb d_O_rewrite_38 hl rfl (congrArg (fun z => v2 + z) (by decide : Int32.ofInt 1 = (1 : Int32))) (by decide) rfl (fun ls hl => ?_)
          refine lv_goto hx hb d_O_rewrite_41 rfl ?_
          exact ih (v2 + (1 : Int32)) C_instructions C_length O_registerOf _ _ _ (lv_sub hl [1, 2, 0] rfl) hP hD hS hr
        · rw [if_neg hc] at hr
          refine lv_aload_n hx hb d_O_rewrite_26 rfl (lv_at hl 0 rfl) ?_
          refine va_get (D := D) (ci := 3) (v := .ref (qO 3)) (C := R_O) (T := T_O) (N := 5) hx hb hts in_O hown hK hP 2 rfl rfl 4 (by decide) (hts _ kw_90) (fun _ h9 => h9) rfl d_O_rewrite_27 ?_
          refine lv_iload_n hx hb d_O_rewrite_30 rfl (lv_at hl 2 rfl) ?_
          refine lv_aload_n hx hb d_O_rewrite_31 rfl (lv_at hl 0 rfl) ?_
          refine lv_iload_n hx hb d_O_rewrite_32 rfl (lv_at hl 2 rfl) ?_
          refine lv_aload_n hx hb d_O_rewrite_33 rfl (lv_at hl 1 rfl) ?_
          obtain ⟨r2, hr2, hr⟩ := ob hr
          refine z_ci (ws := (W_COV kI kZ qC qO qV C_length C_instructions O_modulus O_valueOf O_isNeeded O_registerOf V_length V_instructions)) (wc := (W_COV kI kZ qC qO qV C_length C_instructions O_modulus O_valueOf O_isNeeded O_registerOf V_length V_instructions)) (wr := ([] : va_W)) (w1 := (W_COV kI kZ qC qO qV r2.2.2 r2.2.1 O_modulus O_valueOf O_isNeeded O_registerOf V_length V_instructions)) (w2 := (W_COV kI kZ qC qO qV r2.2.2 r2.2.1 O_modulus O_valueOf O_isNeeded O_registerOf V_length V_instructions)) (va_runV (As := [.int v2, .ref (qC 0)]) (rest := [.int v2, .ref (qO 3)]) ⟨hx, hb, hml, hown, hts⟩ (c_O_rewritten l D kI kZ qC qO qV C_length C_instructions O_modulus O_valueOf O_isNeeded O_registerOf V_length V_instructions v2 r2 hr2 H.size) (z_cwV hts mw_O_rewritten kw_313 ⟨by rw [hR]; exact Nat.le_of_ble_eq_true rfl, by rw [hR]; exact Nat.le_of_ble_eq_true rfl⟩) (z_preV (ci := 3) hK hP hD hN rfl (he := (rfl : _[2]? = _)) [0, 1, 2, 3, 4, 5, 6, 7] (by decide) rfl) rfl rfl hl.1 rfl (lv_room (Nat.le_of_ble_eq_true rfl)) d_O_rewrite_34 ⟨Nat.zero_le _, Nat.zero_le _⟩) hP hD hS hA [0, 1, 2, 3, 4, 5, 6, 7] [] [0, 1, 2, 3, 4, 5, 6, 7] rfl rfl (by decide) (by decide) rfl (by decide) (fun H locs hP hD hS => ?_)
          obtain ⟨hi, hr⟩ := gd_some hr
          refine va_iast hx hb hK hP hD hS 5 0 rfl rfl hi d_O_rewrite_37 (fun H locs hP hD hS => ?_)
          have hP : va_P D zCl (W_COV kI kZ qC qO qV r2.2.2 r2.2.1 O_modulus O_valueOf O_isNeeded (upd O_registerOf v2.toNatClampNeg r2.1) V_length V_instructions) H := hP
          have hD : va_D A (W_COV kI kZ qC qO qV r2.2.2 r2.2.1 O_modulus O_valueOf O_isNeeded (upd O_registerOf v2.toNatClampNeg r2.1) V_length V_instructions) := hD
          refine lv_iinc (k := 2) (v := (v2 + (1 : Int32))) (lv' := [(2, .int (v2 + (1 : Int32))), (0, .ref (qO 0)), (1, .ref (qC 0))]) hx hb d_O_rewrite_38 hl rfl (congrArg (fun z => v2 + z) (by decide : Int32.ofInt 1 = (1 : Int32))) (by decide) rfl (fun ls hl => ?_)
          refine lv_goto hx hb d_O_rewrite_41 rfl ?_
          exact ih (v2 + (1 : Int32)) r2.2.1 r2.2.2 (upd O_registerOf v2.toNatClampNeg r2.1) _ _ _ (lv_sub hl [1, 2, 0] rfl) hP hD hS hr
  intro ls H hl hP hD hS
  have hl : lv_has ls 3 [(0, .ref (qO 0)), (1, .ref (qC 0))] := hl
  rw [f_O_rewrite] at hr
  refine lv_aload_n hx hb d_O_rewrite_0 rfl (lv_at hl 1 rfl) ?_
  obtain ⟨r3, hr3, hr⟩ := ob hr
  refine z_cv (ws := (W_COV kI kZ qC qO qV C_length C_instructions O_modulus O_valueOf O_isNeeded O_registerOf V_length V_instructions)) (wc := (W_C kI kZ qC C_length C_instructions)) (wr := (W_OV kI kZ qO qV O_modulus O_valueOf O_isNeeded O_registerOf V_length V_instructions)) (w1 := (W_C kI kZ qC r3 C_instructions)) (w2 := (W_COV kI kZ qC qO qV r3 C_instructions O_modulus O_valueOf O_isNeeded O_registerOf V_length V_instructions)) (va_runV (As := []) (rest := []) ⟨hx, hb, hml, hown, hts⟩ (c_C_clear l D kI kZ qC C_length C_instructions r3 hr3 H.size) (z_cwV hts mw_C_clear kw_243 ⟨by rw [hR]; exact Nat.le_of_ble_eq_true rfl, by rw [hR]; exact Nat.le_of_ble_eq_true rfl⟩) (z_preV (ci := 0) hK hP hD hN rfl (he := (rfl : _[0]? = _)) [0, 1] (by decide) rfl) rfl rfl hl.1 rfl (lv_room (Nat.le_of_ble_eq_true rfl)) d_O_rewrite_1 ⟨Nat.zero_le _, Nat.zero_le _⟩) hP hD hS hA [0, 1] [2, 3, 4, 5, 6, 7] [6, 7, 0, 1, 2, 3, 4, 5] rfl rfl (by decide) (by decide) rfl (by decide) (fun H locs hP hD hS => ?_)
  refine lv_iconst (v := (0 : Int32)) hx hb d_O_rewrite_4 (by decide) ?_
  refine lv_istore_n (lv' := [(2, .int (0 : Int32)), (0, .ref (qO 0)), (1, .ref (qC 0))]) hx hb d_O_rewrite_5 rfl hl (by decide) rfl (fun ls hl => ?_)
  exact hB6 zFU (0 : Int32) C_instructions r3 O_registerOf _ _ _ (lv_sub hl [1, 2, 0] rfl) hP hD hS hr
set_option maxHeartbeats 4000000 in
set_option maxRecDepth 100000 in
theorem c_O_improve (l : Launch) (D : va_G) (kI kZ : ClassId) (qC qO qV : Nat → Nat) (C_length : Int32) (C_instructions : Nat → Int32) (O_modulus : Int32) (O_valueOf O_isNeeded O_registerOf : Nat → Int32) (V_length : Int32) (V_instructions : Nat → Int32)  (res : (Nat → Int32) × Int32 × (Nat → Int32) × (Nat → Int32) × (Nat → Int32) × (Nat → Int32) × Int32) (hr : f_O_improve C_instructions C_length O_modulus O_valueOf O_isNeeded O_registerOf V_instructions V_length = some res) : zMv l D kI kZ y_O_improve prog_5_method_2_code 3 none 6 138 [.ref (qO 0), .ref (qC 0)] (W_COV kI kZ qC qO qV C_length C_instructions O_modulus O_valueOf O_isNeeded O_registerOf V_length V_instructions) (W_COV kI kZ qC qO qV (res.2.1) (res.1) O_modulus (res.2.2.1) (res.2.2.2.1) (res.2.2.2.2.1) (res.2.2.2.2.2.2) (res.2.2.2.2.2.1)) := by
  refine zMv.of (by decide +kernel) (Nat.le_of_ble_eq_true rfl) ?_
  intro p e R s m args below meth c Q A hR hx hb hml hts hown hA hK hN hQ
  have hown : s.vm.findClass "SquareCode$Optimiser" = some m.cls := hown
  have hB9 : ∀ (C_instructions : Nat → Int32) (C_length : Int32) (O_isNeeded O_registerOf : Nat → Int32)   (fu : Nat) (v2 : Int32) (O_valueOf V_instructions : Nat → Int32) (V_length : Int32) (H : Heap) (locs : List Loc) (ls : Array Slot), lv_has ls 3 [(0, .ref (qO 0)), (1, .ref (qC 0)), (2, .int v2)] → va_P D zCl (W_COV kI kZ qC qO qV C_length C_instructions O_modulus O_valueOf O_isNeeded O_registerOf V_length V_instructions) H → va_D A (W_COV kI kZ qC qO qV C_length C_instructions O_modulus O_valueOf O_isNeeded O_registerOf V_length V_instructions) → va_S A s.heap H locs → f_O_improve_9 O_modulus C_instructions C_length O_isNeeded O_registerOf fu v2 O_valueOf V_instructions V_length = some res → W p l e R s m args below meth c H locs 0 0 Q (F0 m 9 ls []) := by
    intro C_instructions C_length O_isNeeded O_registerOf fu
    induction fu with
    | zero => intro v2 O_valueOf V_instructions V_length H locs ls hl hP hD hS hr; exact absurd hr (by rw [f_O_improve_9]; exact fun h => by cases h)
    | succ fu ih =>
      intro v2 O_valueOf V_instructions V_length H locs ls hl hP hD hS hr
      rw [f_O_improve_9] at hr
      refine lv_iload_n hx hb d_O_improve_9 rfl (lv_at hl 2 rfl) ?_
      refine lv_aload_n hx hb d_O_improve_10 rfl (lv_at hl 1 rfl) ?_
      obtain ⟨r1, hr1, hr⟩ := ob hr
      refine z_ci (ws := (W_COV kI kZ qC qO qV C_length C_instructions O_modulus O_valueOf O_isNeeded O_registerOf V_length V_instructions)) (wc := (W_C kI kZ qC C_length C_instructions)) (wr := (W_OV kI kZ qO qV O_modulus O_valueOf O_isNeeded O_registerOf V_length V_instructions)) (w1 := (W_C kI kZ qC C_length C_instructions)) (w2 := (W_COV kI kZ qC qO qV C_length C_instructions O_modulus O_valueOf O_isNeeded O_registerOf V_length V_instructions)) (va_runV (As := []) (rest := [.int v2]) ⟨hx, hb, hml, hown, hts⟩ (c_C_length l D kI kZ qC C_length C_instructions r1 hr1 H.size) (z_cwV hts mw_C_length kw_244 ⟨by rw [hR]; exact Nat.le_of_ble_eq_true rfl, by rw [hR]; exact Nat.le_of_ble_eq_true rfl⟩) (z_preV (ci := 0) hK hP hD hN rfl (he := (rfl : _[0]? = _)) [0, 1] (by decide) rfl) rfl rfl hl.1 rfl (lv_room (Nat.le_of_ble_eq_true rfl)) d_O_improve_11 ⟨Nat.zero_le _, Nat.zero_le _⟩) hP hD hS hA [0, 1] [2, 3, 4, 5, 6, 7] [6, 7, 0, 1, 2, 3, 4, 5] rfl rfl (by decide) (by decide) rfl (by decide) (fun H locs hP hD hS => ?_)
      refine lv_icmp_ge hx hb d_O_improve_14 rfl (fun hc => ?_) (fun hc => ?_)
      · rw [if_pos hc] at hr
        refine lv_aload_n hx hb d_O_improve_48 rfl (lv_at hl 0 rfl) ?_
        refine lv_aload_n hx hb d_O_improve_49 rfl (lv_at hl 0 rfl) ?_
        refine va_get (D := D) (ci := 3) (v := .ref (qO 1)) (C := R_O) (T := T_O) (N := 5) hx hb hts in_O hown hK hP 2 rfl rfl 2 (by decide) (hts _ kw_88) (fun _ h9 => h9) rfl d_O_improve_50 ?_
        refine lv_aload_n hx hb d_O_improve_53 rfl (lv_at hl 1 rfl) ?_
        obtain ⟨r2, hr2, hr⟩ := ob hr
        refine z_ci (ws := (W_COV kI kZ qC qO qV C_length C_instructions O_modulus O_valueOf O_isNeeded O_registerOf V_length V_instructions)) (wc := (W_C kI kZ qC C_length C_instructions)) (wr := (W_OV kI kZ qO qV O_modulus O_valueOf O_isNeeded O_registerOf V_length V_instructions)) (w1 := (W_C kI kZ qC C_length C_instructions)) (w2 := (W_COV kI kZ qC qO qV C_length C_instructions O_modulus O_valueOf O_isNeeded O_registerOf V_length V_instructions)) (va_runV (As := []) (rest := [.ref (qO 1), .ref (qO 0)]) ⟨hx, hb, hml, hown, hts⟩ (c_C_result l D kI kZ qC C_length C_instructions r2 hr2 H.size) (z_cwV hts mw_C_result kw_300 ⟨by rw [hR]; exact Nat.le_of_ble_eq_true rfl, by rw [hR]; exact Nat.le_of_ble_eq_true rfl⟩) (z_preV (ci := 0) hK hP hD hN rfl (he := (rfl : _[0]? = _)) [0, 1] (by decide) rfl) rfl rfl hl.1 rfl (lv_room (Nat.le_of_ble_eq_true rfl)) d_O_improve_54 ⟨Nat.zero_le _, Nat.zero_le _⟩) hP hD hS hA [0, 1] [2, 3, 4, 5, 6, 7] [6, 7, 0, 1, 2, 3, 4, 5] rfl rfl (by decide) (by decide) rfl (by decide) (fun H locs hP hD hS => ?_)
        obtain ⟨hi, hr⟩ := gd_some hr
        refine va_iald hx hb hK hP 3 0 rfl rfl hi d_O_improve_57 ?_
        obtain ⟨r3, hr3, hr⟩ := ob hr
        refine z_cv (ws := (W_COV kI kZ qC qO qV C_length C_instructions O_modulus O_valueOf O_isNeeded O_registerOf V_length V_instructions)) (wc := (W_OV kI kZ qO qV O_modulus O_valueOf O_isNeeded O_registerOf V_length V_instructions)) (wr := (W_C kI kZ qC C_length C_instructions)) (w1 := (W_OV kI kZ qO qV O_modulus O_valueOf r3 O_registerOf V_length V_instructions)) (w2 := (W_COV kI kZ qC qO qV C_length C_instructions O_modulus O_valueOf r3 O_registerOf V_length V_instructions)) (va_runV (As := [.int (O_valueOf r2.toNatClampNeg)]) (rest := []) ⟨hx, hb, hml, hown, hts⟩ (c_O_markNeeded l D kI kZ qO qV O_modulus O_valueOf O_isNeeded O_registerOf V_length V_instructions (O_valueOf r2.toNatClampNeg) r3 hr3 H.size) (z_cwV hts mw_O_markNeeded kw_304 ⟨by rw [hR]; exact Nat.le_of_ble_eq_true rfl, by rw [hR]; exact Nat.le_of_ble_eq_true rfl⟩) (z_preV (ci := 3) hK hP hD hN rfl (he := (rfl : _[2]? = _)) [2, 3, 4, 5, 6, 7] (by decide) rfl) rfl rfl hl.1 rfl (lv_room (Nat.le_of_ble_eq_true rfl)) d_O_improve_58 ⟨Nat.zero_le _, Nat.zero_le _⟩) hP hD hS hA [2, 3, 4, 5, 6, 7] [0, 1] [0, 1, 2, 3, 4, 5, 6, 7] rfl rfl (by decide) (by decide) rfl (by decide) (fun H locs hP hD hS => ?_)
        refine lv_aload_n hx hb d_O_improve_61 rfl (lv_at hl 0 rfl) ?_
        refine lv_aload_n hx hb d_O_improve_62 rfl (lv_at hl 1 rfl) ?_
        obtain ⟨r4, hr4, hr⟩ := ob hr
        refine z_cv (ws := (W_COV kI kZ qC qO qV C_length C_instructions O_modulus O_valueOf r3 O_registerOf V_length V_instructions)) (wc := (W_COV kI kZ qC qO qV C_length C_instructions O_modulus O_valueOf r3 O_registerOf V_length V_instructions)) (wr := ([] : va_W)) (w1 := (W_COV kI kZ qC qO qV r4.2.1 r4.1 O_modulus O_valueOf r3 r4.2.2 V_length V_instructions)) (w2 := (W_COV kI kZ qC qO qV r4.2.1 r4.1 O_modulus O_valueOf r3 r4.2.2 V_length V_instructions)) (va_runV (As := [.ref (qC 0)]) (rest := []) ⟨hx, hb, hml, hown, hts⟩ (c_O_rewrite l D kI kZ qC qO qV C_length C_instructions O_modulus O_valueOf r3 O_registerOf V_length V_instructions r4 hr4 H.size) (z_cwV hts mw_O_rewrite kw_309 ⟨by rw [hR]; exact Nat.le_of_ble_eq_true rfl, by rw [hR]; exact Nat.le_of_ble_eq_true rfl⟩) (z_preV (ci := 3) hK hP hD hN rfl (he := (rfl : _[2]? = _)) [0, 1, 2, 3, 4, 5, 6, 7] (by decide) rfl) rfl rfl hl.1 rfl (lv_room (Nat.le_of_ble_eq_true rfl)) d_O_improve_63 ⟨Nat.zero_le _, Nat.zero_le _⟩) hP hD hS hA [0, 1, 2, 3, 4, 5, 6, 7] [] [0, 1, 2, 3, 4, 5, 6, 7] rfl rfl (by decide) (by decide) rfl (by decide) (fun H locs hP hD hS => ?_)
        obtain rfl := Option.some.inj hr
        exact hQ _ _ _ _ d_O_improve_66 hP hD hS
      · rw [if_neg hc] at hr
        refine lv_aload_n hx hb d_O_improve_17 rfl (lv_at hl 0 rfl) ?_
        refine va_get (D := D) (ci := 3) (v := .ref (qO 1)) (C := R_O) (T := T_O) (N := 5) hx hb hts in_O hown hK hP 2 rfl rfl 2 (by decide) (hts _ kw_88) (fun _ h9 => h9) rfl d_O_improve_18 ?_
        refine lv_iload_n hx hb d_O_improve_21 rfl (lv_at hl 2 rfl) ?_
        refine lv_aload_n hx hb d_O_improve_22 rfl (lv_at hl 0 rfl) ?_
        refine lv_aload_n hx hb d_O_improve_23 rfl (lv_at hl 1 rfl) ?_
        refine lv_iload_n hx hb d_O_improve_24 rfl (lv_at hl 2 rfl) ?_
        obtain ⟨r5, hr5, hr⟩ := ob hr
        refine z_ci (ws := (W_COV kI kZ qC qO qV C_length C_instructions O_modulus O_valueOf O_isNeeded O_registerOf V_length V_instructions)) (wc := (W_C kI kZ qC C_length C_instructions)) (wr := (W_OV kI kZ qO qV O_modulus O_valueOf O_isNeeded O_registerOf V_length V_instructions)) (w1 := (W_C kI kZ qC C_length C_instructions)) (w2 := (W_COV kI kZ qC qO qV C_length C_instructions O_modulus O_valueOf O_isNeeded O_registerOf V_length V_instructions)) (va_runV (As := [.int v2]) (rest := [.ref (qO 0), .int v2, .ref (qO 1)]) ⟨hx, hb, hml, hown, hts⟩ (c_C_operation l D kI kZ qC C_length C_instructions v2 r5 hr5 H.size) (z_cwV hts mw_C_operation kw_245 ⟨by rw [hR]; exact Nat.le_of_ble_eq_true rfl, by rw [hR]; exact Nat.le_of_ble_eq_true rfl⟩) (z_preV (ci := 0) hK hP hD hN rfl (he := (rfl : _[0]? = _)) [0, 1] (by decide) rfl) rfl rfl hl.1 rfl (lv_room (Nat.le_of_ble_eq_true rfl)) d_O_improve_25 ⟨Nat.zero_le _, Nat.zero_le _⟩) hP hD hS hA [0, 1] [2, 3, 4, 5, 6, 7] [6, 7, 0, 1, 2, 3, 4, 5] rfl rfl (by decide) (by decide) rfl (by decide) (fun H locs hP hD hS => ?_)
        refine lv_aload_n hx hb d_O_improve_28 rfl (lv_at hl 1 rfl) ?_
        refine lv_iload_n hx hb d_O_improve_29 rfl (lv_at hl 2 rfl) ?_
        obtain ⟨r6, hr6, hr⟩ := ob hr
        refine z_ci (ws := (W_COV kI kZ qC qO qV C_length C_instructions O_modulus O_valueOf O_isNeeded O_registerOf V_length V_instructions)) (wc := (W_C kI kZ qC C_length C_instructions)) (wr := (W_OV kI kZ qO qV O_modulus O_valueOf O_isNeeded O_registerOf V_length V_instructions)) (w1 := (W_C kI kZ qC C_length C_instructions)) (w2 := (W_COV kI kZ qC qO qV C_length C_instructions O_modulus O_valueOf O_isNeeded O_registerOf V_length V_instructions)) (va_runV (As := [.int v2]) (rest := [.int r5, .ref (qO 0), .int v2, .ref (qO 1)]) ⟨hx, hb, hml, hown, hts⟩ (c_C_first l D kI kZ qC C_length C_instructions v2 r6 hr6 H.size) (z_cwV hts mw_C_first kw_249 ⟨by rw [hR]; exact Nat.le_of_ble_eq_true rfl, by rw [hR]; exact Nat.le_of_ble_eq_true rfl⟩) (z_preV (ci := 0) hK hP hD hN rfl (he := (rfl : _[0]? = _)) [0, 1] (by decide) rfl) rfl rfl hl.1 rfl (lv_room (Nat.le_of_ble_eq_true rfl)) d_O_improve_30 ⟨Nat.zero_le _, Nat.zero_le _⟩) hP hD hS hA [0, 1] [2, 3, 4, 5, 6, 7] [6, 7, 0, 1, 2, 3, 4, 5] rfl rfl (by decide) (by decide) rfl (by decide) (fun H locs hP hD hS => ?_)
        refine lv_aload_n hx hb d_O_improve_33 rfl (lv_at hl 1 rfl) ?_
        refine lv_iload_n hx hb d_O_improve_34 rfl (lv_at hl 2 rfl) ?_
        obtain ⟨r7, hr7, hr⟩ := ob hr
        refine z_ci (ws := (W_COV kI kZ qC qO qV C_length C_instructions O_modulus O_valueOf O_isNeeded O_registerOf V_length V_instructions)) (wc := (W_C kI kZ qC C_length C_instructions)) (wr := (W_OV kI kZ qO qV O_modulus O_valueOf O_isNeeded O_registerOf V_length V_instructions)) (w1 := (W_C kI kZ qC C_length C_instructions)) (w2 := (W_COV kI kZ qC qO qV C_length C_instructions O_modulus O_valueOf O_isNeeded O_registerOf V_length V_instructions)) (va_runV (As := [.int v2]) (rest := [.int r6, .int r5, .ref (qO 0), .int v2, .ref (qO 1)]) ⟨hx, hb, hml, hown, hts⟩ (c_C_second l D kI kZ qC C_length C_instructions v2 r7 hr7 H.size) (z_cwV hts mw_C_second kw_253 ⟨by rw [hR]; exact Nat.le_of_ble_eq_true rfl, by rw [hR]; exact Nat.le_of_ble_eq_true rfl⟩) (z_preV (ci := 0) hK hP hD hN rfl (he := (rfl : _[0]? = _)) [0, 1] (by decide) rfl) rfl rfl hl.1 rfl (lv_room (Nat.le_of_ble_eq_true rfl)) d_O_improve_35 ⟨Nat.zero_le _, Nat.zero_le _⟩) hP hD hS hA [0, 1] [2, 3, 4, 5, 6, 7] [6, 7, 0, 1, 2, 3, 4, 5] rfl rfl (by decide) (by decide) rfl (by decide) (fun H locs hP hD hS => ?_)
        obtain ⟨r8, hr8, hr⟩ := ob hr
        refine z_ci (ws := (W_COV kI kZ qC qO qV C_length C_instructions O_modulus O_valueOf O_isNeeded O_registerOf V_length V_instructions)) (wc := (W_OV kI kZ qO qV O_modulus O_valueOf O_isNeeded O_registerOf V_length V_instructions)) (wr := (W_C kI kZ qC C_length C_instructions)) (w1 := (W_OV kI kZ qO qV O_modulus O_valueOf O_isNeeded O_registerOf r8.2.2 r8.2.1)) (w2 := (W_COV kI kZ qC qO qV C_length C_instructions O_modulus O_valueOf O_isNeeded O_registerOf r8.2.2 r8.2.1)) (va_runV (As := [.int r5, .int r6, .int r7]) (rest := [.int v2, .ref (qO 1)]) ⟨hx, hb, hml, hown, hts⟩ (c_O_value l D kI kZ qO qV O_modulus O_valueOf O_isNeeded O_registerOf V_length V_instructions r5 r6 r7 r8 hr8 H.size) (z_cwV hts mw_O_value kw_257 ⟨by rw [hR]; exact Nat.le_of_ble_eq_true rfl, by rw [hR]; exact Nat.le_of_ble_eq_true rfl⟩) (z_preV (ci := 3) hK hP hD hN rfl (he := (rfl : _[2]? = _)) [2, 3, 4, 5, 6, 7] (by decide) rfl) rfl rfl hl.1 rfl (lv_room (Nat.le_of_ble_eq_true rfl)) d_O_improve_38 ⟨Nat.zero_le _, Nat.zero_le _⟩) hP hD hS hA [2, 3, 4, 5, 6, 7] [0, 1] [0, 1, 2, 3, 4, 5, 6, 7] rfl rfl (by decide) (by decide) rfl (by decide) (fun H locs hP hD hS => ?_)
        obtain ⟨hi, hr⟩ := gd_some hr
        refine va_iast hx hb hK hP hD hS 3 0 rfl rfl hi d_O_improve_41 (fun H locs hP hD hS => ?_)
        have hP : va_P D zCl (W_COV kI kZ qC qO qV C_length C_instructions O_modulus (upd O_valueOf v2.toNatClampNeg r8.1) O_isNeeded O_registerOf r8.2.2 r8.2.1) H := hP
        have hD : va_D A (W_COV kI kZ qC qO qV C_length C_instructions O_modulus (upd O_valueOf v2.toNatClampNeg r8.1) O_isNeeded O_registerOf r8.2.2 r8.2.1) := hD
        refine lv_iinc (k := 2) (v := (v2 + (1 : Int32))) (lv' := [(2, .int (v2 + (1 : Int32))), (0, .ref (qO 0)), (1, .ref (qC 0))]) hx hb d_O_improve_42 hl rfl (congrArg (fun z => v2 + z) (by decide : Int32.ofInt 1 = (1 : Int32))) (by decide) rfl (fun ls hl => ?_)
        refine lv_goto hx hb d_O_improve_45 rfl ?_
        exact ih (v2 + (1 : Int32)) (upd O_valueOf v2.toNatClampNeg r8.1) r8.2.1 r8.2.2 _ _ _ (lv_sub hl [1, 2, 0] rfl) hP hD hS hr
  intro ls H hl hP hD hS
  have hl : lv_has ls 3 [(0, .ref (qO 0)), (1, .ref (qC 0))] := hl
  rw [f_O_improve] at hr
  refine lv_aload_n hx hb d_O_improve_0 rfl (lv_at hl 0 rfl) ?_
  refine va_get (D := D) (ci := 3) (v := .ref (qV 0)) (C := R_O) (T := T_O) (N := 5) hx hb hts in_O hown hK hP 2 rfl rfl 1 (by decide) (hts _ kw_87) (fun _ h9 => h9) rfl d_O_improve_1 ?_
  obtain ⟨r9, hr9, hr⟩ := ob hr
  refine z_cv (ws := (W_COV kI kZ qC qO qV C_length C_instructions O_modulus O_valueOf O_isNeeded O_registerOf V_length V_instructions)) (wc := (W_C kI kZ qV V_length V_instructions)) (wr := (W_CO kI kZ qC qO qV C_length C_instructions O_modulus O_valueOf O_isNeeded O_registerOf)) (w1 := (W_C kI kZ qV r9 V_instructions)) (w2 := (W_COV kI kZ qC qO qV C_length C_instructions O_modulus O_valueOf O_isNeeded O_registerOf r9 V_instructions)) (va_runV (As := []) (rest := []) ⟨hx, hb, hml, hown, hts⟩ (c_C_clear l D kI kZ qV V_length V_instructions r9 hr9 H.size) (z_cwV hts mw_C_clear kw_243 ⟨by rw [hR]; exact Nat.le_of_ble_eq_true rfl, by rw [hR]; exact Nat.le_of_ble_eq_true rfl⟩) (z_preV (ci := 0) hK hP hD hN rfl (he := (rfl : _[6]? = _)) [6, 7] (by decide) rfl) rfl rfl hl.1 rfl (lv_room (Nat.le_of_ble_eq_true rfl)) d_O_improve_4 ⟨Nat.zero_le _, Nat.zero_le _⟩) hP hD hS hA [6, 7] [0, 1, 2, 3, 4, 5] [0, 1, 2, 3, 4, 5, 6, 7] rfl rfl (by decide) (by decide) rfl (by decide) (fun H locs hP hD hS => ?_)
  refine lv_iconst (v := (0 : Int32)) hx hb d_O_improve_7 (by decide) ?_
  refine lv_istore_n (lv' := [(2, .int (0 : Int32)), (0, .ref (qO 0)), (1, .ref (qC 0))]) hx hb d_O_improve_8 rfl hl (by decide) rfl (fun ls hl => ?_)
  exact hB9 C_instructions C_length O_isNeeded O_registerOf zFU (0 : Int32) O_valueOf V_instructions r9 _ _ _ (lv_sub hl [1, 2, 0] rfl) hP hD hS hr
set_option maxHeartbeats 4000000 in
set_option maxRecDepth 100000 in
theorem c_X_optimise (l : Launch) (D : va_G) (kI kZ : ClassId) (qX qM qR qC qP qO qV : Nat → Nat) (M_nc M_nf : Nat) (X_instructionsDone X_isWorkedOut M_modulus M_side M_size : Int32) (M_cells M_fresh : Nat → Int32) (R_length : Int32) (R_words : Nat → Int32) (C_length : Int32) (C_instructions P_registers : Nat → Int32) (O_modulus : Int32) (O_valueOf O_isNeeded O_registerOf : Nat → Int32) (V_length : Int32) (V_instructions : Nat → Int32)  (res : Int32 × Int32 × (Nat → Int32) × Int32 × (Nat → Int32) × (Nat → Int32) × (Nat → Int32) × (Nat → Int32) × Int32) (hr : f_X_optimise X_instructionsDone C_instructions C_length O_modulus O_valueOf O_isNeeded O_registerOf V_instructions V_length = some res) : zMi l D kI kZ y_X_optimise prog_1_method_5_code 1 ((some .int)) 7 160 [.ref (qX 0)] (W_XMRCPOV kI kZ qX qM qR qC qP qO qV M_nc M_nf X_instructionsDone X_isWorkedOut M_modulus M_side M_size M_cells M_fresh R_length R_words C_length C_instructions P_registers O_modulus O_valueOf O_isNeeded O_registerOf V_length V_instructions) (W_XMRCPOV kI kZ qX qM qR qC qP qO qV M_nc M_nf (res.2.1) X_isWorkedOut M_modulus M_side M_size M_cells M_fresh R_length R_words (res.2.2.2.1) (res.2.2.1) P_registers O_modulus (res.2.2.2.2.1) (res.2.2.2.2.2.1) (res.2.2.2.2.2.2.1) (res.2.2.2.2.2.2.2.2) (res.2.2.2.2.2.2.2.1)) (res.1) := by
  refine zMi.of (by decide +kernel) (Nat.le_of_ble_eq_true rfl) ?_
  intro p e R s m args below meth c Q A hR hx hb hml hts hown hA hK hN hQ
  have hown : s.vm.findClass "SquareCode" = some m.cls := hown
  intro ls H hl hP hD hS
  have hl : lv_has ls 1 [(0, .ref (qX 0))] := hl
  rw [f_X_optimise] at hr
  refine lv_aload_n hx hb d_X_optimise_0 rfl (lv_at hl 0 rfl) ?_
  obtain ⟨r1, hr1, hr⟩ := ob hr
  refine z_ci (ws := (W_XMRCPOV kI kZ qX qM qR qC qP qO qV M_nc M_nf X_instructionsDone X_isWorkedOut M_modulus M_side M_size M_cells M_fresh R_length R_words C_length C_instructions P_registers O_modulus O_valueOf O_isNeeded O_registerOf V_length V_instructions)) (wc := (W_XMRCPOV kI kZ qX qM qR qC qP qO qV M_nc M_nf X_instructionsDone X_isWorkedOut M_modulus M_side M_size M_cells M_fresh R_length R_words C_length C_instructions P_registers O_modulus O_valueOf O_isNeeded O_registerOf V_length V_instructions)) (wr := ([] : va_W)) (w1 := (W_XMRCPOV kI kZ qX qM qR qC qP qO qV M_nc M_nf X_instructionsDone X_isWorkedOut M_modulus M_side M_size M_cells M_fresh R_length R_words C_length C_instructions P_registers O_modulus O_valueOf O_isNeeded O_registerOf V_length V_instructions)) (w2 := (W_XMRCPOV kI kZ qX qM qR qC qP qO qV M_nc M_nf X_instructionsDone X_isWorkedOut M_modulus M_side M_size M_cells M_fresh R_length R_words C_length C_instructions P_registers O_modulus O_valueOf O_isNeeded O_registerOf V_length V_instructions)) (va_runV (As := []) (rest := []) ⟨hx, hb, hml, hown, hts⟩ (c_X_hasCode l D kI kZ qX qM qR qC qP qO qV M_nc M_nf X_instructionsDone X_isWorkedOut M_modulus M_side M_size M_cells M_fresh R_length R_words C_length C_instructions P_registers O_modulus O_valueOf O_isNeeded O_registerOf V_length V_instructions r1 hr1 H.size) (z_cwV hts mw_X_hasCode kw_133 ⟨by rw [hR]; exact Nat.le_of_ble_eq_true rfl, by rw [hR]; exact Nat.le_of_ble_eq_true rfl⟩) (z_preV (ci := 5) hK hP hD hN rfl (he := (rfl : _[0]? = _)) [0, 1, 2, 3, 4, 5, 6, 7, 8, 9, 10, 11, 12, 13, 14, 15] (by decide) rfl) rfl rfl hl.1 rfl (lv_room (Nat.le_of_ble_eq_true rfl)) d_X_optimise_1 ⟨Nat.zero_le _, Nat.zero_le _⟩) hP hD hS hA [0, 1, 2, 3, 4, 5, 6, 7, 8, 9, 10, 11, 12, 13, 14, 15] [] [0, 1, 2, 3, 4, 5, 6, 7, 8, 9, 10, 11, 12, 13, 14, 15] rfl rfl (by decide) (by decide) rfl (by decide) (fun H locs hP hD hS => ?_)
  refine lv_if_ne hx hb d_X_optimise_4 rfl (fun hc => ?_) (fun hc => ?_)
  · rw [if_neg hc] at hr
    refine lv_aload_n hx hb d_X_optimise_10 rfl (lv_at hl 0 rfl) ?_
    refine va_get (D := D) (ci := 5) (v := .ref (qO 0)) (C := R_X) (T := T_X) (N := 7) hx hb hts in_X hown hK hP 0 rfl rfl 4 (by decide) (hts _ kw_107) (fun _ h9 => h9) rfl d_X_optimise_11 ?_
    refine lv_aload_n hx hb d_X_optimise_14 rfl (lv_at hl 0 rfl) ?_
    refine va_get (D := D) (ci := 5) (v := .ref (qC 0)) (C := R_X) (T := T_X) (N := 7) hx hb hts in_X hown hK hP 0 rfl rfl 2 (by decide) (hts _ kw_105) (fun _ h9 => h9) rfl d_X_optimise_15 ?_
    obtain ⟨r2, hr2, hr⟩ := ob hr
    refine z_cv (ws := (W_XMRCPOV kI kZ qX qM qR qC qP qO qV M_nc M_nf X_instructionsDone X_isWorkedOut M_modulus M_side M_size M_cells M_fresh R_length R_words C_length C_instructions P_registers O_modulus O_valueOf O_isNeeded O_registerOf V_length V_instructions)) (wc := (W_COV kI kZ qC qO qV C_length C_instructions O_modulus O_valueOf O_isNeeded O_registerOf V_length V_instructions)) (wr := (W_XMRP kI kZ qX qM qR qP qC qO M_nc M_nf X_instructionsDone X_isWorkedOut M_modulus M_side M_size M_cells M_fresh R_length R_words P_registers)) (w1 := (W_COV kI kZ qC qO qV r2.2.1 r2.1 O_modulus r2.2.2.1 r2.2.2.2.1 r2.2.2.2.2.1 r2.2.2.2.2.2.2 r2.2.2.2.2.2.1)) (w2 := (W_XMRCPOV kI kZ qX qM qR qC qP qO qV M_nc M_nf X_instructionsDone X_isWorkedOut M_modulus M_side M_size M_cells M_fresh R_length R_words r2.2.1 r2.1 P_registers O_modulus r2.2.2.1 r2.2.2.2.1 r2.2.2.2.2.1 r2.2.2.2.2.2.2 r2.2.2.2.2.2.1)) (va_runV (As := [.ref (qC 0)]) (rest := []) ⟨hx, hb, hml, hown, hts⟩ (c_O_improve l D kI kZ qC qO qV C_length C_instructions O_modulus O_valueOf O_isNeeded O_registerOf V_length V_instructions r2 hr2 H.size) (z_cwV hts mw_O_improve kw_239 ⟨by rw [hR]; exact Nat.le_of_ble_eq_true rfl, by rw [hR]; exact Nat.le_of_ble_eq_true rfl⟩) (z_preV (ci := 3) hK hP hD hN rfl (he := (rfl : _[10]? = _)) [6, 7, 10, 11, 12, 13, 14, 15] (by decide) rfl) rfl rfl hl.1 rfl (lv_room (Nat.le_of_ble_eq_true rfl)) d_X_optimise_18 ⟨Nat.zero_le _, Nat.zero_le _⟩) hP hD hS hA [6, 7, 10, 11, 12, 13, 14, 15] [0, 1, 2, 3, 4, 5, 8, 9] [0, 1, 2, 3, 4, 5, 8, 9, 6, 7, 10, 11, 12, 13, 14, 15] rfl rfl (by decide) (by decide) rfl (by decide) (fun H locs hP hD hS => ?_)
    refine lv_aload_n hx hb d_X_optimise_21 rfl (lv_at hl 0 rfl) ?_
    obtain ⟨r3, hr3, hr⟩ := ob hr
    refine z_cv (ws := (W_XMRCPOV kI kZ qX qM qR qC qP qO qV M_nc M_nf X_instructionsDone X_isWorkedOut M_modulus M_side M_size M_cells M_fresh R_length R_words r2.2.1 r2.1 P_registers O_modulus r2.2.2.1 r2.2.2.2.1 r2.2.2.2.2.1 r2.2.2.2.2.2.2 r2.2.2.2.2.2.1)) (wc := (W_XMRCPOV kI kZ qX qM qR qC qP qO qV M_nc M_nf X_instructionsDone X_isWorkedOut M_modulus M_side M_size M_cells M_fresh R_length R_words r2.2.1 r2.1 P_registers O_modulus r2.2.2.1 r2.2.2.2.1 r2.2.2.2.2.1 r2.2.2.2.2.2.2 r2.2.2.2.2.2.1)) (wr := ([] : va_W)) (w1 := (W_XMRCPOV kI kZ qX qM qR qC qP qO qV M_nc M_nf r3 X_isWorkedOut M_modulus M_side M_size M_cells M_fresh R_length R_words r2.2.1 r2.1 P_registers O_modulus r2.2.2.1 r2.2.2.2.1 r2.2.2.2.2.1 r2.2.2.2.2.2.2 r2.2.2.2.2.2.1)) (w2 := (W_XMRCPOV kI kZ qX qM qR qC qP qO qV M_nc M_nf r3 X_isWorkedOut M_modulus M_side M_size M_cells M_fresh R_length R_words r2.2.1 r2.1 P_registers O_modulus r2.2.2.1 r2.2.2.2.1 r2.2.2.2.2.1 r2.2.2.2.2.2.2 r2.2.2.2.2.2.1)) (va_runV (As := []) (rest := []) ⟨hx, hb, hml, hown, hts⟩ (c_X_rewind l D kI kZ qX qM qR qC qP qO qV M_nc M_nf X_instructionsDone X_isWorkedOut M_modulus M_side M_size M_cells M_fresh R_length R_words r2.2.1 r2.1 P_registers O_modulus r2.2.2.1 r2.2.2.2.1 r2.2.2.2.2.1 r2.2.2.2.2.2.2 r2.2.2.2.2.2.1 r3 hr3 H.size) (z_cwV hts mw_X_rewind kw_160 ⟨by rw [hR]; exact Nat.le_of_ble_eq_true rfl, by rw [hR]; exact Nat.le_of_ble_eq_true rfl⟩) (z_preV (ci := 5) hK hP hD hN rfl (he := (rfl : _[0]? = _)) [0, 1, 2, 3, 4, 5, 6, 7, 8, 9, 10, 11, 12, 13, 14, 15] (by decide) rfl) rfl rfl hl.1 rfl (lv_room (Nat.le_of_ble_eq_true rfl)) d_X_optimise_22 ⟨Nat.zero_le _, Nat.zero_le _⟩) hP hD hS hA [0, 1, 2, 3, 4, 5, 6, 7, 8, 9, 10, 11, 12, 13, 14, 15] [] [0, 1, 2, 3, 4, 5, 6, 7, 8, 9, 10, 11, 12, 13, 14, 15] rfl rfl (by decide) (by decide) rfl (by decide) (fun H locs hP hD hS => ?_)
    refine lv_iconst (v := (0 : Int32)) hx hb d_X_optimise_25 (by decide) ?_
    obtain rfl := Option.some.inj hr
    exact hQ _ _ _ _ _ d_X_optimise_26 rfl rfl hP hD hS
  · rw [if_pos hc] at hr
    refine lv_bipush (v := (7 : Int32)) hx hb d_X_optimise_7 (by decide) ?_
    obtain rfl := Option.some.inj hr
    exact hQ _ _ _ _ _ d_X_optimise_9 rfl rfl hP hD hS
set_option maxHeartbeats 4000000 in
set_option maxRecDepth 100000 in
theorem c_M_copy (l : Launch) (D : va_G) (kI kZ : ClassId) (qM : Nat → Nat) (M_nc M_nf : Nat) (M_modulus M_side M_size : Int32) (M_cells M_fresh : Nat → Int32) (a1 a2 : Int32) (res : (Nat → Int32)) (hr : f_M_copy M_nc M_size M_cells a1 a2 = some res) : zMv l D kI kZ y_M_copy prog_4_method_6_code 3 none 1 60 [.ref (qM 0), .int a1, .int a2] (W_M kI kZ qM M_nc M_nf M_modulus M_side M_size M_cells M_fresh) (W_M kI kZ qM M_nc M_nf M_modulus M_side M_size res M_fresh) := by
  refine zMv.of (by decide +kernel) (Nat.le_of_ble_eq_true rfl) ?_
  intro p e R s m args below meth c Q A hR hx hb hml hts hown hA hK hN hQ
  have hown : s.vm.findClass "SquareCode$Matrices" = some m.cls := hown
  intro ls H hl hP hD hS
  have hl : lv_has ls 3 [(0, .ref (qM 0)), (1, .int a1), (2, .int a2)] := hl
  rw [f_M_copy] at hr
  refine lv_aload_n hx hb d_M_copy_0 rfl (lv_at hl 0 rfl) ?_
  refine va_get (D := D) (ci := 2) (v := .ref (qM 1)) (C := R_M) (T := T_M) (N := 5) hx hb hts in_M hown hK hP 0 rfl rfl 3 (by decide) (hts _ kw_28) (fun _ h9 => h9) rfl d_M_copy_1 ?_
  refine lv_iload_n hx hb d_M_copy_4 rfl (lv_at hl 2 rfl) ?_
  refine lv_aload_n hx hb d_M_copy_5 rfl (lv_at hl 0 rfl) ?_
  refine va_get (D := D) (ci := 2) (v := .int M_size) (C := R_M) (T := T_M) (N := 5) hx hb hts in_M hown hK hP 0 rfl rfl 2 (by decide) (hts _ kw_27) (fun _ h9 => h9) rfl d_M_copy_6 ?_
  refine lv_imul hx hb d_M_copy_9 ?_
  refine lv_aload_n hx hb d_M_copy_10 rfl (lv_at hl 0 rfl) ?_
  refine va_get (D := D) (ci := 2) (v := .ref (qM 1)) (C := R_M) (T := T_M) (N := 5) hx hb hts in_M hown hK hP 0 rfl rfl 3 (by decide) (hts _ kw_28) (fun _ h9 => h9) rfl d_M_copy_11 ?_
  refine lv_iload_n hx hb d_M_copy_14 rfl (lv_at hl 1 rfl) ?_
  refine lv_aload_n hx hb d_M_copy_15 rfl (lv_at hl 0 rfl) ?_
  refine va_get (D := D) (ci := 2) (v := .int M_size) (C := R_M) (T := T_M) (N := 5) hx hb hts in_M hown hK hP 0 rfl rfl 2 (by decide) (hts _ kw_27) (fun _ h9 => h9) rfl d_M_copy_16 ?_
  refine lv_imul hx hb d_M_copy_19 ?_
  refine lv_aload_n hx hb d_M_copy_20 rfl (lv_at hl 0 rfl) ?_
  refine va_get (D := D) (ci := 2) (v := .int M_size) (C := R_M) (T := T_M) (N := 5) hx hb hts in_M hown hK hP 0 rfl rfl 2 (by decide) (hts _ kw_27) (fun _ h9 => h9) rfl d_M_copy_21 ?_
  obtain ⟨h1, h2, h3, h4, h5, hr⟩ := cpg_some hr
  refine va_copyi hx hb (hml.trans hl.1.symm) hown (hts _ kw_335) (hts _ kw_337) (hts _ kw_336) (hts _ kw_10) hK hP hD hS 1 1 0 0 rfl rfl rfl rfl rfl h1 h2 h3 h4 h5 (fun i _ => rfl) (by rw [hR]; exact Nat.le_of_ble_eq_true rfl) (by rw [hR]; exact Nat.le_of_ble_eq_true (by decide +kernel)) d_M_copy_24 (fun H locs hP hD hS => ?_)
  have hP : va_P D zCl (W_M kI kZ qM M_nc M_nf M_modulus M_side M_size (va_cpy M_cells M_cells (a2 * M_size).toNatClampNeg (a1 * M_size).toNatClampNeg M_size.toNatClampNeg) M_fresh) H := hP
  have hD : va_D A (W_M kI kZ qM M_nc M_nf M_modulus M_side M_size (va_cpy M_cells M_cells (a2 * M_size).toNatClampNeg (a1 * M_size).toNatClampNeg M_size.toNatClampNeg) M_fresh) := hD
  obtain rfl := Option.some.inj hr
  exact hQ _ _ _ _ d_M_copy_27 hP hD hS
set_option maxHeartbeats 4000000 in
set_option maxRecDepth 100000 in
theorem c_M_makeNought (l : Launch) (D : va_G) (kI kZ : ClassId) (qM : Nat → Nat) (M_nc M_nf : Nat) (M_modulus M_side M_size : Int32) (M_cells M_fresh : Nat → Int32) (a1 : Int32) (res : (Nat → Int32)) (hr : f_M_makeNought M_nc M_size M_cells a1 = some res) : zMv l D kI kZ y_M_makeNought prog_4_method_7_code 3 none 0 0 [.ref (qM 0), .int a1] (W_M kI kZ qM M_nc M_nf M_modulus M_side M_size M_cells M_fresh) (W_M kI kZ qM M_nc M_nf M_modulus M_side M_size res M_fresh) := by
  refine zMv.of (by decide +kernel) (Nat.le_of_ble_eq_true rfl) ?_
  intro p e R s m args below meth c Q A hR hx hb hml hts hown hA hK hN hQ
  have hown : s.vm.findClass "SquareCode$Matrices" = some m.cls := hown
  have hB2 : ∀ (fu : Nat) (v2 : Int32) (M_cells : Nat → Int32) (H : Heap) (locs : List Loc) (ls : Array Slot), lv_has ls 3 [(0, .ref (qM 0)), (1, .int a1), (2, .int v2)] → va_P D zCl (W_M kI kZ qM M_nc M_nf M_modulus M_side M_size M_cells M_fresh) H → va_D A (W_M kI kZ qM M_nc M_nf M_modulus M_side M_size M_cells M_fresh) → va_S A s.heap H locs → f_M_makeNought_2 M_nc M_size a1 fu v2 M_cells = some res → W p l e R s m args below meth c H locs 0 0 Q (F0 m 2 ls []) := by
    intro  fu
    induction fu with
    | zero => intro v2 M_cells H locs ls hl hP hD hS hr; exact absurd hr (by rw [f_M_makeNought_2]; exact fun h => by cases h)
    | succ fu ih =>
      intro v2 M_cells H locs ls hl hP hD hS hr
      rw [f_M_makeNought_2] at hr
      refine lv_iload_n hx hb d_M_makeNought_2 rfl (lv_at hl 2 rfl) ?_
      refine lv_aload_n hx hb d_M_makeNought_3 rfl (lv_at hl 0 rfl) ?_
      refine va_get (D := D) (ci := 2) (v := .int M_size) (C := R_M) (T := T_M) (N := 5) hx hb hts in_M hown hK hP 0 rfl rfl 2 (by decide) (hts _ kw_27) (fun _ h9 => h9) rfl d_M_makeNought_4 ?_
      refine lv_icmp_ge hx hb d_M_makeNought_7 rfl (fun hc => ?_) (fun hc => ?_)
      · rw [if_pos hc] at hr
        obtain rfl := Option.some.inj hr
        exact hQ _ _ _ _ d_M_makeNought_30 hP hD hS
      · rw [if_neg hc] at hr
        refine lv_aload_n hx hb d_M_makeNought_10 rfl (lv_at hl 0 rfl) ?_
        refine va_get (D := D) (ci := 2) (v := .ref (qM 1)) (C := R_M) (T := T_M) (N := 5) hx hb hts in_M hown hK hP 0 rfl rfl 3 (by decide) (hts _ kw_28) (fun _ h9 => h9) rfl d_M_makeNought_11 ?_
        refine lv_iload_n hx hb d_M_makeNought_14 rfl (lv_at hl 1 rfl) ?_
        refine lv_aload_n hx hb d_M_makeNought_15 rfl (lv_at hl 0 rfl) ?_
        refine va_get (D := D) (ci := 2) (v := .int M_size) (C := R_M) (T := T_M) (N := 5) hx hb hts in_M hown hK hP 0 rfl rfl 2 (by decide) (hts _ kw_27) (fun _ h9 => h9) rfl d_M_makeNought_16 ?_
        refine lv_imul hx hb d_M_makeNought_19 ?_
        refine lv_iload_n hx hb d_M_makeNought_20 rfl (lv_at hl 2 rfl) ?_
        refine lv_iadd hx hb d_M_makeNought_21 ?_
        refine lv_iconst (v := (0 : Int32)) hx hb d_M_makeNought_22 (by decide) ?_
        obtain ⟨hi, hr⟩ := gd_some hr
        refine va_iast hx hb hK hP hD hS 1 0 rfl rfl hi d_M_makeNought_23 (fun H locs hP hD hS => ?_)
        have hP : va_P D zCl (W_M kI kZ qM M_nc M_nf M_modulus M_side M_size (upd M_cells ((a1 * M_size) + v2).toNatClampNeg (0 : Int32)) M_fresh) H := hP
        have hD : va_D A (W_M kI kZ qM M_nc M_nf M_modulus M_side M_size (upd M_cells ((a1 * M_size) + v2).toNatClampNeg (0 : Int32)) M_fresh) := hD
        refine lv_iinc (k := 2) (v := (v2 + (1 : Int32))) (lv' := [(2, .int (v2 + (1 : Int32))), (0, .ref (qM 0)), (1, .int a1)]) hx hb d_M_makeNought_24 hl rfl (congrArg (fun z => v2 + z) (by decide : Int32.ofInt 1 = (1 : Int32))) (by decide) rfl (fun ls hl => ?_)
        refine lv_goto hx hb d_M_makeNought_27 rfl ?_
        exact ih (v2 + (1 : Int32)) (upd M_cells ((a1 * M_size) + v2).toNatClampNeg (0 : Int32)) _ _ _ (lv_sub hl [1, 2, 0] rfl) hP hD hS hr
  intro ls H hl hP hD hS
  have hl : lv_has ls 3 [(0, .ref (qM 0)), (1, .int a1)] := hl
  rw [f_M_makeNought] at hr
  refine lv_iconst (v := (0 : Int32)) hx hb d_M_makeNought_0 (by decide) ?_
  refine lv_istore_n (lv' := [(2, .int (0 : Int32)), (0, .ref (qM 0)), (1, .int a1)]) hx hb d_M_makeNought_1 rfl hl (by decide) rfl (fun ls hl => ?_)
  exact hB2 zFU (0 : Int32) M_cells _ _ _ (lv_sub hl [1, 2, 0] rfl) hP hD hS hr
set_option maxHeartbeats 4000000 in
set_option maxRecDepth 100000 in
theorem c_M_makeOne (l : Launch) (D : va_G) (kI kZ : ClassId) (qM : Nat → Nat) (M_nc M_nf : Nat) (M_modulus M_side M_size : Int32) (M_cells M_fresh : Nat → Int32) (a1 : Int32) (res : (Nat → Int32)) (hr : f_M_makeOne M_nc M_modulus M_side M_size M_cells a1 = some res) : zMv l D kI kZ y_M_makeOne prog_4_method_8_code 3 none 2 46 [.ref (qM 0), .int a1] (W_M kI kZ qM M_nc M_nf M_modulus M_side M_size M_cells M_fresh) (W_M kI kZ qM M_nc M_nf M_modulus M_side M_size res M_fresh) := by
  refine zMv.of (by decide +kernel) (Nat.le_of_ble_eq_true rfl) ?_
  intro p e R s m args below meth c Q A hR hx hb hml hts hown hA hK hN hQ
  have hown : s.vm.findClass "SquareCode$Matrices" = some m.cls := hown
  have hB7 : ∀ (fu : Nat) (v2 : Int32) (M_cells : Nat → Int32) (H : Heap) (locs : List Loc) (ls : Array Slot), lv_has ls 3 [(0, .ref (qM 0)), (1, .int a1), (2, .int v2)] → va_P D zCl (W_M kI kZ qM M_nc M_nf M_modulus M_side M_size M_cells M_fresh) H → va_D A (W_M kI kZ qM M_nc M_nf M_modulus M_side M_size M_cells M_fresh) → va_S A s.heap H locs → f_M_makeOne_7 M_nc M_modulus M_side M_size a1 fu v2 M_cells = some res → W p l e R s m args below meth c H locs 0 0 Q (F0 m 7 ls []) := by
    intro  fu
    induction fu with
    | zero => intro v2 M_cells H locs ls hl hP hD hS hr; exact absurd hr (by rw [f_M_makeOne_7]; exact fun h => by cases h)
    | succ fu ih =>
      intro v2 M_cells H locs ls hl hP hD hS hr
      rw [f_M_makeOne_7] at hr
      refine lv_iload_n hx hb d_M_makeOne_7 rfl (lv_at hl 2 rfl) ?_
      refine lv_aload_n hx hb d_M_makeOne_8 rfl (lv_at hl 0 rfl) ?_
      refine va_get (D := D) (ci := 2) (v := .int M_side) (C := R_M) (T := T_M) (N := 5) hx hb hts in_M hown hK hP 0 rfl rfl 1 (by decide) (hts _ kw_26) (fun _ h9 => h9) rfl d_M_makeOne_9 ?_
      refine lv_icmp_ge hx hb d_M_makeOne_12 rfl (fun hc => ?_) (fun hc => ?_)
      · rw [if_pos hc] at hr
        obtain rfl := Option.some.inj hr
        exact hQ _ _ _ _ d_M_makeOne_29 hP hD hS
      · rw [if_neg hc] at hr
        refine lv_aload_n hx hb d_M_makeOne_15 rfl (lv_at hl 0 rfl) ?_
        refine lv_iload_n hx hb d_M_makeOne_16 rfl (lv_at hl 1 rfl) ?_
        refine lv_iload_n hx hb d_M_makeOne_17 rfl (lv_at hl 2 rfl) ?_
        refine lv_iload_n hx hb d_M_makeOne_18 rfl (lv_at hl 2 rfl) ?_
        refine lv_iconst (v := (1 : Int32)) hx hb d_M_makeOne_19 (by decide) ?_
        obtain ⟨r1, hr1, hr⟩ := ob hr
        refine z_cv (ws := (W_M kI kZ qM M_nc M_nf M_modulus M_side M_size M_cells M_fresh)) (wc := (W_M kI kZ qM M_nc M_nf M_modulus M_side M_size M_cells M_fresh)) (wr := ([] : va_W)) (w1 := (W_M kI kZ qM M_nc M_nf M_modulus M_side M_size r1 M_fresh)) (w2 := (W_M kI kZ qM M_nc M_nf M_modulus M_side M_size r1 M_fresh)) (va_runV (As := [.int a1, .int v2, .int v2, .int (1 : Int32)]) (rest := []) ⟨hx, hb, hml, hown, hts⟩ (c_M_put l D kI kZ qM M_nc M_nf M_modulus M_side M_size M_cells M_fresh a1 v2 v2 (1 : Int32) r1 hr1 H.size) (z_cwV hts mw_M_put kw_346 ⟨by rw [hR]; exact Nat.le_of_ble_eq_true rfl, by rw [hR]; exact Nat.le_of_ble_eq_true rfl⟩) (z_preV (ci := 2) hK hP hD hN rfl (he := (rfl : _[0]? = _)) [0, 1, 2] (by decide) rfl) rfl rfl hl.1 rfl (lv_room (Nat.le_of_ble_eq_true rfl)) d_M_makeOne_20 ⟨Nat.zero_le _, Nat.zero_le _⟩) hP hD hS hA [0, 1, 2] [] [0, 1, 2] rfl rfl (by decide) (by decide) rfl (by decide) (fun H locs hP hD hS => ?_)
        refine lv_iinc (k := 2) (v := (v2 + (1 : Int32))) (lv' := [(2, .int (v2 + (1 : Int32))), (0, .ref (qM 0)), (1, .int a1)]) hx hb d_M_makeOne_23 hl rfl (congrArg (fun z => v2 + z) (by decide : Int32.ofInt 1 = (1 : Int32))) (by decide) rfl (fun ls hl => ?_)
        refine lv_goto hx hb d_M_makeOne_26 rfl ?_
        exact ih (v2 + (1 : Int32)) r1 _ _ _ (lv_sub hl [1, 2, 0] rfl) hP hD hS hr
  intro ls H hl hP hD hS
  have hl : lv_has ls 3 [(0, .ref (qM 0)), (1, .int a1)] := hl
  rw [f_M_makeOne] at hr
  refine lv_aload_n hx hb d_M_makeOne_0 rfl (lv_at hl 0 rfl) ?_
  refine lv_iload_n hx hb d_M_makeOne_1 rfl (lv_at hl 1 rfl) ?_
  obtain ⟨r2, hr2, hr⟩ := ob hr
  refine z_cv (ws := (W_M kI kZ qM M_nc M_nf M_modulus M_side M_size M_cells M_fresh)) (wc := (W_M kI kZ qM M_nc M_nf M_modulus M_side M_size M_cells M_fresh)) (wr := ([] : va_W)) (w1 := (W_M kI kZ qM M_nc M_nf M_modulus M_side M_size r2 M_fresh)) (w2 := (W_M kI kZ qM M_nc M_nf M_modulus M_side M_size r2 M_fresh)) (va_runV (As := [.int a1]) (rest := []) ⟨hx, hb, hml, hown, hts⟩ (c_M_makeNought l D kI kZ qM M_nc M_nf M_modulus M_side M_size M_cells M_fresh a1 r2 hr2 H.size) (z_cwV hts mw_M_makeNought kw_342 ⟨by rw [hR]; exact Nat.le_of_ble_eq_true rfl, by rw [hR]; exact Nat.le_of_ble_eq_true rfl⟩) (z_preV (ci := 2) hK hP hD hN rfl (he := (rfl : _[0]? = _)) [0, 1, 2] (by decide) rfl) rfl rfl hl.1 rfl (lv_room (Nat.le_of_ble_eq_true rfl)) d_M_makeOne_2 ⟨Nat.zero_le _, Nat.zero_le _⟩) hP hD hS hA [0, 1, 2] [] [0, 1, 2] rfl rfl (by decide) (by decide) rfl (by decide) (fun H locs hP hD hS => ?_)
  refine lv_iconst (v := (0 : Int32)) hx hb d_M_makeOne_5 (by decide) ?_
  refine lv_istore_n (lv' := [(2, .int (0 : Int32)), (0, .ref (qM 0)), (1, .int a1)]) hx hb d_M_makeOne_6 rfl hl (by decide) rfl (fun ls hl => ?_)
  exact hB7 zFU (0 : Int32) r2 _ _ _ (lv_sub hl [1, 2, 0] rfl) hP hD hS hr
end
section
set_option maxHeartbeats 4000000 in
set_option maxRecDepth 100000 in
theorem c_M_combine (l : Launch) (D : va_G) (kI kZ : ClassId) (qM : Nat → Nat) (M_nc M_nf : Nat) (M_modulus M_side M_size : Int32) (M_cells M_fresh : Nat → Int32) (a1 a2 a3 a4 : Int32) (res : (Nat → Int32)) (hr : f_M_combine M_nc M_modulus M_size M_cells a1 a2 a3 a4 = some res) : zMv l D kI kZ y_M_combine prog_4_method_9_code 7 none 0 0 [.ref (qM 0), .int a1, .int a2, .int a3, .int a4] (W_M kI kZ qM M_nc M_nf M_modulus M_side M_size M_cells M_fresh) (W_M kI kZ qM M_nc M_nf M_modulus M_side M_size res M_fresh) := by
  refine zMv.of (by decide +kernel) (Nat.le_of_ble_eq_true rfl) ?_
  intro p e R s m args below meth c Q A hR hx hb hml hts hown hA hK hN hQ
  have hown : s.vm.findClass "SquareCode$Matrices" = some m.cls := hown
  have hB3 : ∀ (fu : Nat) (v5 : Int32) (M_cells : Nat → Int32) (H : Heap) (locs : List Loc) (ls : Array Slot), lv_has ls 7 [(0, .ref (qM 0)), (1, .int a1), (2, .int a2), (3, .int a3), (4, .int a4), (5, .int v5)] → va_P D zCl (W_M kI kZ qM M_nc M_nf M_modulus M_side M_size M_cells M_fresh) H → va_D A (W_M kI kZ qM M_nc M_nf M_modulus M_side M_size M_cells M_fresh) → va_S A s.heap H locs → f_M_combine_3 M_nc M_modulus M_size a1 a2 a3 a4 fu v5 M_cells = some res → W p l e R s m args below meth c H locs 0 0 Q (F0 m 3 ls []) := by
    intro  fu
    induction fu with
    | zero => intro v5 M_cells H locs ls hl hP hD hS hr; exact absurd hr (by rw [f_M_combine_3]; exact fun h => by cases h)
    | succ fu ih =>
      intro v5 M_cells H locs ls hl hP hD hS hr
      rw [f_M_combine_3] at hr
      refine lv_iload hx hb d_M_combine_3 (lv_at hl 5 rfl) ?_
      refine lv_aload_n hx hb d_M_combine_5 rfl (lv_at hl 0 rfl) ?_
      refine va_get (D := D) (ci := 2) (v := .int M_size) (C := R_M) (T := T_M) (N := 5) hx hb hts in_M hown hK hP 0 rfl rfl 2 (by decide) (hts _ kw_27) (fun _ h9 => h9) rfl d_M_combine_6 ?_
      refine lv_icmp_ge hx hb d_M_combine_9 rfl (fun hc => ?_) (fun hc => ?_)
      · rw [if_pos hc] at hr
        obtain rfl := Option.some.inj hr
        exact hQ _ _ _ _ d_M_combine_73 hP hD hS
      · rw [if_neg hc] at hr
        refine lv_aload_n hx hb d_M_combine_12 rfl (lv_at hl 0 rfl) ?_
        refine va_get (D := D) (ci := 2) (v := .ref (qM 1)) (C := R_M) (T := T_M) (N := 5) hx hb hts in_M hown hK hP 0 rfl rfl 3 (by decide) (hts _ kw_28) (fun _ h9 => h9) rfl d_M_combine_13 ?_
        refine lv_iload_n hx hb d_M_combine_16 rfl (lv_at hl 2 rfl) ?_
        refine lv_aload_n hx hb d_M_combine_17 rfl (lv_at hl 0 rfl) ?_
        refine va_get (D := D) (ci := 2) (v := .int M_size) (C := R_M) (T := T_M) (N := 5) hx hb hts in_M hown hK hP 0 rfl rfl 2 (by decide) (hts _ kw_27) (fun _ h9 => h9) rfl d_M_combine_18 ?_
        refine lv_imul hx hb d_M_combine_21 ?_
        refine lv_iload hx hb d_M_combine_22 (lv_at hl 5 rfl) ?_
        refine lv_iadd hx hb d_M_combine_24 ?_
        obtain ⟨hi, hr⟩ := gd_some hr
        refine va_iald hx hb hK hP 1 0 rfl rfl hi d_M_combine_25 ?_
        refine lv_iload hx hb d_M_combine_26 (lv_at hl 4 rfl) ?_
        refine lv_aload_n hx hb d_M_combine_28 rfl (lv_at hl 0 rfl) ?_
        refine va_get (D := D) (ci := 2) (v := .ref (qM 1)) (C := R_M) (T := T_M) (N := 5) hx hb hts in_M hown hK hP 0 rfl rfl 3 (by decide) (hts _ kw_28) (fun _ h9 => h9) rfl d_M_combine_29 ?_
        refine lv_iload_n hx hb d_M_combine_32 rfl (lv_at hl 3 rfl) ?_
        refine lv_aload_n hx hb d_M_combine_33 rfl (lv_at hl 0 rfl) ?_
        refine va_get (D := D) (ci := 2) (v := .int M_size) (C := R_M) (T := T_M) (N := 5) hx hb hts in_M hown hK hP 0 rfl rfl 2 (by decide) (hts _ kw_27) (fun _ h9 => h9) rfl d_M_combine_34 ?_
        refine lv_imul hx hb d_M_combine_37 ?_
        refine lv_iload hx hb d_M_combine_38 (lv_at hl 5 rfl) ?_
        refine lv_iadd hx hb d_M_combine_40 ?_
        obtain ⟨hi, hr⟩ := gd_some hr
        refine va_iald hx hb hK hP 1 0 rfl rfl hi d_M_combine_41 ?_
        refine lv_imul hx hb d_M_combine_42 ?_
        refine lv_iadd hx hb d_M_combine_43 ?_
        obtain ⟨v6_1, ev6_1, hr⟩ := nm_some hr
        refine z_top ev6_1 ?_
        refine lv_istore (lv' := [(6, .int v6_1), (0, .ref (qM 0)), (1, .int a1), (2, .int a2), (3, .int a3), (4, .int a4), (5, .int v5)]) hx hb d_M_combine_44 hl (by decide) rfl (fun ls hl => ?_)
        refine lv_aload_n hx hb d_M_combine_46 rfl (lv_at hl 1 rfl) ?_
        refine va_get (D := D) (ci := 2) (v := .ref (qM 1)) (C := R_M) (T := T_M) (N := 5) hx hb hts in_M hown hK hP 0 rfl rfl 3 (by decide) (hts _ kw_28) (fun _ h9 => h9) rfl d_M_combine_47 ?_
        refine lv_iload_n hx hb d_M_combine_50 rfl (lv_at hl 2 rfl) ?_
        refine lv_aload_n hx hb d_M_combine_51 rfl (lv_at hl 1 rfl) ?_
        refine va_get (D := D) (ci := 2) (v := .int M_size) (C := R_M) (T := T_M) (N := 5) hx hb hts in_M hown hK hP 0 rfl rfl 2 (by decide) (hts _ kw_27) (fun _ h9 => h9) rfl d_M_combine_52 ?_
        refine lv_imul hx hb d_M_combine_55 ?_
        refine lv_iload hx hb d_M_combine_56 (lv_at hl 6 rfl) ?_
        refine lv_iadd hx hb d_M_combine_58 ?_
        refine lv_iload hx hb d_M_combine_59 (lv_at hl 0 rfl) ?_
        refine lv_aload_n hx hb d_M_combine_61 rfl (lv_at hl 1 rfl) ?_
        refine va_get (D := D) (ci := 2) (v := .int M_modulus) (C := R_M) (T := T_M) (N := 5) hx hb hts in_M hown hK hP 0 rfl rfl 0 (by decide) (hts _ kw_25) (fun _ h9 => h9) rfl d_M_combine_62 ?_
        obtain ⟨hz, hr⟩ := nz_some hr
        refine z_irem hx hb d_M_combine_65 hz ?_
        obtain ⟨hi, hr⟩ := gd_some hr
        refine va_iast hx hb hK hP hD hS 1 0 rfl rfl hi d_M_combine_66 (fun H locs hP hD hS => ?_)
        have hP : va_P D zCl (W_M kI kZ qM M_nc M_nf M_modulus M_side M_size (upd M_cells ((a1 * M_size) + v5).toNatClampNeg (zrem v6_1 M_modulus)) M_fresh) H := hP
        have hD : va_D A (W_M kI kZ qM M_nc M_nf M_modulus M_side M_size (upd M_cells ((a1 * M_size) + v5).toNatClampNeg (zrem v6_1 M_modulus)) M_fresh) := hD
        refine lv_iinc (k := 6) (v := (v5 + (1 : Int32))) (lv' := [(5, .int (v5 + (1 : Int32))), (6, .int v6_1), (0, .ref (qM 0)), (1, .int a1), (2, .int a2), (3, .int a3), (4, .int a4)]) hx hb d_M_combine_67 hl rfl (congrArg (fun z => v5 + z) (by decide : Int32.ofInt 1 = (1 : Int32))) (by decide) rfl (fun ls hl => ?_)
        refine lv_goto hx hb d_M_combine_70 rfl ?_
        exact ih (v5 + (1 : Int32)) (upd M_cells ((a1 * M_size) + v5).toNatClampNeg (zrem v6_1 M_modulus)) _ _ _ (lv_sub hl [2, 3, 4, 5, 6, 0] rfl) hP hD hS hr
  intro ls H hl hP hD hS
  have hl : lv_has ls 7 [(0, .ref (qM 0)), (1, .int a1), (2, .int a2), (3, .int a3), (4, .int a4)] := hl
  rw [f_M_combine] at hr
  refine lv_iconst (v := (0 : Int32)) hx hb d_M_combine_0 (by decide) ?_
  refine lv_istore (lv' := [(5, .int (0 : Int32)), (0, .ref (qM 0)), (1, .int a1), (2, .int a2), (3, .int a3), (4, .int a4)]) hx hb d_M_combine_1 hl (by decide) rfl (fun ls hl => ?_)
  exact hB3 zFU (0 : Int32) M_cells _ _ _ (lv_sub hl [1, 2, 3, 4, 5, 0] rfl) hP hD hS hr
set_option maxHeartbeats 4000000 in
set_option maxRecDepth 100000 in
theorem c_M_get (l : Launch) (D : va_G) (kI kZ : ClassId) (qM : Nat → Nat) (M_nc M_nf : Nat) (M_modulus M_side M_size : Int32) (M_cells M_fresh : Nat → Int32) (a1 a2 a3 : Int32) (res : Int32) (hr : f_M_get M_nc M_side M_size M_cells a1 a2 a3 = some res) : zMi l D kI kZ y_M_get prog_4_method_3_code 4 ((some .int)) 0 0 [.ref (qM 0), .int a1, .int a2, .int a3] (W_M kI kZ qM M_nc M_nf M_modulus M_side M_size M_cells M_fresh) (W_M kI kZ qM M_nc M_nf M_modulus M_side M_size M_cells M_fresh) res := by
  refine zMi.of (by decide +kernel) (Nat.le_of_ble_eq_true rfl) ?_
  intro p e R s m args below meth c Q A hR hx hb hml hts hown hA hK hN hQ
  have hown : s.vm.findClass "SquareCode$Matrices" = some m.cls := hown
  intro ls H hl hP hD hS
  have hl : lv_has ls 4 [(0, .ref (qM 0)), (1, .int a1), (2, .int a2), (3, .int a3)] := hl
  rw [f_M_get] at hr
  refine lv_aload_n hx hb d_M_get_0 rfl (lv_at hl 0 rfl) ?_
  refine va_get (D := D) (ci := 2) (v := .ref (qM 1)) (C := R_M) (T := T_M) (N := 5) hx hb hts in_M hown hK hP 0 rfl rfl 3 (by decide) (hts _ kw_28) (fun _ h9 => h9) rfl d_M_get_1 ?_
  refine lv_iload_n hx hb d_M_get_4 rfl (lv_at hl 1 rfl) ?_
  refine lv_aload_n hx hb d_M_get_5 rfl (lv_at hl 0 rfl) ?_
  refine va_get (D := D) (ci := 2) (v := .int M_size) (C := R_M) (T := T_M) (N := 5) hx hb hts in_M hown hK hP 0 rfl rfl 2 (by decide) (hts _ kw_27) (fun _ h9 => h9) rfl d_M_get_6 ?_
  refine lv_imul hx hb d_M_get_9 ?_
  refine lv_iload_n hx hb d_M_get_10 rfl (lv_at hl 2 rfl) ?_
  refine lv_aload_n hx hb d_M_get_11 rfl (lv_at hl 0 rfl) ?_
  refine va_get (D := D) (ci := 2) (v := .int M_side) (C := R_M) (T := T_M) (N := 5) hx hb hts in_M hown hK hP 0 rfl rfl 1 (by decide) (hts _ kw_26) (fun _ h9 => h9) rfl d_M_get_12 ?_
  refine lv_imul hx hb d_M_get_15 ?_
  refine lv_iadd hx hb d_M_get_16 ?_
  refine lv_iload_n hx hb d_M_get_17 rfl (lv_at hl 3 rfl) ?_
  refine lv_iadd hx hb d_M_get_18 ?_
  obtain ⟨hi, hr⟩ := gd_some hr
  refine va_iald hx hb hK hP 1 0 rfl rfl hi d_M_get_19 ?_
  obtain rfl := Option.some.inj hr
  exact hQ _ _ _ _ _ d_M_get_20 rfl rfl hP hD hS
set_option maxHeartbeats 4000000 in
set_option maxRecDepth 100000 in
theorem c_M_keepFresh (l : Launch) (D : va_G) (kI kZ : ClassId) (qM : Nat → Nat) (M_nc M_nf : Nat) (M_modulus M_side M_size : Int32) (M_cells M_fresh : Nat → Int32) (a1 : Int32) (res : (Nat → Int32)) (hr : f_M_keepFresh M_nc M_nf M_size M_cells M_fresh a1 = some res) : zMv l D kI kZ y_M_keepFresh prog_4_method_12_code 2 none 1 60 [.ref (qM 0), .int a1] (W_M kI kZ qM M_nc M_nf M_modulus M_side M_size M_cells M_fresh) (W_M kI kZ qM M_nc M_nf M_modulus M_side M_size res M_fresh) := by
  refine zMv.of (by decide +kernel) (Nat.le_of_ble_eq_true rfl) ?_
  intro p e R s m args below meth c Q A hR hx hb hml hts hown hA hK hN hQ
  have hown : s.vm.findClass "SquareCode$Matrices" = some m.cls := hown
  intro ls H hl hP hD hS
  have hl : lv_has ls 2 [(0, .ref (qM 0)), (1, .int a1)] := hl
  rw [f_M_keepFresh] at hr
  refine lv_aload_n hx hb d_M_keepFresh_0 rfl (lv_at hl 0 rfl) ?_
  refine va_get (D := D) (ci := 2) (v := .ref (qM 2)) (C := R_M) (T := T_M) (N := 5) hx hb hts in_M hown hK hP 0 rfl rfl 4 (by decide) (hts _ kw_29) (fun _ h9 => h9) rfl d_M_keepFresh_1 ?_
  refine lv_iconst (v := (0 : Int32)) hx hb d_M_keepFresh_4 (by decide) ?_
  refine lv_aload_n hx hb d_M_keepFresh_5 rfl (lv_at hl 0 rfl) ?_
  refine va_get (D := D) (ci := 2) (v := .ref (qM 1)) (C := R_M) (T := T_M) (N := 5) hx hb hts in_M hown hK hP 0 rfl rfl 3 (by decide) (hts _ kw_28) (fun _ h9 => h9) rfl d_M_keepFresh_6 ?_
  refine lv_iload_n hx hb d_M_keepFresh_9 rfl (lv_at hl 1 rfl) ?_
  refine lv_aload_n hx hb d_M_keepFresh_10 rfl (lv_at hl 0 rfl) ?_
  refine va_get (D := D) (ci := 2) (v := .int M_size) (C := R_M) (T := T_M) (N := 5) hx hb hts in_M hown hK hP 0 rfl rfl 2 (by decide) (hts _ kw_27) (fun _ h9 => h9) rfl d_M_keepFresh_11 ?_
  refine lv_imul hx hb d_M_keepFresh_14 ?_
  refine lv_aload_n hx hb d_M_keepFresh_15 rfl (lv_at hl 0 rfl) ?_
  refine va_get (D := D) (ci := 2) (v := .int M_size) (C := R_M) (T := T_M) (N := 5) hx hb hts in_M hown hK hP 0 rfl rfl 2 (by decide) (hts _ kw_27) (fun _ h9 => h9) rfl d_M_keepFresh_16 ?_
  obtain ⟨h1, h2, h3, h4, h5, hr⟩ := cpg_some hr
  refine va_copyi hx hb (hml.trans hl.1.symm) hown (hts _ kw_335) (hts _ kw_337) (hts _ kw_336) (hts _ kw_10) hK hP hD hS 2 1 0 0 rfl rfl rfl rfl rfl h1 h2 h3 h4 h5 (fun i _ => rfl) (by rw [hR]; exact Nat.le_of_ble_eq_true rfl) (by rw [hR]; exact Nat.le_of_ble_eq_true (by decide +kernel)) d_M_keepFresh_19 (fun H locs hP hD hS => ?_)
  have hP : va_P D zCl (W_M kI kZ qM M_nc M_nf M_modulus M_side M_size (va_cpy M_fresh M_cells (0 : Int32).toNatClampNeg (a1 * M_size).toNatClampNeg M_size.toNatClampNeg) M_fresh) H := hP
  have hD : va_D A (W_M kI kZ qM M_nc M_nf M_modulus M_side M_size (va_cpy M_fresh M_cells (0 : Int32).toNatClampNeg (a1 * M_size).toNatClampNeg M_size.toNatClampNeg) M_fresh) := hD
  obtain rfl := Option.some.inj hr
  exact hQ _ _ _ _ d_M_keepFresh_22 hP hD hS
set_option maxHeartbeats 4000000 in
set_option maxRecDepth 100000 in
theorem c_M_multiply (l : Launch) (D : va_G) (kI kZ : ClassId) (qM : Nat → Nat) (M_nc M_nf : Nat) (M_modulus M_side M_size : Int32) (M_cells M_fresh : Nat → Int32) (a1 a2 a3 : Int32) (res : (Nat → Int32) × (Nat → Int32)) (hr : f_M_multiply M_nc M_nf M_modulus M_side M_size M_cells M_fresh a1 a2 a3 = some res) : zMv l D kI kZ y_M_multiply prog_4_method_10_code 8 none 2 81 [.ref (qM 0), .int a1, .int a2, .int a3] (W_M kI kZ qM M_nc M_nf M_modulus M_side M_size M_cells M_fresh) (W_M kI kZ qM M_nc M_nf M_modulus M_side M_size (res.1) (res.2)) := by
  refine zMv.of (by decide +kernel) (Nat.le_of_ble_eq_true rfl) ?_
  intro p e R s m args below meth c Q A hR hx hb hml hts hown hA hK hN hQ
  have hown : s.vm.findClass "SquareCode$Matrices" = some m.cls := hown
  have hB30 : ∀ (v4 v5 : Int32) (M_cells M_fresh : Nat → Int32) (k15 : Int32 → (Nat → Int32) → Option ((Nat → Int32) × (Nat → Int32))) (hk15 : ∀ (v5 : Int32) (M_fresh : Nat → Int32) (H : Heap) (locs : List Loc) (ls : Array Slot), lv_has ls 8 [(0, .ref (qM 0)), (1, .int a1), (2, .int a2), (3, .int a3), (4, .int v4), (5, .int v5)] → va_P D zCl (W_M kI kZ qM M_nc M_nf M_modulus M_side M_size M_cells M_fresh) H → va_D A (W_M kI kZ qM M_nc M_nf M_modulus M_side M_size M_cells M_fresh) → va_S A s.heap H locs → k15 v5 M_fresh = some res → W p l e R s m args below meth c H locs 0 0 Q (F0 m 15 ls [])) (fu : Nat) (v6 v7 : Int32) (H : Heap) (locs : List Loc) (ls : Array Slot), lv_has ls 8 [(0, .ref (qM 0)), (1, .int a1), (2, .int a2), (3, .int a3), (4, .int v4), (5, .int v5), (6, .int v6), (7, .int v7)] → va_P D zCl (W_M kI kZ qM M_nc M_nf M_modulus M_side M_size M_cells M_fresh) H → va_D A (W_M kI kZ qM M_nc M_nf M_modulus M_side M_size M_cells M_fresh) → va_S A s.heap H locs → f_M_multiply_30 M_nc M_nf M_modulus M_side M_size a2 a3 k15 v4 v5 M_cells M_fresh fu v6 v7 = some res → W p l e R s m args below meth c H locs 0 0 Q (F0 m 30 ls []) := by
    intro v4 v5 M_cells M_fresh k15 hk15 fu
    induction fu with
    | zero => intro v6 v7 H locs ls hl hP hD hS hr; exact absurd hr (by rw [f_M_multiply_30]; exact fun h => by cases h)
    | succ fu ih =>
      intro v6 v7 H locs ls hl hP hD hS hr
      rw [f_M_multiply_30] at hr
      refine lv_iload hx hb d_M_multiply_30 (lv_at hl 7 rfl) ?_
      refine lv_aload_n hx hb d_M_multiply_32 rfl (lv_at hl 0 rfl) ?_
      refine va_get (D := D) (ci := 2) (v := .int M_side) (C := R_M) (T := T_M) (N := 5) hx hb hts in_M hown hK hP 0 rfl rfl 1 (by decide) (hts _ kw_26) (fun _ h9 => h9) rfl d_M_multiply_33 ?_
      refine lv_icmp_ge hx hb d_M_multiply_36 rfl (fun hc => ?_) (fun hc => ?_)
      · rw [if_pos hc] at hr
        refine lv_aload_n hx hb d_M_multiply_69 rfl (lv_at hl 0 rfl) ?_
        refine va_get (D := D) (ci := 2) (v := .ref (qM 2)) (C := R_M) (T := T_M) (N := 5) hx hb hts in_M hown hK hP 0 rfl rfl 4 (by decide) (hts _ kw_29) (fun _ h9 => h9) rfl d_M_multiply_70 ?_
        refine lv_iload hx hb d_M_multiply_73 (lv_at hl 4 rfl) ?_
        refine lv_aload_n hx hb d_M_multiply_75 rfl (lv_at hl 0 rfl) ?_
        refine va_get (D := D) (ci := 2) (v := .int M_side) (C := R_M) (T := T_M) (N := 5) hx hb hts in_M hown hK hP 0 rfl rfl 1 (by decide) (hts _ kw_26) (fun _ h9 => h9) rfl d_M_multiply_76 ?_
        refine lv_imul hx hb d_M_multiply_79 ?_
        refine lv_iload hx hb d_M_multiply_80 (lv_at hl 5 rfl) ?_
        refine lv_iadd hx hb d_M_multiply_82 ?_
        refine lv_iload hx hb d_M_multiply_83 (lv_at hl 6 rfl) ?_
        refine lv_aload_n hx hb d_M_multiply_85 rfl (lv_at hl 0 rfl) ?_
        refine va_get (D := D) (ci := 2) (v := .int M_modulus) (C := R_M) (T := T_M) (N := 5) hx hb hts in_M hown hK hP 0 rfl rfl 0 (by decide) (hts _ kw_25) (fun _ h9 => h9) rfl d_M_multiply_86 ?_
        obtain ⟨hz, hr⟩ := nz_some hr
        refine z_irem hx hb d_M_multiply_89 hz ?_
        obtain ⟨hi, hr⟩ := gd_some hr
        refine va_iast hx hb hK hP hD hS 2 0 rfl rfl hi d_M_multiply_90 (fun H locs hP hD hS => ?_)
        have hP : va_P D zCl (W_M kI kZ qM M_nc M_nf M_modulus M_side M_size M_cells (upd M_fresh ((v4 * M_side) + v5).toNatClampNeg (zrem v6 M_modulus))) H := hP
        have hD : va_D A (W_M kI kZ qM M_nc M_nf M_modulus M_side M_size M_cells (upd M_fresh ((v4 * M_side) + v5).toNatClampNeg (zrem v6 M_modulus))) := hD
        refine lv_iinc (k := 5) (v := (v5 + (1 : Int32))) (lv' := [(5, .int (v5 + (1 : Int32))), (0, .ref (qM 0)), (1, .int a1), (2, .int a2), (3, .int a3), (4, .int v4), (6, .int v6), (7, .int v7)]) hx hb d_M_multiply_91 hl rfl (congrArg (fun z => v5 + z) (by decide : Int32.ofInt 1 = (1 : Int32))) (by decide) rfl (fun ls hl => ?_)
        refine lv_goto hx hb d_M_multiply_94 rfl ?_
        exact hk15 (v5 + (1 : Int32)) (upd M_fresh ((v4 * M_side) + v5).toNatClampNeg (zrem v6 M_modulus)) _ _ _ (lv_sub hl [1, 2, 3, 4, 5, 0] rfl) hP hD hS hr
      · rw [if_neg hc] at hr
        refine lv_iload hx hb d_M_multiply_39 (lv_at hl 6 rfl) ?_
        refine lv_aload_n hx hb d_M_multiply_41 rfl (lv_at hl 0 rfl) ?_
        refine lv_iload_n hx hb d_M_multiply_42 rfl (lv_at hl 2 rfl) ?_
        refine lv_iload hx hb d_M_multiply_43 (lv_at hl 4 rfl) ?_
        refine lv_iload hx hb d_M_multiply_45 (lv_at hl 7 rfl) ?_
        obtain ⟨r1, hr1, hr⟩ := ob hr
        refine z_ci (ws := (W_M kI kZ qM M_nc M_nf M_modulus M_side M_size M_cells M_fresh)) (wc := (W_M kI kZ qM M_nc M_nf M_modulus M_side M_size M_cells M_fresh)) (wr := ([] : va_W)) (w1 := (W_M kI kZ qM M_nc M_nf M_modulus M_side M_size M_cells M_fresh)) (w2 := (W_M kI kZ qM M_nc M_nf M_modulus M_side M_size M_cells M_fresh)) (va_runV (As := [.int a2, .int v4, .int v7]) (rest := [.int v6]) ⟨hx, hb, hml, hown, hts⟩ (c_M_get l D kI kZ qM M_nc M_nf M_modulus M_side M_size M_cells M_fresh a2 v4 v7 r1 hr1 H.size) (z_cwV hts mw_M_get kw_355 ⟨by rw [hR]; exact Nat.le_of_ble_eq_true rfl, by rw [hR]; exact Nat.le_of_ble_eq_true rfl⟩) (z_preV (ci := 2) hK hP hD hN rfl (he := (rfl : _[0]? = _)) [0, 1, 2] (by decide) rfl) rfl rfl hl.1 rfl (lv_room (Nat.le_of_ble_eq_true rfl)) d_M_multiply_47 ⟨Nat.zero_le _, Nat.zero_le _⟩) hP hD hS hA [0, 1, 2] [] [0, 1, 2] rfl rfl (by decide) (by decide) rfl (by decide) (fun H locs hP hD hS => ?_)
        refine lv_aload_n hx hb d_M_multiply_50 rfl (lv_at hl 0 rfl) ?_
        refine lv_iload_n hx hb d_M_multiply_51 rfl (lv_at hl 3 rfl) ?_
        refine lv_iload hx hb d_M_multiply_52 (lv_at hl 7 rfl) ?_
        refine lv_iload hx hb d_M_multiply_54 (lv_at hl 5 rfl) ?_
        obtain ⟨r2, hr2, hr⟩ := ob hr
        refine z_ci (ws := (W_M kI kZ qM M_nc M_nf M_modulus M_side M_size M_cells M_fresh)) (wc := (W_M kI kZ qM M_nc M_nf M_modulus M_side M_size M_cells M_fresh)) (wr := ([] : va_W)) (w1 := (W_M kI kZ qM M_nc M_nf M_modulus M_side M_size M_cells M_fresh)) (w2 := (W_M kI kZ qM M_nc M_nf M_modulus M_side M_size M_cells M_fresh)) (va_runV (As := [.int a3, .int v7, .int v5]) (rest := [.int r1, .int v6]) ⟨hx, hb, hml, hown, hts⟩ (c_M_get l D kI kZ qM M_nc M_nf M_modulus M_side M_size M_cells M_fresh a3 v7 v5 r2 hr2 H.size) (z_cwV hts mw_M_get kw_355 ⟨by rw [hR]; exact Nat.le_of_ble_eq_true rfl, by rw [hR]; exact Nat.le_of_ble_eq_true rfl⟩) (z_preV (ci := 2) hK hP hD hN rfl (he := (rfl : _[0]? = _)) [0, 1, 2] (by decide) rfl) rfl rfl hl.1 rfl (lv_room (Nat.le_of_ble_eq_true rfl)) d_M_multiply_56 ⟨Nat.zero_le _, Nat.zero_le _⟩) hP hD hS hA [0, 1, 2] [] [0, 1, 2] rfl rfl (by decide) (by decide) rfl (by decide) (fun H locs hP hD hS => ?_)
        refine lv_imul hx hb d_M_multiply_59 ?_
        refine lv_iadd hx hb d_M_multiply_60 ?_
        obtain ⟨v6_3, ev6_3, hr⟩ := nm_some hr
        refine z_top ev6_3 ?_
        refine lv_istore (lv' := [(6, .int v6_3), (0, .ref (qM 0)), (1, .int a1), (2, .int a2), (3, .int a3), (4, .int v4), (5, .int v5), (7, .int v7)]) hx hb d_M_multiply_61 hl (by decide) rfl (fun ls hl => ?_)
        refine lv_iinc (k := 7) (v := (v7 + (1 : Int32))) (lv' := [(7, .int (v7 + (1 : Int32))), (6, .int v6_3), (0, .ref (qM 0)), (1, .int a1), (2, .int a2), (3, .int a3), (4, .int v4), (5, .int v5)]) hx hb d_M_multiply_63 hl rfl (congrArg (fun z => v7 + z) (by decide : Int32.ofInt 1 = (1 : Int32))) (by decide) rfl (fun ls hl => ?_)
        refine lv_goto hx hb d_M_multiply_66 rfl ?_
        exact ih v6_3 (v7 + (1 : Int32)) _ _ _ (lv_sub hl [2, 3, 4, 5, 6, 7, 1, 0] rfl) hP hD hS hr
  have hB15 : ∀ (v4 : Int32) (M_cells : Nat → Int32) (k3 : Int32 → (Nat → Int32) → Option ((Nat → Int32) × (Nat → Int32))) (hk3 : ∀ (v4 : Int32) (M_fresh : Nat → Int32) (H : Heap) (locs : List Loc) (ls : Array Slot), lv_has ls 8 [(0, .ref (qM 0)), (1, .int a1), (2, .int a2), (3, .int a3), (4, .int v4)] → va_P D zCl (W_M kI kZ qM M_nc M_nf M_modulus M_side M_size M_cells M_fresh) H → va_D A (W_M kI kZ qM M_nc M_nf M_modulus M_side M_size M_cells M_fresh) → va_S A s.heap H locs → k3 v4 M_fresh = some res → W p l e R s m args below meth c H locs 0 0 Q (F0 m 3 ls [])) (fu : Nat) (v5 : Int32) (M_fresh : Nat → Int32) (H : Heap) (locs : List Loc) (ls : Array Slot), lv_has ls 8 [(0, .ref (qM 0)), (1, .int a1), (2, .int a2), (3, .int a3), (4, .int v4), (5, .int v5)] → va_P D zCl (W_M kI kZ qM M_nc M_nf M_modulus M_side M_size M_cells M_fresh) H → va_D A (W_M kI kZ qM M_nc M_nf M_modulus M_side M_size M_cells M_fresh) → va_S A s.heap H locs → f_M_multiply_15 M_nc M_nf M_modulus M_side M_size a2 a3 k3 v4 M_cells fu v5 M_fresh = some res → W p l e R s m args below meth c H locs 0 0 Q (F0 m 15 ls []) := by
    intro v4 M_cells k3 hk3 fu
    induction fu with
    | zero => intro v5 M_fresh H locs ls hl hP hD hS hr; exact absurd hr (by rw [f_M_multiply_15]; exact fun h => by cases h)
    | succ fu ih =>
      intro v5 M_fresh H locs ls hl hP hD hS hr
      rw [f_M_multiply_15] at hr
      refine lv_iload hx hb d_M_multiply_15 (lv_at hl 5 rfl) ?_
      refine lv_aload_n hx hb d_M_multiply_17 rfl (lv_at hl 0 rfl) ?_
      refine va_get (D := D) (ci := 2) (v := .int M_side) (C := R_M) (T := T_M) (N := 5) hx hb hts in_M hown hK hP 0 rfl rfl 1 (by decide) (hts _ kw_26) (fun _ h9 => h9) rfl d_M_multiply_18 ?_
      refine lv_icmp_ge hx hb d_M_multiply_21 rfl (fun hc => ?_) (fun hc => ?_)
      · rw [if_pos hc] at hr
        refine lv_iinc (k := 4) (v := (v4 + (1 : Int32))) (lv' := [(4, .int (v4 + (1 : Int32))), (0, .ref (qM 0)), (1, .int a1), (2, .int a2), (3, .int a3), (5, .int v5)]) hx hb d_M_multiply_97 hl rfl (congrArg (fun z => v4 + z) (by decide : Int32.ofInt 1 = (1 : Int32))) (by decide) rfl (fun ls hl => ?_)
        refine lv_goto hx hb d_M_multiply_100 rfl ?_
        exact hk3 (v4 + (1 : Int32)) M_fresh _ _ _ (lv_sub hl [1, 2, 3, 4, 0] rfl) hP hD hS hr
      · rw [if_neg hc] at hr
        refine lv_iconst (v := (0 : Int32)) hx hb d_M_multiply_24 (by decide) ?_
        refine lv_istore (lv' := [(6, .int (0 : Int32)), (0, .ref (qM 0)), (1, .int a1), (2, .int a2), (3, .int a3), (4, .int v4), (5, .int v5)]) hx hb d_M_multiply_25 hl (by decide) rfl (fun ls hl => ?_)
        refine lv_iconst (v := (0 : Int32)) hx hb d_M_multiply_27 (by decide) ?_
        refine lv_istore (lv' := [(7, .int (0 : Int32)), (6, .int (0 : Int32)), (0, .ref (qM 0)), (1, .int a1), (2, .int a2), (3, .int a3), (4, .int v4), (5, .int v5)]) hx hb d_M_multiply_28 hl (by decide) rfl (fun ls hl => ?_)
        exact hB30 v4 v5 M_cells M_fresh _ ih zFU (0 : Int32) (0 : Int32) _ _ _ (lv_sub hl [2, 3, 4, 5, 6, 7, 1, 0] rfl) hP hD hS hr
  have hB3 : ∀ (M_cells : Nat → Int32)   (fu : Nat) (v4 : Int32) (M_fresh : Nat → Int32) (H : Heap) (locs : List Loc) (ls : Array Slot), lv_has ls 8 [(0, .ref (qM 0)), (1, .int a1), (2, .int a2), (3, .int a3), (4, .int v4)] → va_P D zCl (W_M kI kZ qM M_nc M_nf M_modulus M_side M_size M_cells M_fresh) H → va_D A (W_M kI kZ qM M_nc M_nf M_modulus M_side M_size M_cells M_fresh) → va_S A s.heap H locs → f_M_multiply_3 M_nc M_nf M_modulus M_side M_size a1 a2 a3 M_cells fu v4 M_fresh = some res → W p l e R s m args below meth c H locs 0 0 Q (F0 m 3 ls []) := by
    intro M_cells fu
    induction fu with
    | zero => intro v4 M_fresh H locs ls hl hP hD hS hr; exact absurd hr (by rw [f_M_multiply_3]; exact fun h => by cases h)
    | succ fu ih =>
      intro v4 M_fresh H locs ls hl hP hD hS hr
      rw [f_M_multiply_3] at hr
      refine lv_iload hx hb d_M_multiply_3 (lv_at hl 4 rfl) ?_
      refine lv_aload_n hx hb d_M_multiply_5 rfl (lv_at hl 0 rfl) ?_
      refine va_get (D := D) (ci := 2) (v := .int M_side) (C := R_M) (T := T_M) (N := 5) hx hb hts in_M hown hK hP 0 rfl rfl 1 (by decide) (hts _ kw_26) (fun _ h9 => h9) rfl d_M_multiply_6 ?_
      refine lv_icmp_ge hx hb d_M_multiply_9 rfl (fun hc => ?_) (fun hc => ?_)
      · rw [if_pos hc] at hr
        refine lv_aload_n hx hb d_M_multiply_103 rfl (lv_at hl 0 rfl) ?_
        refine lv_iload_n hx hb d_M_multiply_104 rfl (lv_at hl 1 rfl) ?_
        obtain ⟨r4, hr4, hr⟩ := ob hr
        refine z_cv (ws := (W_M kI kZ qM M_nc M_nf M_modulus M_side M_size M_cells M_fresh)) (wc := (W_M kI kZ qM M_nc M_nf M_modulus M_side M_size M_cells M_fresh)) (wr := ([] : va_W)) (w1 := (W_M kI kZ qM M_nc M_nf M_modulus M_side M_size r4 M_fresh)) (w2 := (W_M kI kZ qM M_nc M_nf M_modulus M_side M_size r4 M_fresh)) (va_runV (As := [.int a1]) (rest := []) ⟨hx, hb, hml, hown, hts⟩ (c_M_keepFresh l D kI kZ qM M_nc M_nf M_modulus M_side M_size M_cells M_fresh a1 r4 hr4 H.size) (z_cwV hts mw_M_keepFresh kw_359 ⟨by rw [hR]; exact Nat.le_of_ble_eq_true rfl, by rw [hR]; exact Nat.le_of_ble_eq_true rfl⟩) (z_preV (ci := 2) hK hP hD hN rfl (he := (rfl : _[0]? = _)) [0, 1, 2] (by decide) rfl) rfl rfl hl.1 rfl (lv_room (Nat.le_of_ble_eq_true rfl)) d_M_multiply_105 ⟨Nat.zero_le _, Nat.zero_le _⟩) hP hD hS hA [0, 1, 2] [] [0, 1, 2] rfl rfl (by decide) (by decide) rfl (by decide) (fun H locs hP hD hS => ?_)
        obtain rfl := Option.some.inj hr
        exact hQ _ _ _ _ d_M_multiply_108 hP hD hS
      · rw [if_neg hc] at hr
        refine lv_iconst (v := (0 : Int32)) hx hb d_M_multiply_12 (by decide) ?_
        refine lv_istore (lv' := [(5, .int (0 : Int32)), (0, .ref (qM 0)), (1, .int a1), (2, .int a2), (3, .int a3), (4, .int v4)]) hx hb d_M_multiply_13 hl (by decide) rfl (fun ls hl => ?_)
        exact hB15 v4 M_cells _ ih zFU (0 : Int32) M_fresh _ _ _ (lv_sub hl [1, 2, 3, 4, 5, 0] rfl) hP hD hS hr
  intro ls H hl hP hD hS
  have hl : lv_has ls 8 [(0, .ref (qM 0)), (1, .int a1), (2, .int a2), (3, .int a3)] := hl
  rw [f_M_multiply] at hr
  refine lv_iconst (v := (0 : Int32)) hx hb d_M_multiply_0 (by decide) ?_
  refine lv_istore (lv' := [(4, .int (0 : Int32)), (0, .ref (qM 0)), (1, .int a1), (2, .int a2), (3, .int a3)]) hx hb d_M_multiply_1 hl (by decide) rfl (fun ls hl => ?_)
  exact hB3 M_cells zFU (0 : Int32) M_fresh _ _ _ (lv_sub hl [1, 2, 3, 4, 0] rfl) hP hD hS hr
set_option maxHeartbeats 4000000 in
set_option maxRecDepth 100000 in
theorem c_M_turn (l : Launch) (D : va_G) (kI kZ : ClassId) (qM : Nat → Nat) (M_nc M_nf : Nat) (M_modulus M_side M_size : Int32) (M_cells M_fresh : Nat → Int32) (a1 a2 : Int32) (res : (Nat → Int32) × (Nat → Int32)) (hr : f_M_turn M_nc M_nf M_side M_size M_cells M_fresh a1 a2 = some res) : zMv l D kI kZ y_M_turn prog_4_method_11_code 5 none 2 81 [.ref (qM 0), .int a1, .int a2] (W_M kI kZ qM M_nc M_nf M_modulus M_side M_size M_cells M_fresh) (W_M kI kZ qM M_nc M_nf M_modulus M_side M_size (res.1) (res.2)) := by
  refine zMv.of (by decide +kernel) (Nat.le_of_ble_eq_true rfl) ?_
  intro p e R s m args below meth c Q A hR hx hb hml hts hown hA hK hN hQ
  have hown : s.vm.findClass "SquareCode$Matrices" = some m.cls := hown
  have hB13 : ∀ (v3 : Int32) (M_cells : Nat → Int32) (k2 : Int32 → (Nat → Int32) → Option ((Nat → Int32) × (Nat → Int32))) (hk2 : ∀ (v3 : Int32) (M_fresh : Nat → Int32) (H : Heap) (locs : List Loc) (ls : Array Slot), lv_has ls 5 [(0, .ref (qM 0)), (1, .int a1), (2, .int a2), (3, .int v3)] → va_P D zCl (W_M kI kZ qM M_nc M_nf M_modulus M_side M_size M_cells M_fresh) H → va_D A (W_M kI kZ qM M_nc M_nf M_modulus M_side M_size M_cells M_fresh) → va_S A s.heap H locs → k2 v3 M_fresh = some res → W p l e R s m args below meth c H locs 0 0 Q (F0 m 2 ls [])) (fu : Nat) (v4 : Int32) (M_fresh : Nat → Int32) (H : Heap) (locs : List Loc) (ls : Array Slot), lv_has ls 5 [(0, .ref (qM 0)), (1, .int a1), (2, .int a2), (3, .int v3), (4, .int v4)] → va_P D zCl (W_M kI kZ qM M_nc M_nf M_modulus M_side M_size M_cells M_fresh) H → va_D A (W_M kI kZ qM M_nc M_nf M_modulus M_side M_size M_cells M_fresh) → va_S A s.heap H locs → f_M_turn_13 M_nc M_nf M_side M_size a2 k2 v3 M_cells fu v4 M_fresh = some res → W p l e R s m args below meth c H locs 0 0 Q (F0 m 13 ls []) := by
    intro v3 M_cells k2 hk2 fu
    induction fu with
    | zero => intro v4 M_fresh H locs ls hl hP hD hS hr; exact absurd hr (by rw [f_M_turn_13]; exact fun h => by cases h)
    | succ fu ih =>
      intro v4 M_fresh H locs ls hl hP hD hS hr
      rw [f_M_turn_13] at hr
      refine lv_iload hx hb d_M_turn_13 (lv_at hl 4 rfl) ?_
      refine lv_aload_n hx hb d_M_turn_15 rfl (lv_at hl 0 rfl) ?_
      refine va_get (D := D) (ci := 2) (v := .int M_side) (C := R_M) (T := T_M) (N := 5) hx hb hts in_M hown hK hP 0 rfl rfl 1 (by decide) (hts _ kw_26) (fun _ h9 => h9) rfl d_M_turn_16 ?_
      refine lv_icmp_ge hx hb d_M_turn_19 rfl (fun hc => ?_) (fun hc => ?_)
      · rw [if_pos hc] at hr
        refine lv_iinc (k := 3) (v := (v3 + (1 : Int32))) (lv' := [(3, .int (v3 + (1 : Int32))), (0, .ref (qM 0)), (1, .int a1), (2, .int a2), (4, .int v4)]) hx hb d_M_turn_50 hl rfl (congrArg (fun z => v3 + z) (by decide : Int32.ofInt 1 = (1 : Int32))) (by decide) rfl (fun ls hl => ?_)
        refine lv_goto hx hb d_M_turn_53 rfl ?_
        exact hk2 (v3 + (1 : Int32)) M_fresh _ _ _ (lv_sub hl [1, 2, 3, 0] rfl) hP hD hS hr
      · rw [if_neg hc] at hr
        refine lv_aload_n hx hb d_M_turn_22 rfl (lv_at hl 0 rfl) ?_
        refine va_get (D := D) (ci := 2) (v := .ref (qM 2)) (C := R_M) (T := T_M) (N := 5) hx hb hts in_M hown hK hP 0 rfl rfl 4 (by decide) (hts _ kw_29) (fun _ h9 => h9) rfl d_M_turn_23 ?_
        refine lv_iload_n hx hb d_M_turn_26 rfl (lv_at hl 3 rfl) ?_
        refine lv_aload_n hx hb d_M_turn_27 rfl (lv_at hl 0 rfl) ?_
        refine va_get (D := D) (ci := 2) (v := .int M_side) (C := R_M) (T := T_M) (N := 5) hx hb hts in_M hown hK hP 0 rfl rfl 1 (by decide) (hts _ kw_26) (fun _ h9 => h9) rfl d_M_turn_28 ?_
        refine lv_imul hx hb d_M_turn_31 ?_
        refine lv_iload hx hb d_M_turn_32 (lv_at hl 4 rfl) ?_
        refine lv_iadd hx hb d_M_turn_34 ?_
        refine lv_aload_n hx hb d_M_turn_35 rfl (lv_at hl 0 rfl) ?_
        refine lv_iload_n hx hb d_M_turn_36 rfl (lv_at hl 2 rfl) ?_
        refine lv_iload hx hb d_M_turn_37 (lv_at hl 4 rfl) ?_
        refine lv_iload_n hx hb d_M_turn_39 rfl (lv_at hl 3 rfl) ?_
        obtain ⟨r1, hr1, hr⟩ := ob hr
        refine z_ci (ws := (W_M kI kZ qM M_nc M_nf M_modulus M_side M_size M_cells M_fresh)) (wc := (W_M kI kZ qM M_nc M_nf M_modulus M_side M_size M_cells M_fresh)) (wr := ([] : va_W)) (w1 := (W_M kI kZ qM M_nc M_nf M_modulus M_side M_size M_cells M_fresh)) (w2 := (W_M kI kZ qM M_nc M_nf M_modulus M_side M_size M_cells M_fresh)) (va_runV (As := [.int a2, .int v4, .int v3]) (rest := [.int ((v3 * M_side) + v4), .ref (qM 2)]) ⟨hx, hb, hml, hown, hts⟩ (c_M_get l D kI kZ qM M_nc M_nf M_modulus M_side M_size M_cells M_fresh a2 v4 v3 r1 hr1 H.size) (z_cwV hts mw_M_get kw_355 ⟨by rw [hR]; exact Nat.le_of_ble_eq_true rfl, by rw [hR]; exact Nat.le_of_ble_eq_true rfl⟩) (z_preV (ci := 2) hK hP hD hN rfl (he := (rfl : _[0]? = _)) [0, 1, 2] (by decide) rfl) rfl rfl hl.1 rfl (lv_room (Nat.le_of_ble_eq_true rfl)) d_M_turn_40 ⟨Nat.zero_le _, Nat.zero_le _⟩) hP hD hS hA [0, 1, 2] [] [0, 1, 2] rfl rfl (by decide) (by decide) rfl (by decide) (fun H locs hP hD hS => ?_)
        obtain ⟨hi, hr⟩ := gd_some hr
        refine va_iast hx hb hK hP hD hS 2 0 rfl rfl hi d_M_turn_43 (fun H locs hP hD hS => ?_)
        have hP : va_P D zCl (W_M kI kZ qM M_nc M_nf M_modulus M_side M_size M_cells (upd M_fresh ((v3 * M_side) + v4).toNatClampNeg r1)) H := hP
        have hD : va_D A (W_M kI kZ qM M_nc M_nf M_modulus M_side M_size M_cells (upd M_fresh ((v3 * M_side) + v4).toNatClampNeg r1)) := hD
        refine lv_iinc (k := 4) (v := (v4 + (1 : Int32))) (lv' := [(4, .int (v4 + (1 : Int32))), (0, .ref (qM 0)), (1, .int a1), (2, .int a2), (3, .int v3)]) hx hb d_M_turn_44 hl rfl (congrArg (fun z => v4 + z) (by decide : Int32.ofInt 1 = (1 : Int32))) (by decide) rfl (fun ls hl => ?_)
        refine lv_goto hx hb d_M_turn_47 rfl ?_
        exact ih (v4 + (1 : Int32)) (upd M_fresh ((v3 * M_side) + v4).toNatClampNeg r1) _ _ _ (lv_sub hl [1, 2, 3, 4, 0] rfl) hP hD hS hr
  have hB2 : ∀ (M_cells : Nat → Int32)   (fu : Nat) (v3 : Int32) (M_fresh : Nat → Int32) (H : Heap) (locs : List Loc) (ls : Array Slot), lv_has ls 5 [(0, .ref (qM 0)), (1, .int a1), (2, .int a2), (3, .int v3)] → va_P D zCl (W_M kI kZ qM M_nc M_nf M_modulus M_side M_size M_cells M_fresh) H → va_D A (W_M kI kZ qM M_nc M_nf M_modulus M_side M_size M_cells M_fresh) → va_S A s.heap H locs → f_M_turn_2 M_nc M_nf M_side M_size a1 a2 M_cells fu v3 M_fresh = some res → W p l e R s m args below meth c H locs 0 0 Q (F0 m 2 ls []) := by
    intro M_cells fu
    induction fu with
    | zero => intro v3 M_fresh H locs ls hl hP hD hS hr; exact absurd hr (by rw [f_M_turn_2]; exact fun h => by cases h)
    | succ fu ih =>
      intro v3 M_fresh H locs ls hl hP hD hS hr
      rw [f_M_turn_2] at hr
      refine lv_iload_n hx hb d_M_turn_2 rfl (lv_at hl 3 rfl) ?_
      refine lv_aload_n hx hb d_M_turn_3 rfl (lv_at hl 0 rfl) ?_
      refine va_get (D := D) (ci := 2) (v := .int M_side) (C := R_M) (T := T_M) (N := 5) hx hb hts in_M hown hK hP 0 rfl rfl 1 (by decide) (hts _ kw_26) (fun _ h9 => h9) rfl d_M_turn_4 ?_
      refine lv_icmp_ge hx hb d_M_turn_7 rfl (fun hc => ?_) (fun hc => ?_)
      · rw [if_pos hc] at hr
        refine lv_aload_n hx hb d_M_turn_56 rfl (lv_at hl 0 rfl) ?_
        refine lv_iload_n hx hb d_M_turn_57 rfl (lv_at hl 1 rfl) ?_
        obtain ⟨r2, hr2, hr⟩ := ob hr
        refine z_cv (ws := (W_M kI kZ qM M_nc M_nf M_modulus M_side M_size M_cells M_fresh)) (wc := (W_M kI kZ qM M_nc M_nf M_modulus M_side M_size M_cells M_fresh)) (wr := ([] : va_W)) (w1 := (W_M kI kZ qM M_nc M_nf M_modulus M_side M_size r2 M_fresh)) (w2 := (W_M kI kZ qM M_nc M_nf M_modulus M_side M_size r2 M_fresh)) (va_runV (As := [.int a1]) (rest := []) ⟨hx, hb, hml, hown, hts⟩ (c_M_keepFresh l D kI kZ qM M_nc M_nf M_modulus M_side M_size M_cells M_fresh a1 r2 hr2 H.size) (z_cwV hts mw_M_keepFresh kw_359 ⟨by rw [hR]; exact Nat.le_of_ble_eq_true rfl, by rw [hR]; exact Nat.le_of_ble_eq_true rfl⟩) (z_preV (ci := 2) hK hP hD hN rfl (he := (rfl : _[0]? = _)) [0, 1, 2] (by decide) rfl) rfl rfl hl.1 rfl (lv_room (Nat.le_of_ble_eq_true rfl)) d_M_turn_58 ⟨Nat.zero_le _, Nat.zero_le _⟩) hP hD hS hA [0, 1, 2] [] [0, 1, 2] rfl rfl (by decide) (by decide) rfl (by decide) (fun H locs hP hD hS => ?_)
        obtain rfl := Option.some.inj hr
        exact hQ _ _ _ _ d_M_turn_61 hP hD hS
      · rw [if_neg hc] at hr
        refine lv_iconst (v := (0 : Int32)) hx hb d_M_turn_10 (by decide) ?_
        refine lv_istore (lv' := [(4, .int (0 : Int32)), (0, .ref (qM 0)), (1, .int a1), (2, .int a2), (3, .int v3)]) hx hb d_M_turn_11 hl (by decide) rfl (fun ls hl => ?_)
        exact hB13 v3 M_cells _ ih zFU (0 : Int32) M_fresh _ _ _ (lv_sub hl [1, 2, 3, 4, 0] rfl) hP hD hS hr
  intro ls H hl hP hD hS
  have hl : lv_has ls 5 [(0, .ref (qM 0)), (1, .int a1), (2, .int a2)] := hl
  rw [f_M_turn] at hr
  refine lv_iconst (v := (0 : Int32)) hx hb d_M_turn_0 (by decide) ?_
  refine lv_istore_n (lv' := [(3, .int (0 : Int32)), (0, .ref (qM 0)), (1, .int a1), (2, .int a2)]) hx hb d_M_turn_1 rfl hl (by decide) rfl (fun ls hl => ?_)
  exact hB2 M_cells zFU (0 : Int32) M_fresh _ _ _ (lv_sub hl [1, 2, 3, 0] rfl) hP hD hS hr
end
section
set_option maxHeartbeats 4000000 in
set_option maxRecDepth 100000 in
theorem c_M_scale (l : Launch) (D : va_G) (kI kZ : ClassId) (qM : Nat → Nat) (M_nc M_nf : Nat) (M_modulus M_side M_size : Int32) (M_cells M_fresh : Nat → Int32) (a1 a2 a3 : Int32) (res : (Nat → Int32)) (hr : f_M_scale M_nc M_modulus M_size M_cells a1 a2 a3 = some res) : zMv l D kI kZ y_M_scale prog_4_method_13_code 5 none 0 0 [.ref (qM 0), .int a1, .int a2, .int a3] (W_M kI kZ qM M_nc M_nf M_modulus M_side M_size M_cells M_fresh) (W_M kI kZ qM M_nc M_nf M_modulus M_side M_size res M_fresh) := by
  refine zMv.of (by decide +kernel) (Nat.le_of_ble_eq_true rfl) ?_
  intro p e R s m args below meth c Q A hR hx hb hml hts hown hA hK hN hQ
  have hown : s.vm.findClass "SquareCode$Matrices" = some m.cls := hown
  have hB3 : ∀ (fu : Nat) (v4 : Int32) (M_cells : Nat → Int32) (H : Heap) (locs : List Loc) (ls : Array Slot), lv_has ls 5 [(0, .ref (qM 0)), (1, .int a1), (2, .int a2), (3, .int a3), (4, .int v4)] → va_P D zCl (W_M kI kZ qM M_nc M_nf M_modulus M_side M_size M_cells M_fresh) H → va_D A (W_M kI kZ qM M_nc M_nf M_modulus M_side M_size M_cells M_fresh) → va_S A s.heap H locs → f_M_scale_3 M_nc M_modulus M_size a1 a2 a3 fu v4 M_cells = some res → W p l e R s m args below meth c H locs 0 0 Q (F0 m 3 ls []) := by
    intro  fu
    induction fu with
    | zero => intro v4 M_cells H locs ls hl hP hD hS hr; exact absurd hr (by rw [f_M_scale_3]; exact fun h => by cases h)
    | succ fu ih =>
      intro v4 M_cells H locs ls hl hP hD hS hr
      rw [f_M_scale_3] at hr
      refine lv_iload hx hb d_M_scale_3 (lv_at hl 4 rfl) ?_
      refine lv_aload_n hx hb d_M_scale_5 rfl (lv_at hl 0 rfl) ?_
      refine va_get (D := D) (ci := 2) (v := .int M_size) (C := R_M) (T := T_M) (N := 5) hx hb hts in_M hown hK hP 0 rfl rfl 2 (by decide) (hts _ kw_27) (fun _ h9 => h9) rfl d_M_scale_6 ?_
      refine lv_icmp_ge hx hb d_M_scale_9 rfl (fun hc => ?_) (fun hc => ?_)
      · rw [if_pos hc] at hr
        obtain rfl := Option.some.inj hr
        exact hQ _ _ _ _ d_M_scale_53 hP hD hS
      · rw [if_neg hc] at hr
        refine lv_aload_n hx hb d_M_scale_12 rfl (lv_at hl 0 rfl) ?_
        refine va_get (D := D) (ci := 2) (v := .ref (qM 1)) (C := R_M) (T := T_M) (N := 5) hx hb hts in_M hown hK hP 0 rfl rfl 3 (by decide) (hts _ kw_28) (fun _ h9 => h9) rfl d_M_scale_13 ?_
        refine lv_iload_n hx hb d_M_scale_16 rfl (lv_at hl 1 rfl) ?_
        refine lv_aload_n hx hb d_M_scale_17 rfl (lv_at hl 0 rfl) ?_
        refine va_get (D := D) (ci := 2) (v := .int M_size) (C := R_M) (T := T_M) (N := 5) hx hb hts in_M hown hK hP 0 rfl rfl 2 (by decide) (hts _ kw_27) (fun _ h9 => h9) rfl d_M_scale_18 ?_
        refine lv_imul hx hb d_M_scale_21 ?_
        refine lv_iload hx hb d_M_scale_22 (lv_at hl 4 rfl) ?_
        refine lv_iadd hx hb d_M_scale_24 ?_
        refine lv_aload_n hx hb d_M_scale_25 rfl (lv_at hl 0 rfl) ?_
        refine va_get (D := D) (ci := 2) (v := .ref (qM 1)) (C := R_M) (T := T_M) (N := 5) hx hb hts in_M hown hK hP 0 rfl rfl 3 (by decide) (hts _ kw_28) (fun _ h9 => h9) rfl d_M_scale_26 ?_
        refine lv_iload_n hx hb d_M_scale_29 rfl (lv_at hl 2 rfl) ?_
        refine lv_aload_n hx hb d_M_scale_30 rfl (lv_at hl 0 rfl) ?_
        refine va_get (D := D) (ci := 2) (v := .int M_size) (C := R_M) (T := T_M) (N := 5) hx hb hts in_M hown hK hP 0 rfl rfl 2 (by decide) (hts _ kw_27) (fun _ h9 => h9) rfl d_M_scale_31 ?_
        refine lv_imul hx hb d_M_scale_34 ?_
        refine lv_iload hx hb d_M_scale_35 (lv_at hl 4 rfl) ?_
        refine lv_iadd hx hb d_M_scale_37 ?_
        obtain ⟨hi, hr⟩ := gd_some hr
        refine va_iald hx hb hK hP 1 0 rfl rfl hi d_M_scale_38 ?_
        refine lv_iload_n hx hb d_M_scale_39 rfl (lv_at hl 3 rfl) ?_
        refine lv_imul hx hb d_M_scale_40 ?_
        refine lv_aload_n hx hb d_M_scale_41 rfl (lv_at hl 0 rfl) ?_
        refine va_get (D := D) (ci := 2) (v := .int M_modulus) (C := R_M) (T := T_M) (N := 5) hx hb hts in_M hown hK hP 0 rfl rfl 0 (by decide) (hts _ kw_25) (fun _ h9 => h9) rfl d_M_scale_42 ?_
        obtain ⟨hz, hr⟩ := nz_some hr
        refine z_irem hx hb d_M_scale_45 hz ?_
        obtain ⟨hi, hr⟩ := gd_some hr
        refine va_iast hx hb hK hP hD hS 1 0 rfl rfl hi d_M_scale_46 (fun H locs hP hD hS => ?_)
        have hP : va_P D zCl (W_M kI kZ qM M_nc M_nf M_modulus M_side M_size (upd M_cells ((a1 * M_size) + v4).toNatClampNeg (zrem ((M_cells ((a2 * M_size) + v4).toNatClampNeg) * a3) M_modulus)) M_fresh) H := hP
        have hD : va_D A (W_M kI kZ qM M_nc M_nf M_modulus M_side M_size (upd M_cells ((a1 * M_size) + v4).toNatClampNeg (zrem ((M_cells ((a2 * M_size) + v4).toNatClampNeg) * a3) M_modulus)) M_fresh) := hD
        refine lv_iinc (k := 4) (v := (v4 + (1 : Int32))) (lv' := [(4, .int (v4 + (1 : Int32))), (0, .ref (qM 0)), (1, .int a1), (2, .int a2), (3, .int a3)]) hx hb d_M_scale_47 hl rfl (congrArg (fun z => v4 + z) (by decide : Int32.ofInt 1 = (1 : Int32))) (by decide) rfl (fun ls hl => ?_)
        refine lv_goto hx hb d_M_scale_50 rfl ?_
        exact ih (v4 + (1 : Int32)) (upd M_cells ((a1 * M_size) + v4).toNatClampNeg (zrem ((M_cells ((a2 * M_size) + v4).toNatClampNeg) * a3) M_modulus)) _ _ _ (lv_sub hl [1, 2, 3, 4, 0] rfl) hP hD hS hr
  intro ls H hl hP hD hS
  have hl : lv_has ls 5 [(0, .ref (qM 0)), (1, .int a1), (2, .int a2), (3, .int a3)] := hl
  rw [f_M_scale] at hr
  refine lv_iconst (v := (0 : Int32)) hx hb d_M_scale_0 (by decide) ?_
  refine lv_istore (lv' := [(4, .int (0 : Int32)), (0, .ref (qM 0)), (1, .int a1), (2, .int a2), (3, .int a3)]) hx hb d_M_scale_1 hl (by decide) rfl (fun ls hl => ?_)
  exact hB3 zFU (0 : Int32) M_cells _ _ _ (lv_sub hl [1, 2, 3, 4, 0] rfl) hP hD hS hr
set_option maxHeartbeats 4000000 in
set_option maxRecDepth 100000 in
theorem c_M_apply (l : Launch) (D : va_G) (kI kZ : ClassId) (qM : Nat → Nat) (M_nc M_nf : Nat) (M_modulus M_side M_size : Int32) (M_cells M_fresh : Nat → Int32) (a1 a2 a3 a4 : Int32) (res : (Nat → Int32) × (Nat → Int32)) (hr : f_M_apply M_nc M_nf M_modulus M_side M_size M_cells M_fresh a1 a2 a3 a4 = some res) : zMv l D kI kZ y_M_apply prog_4_method_5_code 5 none 3 108 [.ref (qM 0), .int a1, .int a2, .int a3, .int a4] (W_M kI kZ qM M_nc M_nf M_modulus M_side M_size M_cells M_fresh) (W_M kI kZ qM M_nc M_nf M_modulus M_side M_size (res.1) (res.2)) := by
  refine zMv.of (by decide +kernel) (Nat.le_of_ble_eq_true rfl) ?_
  intro p e R s m args below meth c Q A hR hx hb hml hts hown hA hK hN hQ
  have hown : s.vm.findClass "SquareCode$Matrices" = some m.cls := hown
  intro ls H hl hP hD hS
  have hl : lv_has ls 5 [(0, .ref (qM 0)), (1, .int a1), (2, .int a2), (3, .int a3), (4, .int a4)] := hl
  rw [f_M_apply] at hr
  refine lv_iload_n hx hb d_M_apply_0 rfl (lv_at hl 1 rfl) ?_
  by_cases hs1_0 : a1 = (0 : Int32)
  · rw [if_pos hs1_0] at hr
    refine lv_tableIn hx hb d_M_apply_1 (by rw [hs1_0]; decide) (by rw [hs1_0]; decide) (by rw [hs1_0]; rfl) rfl ?_
    refine lv_aload_n hx hb d_M_apply_44 rfl (lv_at hl 0 rfl) ?_
    refine lv_iload_n hx hb d_M_apply_45 rfl (lv_at hl 2 rfl) ?_
    refine lv_bipush (v := (40 : Int32)) hx hb d_M_apply_46 (by decide) ?_
    refine lv_iload hx hb d_M_apply_48 (lv_at hl 4 rfl) ?_
    refine lv_iadd hx hb d_M_apply_50 ?_
    obtain ⟨r1, hr1, hr⟩ := ob hr
    refine z_cv (ws := (W_M kI kZ qM M_nc M_nf M_modulus M_side M_size M_cells M_fresh)) (wc := (W_M kI kZ qM M_nc M_nf M_modulus M_side M_size M_cells M_fresh)) (wr := ([] : va_W)) (w1 := (W_M kI kZ qM M_nc M_nf M_modulus M_side M_size r1 M_fresh)) (w2 := (W_M kI kZ qM M_nc M_nf M_modulus M_side M_size r1 M_fresh)) (va_runV (As := [.int a2, .int ((40 : Int32) + a4)]) (rest := []) ⟨hx, hb, hml, hown, hts⟩ (c_M_copy l D kI kZ qM M_nc M_nf M_modulus M_side M_size M_cells M_fresh a2 ((40 : Int32) + a4) r1 hr1 H.size) (z_cwV hts mw_M_copy kw_331 ⟨by rw [hR]; exact Nat.le_of_ble_eq_true rfl, by rw [hR]; exact Nat.le_of_ble_eq_true rfl⟩) (z_preV (ci := 2) hK hP hD hN rfl (he := (rfl : _[0]? = _)) [0, 1, 2] (by decide) rfl) rfl rfl hl.1 rfl (lv_room (Nat.le_of_ble_eq_true rfl)) d_M_apply_51 ⟨Nat.zero_le _, Nat.zero_le _⟩) hP hD hS hA [0, 1, 2] [] [0, 1, 2] rfl rfl (by decide) (by decide) rfl (by decide) (fun H locs hP hD hS => ?_)
    refine lv_goto hx hb d_M_apply_54 rfl ?_
    obtain rfl := Option.some.inj hr
    exact hQ _ _ _ _ d_M_apply_130 hP hD hS
  rw [if_neg hs1_0] at hr
  by_cases hs1_1 : a1 = (1 : Int32)
  · rw [if_pos hs1_1] at hr
    refine lv_tableIn hx hb d_M_apply_1 (by rw [hs1_1]; decide) (by rw [hs1_1]; decide) (by rw [hs1_1]; rfl) rfl ?_
    refine lv_aload_n hx hb d_M_apply_57 rfl (lv_at hl 0 rfl) ?_
    refine lv_iload_n hx hb d_M_apply_58 rfl (lv_at hl 2 rfl) ?_
    obtain ⟨r2, hr2, hr⟩ := ob hr
    refine z_cv (ws := (W_M kI kZ qM M_nc M_nf M_modulus M_side M_size M_cells M_fresh)) (wc := (W_M kI kZ qM M_nc M_nf M_modulus M_side M_size M_cells M_fresh)) (wr := ([] : va_W)) (w1 := (W_M kI kZ qM M_nc M_nf M_modulus M_side M_size r2 M_fresh)) (w2 := (W_M kI kZ qM M_nc M_nf M_modulus M_side M_size r2 M_fresh)) (va_runV (As := [.int a2]) (rest := []) ⟨hx, hb, hml, hown, hts⟩ (c_M_makeOne l D kI kZ qM M_nc M_nf M_modulus M_side M_size M_cells M_fresh a2 r2 hr2 H.size) (z_cwV hts mw_M_makeOne kw_338 ⟨by rw [hR]; exact Nat.le_of_ble_eq_true rfl, by rw [hR]; exact Nat.le_of_ble_eq_true rfl⟩) (z_preV (ci := 2) hK hP hD hN rfl (he := (rfl : _[0]? = _)) [0, 1, 2] (by decide) rfl) rfl rfl hl.1 rfl (lv_room (Nat.le_of_ble_eq_true rfl)) d_M_apply_59 ⟨Nat.zero_le _, Nat.zero_le _⟩) hP hD hS hA [0, 1, 2] [] [0, 1, 2] rfl rfl (by decide) (by decide) rfl (by decide) (fun H locs hP hD hS => ?_)
    refine lv_goto hx hb d_M_apply_62 rfl ?_
    obtain rfl := Option.some.inj hr
    exact hQ _ _ _ _ d_M_apply_130 hP hD hS
  rw [if_neg hs1_1] at hr
  by_cases hs1_2 : a1 = (2 : Int32)
  · rw [if_pos hs1_2] at hr
    refine lv_tableIn hx hb d_M_apply_1 (by rw [hs1_2]; decide) (by rw [hs1_2]; decide) (by rw [hs1_2]; rfl) rfl ?_
    refine lv_aload_n hx hb d_M_apply_65 rfl (lv_at hl 0 rfl) ?_
    refine lv_iload_n hx hb d_M_apply_66 rfl (lv_at hl 2 rfl) ?_
    obtain ⟨r3, hr3, hr⟩ := ob hr
    refine z_cv (ws := (W_M kI kZ qM M_nc M_nf M_modulus M_side M_size M_cells M_fresh)) (wc := (W_M kI kZ qM M_nc M_nf M_modulus M_side M_size M_cells M_fresh)) (wr := ([] : va_W)) (w1 := (W_M kI kZ qM M_nc M_nf M_modulus M_side M_size r3 M_fresh)) (w2 := (W_M kI kZ qM M_nc M_nf M_modulus M_side M_size r3 M_fresh)) (va_runV (As := [.int a2]) (rest := []) ⟨hx, hb, hml, hown, hts⟩ (c_M_makeNought l D kI kZ qM M_nc M_nf M_modulus M_side M_size M_cells M_fresh a2 r3 hr3 H.size) (z_cwV hts mw_M_makeNought kw_342 ⟨by rw [hR]; exact Nat.le_of_ble_eq_true rfl, by rw [hR]; exact Nat.le_of_ble_eq_true rfl⟩) (z_preV (ci := 2) hK hP hD hN rfl (he := (rfl : _[0]? = _)) [0, 1, 2] (by decide) rfl) rfl rfl hl.1 rfl (lv_room (Nat.le_of_ble_eq_true rfl)) d_M_apply_67 ⟨Nat.zero_le _, Nat.zero_le _⟩) hP hD hS hA [0, 1, 2] [] [0, 1, 2] rfl rfl (by decide) (by decide) rfl (by decide) (fun H locs hP hD hS => ?_)
    refine lv_goto hx hb d_M_apply_70 rfl ?_
    obtain rfl := Option.some.inj hr
    exact hQ _ _ _ _ d_M_apply_130 hP hD hS
  rw [if_neg hs1_2] at hr
  by_cases hs1_3 : a1 = (3 : Int32)
  · rw [if_pos hs1_3] at hr
    refine lv_tableIn hx hb d_M_apply_1 (by rw [hs1_3]; decide) (by rw [hs1_3]; decide) (by rw [hs1_3]; rfl) rfl ?_
    refine lv_aload_n hx hb d_M_apply_73 rfl (lv_at hl 0 rfl) ?_
    refine lv_iload_n hx hb d_M_apply_74 rfl (lv_at hl 2 rfl) ?_
    refine lv_iload_n hx hb d_M_apply_75 rfl (lv_at hl 3 rfl) ?_
    refine lv_iload hx hb d_M_apply_76 (lv_at hl 4 rfl) ?_
    refine lv_iconst (v := (1 : Int32)) hx hb d_M_apply_78 (by decide) ?_
    obtain ⟨r4, hr4, hr⟩ := ob hr
    refine z_cv (ws := (W_M kI kZ qM M_nc M_nf M_modulus M_side M_size M_cells M_fresh)) (wc := (W_M kI kZ qM M_nc M_nf M_modulus M_side M_size M_cells M_fresh)) (wr := ([] : va_W)) (w1 := (W_M kI kZ qM M_nc M_nf M_modulus M_side M_size r4 M_fresh)) (w2 := (W_M kI kZ qM M_nc M_nf M_modulus M_side M_size r4 M_fresh)) (va_runV (As := [.int a2, .int a3, .int a4, .int (1 : Int32)]) (rest := []) ⟨hx, hb, hml, hown, hts⟩ (c_M_combine l D kI kZ qM M_nc M_nf M_modulus M_side M_size M_cells M_fresh a2 a3 a4 (1 : Int32) r4 hr4 H.size) (z_cwV hts mw_M_combine kw_347 ⟨by rw [hR]; exact Nat.le_of_ble_eq_true rfl, by rw [hR]; exact Nat.le_of_ble_eq_true rfl⟩) (z_preV (ci := 2) hK hP hD hN rfl (he := (rfl : _[0]? = _)) [0, 1, 2] (by decide) rfl) rfl rfl hl.1 rfl (lv_room (Nat.le_of_ble_eq_true rfl)) d_M_apply_79 ⟨Nat.zero_le _, Nat.zero_le _⟩) hP hD hS hA [0, 1, 2] [] [0, 1, 2] rfl rfl (by decide) (by decide) rfl (by decide) (fun H locs hP hD hS => ?_)
    refine lv_goto hx hb d_M_apply_82 rfl ?_
    obtain rfl := Option.some.inj hr
    exact hQ _ _ _ _ d_M_apply_130 hP hD hS
  rw [if_neg hs1_3] at hr
  by_cases hs1_4 : a1 = (4 : Int32)
  · rw [if_pos hs1_4] at hr
    refine lv_tableIn hx hb d_M_apply_1 (by rw [hs1_4]; decide) (by rw [hs1_4]; decide) (by rw [hs1_4]; rfl) rfl ?_
    refine lv_aload_n hx hb d_M_apply_85 rfl (lv_at hl 0 rfl) ?_
    refine lv_iload_n hx hb d_M_apply_86 rfl (lv_at hl 2 rfl) ?_
    refine lv_iload_n hx hb d_M_apply_87 rfl (lv_at hl 3 rfl) ?_
    refine lv_iload hx hb d_M_apply_88 (lv_at hl 4 rfl) ?_
    refine lv_aload_n hx hb d_M_apply_90 rfl (lv_at hl 0 rfl) ?_
    refine va_get (D := D) (ci := 2) (v := .int M_modulus) (C := R_M) (T := T_M) (N := 5) hx hb hts in_M hown hK hP 0 rfl rfl 0 (by decide) (hts _ kw_25) (fun _ h9 => h9) rfl d_M_apply_91 ?_
    refine lv_iconst (v := (1 : Int32)) hx hb d_M_apply_94 (by decide) ?_
    refine lv_isub hx hb d_M_apply_95 ?_
    obtain ⟨r5, hr5, hr⟩ := ob hr
    refine z_cv (ws := (W_M kI kZ qM M_nc M_nf M_modulus M_side M_size M_cells M_fresh)) (wc := (W_M kI kZ qM M_nc M_nf M_modulus M_side M_size M_cells M_fresh)) (wr := ([] : va_W)) (w1 := (W_M kI kZ qM M_nc M_nf M_modulus M_side M_size r5 M_fresh)) (w2 := (W_M kI kZ qM M_nc M_nf M_modulus M_side M_size r5 M_fresh)) (va_runV (As := [.int a2, .int a3, .int a4, .int (M_modulus - (1 : Int32))]) (rest := []) ⟨hx, hb, hml, hown, hts⟩ (c_M_combine l D kI kZ qM M_nc M_nf M_modulus M_side M_size M_cells M_fresh a2 a3 a4 (M_modulus - (1 : Int32)) r5 hr5 H.size) (z_cwV hts mw_M_combine kw_347 ⟨by rw [hR]; exact Nat.le_of_ble_eq_true rfl, by rw [hR]; exact Nat.le_of_ble_eq_true rfl⟩) (z_preV (ci := 2) hK hP hD hN rfl (he := (rfl : _[0]? = _)) [0, 1, 2] (by decide) rfl) rfl rfl hl.1 rfl (lv_room (Nat.le_of_ble_eq_true rfl)) d_M_apply_96 ⟨Nat.zero_le _, Nat.zero_le _⟩) hP hD hS hA [0, 1, 2] [] [0, 1, 2] rfl rfl (by decide) (by decide) rfl (by decide) (fun H locs hP hD hS => ?_)
    refine lv_goto hx hb d_M_apply_99 rfl ?_
    obtain rfl := Option.some.inj hr
    exact hQ _ _ _ _ d_M_apply_130 hP hD hS
  rw [if_neg hs1_4] at hr
  by_cases hs1_5 : a1 = (5 : Int32)
  · rw [if_pos hs1_5] at hr
    refine lv_tableIn hx hb d_M_apply_1 (by rw [hs1_5]; decide) (by rw [hs1_5]; decide) (by rw [hs1_5]; rfl) rfl ?_
    refine lv_aload_n hx hb d_M_apply_102 rfl (lv_at hl 0 rfl) ?_
    refine lv_iload_n hx hb d_M_apply_103 rfl (lv_at hl 2 rfl) ?_
    refine lv_iload_n hx hb d_M_apply_104 rfl (lv_at hl 3 rfl) ?_
    refine lv_iload hx hb d_M_apply_105 (lv_at hl 4 rfl) ?_
    obtain ⟨r6, hr6, hr⟩ := ob hr
    refine z_cv (ws := (W_M kI kZ qM M_nc M_nf M_modulus M_side M_size M_cells M_fresh)) (wc := (W_M kI kZ qM M_nc M_nf M_modulus M_side M_size M_cells M_fresh)) (wr := ([] : va_W)) (w1 := (W_M kI kZ qM M_nc M_nf M_modulus M_side M_size r6.1 r6.2)) (w2 := (W_M kI kZ qM M_nc M_nf M_modulus M_side M_size r6.1 r6.2)) (va_runV (As := [.int a2, .int a3, .int a4]) (rest := []) ⟨hx, hb, hml, hown, hts⟩ (c_M_multiply l D kI kZ qM M_nc M_nf M_modulus M_side M_size M_cells M_fresh a2 a3 a4 r6 hr6 H.size) (z_cwV hts mw_M_multiply kw_351 ⟨by rw [hR]; exact Nat.le_of_ble_eq_true rfl, by rw [hR]; exact Nat.le_of_ble_eq_true rfl⟩) (z_preV (ci := 2) hK hP hD hN rfl (he := (rfl : _[0]? = _)) [0, 1, 2] (by decide) rfl) rfl rfl hl.1 rfl (lv_room (Nat.le_of_ble_eq_true rfl)) d_M_apply_107 ⟨Nat.zero_le _, Nat.zero_le _⟩) hP hD hS hA [0, 1, 2] [] [0, 1, 2] rfl rfl (by decide) (by decide) rfl (by decide) (fun H locs hP hD hS => ?_)
    refine lv_goto hx hb d_M_apply_110 rfl ?_
    obtain rfl := Option.some.inj hr
    exact hQ _ _ _ _ d_M_apply_130 hP hD hS
  rw [if_neg hs1_5] at hr
  by_cases hs1_6 : a1 = (6 : Int32)
  · rw [if_pos hs1_6] at hr
    refine lv_tableIn hx hb d_M_apply_1 (by rw [hs1_6]; decide) (by rw [hs1_6]; decide) (by rw [hs1_6]; rfl) rfl ?_
    refine lv_aload_n hx hb d_M_apply_113 rfl (lv_at hl 0 rfl) ?_
    refine lv_iload_n hx hb d_M_apply_114 rfl (lv_at hl 2 rfl) ?_
    refine lv_iload_n hx hb d_M_apply_115 rfl (lv_at hl 3 rfl) ?_
    obtain ⟨r7, hr7, hr⟩ := ob hr
    refine z_cv (ws := (W_M kI kZ qM M_nc M_nf M_modulus M_side M_size M_cells M_fresh)) (wc := (W_M kI kZ qM M_nc M_nf M_modulus M_side M_size M_cells M_fresh)) (wr := ([] : va_W)) (w1 := (W_M kI kZ qM M_nc M_nf M_modulus M_side M_size r7.1 r7.2)) (w2 := (W_M kI kZ qM M_nc M_nf M_modulus M_side M_size r7.1 r7.2)) (va_runV (As := [.int a2, .int a3]) (rest := []) ⟨hx, hb, hml, hown, hts⟩ (c_M_turn l D kI kZ qM M_nc M_nf M_modulus M_side M_size M_cells M_fresh a2 a3 r7 hr7 H.size) (z_cwV hts mw_M_turn kw_363 ⟨by rw [hR]; exact Nat.le_of_ble_eq_true rfl, by rw [hR]; exact Nat.le_of_ble_eq_true rfl⟩) (z_preV (ci := 2) hK hP hD hN rfl (he := (rfl : _[0]? = _)) [0, 1, 2] (by decide) rfl) rfl rfl hl.1 rfl (lv_room (Nat.le_of_ble_eq_true rfl)) d_M_apply_116 ⟨Nat.zero_le _, Nat.zero_le _⟩) hP hD hS hA [0, 1, 2] [] [0, 1, 2] rfl rfl (by decide) (by decide) rfl (by decide) (fun H locs hP hD hS => ?_)
    refine lv_goto hx hb d_M_apply_119 rfl ?_
    obtain rfl := Option.some.inj hr
    exact hQ _ _ _ _ d_M_apply_130 hP hD hS
  rw [if_neg hs1_6] at hr
  have hs1_0 := z_ne (k := 0) (by decide) hs1_0
  have hs1_1 := z_ne (k := 1) (by decide) hs1_1
  have hs1_2 := z_ne (k := 2) (by decide) hs1_2
  have hs1_3 := z_ne (k := 3) (by decide) hs1_3
  have hs1_4 := z_ne (k := 4) (by decide) hs1_4
  have hs1_5 := z_ne (k := 5) (by decide) hs1_5
  have hs1_6 := z_ne (k := 6) (by decide) hs1_6
  refine lv_tableOut hx hb d_M_apply_1 (by omega) rfl ?_
  refine lv_aload_n hx hb d_M_apply_122 rfl (lv_at hl 0 rfl) ?_
  refine lv_iload_n hx hb d_M_apply_123 rfl (lv_at hl 2 rfl) ?_
  refine lv_iload_n hx hb d_M_apply_124 rfl (lv_at hl 3 rfl) ?_
  refine lv_iload hx hb d_M_apply_125 (lv_at hl 4 rfl) ?_
  obtain ⟨r8, hr8, hr⟩ := ob hr
  refine z_cv (ws := (W_M kI kZ qM M_nc M_nf M_modulus M_side M_size M_cells M_fresh)) (wc := (W_M kI kZ qM M_nc M_nf M_modulus M_side M_size M_cells M_fresh)) (wr := ([] : va_W)) (w1 := (W_M kI kZ qM M_nc M_nf M_modulus M_side M_size r8 M_fresh)) (w2 := (W_M kI kZ qM M_nc M_nf M_modulus M_side M_size r8 M_fresh)) (va_runV (As := [.int a2, .int a3, .int a4]) (rest := []) ⟨hx, hb, hml, hown, hts⟩ (c_M_scale l D kI kZ qM M_nc M_nf M_modulus M_side M_size M_cells M_fresh a2 a3 a4 r8 hr8 H.size) (z_cwV hts mw_M_scale kw_367 ⟨by rw [hR]; exact Nat.le_of_ble_eq_true rfl, by rw [hR]; exact Nat.le_of_ble_eq_true rfl⟩) (z_preV (ci := 2) hK hP hD hN rfl (he := (rfl : _[0]? = _)) [0, 1, 2] (by decide) rfl) rfl rfl hl.1 rfl (lv_room (Nat.le_of_ble_eq_true rfl)) d_M_apply_127 ⟨Nat.zero_le _, Nat.zero_le _⟩) hP hD hS hA [0, 1, 2] [] [0, 1, 2] rfl rfl (by decide) (by decide) rfl (by decide) (fun H locs hP hD hS => ?_)
  obtain rfl := Option.some.inj hr
  exact hQ _ _ _ _ d_M_apply_130 hP hD hS
set_option maxHeartbeats 4000000 in
set_option maxRecDepth 100000 in
theorem c_X_isAllDone (l : Launch) (D : va_G) (kI kZ : ClassId) (qX qM qR qC qP qO qV : Nat → Nat) (M_nc M_nf : Nat) (X_instructionsDone X_isWorkedOut M_modulus M_side M_size : Int32) (M_cells M_fresh : Nat → Int32) (R_length : Int32) (R_words : Nat → Int32) (C_length : Int32) (C_instructions P_registers : Nat → Int32) (O_modulus : Int32) (O_valueOf O_isNeeded O_registerOf : Nat → Int32) (V_length : Int32) (V_instructions : Nat → Int32)  (res : Int32) (hr : f_X_isAllDone X_instructionsDone C_length = some res) : zMi l D kI kZ y_X_isAllDone prog_1_method_15_code 1 ((some .boolean)) 1 20 [.ref (qX 0)] (W_XMRCPOV kI kZ qX qM qR qC qP qO qV M_nc M_nf X_instructionsDone X_isWorkedOut M_modulus M_side M_size M_cells M_fresh R_length R_words C_length C_instructions P_registers O_modulus O_valueOf O_isNeeded O_registerOf V_length V_instructions) (W_XMRCPOV kI kZ qX qM qR qC qP qO qV M_nc M_nf X_instructionsDone X_isWorkedOut M_modulus M_side M_size M_cells M_fresh R_length R_words C_length C_instructions P_registers O_modulus O_valueOf O_isNeeded O_registerOf V_length V_instructions) res := by
  refine zMi.of (by decide +kernel) (Nat.le_of_ble_eq_true rfl) ?_
  intro p e R s m args below meth c Q A hR hx hb hml hts hown hA hK hN hQ
  have hown : s.vm.findClass "SquareCode" = some m.cls := hown
  intro ls H hl hP hD hS
  have hl : lv_has ls 1 [(0, .ref (qX 0))] := hl
  rw [f_X_isAllDone] at hr
  refine lv_aload_n hx hb d_X_isAllDone_0 rfl (lv_at hl 0 rfl) ?_
  refine va_get (D := D) (ci := 5) (v := .int X_instructionsDone) (C := R_X) (T := T_X) (N := 7) hx hb hts in_X hown hK hP 0 rfl rfl 5 (by decide) (hts _ kw_108) (fun _ h9 => h9) rfl d_X_isAllDone_1 ?_
  refine lv_aload_n hx hb d_X_isAllDone_4 rfl (lv_at hl 0 rfl) ?_
  refine va_get (D := D) (ci := 5) (v := .ref (qC 0)) (C := R_X) (T := T_X) (N := 7) hx hb hts in_X hown hK hP 0 rfl rfl 2 (by decide) (hts _ kw_105) (fun _ h9 => h9) rfl d_X_isAllDone_5 ?_
  obtain ⟨r1, hr1, hr⟩ := ob hr
  refine z_ci (ws := (W_XMRCPOV kI kZ qX qM qR qC qP qO qV M_nc M_nf X_instructionsDone X_isWorkedOut M_modulus M_side M_size M_cells M_fresh R_length R_words C_length C_instructions P_registers O_modulus O_valueOf O_isNeeded O_registerOf V_length V_instructions)) (wc := (W_C kI kZ qC C_length C_instructions)) (wr := (W_XMRPOV kI kZ qX qM qR qP qO qV qC M_nc M_nf X_instructionsDone X_isWorkedOut M_modulus M_side M_size M_cells M_fresh R_length R_words P_registers O_modulus O_valueOf O_isNeeded O_registerOf V_length V_instructions)) (w1 := (W_C kI kZ qC C_length C_instructions)) (w2 := (W_XMRCPOV kI kZ qX qM qR qC qP qO qV M_nc M_nf X_instructionsDone X_isWorkedOut M_modulus M_side M_size M_cells M_fresh R_length R_words C_length C_instructions P_registers O_modulus O_valueOf O_isNeeded O_registerOf V_length V_instructions)) (va_runV (As := []) (rest := [.int X_instructionsDone]) ⟨hx, hb, hml, hown, hts⟩ (c_C_length l D kI kZ qC C_length C_instructions r1 hr1 H.size) (z_cwV hts mw_C_length kw_137 ⟨by rw [hR]; exact Nat.le_of_ble_eq_true rfl, by rw [hR]; exact Nat.le_of_ble_eq_true rfl⟩) (z_preV (ci := 0) hK hP hD hN rfl (he := (rfl : _[6]? = _)) [6, 7] (by decide) rfl) rfl rfl hl.1 rfl (lv_room (Nat.le_of_ble_eq_true rfl)) d_X_isAllDone_8 ⟨Nat.zero_le _, Nat.zero_le _⟩) hP hD hS hA [6, 7] [0, 1, 2, 3, 4, 5, 8, 9, 10, 11, 12, 13, 14, 15] [0, 1, 2, 3, 4, 5, 14, 15, 6, 7, 8, 9, 10, 11, 12, 13] rfl rfl (by decide) (by decide) rfl (by decide) (fun H locs hP hD hS => ?_)
  refine lv_icmp_ne hx hb d_X_isAllDone_11 rfl (fun hc => ?_) (fun hc => ?_)
  · rw [if_neg hc] at hr
    refine lv_iconst (v := (0 : Int32)) hx hb d_X_isAllDone_18 (by decide) ?_
    obtain rfl := Option.some.inj hr
    exact hQ _ _ _ _ _ d_X_isAllDone_19 (by decide +kernel) rfl hP hD hS
  · rw [if_pos hc] at hr
    refine lv_iconst (v := (1 : Int32)) hx hb d_X_isAllDone_14 (by decide) ?_
    refine lv_goto hx hb d_X_isAllDone_15 rfl ?_
    obtain rfl := Option.some.inj hr
    exact hQ _ _ _ _ _ d_X_isAllDone_19 (by decide +kernel) rfl hP hD hS
set_option maxHeartbeats 4000000 in
set_option maxRecDepth 100000 in
theorem c_X_run (l : Launch) (D : va_G) (kI kZ : ClassId) (qX qM qR qC qP qO qV : Nat → Nat) (M_nc M_nf : Nat) (X_instructionsDone X_isWorkedOut M_modulus M_side M_size : Int32) (M_cells M_fresh : Nat → Int32) (R_length : Int32) (R_words : Nat → Int32) (C_length : Int32) (C_instructions P_registers : Nat → Int32) (O_modulus : Int32) (O_valueOf O_isNeeded O_registerOf : Nat → Int32) (V_length : Int32) (V_instructions : Nat → Int32) (a1 : Int32) (res : Int32 × Int32 × (Nat → Int32) × (Nat → Int32)) (hr : f_X_run M_nc M_nf X_instructionsDone M_modulus M_side M_size M_cells M_fresh C_instructions C_length a1 = some res) : zMi l D kI kZ y_X_run prog_1_method_6_code 5 ((some .int)) 4 132 [.ref (qX 0), .int a1] (W_XMRCPOV kI kZ qX qM qR qC qP qO qV M_nc M_nf X_instructionsDone X_isWorkedOut M_modulus M_side M_size M_cells M_fresh R_length R_words C_length C_instructions P_registers O_modulus O_valueOf O_isNeeded O_registerOf V_length V_instructions) (W_XMRCPOV kI kZ qX qM qR qC qP qO qV M_nc M_nf (res.2.1) X_isWorkedOut M_modulus M_side M_size (res.2.2.1) (res.2.2.2) R_length R_words C_length C_instructions P_registers O_modulus O_valueOf O_isNeeded O_registerOf V_length V_instructions) (res.1) := by
  refine zMi.of (by decide +kernel) (Nat.le_of_ble_eq_true rfl) ?_
  intro p e R s m args below meth c Q A hR hx hb hml hts hown hA hK hN hQ
  have hown : s.vm.findClass "SquareCode" = some m.cls := hown
  have hB33 : ∀ (v2 : Int32)   (fu : Nat) (v3 X_instructionsDone : Int32) (M_cells M_fresh : Nat → Int32) (H : Heap) (locs : List Loc) (ls : Array Slot), lv_has ls 5 [(0, .ref (qX 0)), (2, .int v2), (3, .int v3)] → va_P D zCl (W_XMRCPOV kI kZ qX qM qR qC qP qO qV M_nc M_nf X_instructionsDone X_isWorkedOut M_modulus M_side M_size M_cells M_fresh R_length R_words C_length C_instructions P_registers O_modulus O_valueOf O_isNeeded O_registerOf V_length V_instructions) H → va_D A (W_XMRCPOV kI kZ qX qM qR qC qP qO qV M_nc M_nf X_instructionsDone X_isWorkedOut M_modulus M_side M_size M_cells M_fresh R_length R_words C_length C_instructions P_registers O_modulus O_valueOf O_isNeeded O_registerOf V_length V_instructions) → va_S A s.heap H locs → f_X_run_33 M_nc M_nf M_modulus M_side M_size C_instructions C_length v2 fu v3 X_instructionsDone M_cells M_fresh = some res → W p l e R s m args below meth c H locs 0 0 Q (F0 m 33 ls []) := by
    intro v2 fu
    induction fu with
    | zero => intro v3 X_instructionsDone M_cells M_fresh H locs ls hl hP hD hS hr; exact absurd hr (by rw [f_X_run_33]; exact fun h => by cases h)
    | succ fu ih =>
      intro v3 X_instructionsDone M_cells M_fresh H locs ls hl hP hD hS hr
      rw [f_X_run_33] at hr
      refine lv_iload_n hx hb d_X_run_33 rfl (lv_at hl 2 rfl) ?_
      refine lv_iload_n hx hb d_X_run_34 rfl (lv_at hl 1 rfl) ?_
      refine lv_icmp_ge hx hb d_X_run_35 rfl (fun hc => ?_) (fun hc => ?_)
      · rw [if_pos hc] at hr
        refine lv_aload_n hx hb d_X_run_96 rfl (lv_at hl 0 rfl) ?_
        obtain ⟨r1, hr1, hr⟩ := ob hr
        refine z_ci (ws := (W_XMRCPOV kI kZ qX qM qR qC qP qO qV M_nc M_nf X_instructionsDone X_isWorkedOut M_modulus M_side M_size M_cells M_fresh R_length R_words C_length C_instructions P_registers O_modulus O_valueOf O_isNeeded O_registerOf V_length V_instructions)) (wc := (W_XMRCPOV kI kZ qX qM qR qC qP qO qV M_nc M_nf X_instructionsDone X_isWorkedOut M_modulus M_side M_size M_cells M_fresh R_length R_words C_length C_instructions P_registers O_modulus O_valueOf O_isNeeded O_registerOf V_length V_instructions)) (wr := ([] : va_W)) (w1 := (W_XMRCPOV kI kZ qX qM qR qC qP qO qV M_nc M_nf X_instructionsDone X_isWorkedOut M_modulus M_side M_size M_cells M_fresh R_length R_words C_length C_instructions P_registers O_modulus O_valueOf O_isNeeded O_registerOf V_length V_instructions)) (w2 := (W_XMRCPOV kI kZ qX qM qR qC qP qO qV M_nc M_nf X_instructionsDone X_isWorkedOut M_modulus M_side M_size M_cells M_fresh R_length R_words C_length C_instructions P_registers O_modulus O_valueOf O_isNeeded O_registerOf V_length V_instructions)) (va_runV (As := []) (rest := []) ⟨hx, hb, hml, hown, hts⟩ (c_X_isAllDone l D kI kZ qX qM qR qC qP qO qV M_nc M_nf X_instructionsDone X_isWorkedOut M_modulus M_side M_size M_cells M_fresh R_length R_words C_length C_instructions P_registers O_modulus O_valueOf O_isNeeded O_registerOf V_length V_instructions r1 hr1 H.size) (z_cwV hts mw_X_isAllDone kw_371 ⟨by rw [hR]; exact Nat.le_of_ble_eq_true rfl, by rw [hR]; exact Nat.le_of_ble_eq_true rfl⟩) (z_preV (ci := 5) hK hP hD hN rfl (he := (rfl : _[0]? = _)) [0, 1, 2, 3, 4, 5, 6, 7, 8, 9, 10, 11, 12, 13, 14, 15] (by decide) rfl) rfl rfl hl.1 rfl (lv_room (Nat.le_of_ble_eq_true rfl)) d_X_run_97 ⟨Nat.zero_le _, Nat.zero_le _⟩) hP hD hS hA [0, 1, 2, 3, 4, 5, 6, 7, 8, 9, 10, 11, 12, 13, 14, 15] [] [0, 1, 2, 3, 4, 5, 6, 7, 8, 9, 10, 11, 12, 13, 14, 15] rfl rfl (by decide) (by decide) rfl (by decide) (fun H locs hP hD hS => ?_)
        refine lv_if_eq hx hb d_X_run_100 rfl (fun hc => ?_) (fun hc => ?_)
        · rw [if_pos hc] at hr
          refine lv_bipush (v := (8 : Int32)) hx hb d_X_run_107 (by decide) ?_
          obtain rfl := Option.some.inj hr
          exact hQ _ _ _ _ _ d_X_run_109 rfl rfl hP hD hS
        · rw [if_neg hc] at hr
          refine lv_iconst (v := (0 : Int32)) hx hb d_X_run_103 (by decide) ?_
          refine lv_goto hx hb d_X_run_104 rfl ?_
          obtain rfl := Option.some.inj hr
          exact hQ _ _ _ _ _ d_X_run_109 rfl rfl hP hD hS
      · rw [if_neg hc] at hr
        refine lv_aload_n hx hb d_X_run_38 rfl (lv_at hl 0 rfl) ?_
        refine va_get (D := D) (ci := 5) (v := .int X_instructionsDone) (C := R_X) (T := T_X) (N := 7) hx hb hts in_X hown hK hP 0 rfl rfl 5 (by decide) (hts _ kw_108) (fun _ h9 => h9) rfl d_X_run_39 ?_
        refine lv_istore (lv' := [(4, .int X_instructionsDone), (0, .ref (qX 0)), (2, .int v2), (3, .int v3)]) hx hb d_X_run_42 hl (by decide) rfl (fun ls hl => ?_)
        refine lv_aload_n hx hb d_X_run_44 rfl (lv_at hl 1 rfl) ?_
        refine va_get (D := D) (ci := 5) (v := .ref (qM 0)) (C := R_X) (T := T_X) (N := 7) hx hb hts in_X hown hK hP 0 rfl rfl 0 (by decide) (hts _ kw_103) (fun _ h9 => h9) rfl d_X_run_45 ?_
        refine lv_aload_n hx hb d_X_run_48 rfl (lv_at hl 1 rfl) ?_
        refine va_get (D := D) (ci := 5) (v := .ref (qC 0)) (C := R_X) (T := T_X) (N := 7) hx hb hts in_X hown hK hP 0 rfl rfl 2 (by decide) (hts _ kw_105) (fun _ h9 => h9) rfl d_X_run_49 ?_
        refine lv_iload hx hb d_X_run_52 (lv_at hl 0 rfl) ?_
        obtain ⟨r2, hr2, hr⟩ := ob hr
        refine z_ci (ws := (W_XMRCPOV kI kZ qX qM qR qC qP qO qV M_nc M_nf X_instructionsDone X_isWorkedOut M_modulus M_side M_size M_cells M_fresh R_length R_words C_length C_instructions P_registers O_modulus O_valueOf O_isNeeded O_registerOf V_length V_instructions)) (wc := (W_C kI kZ qC C_length C_instructions)) (wr := (W_XMRPOV kI kZ qX qM qR qP qO qV qC M_nc M_nf X_instructionsDone X_isWorkedOut M_modulus M_side M_size M_cells M_fresh R_length R_words P_registers O_modulus O_valueOf O_isNeeded O_registerOf V_length V_instructions)) (w1 := (W_C kI kZ qC C_length C_instructions)) (w2 := (W_XMRCPOV kI kZ qX qM qR qC qP qO qV M_nc M_nf X_instructionsDone X_isWorkedOut M_modulus M_side M_size M_cells M_fresh R_length R_words C_length C_instructions P_registers O_modulus O_valueOf O_isNeeded O_registerOf V_length V_instructions)) (va_runV (As := [.int X_instructionsDone]) (rest := [.ref (qM 0)]) ⟨hx, hb, hml, hown, hts⟩ (c_C_operation l D kI kZ qC C_length C_instructions X_instructionsDone r2 hr2 H.size) (z_cwV hts mw_C_operation kw_324 ⟨by rw [hR]; exact Nat.le_of_ble_eq_true rfl, by rw [hR]; exact Nat.le_of_ble_eq_true rfl⟩) (z_preV (ci := 0) hK hP hD hN rfl (he := (rfl : _[6]? = _)) [6, 7] (by decide) rfl) rfl rfl hl.1 rfl (lv_room (Nat.le_of_ble_eq_true rfl)) d_X_run_54 ⟨Nat.zero_le _, Nat.zero_le _⟩) hP hD hS hA [6, 7] [0, 1, 2, 3, 4, 5, 8, 9, 10, 11, 12, 13, 14, 15] [0, 1, 2, 3, 4, 5, 14, 15, 6, 7, 8, 9, 10, 11, 12, 13] rfl rfl (by decide) (by decide) rfl (by decide) (fun H locs hP hD hS => ?_)
        refine lv_iload hx hb d_X_run_57 (lv_at hl 0 rfl) ?_
        refine lv_aload_n hx hb d_X_run_59 rfl (lv_at hl 1 rfl) ?_
        refine va_get (D := D) (ci := 5) (v := .ref (qC 0)) (C := R_X) (T := T_X) (N := 7) hx hb hts in_X hown hK hP 0 rfl rfl 2 (by decide) (hts _ kw_105) (fun _ h9 => h9) rfl d_X_run_60 ?_
        refine lv_iload hx hb d_X_run_63 (lv_at hl 0 rfl) ?_
        obtain ⟨r3, hr3, hr⟩ := ob hr
        refine z_ci (ws := (W_XMRCPOV kI kZ qX qM qR qC qP qO qV M_nc M_nf X_instructionsDone X_isWorkedOut M_modulus M_side M_size M_cells M_fresh R_length R_words C_length C_instructions P_registers O_modulus O_valueOf O_isNeeded O_registerOf V_length V_instructions)) (wc := (W_C kI kZ qC C_length C_instructions)) (wr := (W_XMRPOV kI kZ qX qM qR qP qO qV qC M_nc M_nf X_instructionsDone X_isWorkedOut M_modulus M_side M_size M_cells M_fresh R_length R_words P_registers O_modulus O_valueOf O_isNeeded O_registerOf V_length V_instructions)) (w1 := (W_C kI kZ qC C_length C_instructions)) (w2 := (W_XMRCPOV kI kZ qX qM qR qC qP qO qV M_nc M_nf X_instructionsDone X_isWorkedOut M_modulus M_side M_size M_cells M_fresh R_length R_words C_length C_instructions P_registers O_modulus O_valueOf O_isNeeded O_registerOf V_length V_instructions)) (va_runV (As := [.int X_instructionsDone]) (rest := [.int X_instructionsDone, .int r2, .ref (qM 0)]) ⟨hx, hb, hml, hown, hts⟩ (c_C_first l D kI kZ qC C_length C_instructions X_instructionsDone r3 hr3 H.size) (z_cwV hts mw_C_first kw_325 ⟨by rw [hR]; exact Nat.le_of_ble_eq_true rfl, by rw [hR]; exact Nat.le_of_ble_eq_true rfl⟩) (z_preV (ci := 0) hK hP hD hN rfl (he := (rfl : _[6]? = _)) [6, 7] (by decide) rfl) rfl rfl hl.1 rfl (lv_room (Nat.le_of_ble_eq_true rfl)) d_X_run_65 ⟨Nat.zero_le _, Nat.zero_le _⟩) hP hD hS hA [6, 7] [0, 1, 2, 3, 4, 5, 8, 9, 10, 11, 12, 13, 14, 15] [0, 1, 2, 3, 4, 5, 14, 15, 6, 7, 8, 9, 10, 11, 12, 13] rfl rfl (by decide) (by decide) rfl (by decide) (fun H locs hP hD hS => ?_)
        refine lv_aload_n hx hb d_X_run_68 rfl (lv_at hl 1 rfl) ?_
        refine va_get (D := D) (ci := 5) (v := .ref (qC 0)) (C := R_X) (T := T_X) (N := 7) hx hb hts in_X hown hK hP 0 rfl rfl 2 (by decide) (hts _ kw_105) (fun _ h9 => h9) rfl d_X_run_69 ?_
        refine lv_iload hx hb d_X_run_72 (lv_at hl 0 rfl) ?_
        obtain ⟨r4, hr4, hr⟩ := ob hr
        refine z_ci (ws := (W_XMRCPOV kI kZ qX qM qR qC qP qO qV M_nc M_nf X_instructionsDone X_isWorkedOut M_modulus M_side M_size M_cells M_fresh R_length R_words C_length C_instructions P_registers O_modulus O_valueOf O_isNeeded O_registerOf V_length V_instructions)) (wc := (W_C kI kZ qC C_length C_instructions)) (wr := (W_XMRPOV kI kZ qX qM qR qP qO qV qC M_nc M_nf X_instructionsDone X_isWorkedOut M_modulus M_side M_size M_cells M_fresh R_length R_words P_registers O_modulus O_valueOf O_isNeeded O_registerOf V_length V_instructions)) (w1 := (W_C kI kZ qC C_length C_instructions)) (w2 := (W_XMRCPOV kI kZ qX qM qR qC qP qO qV M_nc M_nf X_instructionsDone X_isWorkedOut M_modulus M_side M_size M_cells M_fresh R_length R_words C_length C_instructions P_registers O_modulus O_valueOf O_isNeeded O_registerOf V_length V_instructions)) (va_runV (As := [.int X_instructionsDone]) (rest := [.int r3, .int X_instructionsDone, .int r2, .ref (qM 0)]) ⟨hx, hb, hml, hown, hts⟩ (c_C_second l D kI kZ qC C_length C_instructions X_instructionsDone r4 hr4 H.size) (z_cwV hts mw_C_second kw_326 ⟨by rw [hR]; exact Nat.le_of_ble_eq_true rfl, by rw [hR]; exact Nat.le_of_ble_eq_true rfl⟩) (z_preV (ci := 0) hK hP hD hN rfl (he := (rfl : _[6]? = _)) [6, 7] (by decide) rfl) rfl rfl hl.1 rfl (lv_room (Nat.le_of_ble_eq_true rfl)) d_X_run_74 ⟨Nat.zero_le _, Nat.zero_le _⟩) hP hD hS hA [6, 7] [0, 1, 2, 3, 4, 5, 8, 9, 10, 11, 12, 13, 14, 15] [0, 1, 2, 3, 4, 5, 14, 15, 6, 7, 8, 9, 10, 11, 12, 13] rfl rfl (by decide) (by decide) rfl (by decide) (fun H locs hP hD hS => ?_)
        obtain ⟨r5, hr5, hr⟩ := ob hr
        refine z_cv (ws := (W_XMRCPOV kI kZ qX qM qR qC qP qO qV M_nc M_nf X_instructionsDone X_isWorkedOut M_modulus M_side M_size M_cells M_fresh R_length R_words C_length C_instructions P_registers O_modulus O_valueOf O_isNeeded O_registerOf V_length V_instructions)) (wc := (W_M kI kZ qM M_nc M_nf M_modulus M_side M_size M_cells M_fresh)) (wr := (W_XRCPOV kI kZ qX qR qC qP qO qV qM X_instructionsDone X_isWorkedOut R_length R_words C_length C_instructions P_registers O_modulus O_valueOf O_isNeeded O_registerOf V_length V_instructions)) (w1 := (W_M kI kZ qM M_nc M_nf M_modulus M_side M_size r5.1 r5.2)) (w2 := (W_XMRCPOV kI kZ qX qM qR qC qP qO qV M_nc M_nf X_instructionsDone X_isWorkedOut M_modulus M_side M_size r5.1 r5.2 R_length R_words C_length C_instructions P_registers O_modulus O_valueOf O_isNeeded O_registerOf V_length V_instructions)) (va_runV (As := [.int r2, .int X_instructionsDone, .int r3, .int r4]) (rest := []) ⟨hx, hb, hml, hown, hts⟩ (c_M_apply l D kI kZ qM M_nc M_nf M_modulus M_side M_size M_cells M_fresh r2 X_instructionsDone r3 r4 r5 hr5 H.size) (z_cwV hts mw_M_apply kw_327 ⟨by rw [hR]; exact Nat.le_of_ble_eq_true rfl, by rw [hR]; exact Nat.le_of_ble_eq_true rfl⟩) (z_preV (ci := 2) hK hP hD hN rfl (he := (rfl : _[1]? = _)) [1, 2, 3] (by decide) rfl) rfl rfl hl.1 rfl (lv_room (Nat.le_of_ble_eq_true rfl)) d_X_run_77 ⟨Nat.zero_le _, Nat.zero_le _⟩) hP hD hS hA [1, 2, 3] [0, 4, 5, 6, 7, 8, 9, 10, 11, 12, 13, 14, 15] [0, 13, 14, 15, 1, 2, 3, 4, 5, 6, 7, 8, 9, 10, 11, 12] rfl rfl (by decide) (by decide) rfl (by decide) (fun H locs hP hD hS => ?_)
        refine lv_aload_n hx hb d_X_run_80 rfl (lv_at hl 1 rfl) ?_
        refine lv_dup hx hb d_X_run_81 rfl ?_
        refine va_get (D := D) (ci := 5) (v := .int X_instructionsDone) (C := R_X) (T := T_X) (N := 7) hx hb hts in_X hown hK hP 0 rfl rfl 5 (by decide) (hts _ kw_108) (fun _ h9 => h9) rfl d_X_run_82 ?_
        refine lv_iconst (v := (1 : Int32)) hx hb d_X_run_85 (by decide) ?_
        refine lv_iadd hx hb d_X_run_86 ?_
        refine va_put (D := D) (ci := 5) (v := .int (X_instructionsDone + (1 : Int32))) (ty := .int) (C := R_X) (T := T_X) (N := 7) hx hb hts in_X ty_X tyo_X nm_X hown hK hP hD hS 0 rfl rfl 5 (by decide) (hts _ kw_108) (fun _ h9 => h9) rfl (by decide +kernel) rfl rfl (Nat.le_of_ble_eq_true rfl) d_X_run_87 (fun H locs hP hD hS => ?_)
        have hP : va_P D zCl (W_XMRCPOV kI kZ qX qM qR qC qP qO qV M_nc M_nf (X_instructionsDone + (1 : Int32)) X_isWorkedOut M_modulus M_side M_size r5.1 r5.2 R_length R_words C_length C_instructions P_registers O_modulus O_valueOf O_isNeeded O_registerOf V_length V_instructions) H := hP
        have hD : va_D A (W_XMRCPOV kI kZ qX qM qR qC qP qO qV M_nc M_nf (X_instructionsDone + (1 : Int32)) X_isWorkedOut M_modulus M_side M_size r5.1 r5.2 R_length R_words C_length C_instructions P_registers O_modulus O_valueOf O_isNeeded O_registerOf V_length V_instructions) := hD
        refine lv_iinc (k := 3) (v := (v3 + (1 : Int32))) (lv' := [(3, .int (v3 + (1 : Int32))), (4, .int X_instructionsDone), (0, .ref (qX 0)), (2, .int v2)]) hx hb d_X_run_90 hl rfl (congrArg (fun z => v3 + z) (by decide : Int32.ofInt 1 = (1 : Int32))) (by decide) rfl (fun ls hl => ?_)
        refine lv_goto hx hb d_X_run_93 rfl ?_
        exact ih (v3 + (1 : Int32)) (X_instructionsDone + (1 : Int32)) r5.1 r5.2 _ _ _ (lv_sub hl [2, 3, 0] rfl) hP hD hS hr
  intro ls H hl hP hD hS
  have hl : lv_has ls 5 [(0, .ref (qX 0)), (1, .int a1)] := hl
  rw [f_X_run] at hr
  refine lv_aload_n hx hb d_X_run_0 rfl (lv_at hl 0 rfl) ?_
  obtain ⟨r6, hr6, hr⟩ := ob hr
  refine z_ci (ws := (W_XMRCPOV kI kZ qX qM qR qC qP qO qV M_nc M_nf X_instructionsDone X_isWorkedOut M_modulus M_side M_size M_cells M_fresh R_length R_words C_length C_instructions P_registers O_modulus O_valueOf O_isNeeded O_registerOf V_length V_instructions)) (wc := (W_XMRCPOV kI kZ qX qM qR qC qP qO qV M_nc M_nf X_instructionsDone X_isWorkedOut M_modulus M_side M_size M_cells M_fresh R_length R_words C_length C_instructions P_registers O_modulus O_valueOf O_isNeeded O_registerOf V_length V_instructions)) (wr := ([] : va_W)) (w1 := (W_XMRCPOV kI kZ qX qM qR qC qP qO qV M_nc M_nf X_instructionsDone X_isWorkedOut M_modulus M_side M_size M_cells M_fresh R_length R_words C_length C_instructions P_registers O_modulus O_valueOf O_isNeeded O_registerOf V_length V_instructions)) (w2 := (W_XMRCPOV kI kZ qX qM qR qC qP qO qV M_nc M_nf X_instructionsDone X_isWorkedOut M_modulus M_side M_size M_cells M_fresh R_length R_words C_length C_instructions P_registers O_modulus O_valueOf O_isNeeded O_registerOf V_length V_instructions)) (va_runV (As := []) (rest := []) ⟨hx, hb, hml, hown, hts⟩ (c_X_hasCode l D kI kZ qX qM qR qC qP qO qV M_nc M_nf X_instructionsDone X_isWorkedOut M_modulus M_side M_size M_cells M_fresh R_length R_words C_length C_instructions P_registers O_modulus O_valueOf O_isNeeded O_registerOf V_length V_instructions r6 hr6 H.size) (z_cwV hts mw_X_hasCode kw_133 ⟨by rw [hR]; exact Nat.le_of_ble_eq_true rfl, by rw [hR]; exact Nat.le_of_ble_eq_true rfl⟩) (z_preV (ci := 5) hK hP hD hN rfl (he := (rfl : _[0]? = _)) [0, 1, 2, 3, 4, 5, 6, 7, 8, 9, 10, 11, 12, 13, 14, 15] (by decide) rfl) rfl rfl hl.1 rfl (lv_room (Nat.le_of_ble_eq_true rfl)) d_X_run_1 ⟨Nat.zero_le _, Nat.zero_le _⟩) hP hD hS hA [0, 1, 2, 3, 4, 5, 6, 7, 8, 9, 10, 11, 12, 13, 14, 15] [] [0, 1, 2, 3, 4, 5, 6, 7, 8, 9, 10, 11, 12, 13, 14, 15] rfl rfl (by decide) (by decide) rfl (by decide) (fun H locs hP hD hS => ?_)
  refine lv_if_ne hx hb d_X_run_4 rfl (fun hc => ?_) (fun hc => ?_)
  · rw [if_neg hc] at hr
    refine lv_iload_n hx hb d_X_run_10 rfl (lv_at hl 1 rfl) ?_
    refine lv_iconst (v := (0 : Int32)) hx hb d_X_run_11 (by decide) ?_
    refine z_max hx hb (hml.trans hl.1.symm) hown (hts _ kw_322) (hts _ kw_273) (hts _ kw_8) (hts _ kw_274) (by rw [hR]; exact Nat.le_of_ble_eq_true rfl) (by rw [hR]; exact Nat.le_of_ble_eq_true rfl) (Nat.zero_le _) (Nat.zero_le _) d_X_run_12 ?_
    refine lv_aload_n hx hb d_X_run_15 rfl (lv_at hl 0 rfl) ?_
    refine va_get (D := D) (ci := 5) (v := .ref (qC 0)) (C := R_X) (T := T_X) (N := 7) hx hb hts in_X hown hK hP 0 rfl rfl 2 (by decide) (hts _ kw_105) (fun _ h9 => h9) rfl d_X_run_16 ?_
    obtain ⟨r7, hr7, hr⟩ := ob hr
    refine z_ci (ws := (W_XMRCPOV kI kZ qX qM qR qC qP qO qV M_nc M_nf X_instructionsDone X_isWorkedOut M_modulus M_side M_size M_cells M_fresh R_length R_words C_length C_instructions P_registers O_modulus O_valueOf O_isNeeded O_registerOf V_length V_instructions)) (wc := (W_C kI kZ qC C_length C_instructions)) (wr := (W_XMRPOV kI kZ qX qM qR qP qO qV qC M_nc M_nf X_instructionsDone X_isWorkedOut M_modulus M_side M_size M_cells M_fresh R_length R_words P_registers O_modulus O_valueOf O_isNeeded O_registerOf V_length V_instructions)) (w1 := (W_C kI kZ qC C_length C_instructions)) (w2 := (W_XMRCPOV kI kZ qX qM qR qC qP qO qV M_nc M_nf X_instructionsDone X_isWorkedOut M_modulus M_side M_size M_cells M_fresh R_length R_words C_length C_instructions P_registers O_modulus O_valueOf O_isNeeded O_registerOf V_length V_instructions)) (va_runV (As := []) (rest := [.int (zmax a1 (0 : Int32))]) ⟨hx, hb, hml, hown, hts⟩ (c_C_length l D kI kZ qC C_length C_instructions r7 hr7 H.size) (z_cwV hts mw_C_length kw_137 ⟨by rw [hR]; exact Nat.le_of_ble_eq_true rfl, by rw [hR]; exact Nat.le_of_ble_eq_true rfl⟩) (z_preV (ci := 0) hK hP hD hN rfl (he := (rfl : _[6]? = _)) [6, 7] (by decide) rfl) rfl rfl hl.1 rfl (lv_room (Nat.le_of_ble_eq_true rfl)) d_X_run_19 ⟨Nat.zero_le _, Nat.zero_le _⟩) hP hD hS hA [6, 7] [0, 1, 2, 3, 4, 5, 8, 9, 10, 11, 12, 13, 14, 15] [0, 1, 2, 3, 4, 5, 14, 15, 6, 7, 8, 9, 10, 11, 12, 13] rfl rfl (by decide) (by decide) rfl (by decide) (fun H locs hP hD hS => ?_)
    refine lv_aload_n hx hb d_X_run_22 rfl (lv_at hl 0 rfl) ?_
    refine va_get (D := D) (ci := 5) (v := .int X_instructionsDone) (C := R_X) (T := T_X) (N := 7) hx hb hts in_X hown hK hP 0 rfl rfl 5 (by decide) (hts _ kw_108) (fun _ h9 => h9) rfl d_X_run_23 ?_
    refine lv_isub hx hb d_X_run_26 ?_
    refine z_min hx hb (hml.trans hl.1.symm) hown (hts _ kw_323) (hts _ kw_270) (hts _ kw_8) (hts _ kw_271) (by rw [hR]; exact Nat.le_of_ble_eq_true rfl) (by rw [hR]; exact Nat.le_of_ble_eq_true rfl) (Nat.zero_le _) (Nat.zero_le _) d_X_run_27 ?_
    obtain ⟨v2_8, ev2_8, hr⟩ := nm_some hr
    refine z_top ev2_8 ?_
    refine lv_istore_n (lv' := [(2, .int v2_8), (0, .ref (qX 0)), (1, .int a1)]) hx hb d_X_run_30 rfl hl (by decide) rfl (fun ls hl => ?_)
    refine lv_iconst (v := (0 : Int32)) hx hb d_X_run_31 (by decide) ?_
    refine lv_istore_n (lv' := [(3, .int (0 : Int32)), (2, .int v2_8), (0, .ref (qX 0)), (1, .int a1)]) hx hb d_X_run_32 rfl hl (by decide) rfl (fun ls hl => ?_)
    exact hB33 v2_8 zFU (0 : Int32) X_instructionsDone M_cells M_fresh _ _ _ (lv_sub hl [2, 1, 0] rfl) hP hD hS hr
  · rw [if_pos hc] at hr
    refine lv_bipush (v := (7 : Int32)) hx hb d_X_run_7 (by decide) ?_
    obtain rfl := Option.some.inj hr
    exact hQ _ _ _ _ _ d_X_run_9 rfl rfl hP hD hS
set_option maxHeartbeats 4000000 in
set_option maxRecDepth 100000 in
theorem c_M_raise (l : Launch) (D : va_G) (kI kZ : ClassId) (qM : Nat → Nat) (M_nc M_nf : Nat) (M_modulus M_side M_size : Int32) (M_cells M_fresh : Nat → Int32) (a1 a2 : Int32) (res : (Nat → Int32) × (Nat → Int32)) (hr : f_M_raise M_nc M_nf M_modulus M_side M_size M_cells M_fresh a1 a2 = some res) : zMv l D kI kZ y_M_raise prog_4_method_14_code 4 none 3 108 [.ref (qM 0), .int a1, .int a2] (W_M kI kZ qM M_nc M_nf M_modulus M_side M_size M_cells M_fresh) (W_M kI kZ qM M_nc M_nf M_modulus M_side M_size (res.1) (res.2)) := by
  refine zMv.of (by decide +kernel) (Nat.le_of_ble_eq_true rfl) ?_
  intro p e R s m args below meth c Q A hR hx hb hml hts hown hA hK hN hQ
  have hown : s.vm.findClass "SquareCode$Matrices" = some m.cls := hown
  have hB24 : ∀ (fu : Nat) (v3 : Int32) (M_cells M_fresh : Nat → Int32) (H : Heap) (locs : List Loc) (ls : Array Slot), lv_has ls 4 [(0, .ref (qM 0)), (1, .int a1), (2, .int a2), (3, .int v3)] → va_P D zCl (W_M kI kZ qM M_nc M_nf M_modulus M_side M_size M_cells M_fresh) H → va_D A (W_M kI kZ qM M_nc M_nf M_modulus M_side M_size M_cells M_fresh) → va_S A s.heap H locs → f_M_raise_24 M_nc M_nf M_modulus M_side M_size a1 a2 fu v3 M_cells M_fresh = some res → W p l e R s m args below meth c H locs 0 0 Q (F0 m 24 ls []) := by
    intro  fu
    induction fu with
    | zero => intro v3 M_cells M_fresh H locs ls hl hP hD hS hr; exact absurd hr (by rw [f_M_raise_24]; exact fun h => by cases h)
    | succ fu ih =>
      intro v3 M_cells M_fresh H locs ls hl hP hD hS hr
      rw [f_M_raise_24] at hr
      refine lv_iload_n hx hb d_M_raise_24 rfl (lv_at hl 3 rfl) ?_
      refine lv_if_lt hx hb d_M_raise_25 rfl (fun hc => ?_) (fun hc => ?_)
      · rw [if_pos hc] at hr
        obtain rfl := Option.some.inj hr
        exact hQ _ _ _ _ d_M_raise_57 hP hD hS
      · rw [if_neg hc] at hr
        refine lv_aload_n hx hb d_M_raise_28 rfl (lv_at hl 0 rfl) ?_
        refine lv_iload_n hx hb d_M_raise_29 rfl (lv_at hl 1 rfl) ?_
        refine lv_iload_n hx hb d_M_raise_30 rfl (lv_at hl 1 rfl) ?_
        refine lv_iload_n hx hb d_M_raise_31 rfl (lv_at hl 1 rfl) ?_
        obtain ⟨r1, hr1, hr⟩ := ob hr
        refine z_cv (ws := (W_M kI kZ qM M_nc M_nf M_modulus M_side M_size M_cells M_fresh)) (wc := (W_M kI kZ qM M_nc M_nf M_modulus M_side M_size M_cells M_fresh)) (wr := ([] : va_W)) (w1 := (W_M kI kZ qM M_nc M_nf M_modulus M_side M_size r1.1 r1.2)) (w2 := (W_M kI kZ qM M_nc M_nf M_modulus M_side M_size r1.1 r1.2)) (va_runV (As := [.int a1, .int a1, .int a1]) (rest := []) ⟨hx, hb, hml, hown, hts⟩ (c_M_multiply l D kI kZ qM M_nc M_nf M_modulus M_side M_size M_cells M_fresh a1 a1 a1 r1 hr1 H.size) (z_cwV hts mw_M_multiply kw_351 ⟨by rw [hR]; exact Nat.le_of_ble_eq_true rfl, by rw [hR]; exact Nat.le_of_ble_eq_true rfl⟩) (z_preV (ci := 2) hK hP hD hN rfl (he := (rfl : _[0]? = _)) [0, 1, 2] (by decide) rfl) rfl rfl hl.1 rfl (lv_room (Nat.le_of_ble_eq_true rfl)) d_M_raise_32 ⟨Nat.zero_le _, Nat.zero_le _⟩) hP hD hS hA [0, 1, 2] [] [0, 1, 2] rfl rfl (by decide) (by decide) rfl (by decide) (fun H locs hP hD hS => ?_)
        refine lv_iload_n hx hb d_M_raise_35 rfl (lv_at hl 2 rfl) ?_
        refine lv_iload_n hx hb d_M_raise_36 rfl (lv_at hl 3 rfl) ?_
        obtain ⟨r2, hr2, hr⟩ := ob hr
        refine z_ci (ws := (W_M kI kZ qM M_nc M_nf M_modulus M_side M_size r1.1 r1.2)) (wc := ([] : va_W)) (wr := (W_M kI kZ qM M_nc M_nf M_modulus M_side M_size r1.1 r1.2)) (w1 := ([] : va_W)) (w2 := (W_M kI kZ qM M_nc M_nf M_modulus M_side M_size r1.1 r1.2)) (va_runSN (As := [.int a2, .int v3]) (rest := []) ⟨hx, hb, hml, hown, hts⟩ (c_X_isDigitOne l D kI kZ a2 v3 r2 hr2 H.size) (z_cwN hts mw_X_isDigitOne (zNestOf 7 hN rfl) ⟨by rw [hR]; exact Nat.le_of_ble_eq_true rfl, by rw [hR]; exact Nat.le_of_ble_eq_true rfl⟩) (z_pre hK hP hD hN [] (by decide) rfl) rfl rfl hl.1 rfl (lv_room (Nat.le_of_ble_eq_true rfl)) d_M_raise_37 ⟨Nat.zero_le _, Nat.zero_le _⟩) hP hD hS hA [] [0, 1, 2] [0, 1, 2] rfl rfl (by decide) (by decide) rfl (by decide) (fun H locs hP hD hS => ?_)
        refine lv_if_eq hx hb d_M_raise_40 rfl (fun hc => ?_) (fun hc => ?_)
        · rw [if_pos hc] at hr
          refine lv_iinc (k := 3) (v := (v3 + (-1 : Int32))) (lv' := [(3, .int (v3 + (-1 : Int32))), (0, .ref (qM 0)), (1, .int a1), (2, .int a2)]) hx hb d_M_raise_51 hl rfl (congrArg (fun z => v3 + z) (by decide : Int32.ofInt (-1) = (-1 : Int32))) (by decide) rfl (fun ls hl => ?_)
          refine lv_goto hx hb d_M_raise_54 rfl ?_
          exact ih (v3 + (-1 : Int32)) r1.1 r1.2 _ _ _ (lv_sub hl [1, 2, 3, 0] rfl) hP hD hS hr
        · rw [if_neg hc] at hr
          refine lv_aload_n hx hb d_M_raise_43 rfl (lv_at hl 0 rfl) ?_
          refine lv_iload_n hx hb d_M_raise_44 rfl (lv_at hl 1 rfl) ?_
          refine lv_iload_n hx hb d_M_raise_45 rfl (lv_at hl 1 rfl) ?_
          refine lv_bipush (v := (68 : Int32)) hx hb d_M_raise_46 (by decide) ?_
          obtain ⟨r3, hr3, hr⟩ := ob hr
          refine z_cv (ws := (W_M kI kZ qM M_nc M_nf M_modulus M_side M_size r1.1 r1.2)) (wc := (W_M kI kZ qM M_nc M_nf M_modulus M_side M_size r1.1 r1.2)) (wr := ([] : va_W)) (w1 := (W_M kI kZ qM M_nc M_nf M_modulus M_side M_size r3.1 r3.2)) (w2 := (W_M kI kZ qM M_nc M_nf M_modulus M_side M_size r3.1 r3.2)) (va_runV (As := [.int a1, .int a1, .int (68 : Int32)]) (rest := []) ⟨hx, hb, hml, hown, hts⟩ (c_M_multiply l D kI kZ qM M_nc M_nf M_modulus M_side M_size r1.1 r1.2 a1 a1 (68 : Int32) r3 hr3 H.size) (z_cwV hts mw_M_multiply kw_351 ⟨by rw [hR]; exact Nat.le_of_ble_eq_true rfl, by rw [hR]; exact Nat.le_of_ble_eq_true rfl⟩) (z_preV (ci := 2) hK hP hD hN rfl (he := (rfl : _[0]? = _)) [0, 1, 2] (by decide) rfl) rfl rfl hl.1 rfl (lv_room (Nat.le_of_ble_eq_true rfl)) d_M_raise_48 ⟨Nat.zero_le _, Nat.zero_le _⟩) hP hD hS hA [0, 1, 2] [] [0, 1, 2] rfl rfl (by decide) (by decide) rfl (by decide) (fun H locs hP hD hS => ?_)
          refine lv_iinc (k := 3) (v := (v3 + (-1 : Int32))) (lv' := [(3, .int (v3 + (-1 : Int32))), (0, .ref (qM 0)), (1, .int a1), (2, .int a2)]) hx hb d_M_raise_51 hl rfl (congrArg (fun z => v3 + z) (by decide : Int32.ofInt (-1) = (-1 : Int32))) (by decide) rfl (fun ls hl => ?_)
          refine lv_goto hx hb d_M_raise_54 rfl ?_
          exact ih (v3 + (-1 : Int32)) r3.1 r3.2 _ _ _ (lv_sub hl [1, 2, 3, 0] rfl) hP hD hS hr
  intro ls H hl hP hD hS
  have hl : lv_has ls 4 [(0, .ref (qM 0)), (1, .int a1), (2, .int a2)] := hl
  rw [f_M_raise] at hr
  refine lv_iload_n hx hb d_M_raise_0 rfl (lv_at hl 2 rfl) ?_
  refine lv_if_ne hx hb d_M_raise_1 rfl (fun hc => ?_) (fun hc => ?_)
  · rw [if_neg hc] at hr
    refine lv_aload_n hx hb d_M_raise_10 rfl (lv_at hl 0 rfl) ?_
    refine lv_bipush (v := (68 : Int32)) hx hb d_M_raise_11 (by decide) ?_
    refine lv_iload_n hx hb d_M_raise_13 rfl (lv_at hl 1 rfl) ?_
    obtain ⟨r4, hr4, hr⟩ := ob hr
    refine z_cv (ws := (W_M kI kZ qM M_nc M_nf M_modulus M_side M_size M_cells M_fresh)) (wc := (W_M kI kZ qM M_nc M_nf M_modulus M_side M_size M_cells M_fresh)) (wr := ([] : va_W)) (w1 := (W_M kI kZ qM M_nc M_nf M_modulus M_side M_size r4 M_fresh)) (w2 := (W_M kI kZ qM M_nc M_nf M_modulus M_side M_size r4 M_fresh)) (va_runV (As := [.int (68 : Int32), .int a1]) (rest := []) ⟨hx, hb, hml, hown, hts⟩ (c_M_copy l D kI kZ qM M_nc M_nf M_modulus M_side M_size M_cells M_fresh (68 : Int32) a1 r4 hr4 H.size) (z_cwV hts mw_M_copy kw_331 ⟨by rw [hR]; exact Nat.le_of_ble_eq_true rfl, by rw [hR]; exact Nat.le_of_ble_eq_true rfl⟩) (z_preV (ci := 2) hK hP hD hN rfl (he := (rfl : _[0]? = _)) [0, 1, 2] (by decide) rfl) rfl rfl hl.1 rfl (lv_room (Nat.le_of_ble_eq_true rfl)) d_M_raise_14 ⟨Nat.zero_le _, Nat.zero_le _⟩) hP hD hS hA [0, 1, 2] [] [0, 1, 2] rfl rfl (by decide) (by decide) rfl (by decide) (fun H locs hP hD hS => ?_)
    refine lv_iload_n hx hb d_M_raise_17 rfl (lv_at hl 2 rfl) ?_
    obtain ⟨r5, hr5, hr⟩ := ob hr
    refine z_ci (ws := (W_M kI kZ qM M_nc M_nf M_modulus M_side M_size r4 M_fresh)) (wc := ([] : va_W)) (wr := (W_M kI kZ qM M_nc M_nf M_modulus M_side M_size r4 M_fresh)) (w1 := ([] : va_W)) (w2 := (W_M kI kZ qM M_nc M_nf M_modulus M_side M_size r4 M_fresh)) (va_runSN (As := [.int a2]) (rest := []) ⟨hx, hb, hml, hown, hts⟩ (c_X_topDigit l D kI kZ a2 r5 hr5 H.size) (z_cwN hts mw_X_topDigit (zNestOf 6 hN rfl) ⟨by rw [hR]; exact Nat.le_of_ble_eq_true rfl, by rw [hR]; exact Nat.le_of_ble_eq_true rfl⟩) (z_pre hK hP hD hN [] (by decide) rfl) rfl rfl hl.1 rfl (lv_room (Nat.le_of_ble_eq_true rfl)) d_M_raise_18 ⟨Nat.zero_le _, Nat.zero_le _⟩) hP hD hS hA [] [0, 1, 2] [0, 1, 2] rfl rfl (by decide) (by decide) rfl (by decide) (fun H locs hP hD hS => ?_)
    refine lv_iconst (v := (1 : Int32)) hx hb d_M_raise_21 (by decide) ?_
    refine lv_isub hx hb d_M_raise_22 ?_
    obtain ⟨v3_6, ev3_6, hr⟩ := nm_some hr
    refine z_top ev3_6 ?_
    refine lv_istore_n (lv' := [(3, .int v3_6), (0, .ref (qM 0)), (1, .int a1), (2, .int a2)]) hx hb d_M_raise_23 rfl hl (by decide) rfl (fun ls hl => ?_)
    exact hB24 zFU v3_6 r4 M_fresh _ _ _ (lv_sub hl [1, 2, 3, 0] rfl) hP hD hS hr
  · rw [if_pos hc] at hr
    refine lv_aload_n hx hb d_M_raise_4 rfl (lv_at hl 0 rfl) ?_
    refine lv_iload_n hx hb d_M_raise_5 rfl (lv_at hl 1 rfl) ?_
    obtain ⟨r7, hr7, hr⟩ := ob hr
    refine z_cv (ws := (W_M kI kZ qM M_nc M_nf M_modulus M_side M_size M_cells M_fresh)) (wc := (W_M kI kZ qM M_nc M_nf M_modulus M_side M_size M_cells M_fresh)) (wr := ([] : va_W)) (w1 := (W_M kI kZ qM M_nc M_nf M_modulus M_side M_size r7 M_fresh)) (w2 := (W_M kI kZ qM M_nc M_nf M_modulus M_side M_size r7 M_fresh)) (va_runV (As := [.int a1]) (rest := []) ⟨hx, hb, hml, hown, hts⟩ (c_M_makeOne l D kI kZ qM M_nc M_nf M_modulus M_side M_size M_cells M_fresh a1 r7 hr7 H.size) (z_cwV hts mw_M_makeOne kw_338 ⟨by rw [hR]; exact Nat.le_of_ble_eq_true rfl, by rw [hR]; exact Nat.le_of_ble_eq_true rfl⟩) (z_preV (ci := 2) hK hP hD hN rfl (he := (rfl : _[0]? = _)) [0, 1, 2] (by decide) rfl) rfl rfl hl.1 rfl (lv_room (Nat.le_of_ble_eq_true rfl)) d_M_raise_6 ⟨Nat.zero_le _, Nat.zero_le _⟩) hP hD hS hA [0, 1, 2] [] [0, 1, 2] rfl rfl (by decide) (by decide) rfl (by decide) (fun H locs hP hD hS => ?_)
    obtain rfl := Option.some.inj hr
    exact hQ _ _ _ _ d_M_raise_9 hP hD hS
end
section
set_option maxHeartbeats 4000000 in
set_option maxRecDepth 100000 in
theorem c_X_workOut (l : Launch) (D : va_G) (kI kZ : ClassId) (qX qM qR qC qP qO qV : Nat → Nat) (M_nc M_nf : Nat) (X_instructionsDone X_isWorkedOut M_modulus M_side M_size : Int32) (M_cells M_fresh : Nat → Int32) (R_length : Int32) (R_words : Nat → Int32) (C_length : Int32) (C_instructions P_registers : Nat → Int32) (O_modulus : Int32) (O_valueOf O_isNeeded O_registerOf : Nat → Int32) (V_length : Int32) (V_instructions : Nat → Int32)  (res : (Nat → Int32) × (Nat → Int32)) (hr : f_X_workOut M_nc M_nf M_modulus M_side M_size M_cells M_fresh R_words R_length = some res) : zMv l D kI kZ y_X_workOut prog_1_method_17_code 6 none 4 132 [.ref (qX 0)] (W_XMRCPOV kI kZ qX qM qR qC qP qO qV M_nc M_nf X_instructionsDone X_isWorkedOut M_modulus M_side M_size M_cells M_fresh R_length R_words C_length C_instructions P_registers O_modulus O_valueOf O_isNeeded O_registerOf V_length V_instructions) (W_XMRCPOV kI kZ qX qM qR qC qP qO qV M_nc M_nf X_instructionsDone X_isWorkedOut M_modulus M_side M_size (res.1) (res.2) R_length R_words C_length C_instructions P_registers O_modulus O_valueOf O_isNeeded O_registerOf V_length V_instructions) := by
  refine zMv.of (by decide +kernel) (Nat.le_of_ble_eq_true rfl) ?_
  intro p e R s m args below meth c Q A hR hx hb hml hts hown hA hK hN hQ
  have hown : s.vm.findClass "SquareCode" = some m.cls := hown
  have hB86 : ∀ (v1 v2 t0 t1 t2 t3 : Int32) (M_cells M_fresh : Nat → Int32) (k5 : Int32 → Int32 → (Nat → Int32) → (Nat → Int32) → Option ((Nat → Int32) × (Nat → Int32))) (hk5 : ∀ (v1 v2 : Int32) (M_cells M_fresh : Nat → Int32) (H : Heap) (locs : List Loc) (ls : Array Slot), lv_has ls 6 [(0, .ref (qX 0)), (1, .int v1), (2, .int v2)] → va_P D zCl (W_XMRCPOV kI kZ qX qM qR qC qP qO qV M_nc M_nf X_instructionsDone X_isWorkedOut M_modulus M_side M_size M_cells M_fresh R_length R_words C_length C_instructions P_registers O_modulus O_valueOf O_isNeeded O_registerOf V_length V_instructions) H → va_D A (W_XMRCPOV kI kZ qX qM qR qC qP qO qV M_nc M_nf X_instructionsDone X_isWorkedOut M_modulus M_side M_size M_cells M_fresh R_length R_words C_length C_instructions P_registers O_modulus O_valueOf O_isNeeded O_registerOf V_length V_instructions) → va_S A s.heap H locs → k5 v1 v2 M_cells M_fresh = some res → W p l e R s m args below meth c H locs 0 0 Q (F0 m 5 ls [])) (H : Heap) (locs : List Loc) (ls : Array Slot), lv_has ls 6 [(0, .ref (qX 0)), (1, .int v1), (2, .int v2)] → va_P D zCl (W_XMRCPOV kI kZ qX qM qR qC qP qO qV M_nc M_nf X_instructionsDone X_isWorkedOut M_modulus M_side M_size M_cells M_fresh R_length R_words C_length C_instructions P_registers O_modulus O_valueOf O_isNeeded O_registerOf V_length V_instructions) H → va_D A (W_XMRCPOV kI kZ qX qM qR qC qP qO qV M_nc M_nf X_instructionsDone X_isWorkedOut M_modulus M_side M_size M_cells M_fresh R_length R_words C_length C_instructions P_registers O_modulus O_valueOf O_isNeeded O_registerOf V_length V_instructions) → va_S A s.heap H locs → f_X_workOut_86 M_nc M_nf M_modulus M_side M_size k5 v1 v2 t0 t1 t2 t3 M_cells M_fresh = some res → W p l e R s m args below meth c H locs 0 0 Q (F0 m 86 ls [.int t0, .int t1, .int t2, .int t3, .ref (qM 0)]) := by
    intro v1 v2 t0 t1 t2 t3 M_cells M_fresh k5 hk5 H locs ls hl hP hD hS hr
    rw [f_X_workOut_86] at hr
    obtain ⟨r1, hr1, hr⟩ := ob hr
    refine z_cv (ws := (W_XMRCPOV kI kZ qX qM qR qC qP qO qV M_nc M_nf X_instructionsDone X_isWorkedOut M_modulus M_side M_size M_cells M_fresh R_length R_words C_length C_instructions P_registers O_modulus O_valueOf O_isNeeded O_registerOf V_length V_instructions)) (wc := (W_M kI kZ qM M_nc M_nf M_modulus M_side M_size M_cells M_fresh)) (wr := (W_XRCPOV kI kZ qX qR qC qP qO qV qM X_instructionsDone X_isWorkedOut R_length R_words C_length C_instructions P_registers O_modulus O_valueOf O_isNeeded O_registerOf V_length V_instructions)) (w1 := (W_M kI kZ qM M_nc M_nf M_modulus M_side M_size r1.1 r1.2)) (w2 := (W_XMRCPOV kI kZ qX qM qR qC qP qO qV M_nc M_nf X_instructionsDone X_isWorkedOut M_modulus M_side M_size r1.1 r1.2 R_length R_words C_length C_instructions P_registers O_modulus O_valueOf O_isNeeded O_registerOf V_length V_instructions)) (va_runV (As := [.int t3, .int t2, .int t1, .int t0]) (rest := []) ⟨hx, hb, hml, hown, hts⟩ (c_M_apply l D kI kZ qM M_nc M_nf M_modulus M_side M_size M_cells M_fresh t3 t2 t1 t0 r1 hr1 H.size) (z_cwV hts mw_M_apply kw_327 ⟨by rw [hR]; exact Nat.le_of_ble_eq_true rfl, by rw [hR]; exact Nat.le_of_ble_eq_true rfl⟩) (z_preV (ci := 2) hK hP hD hN rfl (he := (rfl : _[1]? = _)) [1, 2, 3] (by decide) rfl) rfl rfl hl.1 rfl (lv_room (Nat.le_of_ble_eq_true rfl)) d_X_workOut_86 ⟨Nat.zero_le _, Nat.zero_le _⟩) hP hD hS hA [1, 2, 3] [0, 4, 5, 6, 7, 8, 9, 10, 11, 12, 13, 14, 15] [0, 13, 14, 15, 1, 2, 3, 4, 5, 6, 7, 8, 9, 10, 11, 12] rfl rfl (by decide) (by decide) rfl (by decide) (fun H locs hP hD hS => ?_)
    refine lv_iinc (k := 1) (v := (v1 + (1 : Int32))) (lv' := [(1, .int (v1 + (1 : Int32))), (0, .ref (qX 0)), (2, .int v2)]) hx hb d_X_workOut_89 hl rfl (congrArg (fun z => v1 + z) (by decide : Int32.ofInt 1 = (1 : Int32))) (by decide) rfl (fun ls hl => ?_)
    refine lv_iinc (k := 2) (v := (v2 + (1 : Int32))) (lv' := [(2, .int (v2 + (1 : Int32))), (1, .int (v1 + (1 : Int32))), (0, .ref (qX 0))]) hx hb d_X_workOut_92 hl rfl (congrArg (fun z => v2 + z) (by decide : Int32.ofInt 1 = (1 : Int32))) (by decide) rfl (fun ls hl => ?_)
    refine lv_goto hx hb d_X_workOut_95 rfl ?_
    exact hk5 (v1 + (1 : Int32)) (v2 + (1 : Int32)) r1.1 r1.2 _ _ _ (lv_sub hl [2, 1, 0] rfl) hP hD hS hr
  have hB5 : ∀ (fu : Nat) (v1 v2 : Int32) (M_cells M_fresh : Nat → Int32) (H : Heap) (locs : List Loc) (ls : Array Slot), lv_has ls 6 [(0, .ref (qX 0)), (1, .int v1), (2, .int v2)] → va_P D zCl (W_XMRCPOV kI kZ qX qM qR qC qP qO qV M_nc M_nf X_instructionsDone X_isWorkedOut M_modulus M_side M_size M_cells M_fresh R_length R_words C_length C_instructions P_registers O_modulus O_valueOf O_isNeeded O_registerOf V_length V_instructions) H → va_D A (W_XMRCPOV kI kZ qX qM qR qC qP qO qV M_nc M_nf X_instructionsDone X_isWorkedOut M_modulus M_side M_size M_cells M_fresh R_length R_words C_length C_instructions P_registers O_modulus O_valueOf O_isNeeded O_registerOf V_length V_instructions) → va_S A s.heap H locs → f_X_workOut_5 M_nc M_nf M_modulus M_side M_size R_words R_length fu v1 v2 M_cells M_fresh = some res → W p l e R s m args below meth c H locs 0 0 Q (F0 m 5 ls []) := by
    intro  fu
    induction fu with
    | zero => intro v1 v2 M_cells M_fresh H locs ls hl hP hD hS hr; exact absurd hr (by rw [f_X_workOut_5]; exact fun h => by cases h)
    | succ fu ih =>
      intro v1 v2 M_cells M_fresh H locs ls hl hP hD hS hr
      rw [f_X_workOut_5] at hr
      refine lv_iload_n hx hb d_X_workOut_5 rfl (lv_at hl 2 rfl) ?_
      refine lv_aload_n hx hb d_X_workOut_6 rfl (lv_at hl 0 rfl) ?_
      refine va_get (D := D) (ci := 5) (v := .ref (qR 0)) (C := R_X) (T := T_X) (N := 7) hx hb hts in_X hown hK hP 0 rfl rfl 1 (by decide) (hts _ kw_104) (fun _ h9 => h9) rfl d_X_workOut_7 ?_
      obtain ⟨r2, hr2, hr⟩ := ob hr
      refine z_ci (ws := (W_XMRCPOV kI kZ qX qM qR qC qP qO qV M_nc M_nf X_instructionsDone X_isWorkedOut M_modulus M_side M_size M_cells M_fresh R_length R_words C_length C_instructions P_registers O_modulus O_valueOf O_isNeeded O_registerOf V_length V_instructions)) (wc := (W_R kI kZ qR R_length R_words)) (wr := (W_XMCPOV kI kZ qX qM qC qP qO qV qR M_nc M_nf X_instructionsDone X_isWorkedOut M_modulus M_side M_size M_cells M_fresh C_length C_instructions P_registers O_modulus O_valueOf O_isNeeded O_registerOf V_length V_instructions)) (w1 := (W_R kI kZ qR R_length R_words)) (w2 := (W_XMRCPOV kI kZ qX qM qR qC qP qO qV M_nc M_nf X_instructionsDone X_isWorkedOut M_modulus M_side M_size M_cells M_fresh R_length R_words C_length C_instructions P_registers O_modulus O_valueOf O_isNeeded O_registerOf V_length V_instructions)) (va_runV (As := []) (rest := [.int v2]) ⟨hx, hb, hml, hown, hts⟩ (c_R_length l D kI kZ qR R_length R_words r2 hr2 H.size) (z_cwV hts mw_R_length kw_383 ⟨by rw [hR]; exact Nat.le_of_ble_eq_true rfl, by rw [hR]; exact Nat.le_of_ble_eq_true rfl⟩) (z_preV (ci := 4) hK hP hD hN rfl (he := (rfl : _[4]? = _)) [4, 5] (by decide) rfl) rfl rfl hl.1 rfl (lv_room (Nat.le_of_ble_eq_true rfl)) d_X_workOut_10 ⟨Nat.zero_le _, Nat.zero_le _⟩) hP hD hS hA [4, 5] [0, 1, 2, 3, 6, 7, 8, 9, 10, 11, 12, 13, 14, 15] [0, 1, 2, 3, 14, 15, 4, 5, 6, 7, 8, 9, 10, 11, 12, 13] rfl rfl (by decide) (by decide) rfl (by decide) (fun H locs hP hD hS => ?_)
      refine lv_icmp_ge hx hb d_X_workOut_13 rfl (fun hc => ?_) (fun hc => ?_)
      · rw [if_pos hc] at hr
        obtain rfl := Option.some.inj hr
        exact hQ _ _ _ _ d_X_workOut_98 hP hD hS
      · rw [if_neg hc] at hr
        refine lv_aload_n hx hb d_X_workOut_16 rfl (lv_at hl 0 rfl) ?_
        refine va_get (D := D) (ci := 5) (v := .ref (qR 0)) (C := R_X) (T := T_X) (N := 7) hx hb hts in_X hown hK hP 0 rfl rfl 1 (by decide) (hts _ kw_104) (fun _ h9 => h9) rfl d_X_workOut_17 ?_
        refine lv_iload_n hx hb d_X_workOut_20 rfl (lv_at hl 2 rfl) ?_
        obtain ⟨r3, hr3, hr⟩ := ob hr
        refine z_ci (ws := (W_XMRCPOV kI kZ qX qM qR qC qP qO qV M_nc M_nf X_instructionsDone X_isWorkedOut M_modulus M_side M_size M_cells M_fresh R_length R_words C_length C_instructions P_registers O_modulus O_valueOf O_isNeeded O_registerOf V_length V_instructions)) (wc := (W_R kI kZ qR R_length R_words)) (wr := (W_XMCPOV kI kZ qX qM qC qP qO qV qR M_nc M_nf X_instructionsDone X_isWorkedOut M_modulus M_side M_size M_cells M_fresh C_length C_instructions P_registers O_modulus O_valueOf O_isNeeded O_registerOf V_length V_instructions)) (w1 := (W_R kI kZ qR R_length R_words)) (w2 := (W_XMRCPOV kI kZ qX qM qR qC qP qO qV M_nc M_nf X_instructionsDone X_isWorkedOut M_modulus M_side M_size M_cells M_fresh R_length R_words C_length C_instructions P_registers O_modulus O_valueOf O_isNeeded O_registerOf V_length V_instructions)) (va_runV (As := [.int v2]) (rest := []) ⟨hx, hb, hml, hown, hts⟩ (c_R_operation l D kI kZ qR R_length R_words v2 r3 hr3 H.size) (z_cwV hts mw_R_operation kw_384 ⟨by rw [hR]; exact Nat.le_of_ble_eq_true rfl, by rw [hR]; exact Nat.le_of_ble_eq_true rfl⟩) (z_preV (ci := 4) hK hP hD hN rfl (he := (rfl : _[4]? = _)) [4, 5] (by decide) rfl) rfl rfl hl.1 rfl (lv_room (Nat.le_of_ble_eq_true rfl)) d_X_workOut_21 ⟨Nat.zero_le _, Nat.zero_le _⟩) hP hD hS hA [4, 5] [0, 1, 2, 3, 6, 7, 8, 9, 10, 11, 12, 13, 14, 15] [0, 1, 2, 3, 14, 15, 4, 5, 6, 7, 8, 9, 10, 11, 12, 13] rfl rfl (by decide) (by decide) rfl (by decide) (fun H locs hP hD hS => ?_)
        refine lv_istore_n (lv' := [(3, .int r3), (0, .ref (qX 0)), (1, .int v1), (2, .int v2)]) hx hb d_X_workOut_24 rfl hl (by decide) rfl (fun ls hl => ?_)
        refine lv_aload_n hx hb d_X_workOut_25 rfl (lv_at hl 1 rfl) ?_
        refine va_get (D := D) (ci := 5) (v := .ref (qR 0)) (C := R_X) (T := T_X) (N := 7) hx hb hts in_X hown hK hP 0 rfl rfl 1 (by decide) (hts _ kw_104) (fun _ h9 => h9) rfl d_X_workOut_26 ?_
        refine lv_iload_n hx hb d_X_workOut_29 rfl (lv_at hl 3 rfl) ?_
        obtain ⟨r4, hr4, hr⟩ := ob hr
        refine z_ci (ws := (W_XMRCPOV kI kZ qX qM qR qC qP qO qV M_nc M_nf X_instructionsDone X_isWorkedOut M_modulus M_side M_size M_cells M_fresh R_length R_words C_length C_instructions P_registers O_modulus O_valueOf O_isNeeded O_registerOf V_length V_instructions)) (wc := (W_R kI kZ qR R_length R_words)) (wr := (W_XMCPOV kI kZ qX qM qC qP qO qV qR M_nc M_nf X_instructionsDone X_isWorkedOut M_modulus M_side M_size M_cells M_fresh C_length C_instructions P_registers O_modulus O_valueOf O_isNeeded O_registerOf V_length V_instructions)) (w1 := (W_R kI kZ qR R_length R_words)) (w2 := (W_XMRCPOV kI kZ qX qM qR qC qP qO qV M_nc M_nf X_instructionsDone X_isWorkedOut M_modulus M_side M_size M_cells M_fresh R_length R_words C_length C_instructions P_registers O_modulus O_valueOf O_isNeeded O_registerOf V_length V_instructions)) (va_runV (As := [.int v2]) (rest := []) ⟨hx, hb, hml, hown, hts⟩ (c_R_number l D kI kZ qR R_length R_words v2 r4 hr4 H.size) (z_cwV hts mw_R_number kw_385 ⟨by rw [hR]; exact Nat.le_of_ble_eq_true rfl, by rw [hR]; exact Nat.le_of_ble_eq_true rfl⟩) (z_preV (ci := 4) hK hP hD hN rfl (he := (rfl : _[4]? = _)) [4, 5] (by decide) rfl) rfl rfl hl.1 rfl (lv_room (Nat.le_of_ble_eq_true rfl)) d_X_workOut_30 ⟨Nat.zero_le _, Nat.zero_le _⟩) hP hD hS hA [4, 5] [0, 1, 2, 3, 6, 7, 8, 9, 10, 11, 12, 13, 14, 15] [0, 1, 2, 3, 14, 15, 4, 5, 6, 7, 8, 9, 10, 11, 12, 13] rfl rfl (by decide) (by decide) rfl (by decide) (fun H locs hP hD hS => ?_)
        refine lv_istore (lv' := [(4, .int r4), (3, .int r3), (0, .ref (qX 0)), (1, .int v1), (2, .int v2)]) hx hb d_X_workOut_33 hl (by decide) rfl (fun ls hl => ?_)
        refine lv_iload_n hx hb d_X_workOut_35 rfl (lv_at hl 1 rfl) ?_
        obtain ⟨r5, hr5, hr⟩ := ob hr
        refine z_ci (ws := (W_XMRCPOV kI kZ qX qM qR qC qP qO qV M_nc M_nf X_instructionsDone X_isWorkedOut M_modulus M_side M_size M_cells M_fresh R_length R_words C_length C_instructions P_registers O_modulus O_valueOf O_isNeeded O_registerOf V_length V_instructions)) (wc := ([] : va_W)) (wr := (W_XMRCPOV kI kZ qX qM qR qC qP qO qV M_nc M_nf X_instructionsDone X_isWorkedOut M_modulus M_side M_size M_cells M_fresh R_length R_words C_length C_instructions P_registers O_modulus O_valueOf O_isNeeded O_registerOf V_length V_instructions)) (w1 := ([] : va_W)) (w2 := (W_XMRCPOV kI kZ qX qM qR qC qP qO qV M_nc M_nf X_instructionsDone X_isWorkedOut M_modulus M_side M_size M_cells M_fresh R_length R_words C_length C_instructions P_registers O_modulus O_valueOf O_isNeeded O_registerOf V_length V_instructions)) (va_runS (As := [.int r3]) (rest := []) ⟨hx, hb, hml, hown, hts⟩ (c_X_operandsOf l D kI kZ r3 r5 hr5 H.size) (z_cwS hts mw_X_operandsOf kw_386 ⟨by rw [hR]; exact Nat.le_of_ble_eq_true rfl, by rw [hR]; exact Nat.le_of_ble_eq_true rfl⟩) (z_pre hK hP hD hN [] (by decide) rfl) rfl rfl hl.1 rfl (lv_room (Nat.le_of_ble_eq_true rfl)) d_X_workOut_36 ⟨Nat.zero_le _, Nat.zero_le _⟩) hP hD hS hA [] [0, 1, 2, 3, 4, 5, 6, 7, 8, 9, 10, 11, 12, 13, 14, 15] [0, 1, 2, 3, 4, 5, 6, 7, 8, 9, 10, 11, 12, 13, 14, 15] rfl rfl (by decide) (by decide) rfl (by decide) (fun H locs hP hD hS => ?_)
        refine lv_istore (lv' := [(5, .int r5), (4, .int r4), (3, .int r3), (0, .ref (qX 0)), (1, .int v1), (2, .int v2)]) hx hb d_X_workOut_39 hl (by decide) rfl (fun ls hl => ?_)
        refine lv_iload_n hx hb d_X_workOut_41 rfl (lv_at hl 4 rfl) ?_
        refine lv_iload hx hb d_X_workOut_42 (lv_at hl 0 rfl) ?_
        refine lv_isub hx hb d_X_workOut_44 ?_
        obtain ⟨v1_6, ev1_6, hr⟩ := nm_some hr
        refine z_top ev1_6 ?_
        refine lv_istore_n (lv' := [(1, .int v1_6), (5, .int r5), (4, .int r4), (3, .int r3), (0, .ref (qX 0)), (2, .int v2)]) hx hb d_X_workOut_45 rfl hl (by decide) rfl (fun ls hl => ?_)
        refine lv_iload_n hx hb d_X_workOut_46 rfl (lv_at hl 3 rfl) ?_
        refine lv_bipush (v := (8 : Int32)) hx hb d_X_workOut_47 (by decide) ?_
        refine lv_icmp_ne hx hb d_X_workOut_49 rfl (fun hc => ?_) (fun hc => ?_)
        · rw [if_neg hc] at hr
          refine lv_aload_n hx hb d_X_workOut_65 rfl (lv_at hl 4 rfl) ?_
          refine va_get (D := D) (ci := 5) (v := .ref (qM 0)) (C := R_X) (T := T_X) (N := 7) hx hb hts in_X hown hK hP 0 rfl rfl 0 (by decide) (hts _ kw_103) (fun _ h9 => h9) rfl d_X_workOut_66 ?_
          refine lv_iload_n hx hb d_X_workOut_69 rfl (lv_at hl 3 rfl) ?_
          refine lv_iload_n hx hb d_X_workOut_70 rfl (lv_at hl 0 rfl) ?_
          refine lv_iload_n hx hb d_X_workOut_71 rfl (lv_at hl 0 rfl) ?_
          refine lv_iload hx hb d_X_workOut_72 (lv_at hl 1 rfl) ?_
          refine lv_iconst (v := (2 : Int32)) hx hb d_X_workOut_74 (by decide) ?_
          refine lv_icmp_ne hx hb d_X_workOut_75 rfl (fun hc => ?_) (fun hc => ?_)
          · rw [if_neg hc] at hr
            refine lv_iload hx hb d_X_workOut_84 (lv_at hl 2 rfl) ?_
            exact hB86 v1_6 v2 r4 v1_6 v1_6 r3 M_cells M_fresh _ ih _ _ _ (lv_sub hl [4, 0, 5] rfl) hP hD hS hr
          · rw [if_pos hc] at hr
            refine lv_iload_n hx hb d_X_workOut_78 rfl (lv_at hl 0 rfl) ?_
            refine lv_iconst (v := (1 : Int32)) hx hb d_X_workOut_79 (by decide) ?_
            refine lv_iadd hx hb d_X_workOut_80 ?_
            refine lv_goto hx hb d_X_workOut_81 rfl ?_
            exact hB86 v1_6 v2 (v1_6 + (1 : Int32)) v1_6 v1_6 r3 M_cells M_fresh _ ih _ _ _ (lv_sub hl [4, 0, 5] rfl) hP hD hS hr
        · rw [if_pos hc] at hr
          refine lv_aload_n hx hb d_X_workOut_52 rfl (lv_at hl 4 rfl) ?_
          refine va_get (D := D) (ci := 5) (v := .ref (qM 0)) (C := R_X) (T := T_X) (N := 7) hx hb hts in_X hown hK hP 0 rfl rfl 0 (by decide) (hts _ kw_103) (fun _ h9 => h9) rfl d_X_workOut_53 ?_
          refine lv_iload_n hx hb d_X_workOut_56 rfl (lv_at hl 0 rfl) ?_
          refine lv_iload hx hb d_X_workOut_57 (lv_at hl 2 rfl) ?_
          obtain ⟨r7, hr7, hr⟩ := ob hr
          refine z_cv (ws := (W_XMRCPOV kI kZ qX qM qR qC qP qO qV M_nc M_nf X_instructionsDone X_isWorkedOut M_modulus M_side M_size M_cells M_fresh R_length R_words C_length C_instructions P_registers O_modulus O_valueOf O_isNeeded O_registerOf V_length V_instructions)) (wc := (W_M kI kZ qM M_nc M_nf M_modulus M_side M_size M_cells M_fresh)) (wr := (W_XRCPOV kI kZ qX qR qC qP qO qV qM X_instructionsDone X_isWorkedOut R_length R_words C_length C_instructions P_registers O_modulus O_valueOf O_isNeeded O_registerOf V_length V_instructions)) (w1 := (W_M kI kZ qM M_nc M_nf M_modulus M_side M_size r7.1 r7.2)) (w2 := (W_XMRCPOV kI kZ qX qM qR qC qP qO qV M_nc M_nf X_instructionsDone X_isWorkedOut M_modulus M_side M_size r7.1 r7.2 R_length R_words C_length C_instructions P_registers O_modulus O_valueOf O_isNeeded O_registerOf V_length V_instructions)) (va_runV (As := [.int v1_6, .int r4]) (rest := []) ⟨hx, hb, hml, hown, hts⟩ (c_M_raise l D kI kZ qM M_nc M_nf M_modulus M_side M_size M_cells M_fresh v1_6 r4 r7 hr7 H.size) (z_cwV hts mw_M_raise kw_387 ⟨by rw [hR]; exact Nat.le_of_ble_eq_true rfl, by rw [hR]; exact Nat.le_of_ble_eq_true rfl⟩) (z_preV (ci := 2) hK hP hD hN rfl (he := (rfl : _[1]? = _)) [1, 2, 3] (by decide) rfl) rfl rfl hl.1 rfl (lv_room (Nat.le_of_ble_eq_true rfl)) d_X_workOut_59 ⟨Nat.zero_le _, Nat.zero_le _⟩) hP hD hS hA [1, 2, 3] [0, 4, 5, 6, 7, 8, 9, 10, 11, 12, 13, 14, 15] [0, 13, 14, 15, 1, 2, 3, 4, 5, 6, 7, 8, 9, 10, 11, 12] rfl rfl (by decide) (by decide) rfl (by decide) (fun H locs hP hD hS => ?_)
          refine lv_goto hx hb d_X_workOut_62 rfl ?_
          refine lv_iinc (k := 0) (v := (v1_6 + (1 : Int32))) (lv' := [(1, .int (v1_6 + (1 : Int32))), (5, .int r5), (4, .int r4), (3, .int r3), (0, .ref (qX 0)), (2, .int v2)]) hx hb d_X_workOut_89 hl rfl (congrArg (fun z => v1_6 + z) (by decide : Int32.ofInt 1 = (1 : Int32))) (by decide) rfl (fun ls hl => ?_)
          refine lv_iinc (k := 5) (v := (v2 + (1 : Int32))) (lv' := [(2, .int (v2 + (1 : Int32))), (1, .int (v1_6 + (1 : Int32))), (5, .int r5), (4, .int r4), (3, .int r3), (0, .ref (qX 0))]) hx hb d_X_workOut_92 hl rfl (congrArg (fun z => v2 + z) (by decide : Int32.ofInt 1 = (1 : Int32))) (by decide) rfl (fun ls hl => ?_)
          refine lv_goto hx hb d_X_workOut_95 rfl ?_
          exact ih (v1_6 + (1 : Int32)) (v2 + (1 : Int32)) r7.1 r7.2 _ _ _ (lv_sub hl [5, 1, 0] rfl) hP hD hS hr
  intro ls H hl hP hD hS
  have hl : lv_has ls 6 [(0, .ref (qX 0))] := hl
  rw [f_X_workOut] at hr
  refine lv_bipush (v := (44 : Int32)) hx hb d_X_workOut_0 (by decide) ?_
  refine lv_istore_n (lv' := [(1, .int (44 : Int32)), (0, .ref (qX 0))]) hx hb d_X_workOut_2 rfl hl (by decide) rfl (fun ls hl => ?_)
  refine lv_iconst (v := (0 : Int32)) hx hb d_X_workOut_3 (by decide) ?_
  refine lv_istore_n (lv' := [(2, .int (0 : Int32)), (1, .int (44 : Int32)), (0, .ref (qX 0))]) hx hb d_X_workOut_4 rfl hl (by decide) rfl (fun ls hl => ?_)
  exact hB5 zFU (44 : Int32) (0 : Int32) M_cells M_fresh _ _ _ (lv_sub hl [2, 1, 0] rfl) hP hD hS hr
set_option maxHeartbeats 4000000 in
set_option maxRecDepth 100000 in
theorem c_X_evalDirect (l : Launch) (D : va_G) (kI kZ : ClassId) (qX qM qR qC qP qO qV : Nat → Nat) (M_nc M_nf : Nat) (X_instructionsDone X_isWorkedOut M_modulus M_side M_size : Int32) (M_cells M_fresh : Nat → Int32) (R_length : Int32) (R_words : Nat → Int32) (C_length : Int32) (C_instructions P_registers : Nat → Int32) (O_modulus : Int32) (O_valueOf O_isNeeded O_registerOf : Nat → Int32) (V_length : Int32) (V_instructions : Nat → Int32)  (res : Int32 × Int32 × (Nat → Int32) × (Nat → Int32)) (hr : f_X_evalDirect M_nc M_nf X_isWorkedOut M_modulus M_side M_size M_cells M_fresh R_words R_length = some res) : zMi l D kI kZ y_X_evalDirect prog_1_method_7_code 2 ((some .int)) 5 157 [.ref (qX 0)] (W_XMRCPOV kI kZ qX qM qR qC qP qO qV M_nc M_nf X_instructionsDone X_isWorkedOut M_modulus M_side M_size M_cells M_fresh R_length R_words C_length C_instructions P_registers O_modulus O_valueOf O_isNeeded O_registerOf V_length V_instructions) (W_XMRCPOV kI kZ qX qM qR qC qP qO qV M_nc M_nf X_instructionsDone (res.2.1) M_modulus M_side M_size (res.2.2.1) (res.2.2.2) R_length R_words C_length C_instructions P_registers O_modulus O_valueOf O_isNeeded O_registerOf V_length V_instructions) (res.1) := by
  refine zMi.of (by decide +kernel) (Nat.le_of_ble_eq_true rfl) ?_
  intro p e R s m args below meth c Q A hR hx hb hml hts hown hA hK hN hQ
  have hown : s.vm.findClass "SquareCode" = some m.cls := hown
  intro ls H hl hP hD hS
  have hl : lv_has ls 2 [(0, .ref (qX 0))] := hl
  rw [f_X_evalDirect] at hr
  refine lv_aload_n hx hb d_X_evalDirect_0 rfl (lv_at hl 0 rfl) ?_
  refine va_get (D := D) (ci := 5) (v := .ref (qR 0)) (C := R_X) (T := T_X) (N := 7) hx hb hts in_X hown hK hP 0 rfl rfl 1 (by decide) (hts _ kw_104) (fun _ h9 => h9) rfl d_X_evalDirect_1 ?_
  obtain ⟨r1, hr1, hr⟩ := ob hr
  refine z_ci (ws := (W_XMRCPOV kI kZ qX qM qR qC qP qO qV M_nc M_nf X_instructionsDone X_isWorkedOut M_modulus M_side M_size M_cells M_fresh R_length R_words C_length C_instructions P_registers O_modulus O_valueOf O_isNeeded O_registerOf V_length V_instructions)) (wc := (W_R kI kZ qR R_length R_words)) (wr := (W_XMCPOV kI kZ qX qM qC qP qO qV qR M_nc M_nf X_instructionsDone X_isWorkedOut M_modulus M_side M_size M_cells M_fresh C_length C_instructions P_registers O_modulus O_valueOf O_isNeeded O_registerOf V_length V_instructions)) (w1 := (W_R kI kZ qR R_length R_words)) (w2 := (W_XMRCPOV kI kZ qX qM qR qC qP qO qV M_nc M_nf X_instructionsDone X_isWorkedOut M_modulus M_side M_size M_cells M_fresh R_length R_words C_length C_instructions P_registers O_modulus O_valueOf O_isNeeded O_registerOf V_length V_instructions)) (va_runV (As := []) (rest := []) ⟨hx, hb, hml, hown, hts⟩ (c_R_fault l D kI kZ qR R_length R_words r1 hr1 H.size) (z_cwV hts mw_R_fault kw_168 ⟨by rw [hR]; exact Nat.le_of_ble_eq_true rfl, by rw [hR]; exact Nat.le_of_ble_eq_true rfl⟩) (z_preV (ci := 4) hK hP hD hN rfl (he := (rfl : _[4]? = _)) [4, 5] (by decide) rfl) rfl rfl hl.1 rfl (lv_room (Nat.le_of_ble_eq_true rfl)) d_X_evalDirect_4 ⟨Nat.zero_le _, Nat.zero_le _⟩) hP hD hS hA [4, 5] [0, 1, 2, 3, 6, 7, 8, 9, 10, 11, 12, 13, 14, 15] [0, 1, 2, 3, 14, 15, 4, 5, 6, 7, 8, 9, 10, 11, 12, 13] rfl rfl (by decide) (by decide) rfl (by decide) (fun H locs hP hD hS => ?_)
  refine lv_istore_n (lv' := [(1, .int r1), (0, .ref (qX 0))]) hx hb d_X_evalDirect_7 rfl hl (by decide) rfl (fun ls hl => ?_)
  refine lv_iload_n hx hb d_X_evalDirect_8 rfl (lv_at hl 0 rfl) ?_
  refine lv_if_eq hx hb d_X_evalDirect_9 rfl (fun hc => ?_) (fun hc => ?_)
  · rw [if_pos hc] at hr
    refine lv_aload_n hx hb d_X_evalDirect_14 rfl (lv_at hl 1 rfl) ?_
    obtain ⟨r2, hr2, hr⟩ := ob hr
    refine z_cv (ws := (W_XMRCPOV kI kZ qX qM qR qC qP qO qV M_nc M_nf X_instructionsDone X_isWorkedOut M_modulus M_side M_size M_cells M_fresh R_length R_words C_length C_instructions P_registers O_modulus O_valueOf O_isNeeded O_registerOf V_length V_instructions)) (wc := (W_XMRCPOV kI kZ qX qM qR qC qP qO qV M_nc M_nf X_instructionsDone X_isWorkedOut M_modulus M_side M_size M_cells M_fresh R_length R_words C_length C_instructions P_registers O_modulus O_valueOf O_isNeeded O_registerOf V_length V_instructions)) (wr := ([] : va_W)) (w1 := (W_XMRCPOV kI kZ qX qM qR qC qP qO qV M_nc M_nf X_instructionsDone X_isWorkedOut M_modulus M_side M_size r2.1 r2.2 R_length R_words C_length C_instructions P_registers O_modulus O_valueOf O_isNeeded O_registerOf V_length V_instructions)) (w2 := (W_XMRCPOV kI kZ qX qM qR qC qP qO qV M_nc M_nf X_instructionsDone X_isWorkedOut M_modulus M_side M_size r2.1 r2.2 R_length R_words C_length C_instructions P_registers O_modulus O_valueOf O_isNeeded O_registerOf V_length V_instructions)) (va_runV (As := []) (rest := []) ⟨hx, hb, hml, hown, hts⟩ (c_X_workOut l D kI kZ qX qM qR qC qP qO qV M_nc M_nf X_instructionsDone X_isWorkedOut M_modulus M_side M_size M_cells M_fresh R_length R_words C_length C_instructions P_registers O_modulus O_valueOf O_isNeeded O_registerOf V_length V_instructions r2 hr2 H.size) (z_cwV hts mw_X_workOut kw_379 ⟨by rw [hR]; exact Nat.le_of_ble_eq_true rfl, by rw [hR]; exact Nat.le_of_ble_eq_true rfl⟩) (z_preV (ci := 5) hK hP hD hN rfl (he := (rfl : _[0]? = _)) [0, 1, 2, 3, 4, 5, 6, 7, 8, 9, 10, 11, 12, 13, 14, 15] (by decide) rfl) rfl rfl hl.1 rfl (lv_room (Nat.le_of_ble_eq_true rfl)) d_X_evalDirect_15 ⟨Nat.zero_le _, Nat.zero_le _⟩) hP hD hS hA [0, 1, 2, 3, 4, 5, 6, 7, 8, 9, 10, 11, 12, 13, 14, 15] [] [0, 1, 2, 3, 4, 5, 6, 7, 8, 9, 10, 11, 12, 13, 14, 15] rfl rfl (by decide) (by decide) rfl (by decide) (fun H locs hP hD hS => ?_)
    refine lv_aload_n hx hb d_X_evalDirect_18 rfl (lv_at hl 1 rfl) ?_
    refine va_get (D := D) (ci := 5) (v := .ref (qM 0)) (C := R_X) (T := T_X) (N := 7) hx hb hts in_X hown hK hP 0 rfl rfl 0 (by decide) (hts _ kw_103) (fun _ h9 => h9) rfl d_X_evalDirect_19 ?_
    refine lv_bipush (v := (69 : Int32)) hx hb d_X_evalDirect_22 (by decide) ?_
    refine lv_bipush (v := (44 : Int32)) hx hb d_X_evalDirect_24 (by decide) ?_
    obtain ⟨r3, hr3, hr⟩ := ob hr
    refine z_cv (ws := (W_XMRCPOV kI kZ qX qM qR qC qP qO qV M_nc M_nf X_instructionsDone X_isWorkedOut M_modulus M_side M_size r2.1 r2.2 R_length R_words C_length C_instructions P_registers O_modulus O_valueOf O_isNeeded O_registerOf V_length V_instructions)) (wc := (W_M kI kZ qM M_nc M_nf M_modulus M_side M_size r2.1 r2.2)) (wr := (W_XRCPOV kI kZ qX qR qC qP qO qV qM X_instructionsDone X_isWorkedOut R_length R_words C_length C_instructions P_registers O_modulus O_valueOf O_isNeeded O_registerOf V_length V_instructions)) (w1 := (W_M kI kZ qM M_nc M_nf M_modulus M_side M_size r3 r2.2)) (w2 := (W_XMRCPOV kI kZ qX qM qR qC qP qO qV M_nc M_nf X_instructionsDone X_isWorkedOut M_modulus M_side M_size r3 r2.2 R_length R_words C_length C_instructions P_registers O_modulus O_valueOf O_isNeeded O_registerOf V_length V_instructions)) (va_runV (As := [.int (69 : Int32), .int (44 : Int32)]) (rest := []) ⟨hx, hb, hml, hown, hts⟩ (c_M_copy l D kI kZ qM M_nc M_nf M_modulus M_side M_size r2.1 r2.2 (69 : Int32) (44 : Int32) r3 hr3 H.size) (z_cwV hts mw_M_copy kw_393 ⟨by rw [hR]; exact Nat.le_of_ble_eq_true rfl, by rw [hR]; exact Nat.le_of_ble_eq_true rfl⟩) (z_preV (ci := 2) hK hP hD hN rfl (he := (rfl : _[1]? = _)) [1, 2, 3] (by decide) rfl) rfl rfl hl.1 rfl (lv_room (Nat.le_of_ble_eq_true rfl)) d_X_evalDirect_26 ⟨Nat.zero_le _, Nat.zero_le _⟩) hP hD hS hA [1, 2, 3] [0, 4, 5, 6, 7, 8, 9, 10, 11, 12, 13, 14, 15] [0, 13, 14, 15, 1, 2, 3, 4, 5, 6, 7, 8, 9, 10, 11, 12] rfl rfl (by decide) (by decide) rfl (by decide) (fun H locs hP hD hS => ?_)
    refine lv_aload_n hx hb d_X_evalDirect_29 rfl (lv_at hl 1 rfl) ?_
    refine lv_iconst (v := (1 : Int32)) hx hb d_X_evalDirect_30 (by decide) ?_
    refine va_put (D := D) (ci := 5) (v := .int (1 : Int32)) (ty := .boolean) (C := R_X) (T := T_X) (N := 7) hx hb hts in_X ty_X tyo_X nm_X hown hK hP hD hS 0 rfl rfl 6 (by decide) (hts _ kw_109) (fun _ h9 => h9) rfl (by decide +kernel) rfl rfl (Nat.le_of_ble_eq_true rfl) d_X_evalDirect_31 (fun H locs hP hD hS => ?_)
    have hP : va_P D zCl (W_XMRCPOV kI kZ qX qM qR qC qP qO qV M_nc M_nf X_instructionsDone (1 : Int32) M_modulus M_side M_size r3 r2.2 R_length R_words C_length C_instructions P_registers O_modulus O_valueOf O_isNeeded O_registerOf V_length V_instructions) H := hP
    have hD : va_D A (W_XMRCPOV kI kZ qX qM qR qC qP qO qV M_nc M_nf X_instructionsDone (1 : Int32) M_modulus M_side M_size r3 r2.2 R_length R_words C_length C_instructions P_registers O_modulus O_valueOf O_isNeeded O_registerOf V_length V_instructions) := hD
    refine lv_iconst (v := (0 : Int32)) hx hb d_X_evalDirect_34 (by decide) ?_
    obtain rfl := Option.some.inj hr
    exact hQ _ _ _ _ _ d_X_evalDirect_35 rfl rfl hP hD hS
  · rw [if_neg hc] at hr
    refine lv_iload_n hx hb d_X_evalDirect_12 rfl (lv_at hl 0 rfl) ?_
    obtain rfl := Option.some.inj hr
    exact hQ _ _ _ _ _ d_X_evalDirect_13 rfl rfl hP hD hS
set_option maxHeartbeats 4000000 in
set_option maxRecDepth 100000 in
theorem c_X_out (l : Launch) (D : va_G) (kI kZ : ClassId) (qX qM qR qC qP qO qV : Nat → Nat) (M_nc M_nf : Nat) (X_instructionsDone X_isWorkedOut M_modulus M_side M_size : Int32) (M_cells M_fresh : Nat → Int32) (R_length : Int32) (R_words : Nat → Int32) (C_length : Int32) (C_instructions P_registers : Nat → Int32) (O_modulus : Int32) (O_valueOf O_isNeeded O_registerOf : Nat → Int32) (V_length : Int32) (V_instructions : Nat → Int32) (a1 a2 : Int32) (res : Int32) (hr : f_X_out M_nc X_instructionsDone M_side M_size M_cells C_length a1 a2 = some res) : zMi l D kI kZ y_X_out prog_1_method_8_code 3 ((some .int)) 2 40 [.ref (qX 0), .int a1, .int a2] (W_XMRCPOV kI kZ qX qM qR qC qP qO qV M_nc M_nf X_instructionsDone X_isWorkedOut M_modulus M_side M_size M_cells M_fresh R_length R_words C_length C_instructions P_registers O_modulus O_valueOf O_isNeeded O_registerOf V_length V_instructions) (W_XMRCPOV kI kZ qX qM qR qC qP qO qV M_nc M_nf X_instructionsDone X_isWorkedOut M_modulus M_side M_size M_cells M_fresh R_length R_words C_length C_instructions P_registers O_modulus O_valueOf O_isNeeded O_registerOf V_length V_instructions) res := by
  refine zMi.of (by decide +kernel) (Nat.le_of_ble_eq_true rfl) ?_
  intro p e R s m args below meth c Q A hR hx hb hml hts hown hA hK hN hQ
  have hown : s.vm.findClass "SquareCode" = some m.cls := hown
  intro ls H hl hP hD hS
  have hl : lv_has ls 3 [(0, .ref (qX 0)), (1, .int a1), (2, .int a2)] := hl
  rw [f_X_out] at hr
  refine lv_aload_n hx hb d_X_out_0 rfl (lv_at hl 0 rfl) ?_
  obtain ⟨r1, hr1, hr⟩ := ob hr
  refine z_ci (ws := (W_XMRCPOV kI kZ qX qM qR qC qP qO qV M_nc M_nf X_instructionsDone X_isWorkedOut M_modulus M_side M_size M_cells M_fresh R_length R_words C_length C_instructions P_registers O_modulus O_valueOf O_isNeeded O_registerOf V_length V_instructions)) (wc := (W_XMRCPOV kI kZ qX qM qR qC qP qO qV M_nc M_nf X_instructionsDone X_isWorkedOut M_modulus M_side M_size M_cells M_fresh R_length R_words C_length C_instructions P_registers O_modulus O_valueOf O_isNeeded O_registerOf V_length V_instructions)) (wr := ([] : va_W)) (w1 := (W_XMRCPOV kI kZ qX qM qR qC qP qO qV M_nc M_nf X_instructionsDone X_isWorkedOut M_modulus M_side M_size M_cells M_fresh R_length R_words C_length C_instructions P_registers O_modulus O_valueOf O_isNeeded O_registerOf V_length V_instructions)) (w2 := (W_XMRCPOV kI kZ qX qM qR qC qP qO qV M_nc M_nf X_instructionsDone X_isWorkedOut M_modulus M_side M_size M_cells M_fresh R_length R_words C_length C_instructions P_registers O_modulus O_valueOf O_isNeeded O_registerOf V_length V_instructions)) (va_runV (As := []) (rest := []) ⟨hx, hb, hml, hown, hts⟩ (c_X_hasCode l D kI kZ qX qM qR qC qP qO qV M_nc M_nf X_instructionsDone X_isWorkedOut M_modulus M_side M_size M_cells M_fresh R_length R_words C_length C_instructions P_registers O_modulus O_valueOf O_isNeeded O_registerOf V_length V_instructions r1 hr1 H.size) (z_cwV hts mw_X_hasCode kw_133 ⟨by rw [hR]; exact Nat.le_of_ble_eq_true rfl, by rw [hR]; exact Nat.le_of_ble_eq_true rfl⟩) (z_preV (ci := 5) hK hP hD hN rfl (he := (rfl : _[0]? = _)) [0, 1, 2, 3, 4, 5, 6, 7, 8, 9, 10, 11, 12, 13, 14, 15] (by decide) rfl) rfl rfl hl.1 rfl (lv_room (Nat.le_of_ble_eq_true rfl)) d_X_out_1 ⟨Nat.zero_le _, Nat.zero_le _⟩) hP hD hS hA [0, 1, 2, 3, 4, 5, 6, 7, 8, 9, 10, 11, 12, 13, 14, 15] [] [0, 1, 2, 3, 4, 5, 6, 7, 8, 9, 10, 11, 12, 13, 14, 15] rfl rfl (by decide) (by decide) rfl (by decide) (fun H locs hP hD hS => ?_)
  refine lv_if_eq hx hb d_X_out_4 rfl (fun hc => ?_) (fun hc => ?_)
  · rw [if_pos hc] at hr
    refine lv_iconst (v := (-1 : Int32)) hx hb d_X_out_26 (by decide) ?_
    obtain rfl := Option.some.inj hr
    exact hQ _ _ _ _ _ d_X_out_27 rfl rfl hP hD hS
  · rw [if_neg hc] at hr
    refine lv_aload_n hx hb d_X_out_7 rfl (lv_at hl 0 rfl) ?_
    obtain ⟨r2, hr2, hr⟩ := ob hr
    refine z_ci (ws := (W_XMRCPOV kI kZ qX qM qR qC qP qO qV M_nc M_nf X_instructionsDone X_isWorkedOut M_modulus M_side M_size M_cells M_fresh R_length R_words C_length C_instructions P_registers O_modulus O_valueOf O_isNeeded O_registerOf V_length V_instructions)) (wc := (W_XMRCPOV kI kZ qX qM qR qC qP qO qV M_nc M_nf X_instructionsDone X_isWorkedOut M_modulus M_side M_size M_cells M_fresh R_length R_words C_length C_instructions P_registers O_modulus O_valueOf O_isNeeded O_registerOf V_length V_instructions)) (wr := ([] : va_W)) (w1 := (W_XMRCPOV kI kZ qX qM qR qC qP qO qV M_nc M_nf X_instructionsDone X_isWorkedOut M_modulus M_side M_size M_cells M_fresh R_length R_words C_length C_instructions P_registers O_modulus O_valueOf O_isNeeded O_registerOf V_length V_instructions)) (w2 := (W_XMRCPOV kI kZ qX qM qR qC qP qO qV M_nc M_nf X_instructionsDone X_isWorkedOut M_modulus M_side M_size M_cells M_fresh R_length R_words C_length C_instructions P_registers O_modulus O_valueOf O_isNeeded O_registerOf V_length V_instructions)) (va_runV (As := []) (rest := []) ⟨hx, hb, hml, hown, hts⟩ (c_X_isAllDone l D kI kZ qX qM qR qC qP qO qV M_nc M_nf X_instructionsDone X_isWorkedOut M_modulus M_side M_size M_cells M_fresh R_length R_words C_length C_instructions P_registers O_modulus O_valueOf O_isNeeded O_registerOf V_length V_instructions r2 hr2 H.size) (z_cwV hts mw_X_isAllDone kw_371 ⟨by rw [hR]; exact Nat.le_of_ble_eq_true rfl, by rw [hR]; exact Nat.le_of_ble_eq_true rfl⟩) (z_preV (ci := 5) hK hP hD hN rfl (he := (rfl : _[0]? = _)) [0, 1, 2, 3, 4, 5, 6, 7, 8, 9, 10, 11, 12, 13, 14, 15] (by decide) rfl) rfl rfl hl.1 rfl (lv_room (Nat.le_of_ble_eq_true rfl)) d_X_out_8 ⟨Nat.zero_le _, Nat.zero_le _⟩) hP hD hS hA [0, 1, 2, 3, 4, 5, 6, 7, 8, 9, 10, 11, 12, 13, 14, 15] [] [0, 1, 2, 3, 4, 5, 6, 7, 8, 9, 10, 11, 12, 13, 14, 15] rfl rfl (by decide) (by decide) rfl (by decide) (fun H locs hP hD hS => ?_)
    refine lv_if_eq hx hb d_X_out_11 rfl (fun hc => ?_) (fun hc => ?_)
    · rw [if_pos hc] at hr
      refine lv_iconst (v := (-1 : Int32)) hx hb d_X_out_26 (by decide) ?_
      obtain rfl := Option.some.inj hr
      exact hQ _ _ _ _ _ d_X_out_27 rfl rfl hP hD hS
    · rw [if_neg hc] at hr
      refine lv_aload_n hx hb d_X_out_14 rfl (lv_at hl 0 rfl) ?_
      refine va_get (D := D) (ci := 5) (v := .ref (qM 0)) (C := R_X) (T := T_X) (N := 7) hx hb hts in_X hown hK hP 0 rfl rfl 0 (by decide) (hts _ kw_103) (fun _ h9 => h9) rfl d_X_out_15 ?_
      refine lv_iload_n hx hb d_X_out_18 rfl (lv_at hl 1 rfl) ?_
      refine lv_iload_n hx hb d_X_out_19 rfl (lv_at hl 2 rfl) ?_
      obtain ⟨r3, hr3, hr⟩ := ob hr
      refine z_ci (ws := (W_XMRCPOV kI kZ qX qM qR qC qP qO qV M_nc M_nf X_instructionsDone X_isWorkedOut M_modulus M_side M_size M_cells M_fresh R_length R_words C_length C_instructions P_registers O_modulus O_valueOf O_isNeeded O_registerOf V_length V_instructions)) (wc := (W_M kI kZ qM M_nc M_nf M_modulus M_side M_size M_cells M_fresh)) (wr := (W_XRCPOV kI kZ qX qR qC qP qO qV qM X_instructionsDone X_isWorkedOut R_length R_words C_length C_instructions P_registers O_modulus O_valueOf O_isNeeded O_registerOf V_length V_instructions)) (w1 := (W_M kI kZ qM M_nc M_nf M_modulus M_side M_size M_cells M_fresh)) (w2 := (W_XMRCPOV kI kZ qX qM qR qC qP qO qV M_nc M_nf X_instructionsDone X_isWorkedOut M_modulus M_side M_size M_cells M_fresh R_length R_words C_length C_instructions P_registers O_modulus O_valueOf O_isNeeded O_registerOf V_length V_instructions)) (va_runV (As := [.int a1, .int a2]) (rest := []) ⟨hx, hb, hml, hown, hts⟩ (c_M_hasCell l D kI kZ qM M_nc M_nf M_modulus M_side M_size M_cells M_fresh a1 a2 r3 hr3 H.size) (z_cwV hts mw_M_hasCell kw_149 ⟨by rw [hR]; exact Nat.le_of_ble_eq_true rfl, by rw [hR]; exact Nat.le_of_ble_eq_true rfl⟩) (z_preV (ci := 2) hK hP hD hN rfl (he := (rfl : _[1]? = _)) [1, 2, 3] (by decide) rfl) rfl rfl hl.1 rfl (lv_room (Nat.le_of_ble_eq_true rfl)) d_X_out_20 ⟨Nat.zero_le _, Nat.zero_le _⟩) hP hD hS hA [1, 2, 3] [0, 4, 5, 6, 7, 8, 9, 10, 11, 12, 13, 14, 15] [0, 13, 14, 15, 1, 2, 3, 4, 5, 6, 7, 8, 9, 10, 11, 12] rfl rfl (by decide) (by decide) rfl (by decide) (fun H locs hP hD hS => ?_)
      refine lv_if_ne hx hb d_X_out_23 rfl (fun hc => ?_) (fun hc => ?_)
      · rw [if_neg hc] at hr
        refine lv_aload_n hx hb d_X_out_28 rfl (lv_at hl 0 rfl) ?_
        refine va_get (D := D) (ci := 5) (v := .ref (qM 0)) (C := R_X) (T := T_X) (N := 7) hx hb hts in_X hown hK hP 0 rfl rfl 0 (by decide) (hts _ kw_103) (fun _ h9 => h9) rfl d_X_out_29 ?_
        refine lv_aload_n hx hb d_X_out_32 rfl (lv_at hl 0 rfl) ?_
        refine va_get (D := D) (ci := 5) (v := .ref (qC 0)) (C := R_X) (T := T_X) (N := 7) hx hb hts in_X hown hK hP 0 rfl rfl 2 (by decide) (hts _ kw_105) (fun _ h9 => h9) rfl d_X_out_33 ?_
        obtain ⟨r4, hr4, hr⟩ := ob hr
        refine z_ci (ws := (W_XMRCPOV kI kZ qX qM qR qC qP qO qV M_nc M_nf X_instructionsDone X_isWorkedOut M_modulus M_side M_size M_cells M_fresh R_length R_words C_length C_instructions P_registers O_modulus O_valueOf O_isNeeded O_registerOf V_length V_instructions)) (wc := (W_C kI kZ qC C_length C_instructions)) (wr := (W_XMRPOV kI kZ qX qM qR qP qO qV qC M_nc M_nf X_instructionsDone X_isWorkedOut M_modulus M_side M_size M_cells M_fresh R_length R_words P_registers O_modulus O_valueOf O_isNeeded O_registerOf V_length V_instructions)) (w1 := (W_C kI kZ qC C_length C_instructions)) (w2 := (W_XMRCPOV kI kZ qX qM qR qC qP qO qV M_nc M_nf X_instructionsDone X_isWorkedOut M_modulus M_side M_size M_cells M_fresh R_length R_words C_length C_instructions P_registers O_modulus O_valueOf O_isNeeded O_registerOf V_length V_instructions)) (va_runV (As := []) (rest := [.ref (qM 0)]) ⟨hx, hb, hml, hown, hts⟩ (c_C_result l D kI kZ qC C_length C_instructions r4 hr4 H.size) (z_cwV hts mw_C_result kw_398 ⟨by rw [hR]; exact Nat.le_of_ble_eq_true rfl, by rw [hR]; exact Nat.le_of_ble_eq_true rfl⟩) (z_preV (ci := 0) hK hP hD hN rfl (he := (rfl : _[6]? = _)) [6, 7] (by decide) rfl) rfl rfl hl.1 rfl (lv_room (Nat.le_of_ble_eq_true rfl)) d_X_out_36 ⟨Nat.zero_le _, Nat.zero_le _⟩) hP hD hS hA [6, 7] [0, 1, 2, 3, 4, 5, 8, 9, 10, 11, 12, 13, 14, 15] [0, 1, 2, 3, 4, 5, 14, 15, 6, 7, 8, 9, 10, 11, 12, 13] rfl rfl (by decide) (by decide) rfl (by decide) (fun H locs hP hD hS => ?_)
        refine lv_iload_n hx hb d_X_out_39 rfl (lv_at hl 1 rfl) ?_
        refine lv_iload_n hx hb d_X_out_40 rfl (lv_at hl 2 rfl) ?_
        obtain ⟨r5, hr5, hr⟩ := ob hr
        refine z_ci (ws := (W_XMRCPOV kI kZ qX qM qR qC qP qO qV M_nc M_nf X_instructionsDone X_isWorkedOut M_modulus M_side M_size M_cells M_fresh R_length R_words C_length C_instructions P_registers O_modulus O_valueOf O_isNeeded O_registerOf V_length V_instructions)) (wc := (W_M kI kZ qM M_nc M_nf M_modulus M_side M_size M_cells M_fresh)) (wr := (W_XRCPOV kI kZ qX qR qC qP qO qV qM X_instructionsDone X_isWorkedOut R_length R_words C_length C_instructions P_registers O_modulus O_valueOf O_isNeeded O_registerOf V_length V_instructions)) (w1 := (W_M kI kZ qM M_nc M_nf M_modulus M_side M_size M_cells M_fresh)) (w2 := (W_XMRCPOV kI kZ qX qM qR qC qP qO qV M_nc M_nf X_instructionsDone X_isWorkedOut M_modulus M_side M_size M_cells M_fresh R_length R_words C_length C_instructions P_registers O_modulus O_valueOf O_isNeeded O_registerOf V_length V_instructions)) (va_runV (As := [.int r4, .int a1, .int a2]) (rest := []) ⟨hx, hb, hml, hown, hts⟩ (c_M_get l D kI kZ qM M_nc M_nf M_modulus M_side M_size M_cells M_fresh r4 a1 a2 r5 hr5 H.size) (z_cwV hts mw_M_get kw_399 ⟨by rw [hR]; exact Nat.le_of_ble_eq_true rfl, by rw [hR]; exact Nat.le_of_ble_eq_true rfl⟩) (z_preV (ci := 2) hK hP hD hN rfl (he := (rfl : _[1]? = _)) [1, 2, 3] (by decide) rfl) rfl rfl hl.1 rfl (lv_room (Nat.le_of_ble_eq_true rfl)) d_X_out_41 ⟨Nat.zero_le _, Nat.zero_le _⟩) hP hD hS hA [1, 2, 3] [0, 4, 5, 6, 7, 8, 9, 10, 11, 12, 13, 14, 15] [0, 13, 14, 15, 1, 2, 3, 4, 5, 6, 7, 8, 9, 10, 11, 12] rfl rfl (by decide) (by decide) rfl (by decide) (fun H locs hP hD hS => ?_)
        obtain rfl := Option.some.inj hr
        exact hQ _ _ _ _ _ d_X_out_44 rfl rfl hP hD hS
      · rw [if_pos hc] at hr
        refine lv_iconst (v := (-1 : Int32)) hx hb d_X_out_26 (by decide) ?_
        obtain rfl := Option.some.inj hr
        exact hQ _ _ _ _ _ d_X_out_27 rfl rfl hP hD hS
set_option maxHeartbeats 4000000 in
set_option maxRecDepth 100000 in
theorem c_X_outDirect (l : Launch) (D : va_G) (kI kZ : ClassId) (qX qM qR qC qP qO qV : Nat → Nat) (M_nc M_nf : Nat) (X_instructionsDone X_isWorkedOut M_modulus M_side M_size : Int32) (M_cells M_fresh : Nat → Int32) (R_length : Int32) (R_words : Nat → Int32) (C_length : Int32) (C_instructions P_registers : Nat → Int32) (O_modulus : Int32) (O_valueOf O_isNeeded O_registerOf : Nat → Int32) (V_length : Int32) (V_instructions : Nat → Int32) (a1 a2 : Int32) (res : Int32) (hr : f_X_outDirect M_nc X_isWorkedOut M_side M_size M_cells a1 a2 = some res) : zMi l D kI kZ y_X_outDirect prog_1_method_9_code 3 ((some .int)) 1 23 [.ref (qX 0), .int a1, .int a2] (W_XMRCPOV kI kZ qX qM qR qC qP qO qV M_nc M_nf X_instructionsDone X_isWorkedOut M_modulus M_side M_size M_cells M_fresh R_length R_words C_length C_instructions P_registers O_modulus O_valueOf O_isNeeded O_registerOf V_length V_instructions) (W_XMRCPOV kI kZ qX qM qR qC qP qO qV M_nc M_nf X_instructionsDone X_isWorkedOut M_modulus M_side M_size M_cells M_fresh R_length R_words C_length C_instructions P_registers O_modulus O_valueOf O_isNeeded O_registerOf V_length V_instructions) res := by
  refine zMi.of (by decide +kernel) (Nat.le_of_ble_eq_true rfl) ?_
  intro p e R s m args below meth c Q A hR hx hb hml hts hown hA hK hN hQ
  have hown : s.vm.findClass "SquareCode" = some m.cls := hown
  intro ls H hl hP hD hS
  have hl : lv_has ls 3 [(0, .ref (qX 0)), (1, .int a1), (2, .int a2)] := hl
  rw [f_X_outDirect] at hr
  refine lv_aload_n hx hb d_X_outDirect_0 rfl (lv_at hl 0 rfl) ?_
  refine va_get (D := D) (ci := 5) (v := .int X_isWorkedOut) (C := R_X) (T := T_X) (N := 7) hx hb hts in_X hown hK hP 0 rfl rfl 6 (by decide) (hts _ kw_109) (fun _ h9 => h9) rfl d_X_outDirect_1 ?_
  refine lv_if_eq hx hb d_X_outDirect_4 rfl (fun hc => ?_) (fun hc => ?_)
  · rw [if_pos hc] at hr
    refine lv_iconst (v := (-1 : Int32)) hx hb d_X_outDirect_19 (by decide) ?_
    obtain rfl := Option.some.inj hr
    exact hQ _ _ _ _ _ d_X_outDirect_20 rfl rfl hP hD hS
  · rw [if_neg hc] at hr
    refine lv_aload_n hx hb d_X_outDirect_7 rfl (lv_at hl 0 rfl) ?_
    refine va_get (D := D) (ci := 5) (v := .ref (qM 0)) (C := R_X) (T := T_X) (N := 7) hx hb hts in_X hown hK hP 0 rfl rfl 0 (by decide) (hts _ kw_103) (fun _ h9 => h9) rfl d_X_outDirect_8 ?_
    refine lv_iload_n hx hb d_X_outDirect_11 rfl (lv_at hl 1 rfl) ?_
    refine lv_iload_n hx hb d_X_outDirect_12 rfl (lv_at hl 2 rfl) ?_
    obtain ⟨r1, hr1, hr⟩ := ob hr
    refine z_ci (ws := (W_XMRCPOV kI kZ qX qM qR qC qP qO qV M_nc M_nf X_instructionsDone X_isWorkedOut M_modulus M_side M_size M_cells M_fresh R_length R_words C_length C_instructions P_registers O_modulus O_valueOf O_isNeeded O_registerOf V_length V_instructions)) (wc := (W_M kI kZ qM M_nc M_nf M_modulus M_side M_size M_cells M_fresh)) (wr := (W_XRCPOV kI kZ qX qR qC qP qO qV qM X_instructionsDone X_isWorkedOut R_length R_words C_length C_instructions P_registers O_modulus O_valueOf O_isNeeded O_registerOf V_length V_instructions)) (w1 := (W_M kI kZ qM M_nc M_nf M_modulus M_side M_size M_cells M_fresh)) (w2 := (W_XMRCPOV kI kZ qX qM qR qC qP qO qV M_nc M_nf X_instructionsDone X_isWorkedOut M_modulus M_side M_size M_cells M_fresh R_length R_words C_length C_instructions P_registers O_modulus O_valueOf O_isNeeded O_registerOf V_length V_instructions)) (va_runV (As := [.int a1, .int a2]) (rest := []) ⟨hx, hb, hml, hown, hts⟩ (c_M_hasCell l D kI kZ qM M_nc M_nf M_modulus M_side M_size M_cells M_fresh a1 a2 r1 hr1 H.size) (z_cwV hts mw_M_hasCell kw_149 ⟨by rw [hR]; exact Nat.le_of_ble_eq_true rfl, by rw [hR]; exact Nat.le_of_ble_eq_true rfl⟩) (z_preV (ci := 2) hK hP hD hN rfl (he := (rfl : _[1]? = _)) [1, 2, 3] (by decide) rfl) rfl rfl hl.1 rfl (lv_room (Nat.le_of_ble_eq_true rfl)) d_X_outDirect_13 ⟨Nat.zero_le _, Nat.zero_le _⟩) hP hD hS hA [1, 2, 3] [0, 4, 5, 6, 7, 8, 9, 10, 11, 12, 13, 14, 15] [0, 13, 14, 15, 1, 2, 3, 4, 5, 6, 7, 8, 9, 10, 11, 12] rfl rfl (by decide) (by decide) rfl (by decide) (fun H locs hP hD hS => ?_)
    refine lv_if_ne hx hb d_X_outDirect_16 rfl (fun hc => ?_) (fun hc => ?_)
    · rw [if_neg hc] at hr
      refine lv_aload_n hx hb d_X_outDirect_21 rfl (lv_at hl 0 rfl) ?_
      refine va_get (D := D) (ci := 5) (v := .ref (qM 0)) (C := R_X) (T := T_X) (N := 7) hx hb hts in_X hown hK hP 0 rfl rfl 0 (by decide) (hts _ kw_103) (fun _ h9 => h9) rfl d_X_outDirect_22 ?_
      refine lv_bipush (v := (69 : Int32)) hx hb d_X_outDirect_25 (by decide) ?_
      refine lv_iload_n hx hb d_X_outDirect_27 rfl (lv_at hl 1 rfl) ?_
      refine lv_iload_n hx hb d_X_outDirect_28 rfl (lv_at hl 2 rfl) ?_
      obtain ⟨r2, hr2, hr⟩ := ob hr
      refine z_ci (ws := (W_XMRCPOV kI kZ qX qM qR qC qP qO qV M_nc M_nf X_instructionsDone X_isWorkedOut M_modulus M_side M_size M_cells M_fresh R_length R_words C_length C_instructions P_registers O_modulus O_valueOf O_isNeeded O_registerOf V_length V_instructions)) (wc := (W_M kI kZ qM M_nc M_nf M_modulus M_side M_size M_cells M_fresh)) (wr := (W_XRCPOV kI kZ qX qR qC qP qO qV qM X_instructionsDone X_isWorkedOut R_length R_words C_length C_instructions P_registers O_modulus O_valueOf O_isNeeded O_registerOf V_length V_instructions)) (w1 := (W_M kI kZ qM M_nc M_nf M_modulus M_side M_size M_cells M_fresh)) (w2 := (W_XMRCPOV kI kZ qX qM qR qC qP qO qV M_nc M_nf X_instructionsDone X_isWorkedOut M_modulus M_side M_size M_cells M_fresh R_length R_words C_length C_instructions P_registers O_modulus O_valueOf O_isNeeded O_registerOf V_length V_instructions)) (va_runV (As := [.int (69 : Int32), .int a1, .int a2]) (rest := []) ⟨hx, hb, hml, hown, hts⟩ (c_M_get l D kI kZ qM M_nc M_nf M_modulus M_side M_size M_cells M_fresh (69 : Int32) a1 a2 r2 hr2 H.size) (z_cwV hts mw_M_get kw_399 ⟨by rw [hR]; exact Nat.le_of_ble_eq_true rfl, by rw [hR]; exact Nat.le_of_ble_eq_true rfl⟩) (z_preV (ci := 2) hK hP hD hN rfl (he := (rfl : _[1]? = _)) [1, 2, 3] (by decide) rfl) rfl rfl hl.1 rfl (lv_room (Nat.le_of_ble_eq_true rfl)) d_X_outDirect_29 ⟨Nat.zero_le _, Nat.zero_le _⟩) hP hD hS hA [1, 2, 3] [0, 4, 5, 6, 7, 8, 9, 10, 11, 12, 13, 14, 15] [0, 13, 14, 15, 1, 2, 3, 4, 5, 6, 7, 8, 9, 10, 11, 12] rfl rfl (by decide) (by decide) rfl (by decide) (fun H locs hP hD hS => ?_)
      obtain rfl := Option.some.inj hr
      exact hQ _ _ _ _ _ d_X_outDirect_32 rfl rfl hP hD hS
    · rw [if_pos hc] at hr
      refine lv_iconst (v := (-1 : Int32)) hx hb d_X_outDirect_19 (by decide) ?_
      obtain rfl := Option.some.inj hr
      exact hQ _ _ _ _ _ d_X_outDirect_20 rfl rfl hP hD hS
set_option maxHeartbeats 4000000 in
set_option maxRecDepth 100000 in
theorem c_C_instruction (l : Launch) (D : va_G) (kI kZ : ClassId) (qC : Nat → Nat) (C_length : Int32) (C_instructions : Nat → Int32) (a1 : Int32) (res : Int32) (hr : f_C_instruction C_instructions a1 = some res) : zMi l D kI kZ y_C_instruction prog_2_method_4_code 2 ((some .int)) 0 0 [.ref (qC 0), .int a1] (W_C kI kZ qC C_length C_instructions) (W_C kI kZ qC C_length C_instructions) res := by
  refine zMi.of (by decide +kernel) (Nat.le_of_ble_eq_true rfl) ?_
  intro p e R s m args below meth c Q A hR hx hb hml hts hown hA hK hN hQ
  have hown : s.vm.findClass "SquareCode$Code" = some m.cls := hown
  intro ls H hl hP hD hS
  have hl : lv_has ls 2 [(0, .ref (qC 0)), (1, .int a1)] := hl
  rw [f_C_instruction] at hr
  refine lv_aload_n hx hb d_C_instruction_0 rfl (lv_at hl 0 rfl) ?_
  refine va_get (D := D) (ci := 0) (v := .ref (qC 1)) (C := R_C) (T := T_C) (N := 2) hx hb hts in_C hown hK hP 0 rfl rfl 0 (by decide) (hts _ kw_61) (fun _ h9 => h9) rfl d_C_instruction_1 ?_
  refine lv_iload_n hx hb d_C_instruction_4 rfl (lv_at hl 1 rfl) ?_
  obtain ⟨hi, hr⟩ := gd_some hr
  refine va_iald hx hb hK hP 1 0 rfl rfl hi d_C_instruction_5 ?_
  obtain rfl := Option.some.inj hr
  exact hQ _ _ _ _ _ d_C_instruction_6 rfl rfl hP hD hS
set_option maxHeartbeats 4000000 in
set_option maxRecDepth 100000 in
theorem c_X_codeAt (l : Launch) (D : va_G) (kI kZ : ClassId) (qX qM qR qC qP qO qV : Nat → Nat) (M_nc M_nf : Nat) (X_instructionsDone X_isWorkedOut M_modulus M_side M_size : Int32) (M_cells M_fresh : Nat → Int32) (R_length : Int32) (R_words : Nat → Int32) (C_length : Int32) (C_instructions P_registers : Nat → Int32) (O_modulus : Int32) (O_valueOf O_isNeeded O_registerOf : Nat → Int32) (V_length : Int32) (V_instructions : Nat → Int32) (a1 : Int32) (res : Int32) (hr : f_X_codeAt C_instructions C_length a1 = some res) : zMi l D kI kZ y_X_codeAt prog_1_method_10_code 2 ((some .int)) 1 21 [.ref (qX 0), .int a1] (W_XMRCPOV kI kZ qX qM qR qC qP qO qV M_nc M_nf X_instructionsDone X_isWorkedOut M_modulus M_side M_size M_cells M_fresh R_length R_words C_length C_instructions P_registers O_modulus O_valueOf O_isNeeded O_registerOf V_length V_instructions) (W_XMRCPOV kI kZ qX qM qR qC qP qO qV M_nc M_nf X_instructionsDone X_isWorkedOut M_modulus M_side M_size M_cells M_fresh R_length R_words C_length C_instructions P_registers O_modulus O_valueOf O_isNeeded O_registerOf V_length V_instructions) res := by
  refine zMi.of (by decide +kernel) (Nat.le_of_ble_eq_true rfl) ?_
  intro p e R s m args below meth c Q A hR hx hb hml hts hown hA hK hN hQ
  have hown : s.vm.findClass "SquareCode" = some m.cls := hown
  intro ls H hl hP hD hS
  have hl : lv_has ls 2 [(0, .ref (qX 0)), (1, .int a1)] := hl
  rw [f_X_codeAt] at hr
  refine lv_iload_n hx hb d_X_codeAt_0 rfl (lv_at hl 1 rfl) ?_
  refine lv_if_lt hx hb d_X_codeAt_1 rfl (fun hc => ?_) (fun hc => ?_)
  · rw [if_pos hc] at hr
    refine lv_iconst (v := (-1 : Int32)) hx hb d_X_codeAt_26 (by decide) ?_
    obtain rfl := Option.some.inj hr
    exact hQ _ _ _ _ _ d_X_codeAt_27 rfl rfl hP hD hS
  · rw [if_neg hc] at hr
    refine lv_iload_n hx hb d_X_codeAt_4 rfl (lv_at hl 1 rfl) ?_
    refine lv_aload_n hx hb d_X_codeAt_5 rfl (lv_at hl 0 rfl) ?_
    refine va_get (D := D) (ci := 5) (v := .ref (qC 0)) (C := R_X) (T := T_X) (N := 7) hx hb hts in_X hown hK hP 0 rfl rfl 2 (by decide) (hts _ kw_105) (fun _ h9 => h9) rfl d_X_codeAt_6 ?_
    obtain ⟨r1, hr1, hr⟩ := ob hr
    refine z_ci (ws := (W_XMRCPOV kI kZ qX qM qR qC qP qO qV M_nc M_nf X_instructionsDone X_isWorkedOut M_modulus M_side M_size M_cells M_fresh R_length R_words C_length C_instructions P_registers O_modulus O_valueOf O_isNeeded O_registerOf V_length V_instructions)) (wc := (W_C kI kZ qC C_length C_instructions)) (wr := (W_XMRPOV kI kZ qX qM qR qP qO qV qC M_nc M_nf X_instructionsDone X_isWorkedOut M_modulus M_side M_size M_cells M_fresh R_length R_words P_registers O_modulus O_valueOf O_isNeeded O_registerOf V_length V_instructions)) (w1 := (W_C kI kZ qC C_length C_instructions)) (w2 := (W_XMRCPOV kI kZ qX qM qR qC qP qO qV M_nc M_nf X_instructionsDone X_isWorkedOut M_modulus M_side M_size M_cells M_fresh R_length R_words C_length C_instructions P_registers O_modulus O_valueOf O_isNeeded O_registerOf V_length V_instructions)) (va_runV (As := []) (rest := [.int a1]) ⟨hx, hb, hml, hown, hts⟩ (c_C_length l D kI kZ qC C_length C_instructions r1 hr1 H.size) (z_cwV hts mw_C_length kw_137 ⟨by rw [hR]; exact Nat.le_of_ble_eq_true rfl, by rw [hR]; exact Nat.le_of_ble_eq_true rfl⟩) (z_preV (ci := 0) hK hP hD hN rfl (he := (rfl : _[6]? = _)) [6, 7] (by decide) rfl) rfl rfl hl.1 rfl (lv_room (Nat.le_of_ble_eq_true rfl)) d_X_codeAt_9 ⟨Nat.zero_le _, Nat.zero_le _⟩) hP hD hS hA [6, 7] [0, 1, 2, 3, 4, 5, 8, 9, 10, 11, 12, 13, 14, 15] [0, 1, 2, 3, 4, 5, 14, 15, 6, 7, 8, 9, 10, 11, 12, 13] rfl rfl (by decide) (by decide) rfl (by decide) (fun H locs hP hD hS => ?_)
    refine lv_icmp_ge hx hb d_X_codeAt_12 rfl (fun hc => ?_) (fun hc => ?_)
    · rw [if_pos hc] at hr
      refine lv_iconst (v := (-1 : Int32)) hx hb d_X_codeAt_26 (by decide) ?_
      obtain rfl := Option.some.inj hr
      exact hQ _ _ _ _ _ d_X_codeAt_27 rfl rfl hP hD hS
    · rw [if_neg hc] at hr
      refine lv_aload_n hx hb d_X_codeAt_15 rfl (lv_at hl 0 rfl) ?_
      refine va_get (D := D) (ci := 5) (v := .ref (qC 0)) (C := R_X) (T := T_X) (N := 7) hx hb hts in_X hown hK hP 0 rfl rfl 2 (by decide) (hts _ kw_105) (fun _ h9 => h9) rfl d_X_codeAt_16 ?_
      refine lv_iload_n hx hb d_X_codeAt_19 rfl (lv_at hl 1 rfl) ?_
      obtain ⟨r2, hr2, hr⟩ := ob hr
      refine z_ci (ws := (W_XMRCPOV kI kZ qX qM qR qC qP qO qV M_nc M_nf X_instructionsDone X_isWorkedOut M_modulus M_side M_size M_cells M_fresh R_length R_words C_length C_instructions P_registers O_modulus O_valueOf O_isNeeded O_registerOf V_length V_instructions)) (wc := (W_C kI kZ qC C_length C_instructions)) (wr := (W_XMRPOV kI kZ qX qM qR qP qO qV qC M_nc M_nf X_instructionsDone X_isWorkedOut M_modulus M_side M_size M_cells M_fresh R_length R_words P_registers O_modulus O_valueOf O_isNeeded O_registerOf V_length V_instructions)) (w1 := (W_C kI kZ qC C_length C_instructions)) (w2 := (W_XMRCPOV kI kZ qX qM qR qC qP qO qV M_nc M_nf X_instructionsDone X_isWorkedOut M_modulus M_side M_size M_cells M_fresh R_length R_words C_length C_instructions P_registers O_modulus O_valueOf O_isNeeded O_registerOf V_length V_instructions)) (va_runV (As := [.int a1]) (rest := []) ⟨hx, hb, hml, hown, hts⟩ (c_C_instruction l D kI kZ qC C_length C_instructions a1 r2 hr2 H.size) (z_cwV hts mw_C_instruction kw_408 ⟨by rw [hR]; exact Nat.le_of_ble_eq_true rfl, by rw [hR]; exact Nat.le_of_ble_eq_true rfl⟩) (z_preV (ci := 0) hK hP hD hN rfl (he := (rfl : _[6]? = _)) [6, 7] (by decide) rfl) rfl rfl hl.1 rfl (lv_room (Nat.le_of_ble_eq_true rfl)) d_X_codeAt_20 ⟨Nat.zero_le _, Nat.zero_le _⟩) hP hD hS hA [6, 7] [0, 1, 2, 3, 4, 5, 8, 9, 10, 11, 12, 13, 14, 15] [0, 1, 2, 3, 4, 5, 14, 15, 6, 7, 8, 9, 10, 11, 12, 13] rfl rfl (by decide) (by decide) rfl (by decide) (fun H locs hP hD hS => ?_)
      refine lv_goto hx hb d_X_codeAt_23 rfl ?_
      obtain rfl := Option.some.inj hr
      exact hQ _ _ _ _ _ d_X_codeAt_27 rfl rfl hP hD hS
set_option maxHeartbeats 4000000 in
set_option maxRecDepth 100000 in
theorem c_X_codeSize (l : Launch) (D : va_G) (kI kZ : ClassId) (qX qM qR qC qP qO qV : Nat → Nat) (M_nc M_nf : Nat) (X_instructionsDone X_isWorkedOut M_modulus M_side M_size : Int32) (M_cells M_fresh : Nat → Int32) (R_length : Int32) (R_words : Nat → Int32) (C_length : Int32) (C_instructions P_registers : Nat → Int32) (O_modulus : Int32) (O_valueOf O_isNeeded O_registerOf : Nat → Int32) (V_length : Int32) (V_instructions : Nat → Int32)  (res : Int32) (hr : f_X_codeSize C_length = some res) : zMi l D kI kZ y_X_codeSize prog_1_method_11_code 1 ((some .int)) 2 40 [.ref (qX 0)] (W_XMRCPOV kI kZ qX qM qR qC qP qO qV M_nc M_nf X_instructionsDone X_isWorkedOut M_modulus M_side M_size M_cells M_fresh R_length R_words C_length C_instructions P_registers O_modulus O_valueOf O_isNeeded O_registerOf V_length V_instructions) (W_XMRCPOV kI kZ qX qM qR qC qP qO qV M_nc M_nf X_instructionsDone X_isWorkedOut M_modulus M_side M_size M_cells M_fresh R_length R_words C_length C_instructions P_registers O_modulus O_valueOf O_isNeeded O_registerOf V_length V_instructions) res := by
  refine zMi.of (by decide +kernel) (Nat.le_of_ble_eq_true rfl) ?_
  intro p e R s m args below meth c Q A hR hx hb hml hts hown hA hK hN hQ
  have hown : s.vm.findClass "SquareCode" = some m.cls := hown
  intro ls H hl hP hD hS
  have hl : lv_has ls 1 [(0, .ref (qX 0))] := hl
  rw [f_X_codeSize] at hr
  refine lv_aload_n hx hb d_X_codeSize_0 rfl (lv_at hl 0 rfl) ?_
  obtain ⟨r1, hr1, hr⟩ := ob hr
  refine z_ci (ws := (W_XMRCPOV kI kZ qX qM qR qC qP qO qV M_nc M_nf X_instructionsDone X_isWorkedOut M_modulus M_side M_size M_cells M_fresh R_length R_words C_length C_instructions P_registers O_modulus O_valueOf O_isNeeded O_registerOf V_length V_instructions)) (wc := (W_XMRCPOV kI kZ qX qM qR qC qP qO qV M_nc M_nf X_instructionsDone X_isWorkedOut M_modulus M_side M_size M_cells M_fresh R_length R_words C_length C_instructions P_registers O_modulus O_valueOf O_isNeeded O_registerOf V_length V_instructions)) (wr := ([] : va_W)) (w1 := (W_XMRCPOV kI kZ qX qM qR qC qP qO qV M_nc M_nf X_instructionsDone X_isWorkedOut M_modulus M_side M_size M_cells M_fresh R_length R_words C_length C_instructions P_registers O_modulus O_valueOf O_isNeeded O_registerOf V_length V_instructions)) (w2 := (W_XMRCPOV kI kZ qX qM qR qC qP qO qV M_nc M_nf X_instructionsDone X_isWorkedOut M_modulus M_side M_size M_cells M_fresh R_length R_words C_length C_instructions P_registers O_modulus O_valueOf O_isNeeded O_registerOf V_length V_instructions)) (va_runV (As := []) (rest := []) ⟨hx, hb, hml, hown, hts⟩ (c_X_hasCode l D kI kZ qX qM qR qC qP qO qV M_nc M_nf X_instructionsDone X_isWorkedOut M_modulus M_side M_size M_cells M_fresh R_length R_words C_length C_instructions P_registers O_modulus O_valueOf O_isNeeded O_registerOf V_length V_instructions r1 hr1 H.size) (z_cwV hts mw_X_hasCode kw_133 ⟨by rw [hR]; exact Nat.le_of_ble_eq_true rfl, by rw [hR]; exact Nat.le_of_ble_eq_true rfl⟩) (z_preV (ci := 5) hK hP hD hN rfl (he := (rfl : _[0]? = _)) [0, 1, 2, 3, 4, 5, 6, 7, 8, 9, 10, 11, 12, 13, 14, 15] (by decide) rfl) rfl rfl hl.1 rfl (lv_room (Nat.le_of_ble_eq_true rfl)) d_X_codeSize_1 ⟨Nat.zero_le _, Nat.zero_le _⟩) hP hD hS hA [0, 1, 2, 3, 4, 5, 6, 7, 8, 9, 10, 11, 12, 13, 14, 15] [] [0, 1, 2, 3, 4, 5, 6, 7, 8, 9, 10, 11, 12, 13, 14, 15] rfl rfl (by decide) (by decide) rfl (by decide) (fun H locs hP hD hS => ?_)
  refine lv_if_eq hx hb d_X_codeSize_4 rfl (fun hc => ?_) (fun hc => ?_)
  · rw [if_pos hc] at hr
    refine lv_iconst (v := (-1 : Int32)) hx hb d_X_codeSize_17 (by decide) ?_
    obtain rfl := Option.some.inj hr
    exact hQ _ _ _ _ _ d_X_codeSize_18 rfl rfl hP hD hS
  · rw [if_neg hc] at hr
    refine lv_aload_n hx hb d_X_codeSize_7 rfl (lv_at hl 0 rfl) ?_
    refine va_get (D := D) (ci := 5) (v := .ref (qC 0)) (C := R_X) (T := T_X) (N := 7) hx hb hts in_X hown hK hP 0 rfl rfl 2 (by decide) (hts _ kw_105) (fun _ h9 => h9) rfl d_X_codeSize_8 ?_
    obtain ⟨r2, hr2, hr⟩ := ob hr
    refine z_ci (ws := (W_XMRCPOV kI kZ qX qM qR qC qP qO qV M_nc M_nf X_instructionsDone X_isWorkedOut M_modulus M_side M_size M_cells M_fresh R_length R_words C_length C_instructions P_registers O_modulus O_valueOf O_isNeeded O_registerOf V_length V_instructions)) (wc := (W_C kI kZ qC C_length C_instructions)) (wr := (W_XMRPOV kI kZ qX qM qR qP qO qV qC M_nc M_nf X_instructionsDone X_isWorkedOut M_modulus M_side M_size M_cells M_fresh R_length R_words P_registers O_modulus O_valueOf O_isNeeded O_registerOf V_length V_instructions)) (w1 := (W_C kI kZ qC C_length C_instructions)) (w2 := (W_XMRCPOV kI kZ qX qM qR qC qP qO qV M_nc M_nf X_instructionsDone X_isWorkedOut M_modulus M_side M_size M_cells M_fresh R_length R_words C_length C_instructions P_registers O_modulus O_valueOf O_isNeeded O_registerOf V_length V_instructions)) (va_runV (As := []) (rest := []) ⟨hx, hb, hml, hown, hts⟩ (c_C_length l D kI kZ qC C_length C_instructions r2 hr2 H.size) (z_cwV hts mw_C_length kw_137 ⟨by rw [hR]; exact Nat.le_of_ble_eq_true rfl, by rw [hR]; exact Nat.le_of_ble_eq_true rfl⟩) (z_preV (ci := 0) hK hP hD hN rfl (he := (rfl : _[6]? = _)) [6, 7] (by decide) rfl) rfl rfl hl.1 rfl (lv_room (Nat.le_of_ble_eq_true rfl)) d_X_codeSize_11 ⟨Nat.zero_le _, Nat.zero_le _⟩) hP hD hS hA [6, 7] [0, 1, 2, 3, 4, 5, 8, 9, 10, 11, 12, 13, 14, 15] [0, 1, 2, 3, 4, 5, 14, 15, 6, 7, 8, 9, 10, 11, 12, 13] rfl rfl (by decide) (by decide) rfl (by decide) (fun H locs hP hD hS => ?_)
    refine lv_goto hx hb d_X_codeSize_14 rfl ?_
    obtain rfl := Option.some.inj hr
    exact hQ _ _ _ _ _ d_X_codeSize_18 rfl rfl hP hD hS
set_option maxHeartbeats 4000000 in
set_option maxRecDepth 100000 in
theorem c_C_count (l : Launch) (D : va_G) (kI kZ : ClassId) (qC : Nat → Nat) (C_length : Int32) (C_instructions : Nat → Int32) (a1 : Int32) (res : Int32) (hr : f_C_count C_instructions C_length a1 = some res) : zMi l D kI kZ y_C_count prog_2_method_9_code 4 ((some .int)) 1 21 [.ref (qC 0), .int a1] (W_C kI kZ qC C_length C_instructions) (W_C kI kZ qC C_length C_instructions) res := by
  refine zMi.of (by decide +kernel) (Nat.le_of_ble_eq_true rfl) ?_
  intro p e R s m args below meth c Q A hR hx hb hml hts hown hA hK hN hQ
  have hown : s.vm.findClass "SquareCode$Code" = some m.cls := hown
  have hB4 : ∀ (fu : Nat) (v2 v3 : Int32) (H : Heap) (locs : List Loc) (ls : Array Slot), lv_has ls 4 [(0, .ref (qC 0)), (1, .int a1), (2, .int v2), (3, .int v3)] → va_P D zCl (W_C kI kZ qC C_length C_instructions) H → va_D A (W_C kI kZ qC C_length C_instructions) → va_S A s.heap H locs → f_C_count_4 C_instructions C_length a1 fu v2 v3 = some res → W p l e R s m args below meth c H locs 0 0 Q (F0 m 4 ls []) := by
    intro  fu
    induction fu with
    | zero => intro v2 v3 H locs ls hl hP hD hS hr; exact absurd hr (by rw [f_C_count_4]; exact fun h => by cases h)
    | succ fu ih =>
      intro v2 v3 H locs ls hl hP hD hS hr
      rw [f_C_count_4] at hr
      refine lv_iload_n hx hb d_C_count_4 rfl (lv_at hl 3 rfl) ?_
      refine lv_aload_n hx hb d_C_count_5 rfl (lv_at hl 0 rfl) ?_
      refine va_get (D := D) (ci := 0) (v := .int C_length) (C := R_C) (T := T_C) (N := 2) hx hb hts in_C hown hK hP 0 rfl rfl 1 (by decide) (hts _ kw_62) (fun _ h9 => h9) rfl d_C_count_6 ?_
      refine lv_icmp_ge hx hb d_C_count_9 rfl (fun hc => ?_) (fun hc => ?_)
      · rw [if_pos hc] at hr
        refine lv_iload_n hx hb d_C_count_30 rfl (lv_at hl 2 rfl) ?_
        obtain rfl := Option.some.inj hr
        exact hQ _ _ _ _ _ d_C_count_31 rfl rfl hP hD hS
      · rw [if_neg hc] at hr
        refine lv_aload_n hx hb d_C_count_12 rfl (lv_at hl 0 rfl) ?_
        refine lv_iload_n hx hb d_C_count_13 rfl (lv_at hl 3 rfl) ?_
        obtain ⟨r1, hr1, hr⟩ := ob hr
        refine z_ci (ws := (W_C kI kZ qC C_length C_instructions)) (wc := (W_C kI kZ qC C_length C_instructions)) (wr := ([] : va_W)) (w1 := (W_C kI kZ qC C_length C_instructions)) (w2 := (W_C kI kZ qC C_length C_instructions)) (va_runV (As := [.int v3]) (rest := []) ⟨hx, hb, hml, hown, hts⟩ (c_C_operation l D kI kZ qC C_length C_instructions v3 r1 hr1 H.size) (z_cwV hts mw_C_operation kw_424 ⟨by rw [hR]; exact Nat.le_of_ble_eq_true rfl, by rw [hR]; exact Nat.le_of_ble_eq_true rfl⟩) (z_preV (ci := 0) hK hP hD hN rfl (he := (rfl : _[0]? = _)) [0, 1] (by decide) rfl) rfl rfl hl.1 rfl (lv_room (Nat.le_of_ble_eq_true rfl)) d_C_count_14 ⟨Nat.zero_le _, Nat.zero_le _⟩) hP hD hS hA [0, 1] [] [0, 1] rfl rfl (by decide) (by decide) rfl (by decide) (fun H locs hP hD hS => ?_)
        refine lv_iload_n hx hb d_C_count_17 rfl (lv_at hl 1 rfl) ?_
        refine lv_icmp_ne hx hb d_C_count_18 rfl (fun hc => ?_) (fun hc => ?_)
        · rw [if_neg hc] at hr
          refine lv_iinc (k := 3) (v := (v3 + (1 : Int32))) (lv' := [(3, .int (v3 + (1 : Int32))), (0, .ref (qC 0)), (1, .int a1), (2, .int v2)]) hx hb d_C_count_24 hl rfl (congrArg (fun z => v3 + z) (by decide : Int32.ofInt 1 = (1 : Int32))) (by decide) rfl (fun ls hl => ?_)
          refine lv_goto hx hb d_C_count_27 rfl ?_
          exact ih v2 (v3 + (1 : Int32)) _ _ _ (lv_sub hl [1, 2, 3, 0] rfl) hP hD hS hr
        · rw [if_pos hc] at hr
          refine lv_iinc (k := 2) (v := (v2 + (1 : Int32))) (lv' := [(2, .int (v2 + (1 : Int32))), (0, .ref (qC 0)), (1, .int a1), (3, .int v3)]) hx hb d_C_count_21 hl rfl (congrArg (fun z => v2 + z) (by decide : Int32.ofInt 1 = (1 : Int32))) (by decide) rfl (fun ls hl => ?_)
          refine lv_iinc (k := 3) (v := (v3 + (1 : Int32))) (lv' := [(3, .int (v3 + (1 : Int32))), (2, .int (v2 + (1 : Int32))), (0, .ref (qC 0)), (1, .int a1)]) hx hb d_C_count_24 hl rfl (congrArg (fun z => v3 + z) (by decide : Int32.ofInt 1 = (1 : Int32))) (by decide) rfl (fun ls hl => ?_)
          refine lv_goto hx hb d_C_count_27 rfl ?_
          exact ih (v2 + (1 : Int32)) (v3 + (1 : Int32)) _ _ _ (lv_sub hl [2, 3, 1, 0] rfl) hP hD hS hr
  intro ls H hl hP hD hS
  have hl : lv_has ls 4 [(0, .ref (qC 0)), (1, .int a1)] := hl
  rw [f_C_count] at hr
  refine lv_iconst (v := (0 : Int32)) hx hb d_C_count_0 (by decide) ?_
  refine lv_istore_n (lv' := [(2, .int (0 : Int32)), (0, .ref (qC 0)), (1, .int a1)]) hx hb d_C_count_1 rfl hl (by decide) rfl (fun ls hl => ?_)
  refine lv_iconst (v := (0 : Int32)) hx hb d_C_count_2 (by decide) ?_
  refine lv_istore_n (lv' := [(3, .int (0 : Int32)), (2, .int (0 : Int32)), (0, .ref (qC 0)), (1, .int a1)]) hx hb d_C_count_3 rfl hl (by decide) rfl (fun ls hl => ?_)
  exact hB4 zFU (0 : Int32) (0 : Int32) _ _ _ (lv_sub hl [2, 3, 1, 0] rfl) hP hD hS hr
set_option maxHeartbeats 4000000 in
set_option maxRecDepth 100000 in
theorem c_X_products (l : Launch) (D : va_G) (kI kZ : ClassId) (qX qM qR qC qP qO qV : Nat → Nat) (M_nc M_nf : Nat) (X_instructionsDone X_isWorkedOut M_modulus M_side M_size : Int32) (M_cells M_fresh : Nat → Int32) (R_length : Int32) (R_words : Nat → Int32) (C_length : Int32) (C_instructions P_registers : Nat → Int32) (O_modulus : Int32) (O_valueOf O_isNeeded O_registerOf : Nat → Int32) (V_length : Int32) (V_instructions : Nat → Int32)  (res : Int32) (hr : f_X_products C_instructions C_length = some res) : zMi l D kI kZ y_X_products prog_1_method_12_code 1 ((some .int)) 2 44 [.ref (qX 0)] (W_XMRCPOV kI kZ qX qM qR qC qP qO qV M_nc M_nf X_instructionsDone X_isWorkedOut M_modulus M_side M_size M_cells M_fresh R_length R_words C_length C_instructions P_registers O_modulus O_valueOf O_isNeeded O_registerOf V_length V_instructions) (W_XMRCPOV kI kZ qX qM qR qC qP qO qV M_nc M_nf X_instructionsDone X_isWorkedOut M_modulus M_side M_size M_cells M_fresh R_length R_words C_length C_instructions P_registers O_modulus O_valueOf O_isNeeded O_registerOf V_length V_instructions) res := by
  refine zMi.of (by decide +kernel) (Nat.le_of_ble_eq_true rfl) ?_
  intro p e R s m args below meth c Q A hR hx hb hml hts hown hA hK hN hQ
  have hown : s.vm.findClass "SquareCode" = some m.cls := hown
  intro ls H hl hP hD hS
  have hl : lv_has ls 1 [(0, .ref (qX 0))] := hl
  rw [f_X_products] at hr
  refine lv_aload_n hx hb d_X_products_0 rfl (lv_at hl 0 rfl) ?_
  obtain ⟨r1, hr1, hr⟩ := ob hr
  refine z_ci (ws := (W_XMRCPOV kI kZ qX qM qR qC qP qO qV M_nc M_nf X_instructionsDone X_isWorkedOut M_modulus M_side M_size M_cells M_fresh R_length R_words C_length C_instructions P_registers O_modulus O_valueOf O_isNeeded O_registerOf V_length V_instructions)) (wc := (W_XMRCPOV kI kZ qX qM qR qC qP qO qV M_nc M_nf X_instructionsDone X_isWorkedOut M_modulus M_side M_size M_cells M_fresh R_length R_words C_length C_instructions P_registers O_modulus O_valueOf O_isNeeded O_registerOf V_length V_instructions)) (wr := ([] : va_W)) (w1 := (W_XMRCPOV kI kZ qX qM qR qC qP qO qV M_nc M_nf X_instructionsDone X_isWorkedOut M_modulus M_side M_size M_cells M_fresh R_length R_words C_length C_instructions P_registers O_modulus O_valueOf O_isNeeded O_registerOf V_length V_instructions)) (w2 := (W_XMRCPOV kI kZ qX qM qR qC qP qO qV M_nc M_nf X_instructionsDone X_isWorkedOut M_modulus M_side M_size M_cells M_fresh R_length R_words C_length C_instructions P_registers O_modulus O_valueOf O_isNeeded O_registerOf V_length V_instructions)) (va_runV (As := []) (rest := []) ⟨hx, hb, hml, hown, hts⟩ (c_X_hasCode l D kI kZ qX qM qR qC qP qO qV M_nc M_nf X_instructionsDone X_isWorkedOut M_modulus M_side M_size M_cells M_fresh R_length R_words C_length C_instructions P_registers O_modulus O_valueOf O_isNeeded O_registerOf V_length V_instructions r1 hr1 H.size) (z_cwV hts mw_X_hasCode kw_133 ⟨by rw [hR]; exact Nat.le_of_ble_eq_true rfl, by rw [hR]; exact Nat.le_of_ble_eq_true rfl⟩) (z_preV (ci := 5) hK hP hD hN rfl (he := (rfl : _[0]? = _)) [0, 1, 2, 3, 4, 5, 6, 7, 8, 9, 10, 11, 12, 13, 14, 15] (by decide) rfl) rfl rfl hl.1 rfl (lv_room (Nat.le_of_ble_eq_true rfl)) d_X_products_1 ⟨Nat.zero_le _, Nat.zero_le _⟩) hP hD hS hA [0, 1, 2, 3, 4, 5, 6, 7, 8, 9, 10, 11, 12, 13, 14, 15] [] [0, 1, 2, 3, 4, 5, 6, 7, 8, 9, 10, 11, 12, 13, 14, 15] rfl rfl (by decide) (by decide) rfl (by decide) (fun H locs hP hD hS => ?_)
  refine lv_if_eq hx hb d_X_products_4 rfl (fun hc => ?_) (fun hc => ?_)
  · rw [if_pos hc] at hr
    refine lv_iconst (v := (-1 : Int32)) hx hb d_X_products_18 (by decide) ?_
    obtain rfl := Option.some.inj hr
    exact hQ _ _ _ _ _ d_X_products_19 rfl rfl hP hD hS
  · rw [if_neg hc] at hr
    refine lv_aload_n hx hb d_X_products_7 rfl (lv_at hl 0 rfl) ?_
    refine va_get (D := D) (ci := 5) (v := .ref (qC 0)) (C := R_X) (T := T_X) (N := 7) hx hb hts in_X hown hK hP 0 rfl rfl 2 (by decide) (hts _ kw_105) (fun _ h9 => h9) rfl d_X_products_8 ?_
    refine lv_iconst (v := (5 : Int32)) hx hb d_X_products_11 (by decide) ?_
    obtain ⟨r2, hr2, hr⟩ := ob hr
    refine z_ci (ws := (W_XMRCPOV kI kZ qX qM qR qC qP qO qV M_nc M_nf X_instructionsDone X_isWorkedOut M_modulus M_side M_size M_cells M_fresh R_length R_words C_length C_instructions P_registers O_modulus O_valueOf O_isNeeded O_registerOf V_length V_instructions)) (wc := (W_C kI kZ qC C_length C_instructions)) (wr := (W_XMRPOV kI kZ qX qM qR qP qO qV qC M_nc M_nf X_instructionsDone X_isWorkedOut M_modulus M_side M_size M_cells M_fresh R_length R_words P_registers O_modulus O_valueOf O_isNeeded O_registerOf V_length V_instructions)) (w1 := (W_C kI kZ qC C_length C_instructions)) (w2 := (W_XMRCPOV kI kZ qX qM qR qC qP qO qV M_nc M_nf X_instructionsDone X_isWorkedOut M_modulus M_side M_size M_cells M_fresh R_length R_words C_length C_instructions P_registers O_modulus O_valueOf O_isNeeded O_registerOf V_length V_instructions)) (va_runV (As := [.int (5 : Int32)]) (rest := []) ⟨hx, hb, hml, hown, hts⟩ (c_C_count l D kI kZ qC C_length C_instructions (5 : Int32) r2 hr2 H.size) (z_cwV hts mw_C_count kw_420 ⟨by rw [hR]; exact Nat.le_of_ble_eq_true rfl, by rw [hR]; exact Nat.le_of_ble_eq_true rfl⟩) (z_preV (ci := 0) hK hP hD hN rfl (he := (rfl : _[6]? = _)) [6, 7] (by decide) rfl) rfl rfl hl.1 rfl (lv_room (Nat.le_of_ble_eq_true rfl)) d_X_products_12 ⟨Nat.zero_le _, Nat.zero_le _⟩) hP hD hS hA [6, 7] [0, 1, 2, 3, 4, 5, 8, 9, 10, 11, 12, 13, 14, 15] [0, 1, 2, 3, 4, 5, 14, 15, 6, 7, 8, 9, 10, 11, 12, 13] rfl rfl (by decide) (by decide) rfl (by decide) (fun H locs hP hD hS => ?_)
    refine lv_goto hx hb d_X_products_15 rfl ?_
    obtain rfl := Option.some.inj hr
    exact hQ _ _ _ _ _ d_X_products_19 rfl rfl hP hD hS
end
