section
-- ===== PART A: goes FIRST, ahead of the names: the tables' words, and 'selects' of the private methods out of them =====
/-- a private method of a class that the tables say can be made, by its rows of tables_1 -/
def lw_okq (q : MethodName × Nat) : Prop := (q.1.cls ≠ "java/lang/invoke/MethodHandle" ∧ q.1.cls ≠ "java/lang/invoke/VarHandle") ∧ Cond.instantiable q.1.cls q.2 ∈ tables_1 ∧ Cond.privateMethod q.1 ∈ tables_1 ∧ Cond.instanceMethod q.1 ∈ tables_1
theorem lw_p0 : lw_okq (⟨"SquareCode", "hasCode", "()Z"⟩, 7) := ⟨⟨by decide +kernel, by decide +kernel⟩, List.mem_of_getElem? (i := 12) (by decide +kernel), List.mem_of_getElem? (i := 134) (by decide +kernel), List.mem_of_getElem? (i := 135) (by decide +kernel)⟩
theorem lw_p1 : lw_okq (⟨"SquareCode", "rewind", "()V"⟩, 7) := ⟨⟨by decide +kernel, by decide +kernel⟩, List.mem_of_getElem? (i := 12) (by decide +kernel), List.mem_of_getElem? (i := 161) (by decide +kernel), List.mem_of_getElem? (i := 162) (by decide +kernel)⟩
theorem lw_p2 : lw_okq (⟨"SquareCode$Compiler", "instructionsFor", "(IIILSquareCode$Code;)I"⟩, 1) := ⟨⟨by decide +kernel, by decide +kernel⟩, List.mem_of_getElem? (i := 69) (by decide +kernel), List.mem_of_getElem? (i := 218) (by decide +kernel), List.mem_of_getElem? (i := 219) (by decide +kernel)⟩
theorem lw_p3 : lw_okq (⟨"SquareCode$Optimiser", "value", "(III)I"⟩, 5) := ⟨⟨by decide +kernel, by decide +kernel⟩, List.mem_of_getElem? (i := 79) (by decide +kernel), List.mem_of_getElem? (i := 258) (by decide +kernel), List.mem_of_getElem? (i := 259) (by decide +kernel)⟩
theorem lw_p4 : lw_okq (⟨"SquareCode$Optimiser", "sum", "(II)I"⟩, 5) := ⟨⟨by decide +kernel, by decide +kernel⟩, List.mem_of_getElem? (i := 79) (by decide +kernel), List.mem_of_getElem? (i := 262) (by decide +kernel), List.mem_of_getElem? (i := 263) (by decide +kernel)⟩
theorem lw_p5 : lw_okq (⟨"SquareCode$Optimiser", "is", "(II)Z"⟩, 5) := ⟨⟨by decide +kernel, by decide +kernel⟩, List.mem_of_getElem? (i := 79) (by decide +kernel), List.mem_of_getElem? (i := 266) (by decide +kernel), List.mem_of_getElem? (i := 267) (by decide +kernel)⟩
theorem lw_p6 : lw_okq (⟨"SquareCode$Optimiser", "difference", "(II)I"⟩, 5) := ⟨⟨by decide +kernel, by decide +kernel⟩, List.mem_of_getElem? (i := 79) (by decide +kernel), List.mem_of_getElem? (i := 281) (by decide +kernel), List.mem_of_getElem? (i := 282) (by decide +kernel)⟩
theorem lw_p7 : lw_okq (⟨"SquareCode$Optimiser", "nought", "()I"⟩, 5) := ⟨⟨by decide +kernel, by decide +kernel⟩, List.mem_of_getElem? (i := 79) (by decide +kernel), List.mem_of_getElem? (i := 285) (by decide +kernel), List.mem_of_getElem? (i := 286) (by decide +kernel)⟩
theorem lw_p8 : lw_okq (⟨"SquareCode$Optimiser", "product", "(II)I"⟩, 5) := ⟨⟨by decide +kernel, by decide +kernel⟩, List.mem_of_getElem? (i := 79) (by decide +kernel), List.mem_of_getElem? (i := 289) (by decide +kernel), List.mem_of_getElem? (i := 290) (by decide +kernel)⟩
theorem lw_p9 : lw_okq (⟨"SquareCode$Optimiser", "turned", "(I)I"⟩, 5) := ⟨⟨by decide +kernel, by decide +kernel⟩, List.mem_of_getElem? (i := 79) (by decide +kernel), List.mem_of_getElem? (i := 293) (by decide +kernel), List.mem_of_getElem? (i := 294) (by decide +kernel)⟩
theorem lw_p10 : lw_okq (⟨"SquareCode$Optimiser", "scaled", "(II)I"⟩, 5) := ⟨⟨by decide +kernel, by decide +kernel⟩, List.mem_of_getElem? (i := 79) (by decide +kernel), List.mem_of_getElem? (i := 297) (by decide +kernel), List.mem_of_getElem? (i := 298) (by decide +kernel)⟩
theorem lw_p11 : lw_okq (⟨"SquareCode$Optimiser", "markNeeded", "(I)V"⟩, 5) := ⟨⟨by decide +kernel, by decide +kernel⟩, List.mem_of_getElem? (i := 79) (by decide +kernel), List.mem_of_getElem? (i := 305) (by decide +kernel), List.mem_of_getElem? (i := 306) (by decide +kernel)⟩
theorem lw_p12 : lw_okq (⟨"SquareCode$Optimiser", "rewrite", "(LSquareCode$Code;)V"⟩, 5) := ⟨⟨by decide +kernel, by decide +kernel⟩, List.mem_of_getElem? (i := 79) (by decide +kernel), List.mem_of_getElem? (i := 310) (by decide +kernel), List.mem_of_getElem? (i := 311) (by decide +kernel)⟩
theorem lw_p13 : lw_okq (⟨"SquareCode$Optimiser", "rewritten", "(ILSquareCode$Code;)I"⟩, 5) := ⟨⟨by decide +kernel, by decide +kernel⟩, List.mem_of_getElem? (i := 79) (by decide +kernel), List.mem_of_getElem? (i := 314) (by decide +kernel), List.mem_of_getElem? (i := 315) (by decide +kernel)⟩
theorem lw_p14 : lw_okq (⟨"SquareCode$Matrices", "makeOne", "(I)V"⟩, 5) := ⟨⟨by decide +kernel, by decide +kernel⟩, List.mem_of_getElem? (i := 20) (by decide +kernel), List.mem_of_getElem? (i := 339) (by decide +kernel), List.mem_of_getElem? (i := 340) (by decide +kernel)⟩
theorem lw_p15 : lw_okq (⟨"SquareCode$Matrices", "combine", "(IIII)V"⟩, 5) := ⟨⟨by decide +kernel, by decide +kernel⟩, List.mem_of_getElem? (i := 20) (by decide +kernel), List.mem_of_getElem? (i := 348) (by decide +kernel), List.mem_of_getElem? (i := 349) (by decide +kernel)⟩
def lw_privs_1 : List (MethodName × Nat) := [(⟨"SquareCode", "hasCode", "()Z"⟩, 7), (⟨"SquareCode", "rewind", "()V"⟩, 7), (⟨"SquareCode$Compiler", "instructionsFor", "(IIILSquareCode$Code;)I"⟩, 1), (⟨"SquareCode$Optimiser", "value", "(III)I"⟩, 5), (⟨"SquareCode$Optimiser", "sum", "(II)I"⟩, 5), (⟨"SquareCode$Optimiser", "is", "(II)Z"⟩, 5), (⟨"SquareCode$Optimiser", "difference", "(II)I"⟩, 5), (⟨"SquareCode$Optimiser", "nought", "()I"⟩, 5), (⟨"SquareCode$Optimiser", "product", "(II)I"⟩, 5), (⟨"SquareCode$Optimiser", "turned", "(I)I"⟩, 5), (⟨"SquareCode$Optimiser", "scaled", "(II)I"⟩, 5), (⟨"SquareCode$Optimiser", "markNeeded", "(I)V"⟩, 5), (⟨"SquareCode$Optimiser", "rewrite", "(LSquareCode$Code;)V"⟩, 5), (⟨"SquareCode$Optimiser", "rewritten", "(ILSquareCode$Code;)I"⟩, 5), (⟨"SquareCode$Matrices", "makeOne", "(I)V"⟩, 5), (⟨"SquareCode$Matrices", "combine", "(IIII)V"⟩, 5)]
theorem lw_r1 : ∀ q ∈ lw_privs_1, lw_okq q := List.forall_mem_cons.mpr ⟨lw_p0, List.forall_mem_cons.mpr ⟨lw_p1, List.forall_mem_cons.mpr ⟨lw_p2, List.forall_mem_cons.mpr ⟨lw_p3, List.forall_mem_cons.mpr ⟨lw_p4, List.forall_mem_cons.mpr ⟨lw_p5, List.forall_mem_cons.mpr ⟨lw_p6, List.forall_mem_cons.mpr ⟨lw_p7, List.forall_mem_cons.mpr ⟨lw_p8, List.forall_mem_cons.mpr ⟨lw_p9, List.forall_mem_cons.mpr ⟨lw_p10, List.forall_mem_cons.mpr ⟨lw_p11, List.forall_mem_cons.mpr ⟨lw_p12, List.forall_mem_cons.mpr ⟨lw_p13, List.forall_mem_cons.mpr ⟨lw_p14, List.forall_mem_cons.mpr ⟨lw_p15, fun _ h => absurd h List.not_mem_nil⟩⟩⟩⟩⟩⟩⟩⟩⟩⟩⟩⟩⟩⟩⟩⟩
theorem lw_p16 : lw_okq (⟨"SquareCode$Matrices", "multiply", "(III)V"⟩, 5) := ⟨⟨by decide +kernel, by decide +kernel⟩, List.mem_of_getElem? (i := 20) (by decide +kernel), List.mem_of_getElem? (i := 352) (by decide +kernel), List.mem_of_getElem? (i := 353) (by decide +kernel)⟩
theorem lw_p17 : lw_okq (⟨"SquareCode$Matrices", "keepFresh", "(I)V"⟩, 5) := ⟨⟨by decide +kernel, by decide +kernel⟩, List.mem_of_getElem? (i := 20) (by decide +kernel), List.mem_of_getElem? (i := 360) (by decide +kernel), List.mem_of_getElem? (i := 361) (by decide +kernel)⟩
theorem lw_p18 : lw_okq (⟨"SquareCode$Matrices", "turn", "(II)V"⟩, 5) := ⟨⟨by decide +kernel, by decide +kernel⟩, List.mem_of_getElem? (i := 20) (by decide +kernel), List.mem_of_getElem? (i := 364) (by decide +kernel), List.mem_of_getElem? (i := 365) (by decide +kernel)⟩
theorem lw_p19 : lw_okq (⟨"SquareCode$Matrices", "scale", "(III)V"⟩, 5) := ⟨⟨by decide +kernel, by decide +kernel⟩, List.mem_of_getElem? (i := 20) (by decide +kernel), List.mem_of_getElem? (i := 368) (by decide +kernel), List.mem_of_getElem? (i := 369) (by decide +kernel)⟩
theorem lw_p20 : lw_okq (⟨"SquareCode", "isAllDone", "()Z"⟩, 7) := ⟨⟨by decide +kernel, by decide +kernel⟩, List.mem_of_getElem? (i := 12) (by decide +kernel), List.mem_of_getElem? (i := 372) (by decide +kernel), List.mem_of_getElem? (i := 373) (by decide +kernel)⟩
theorem lw_p21 : lw_okq (⟨"SquareCode", "workOut", "()V"⟩, 7) := ⟨⟨by decide +kernel, by decide +kernel⟩, List.mem_of_getElem? (i := 12) (by decide +kernel), List.mem_of_getElem? (i := 380) (by decide +kernel), List.mem_of_getElem? (i := 381) (by decide +kernel)⟩
theorem lw_p22 : lw_okq (⟨"SquareCodeModel", "isPlace", "(II)Z"⟩, 24) := ⟨⟨by decide +kernel, by decide +kernel⟩, List.mem_of_getElem? (i := 439) (by decide +kernel), List.mem_of_getElem? (i := 529) (by decide +kernel), List.mem_of_getElem? (i := 530) (by decide +kernel)⟩
theorem lw_p23 : lw_okq (⟨"SquareCodeModel", "mod", "(I)I"⟩, 24) := ⟨⟨by decide +kernel, by decide +kernel⟩, List.mem_of_getElem? (i := 439) (by decide +kernel), List.mem_of_getElem? (i := 533) (by decide +kernel), List.mem_of_getElem? (i := 534) (by decide +kernel)⟩
theorem lw_p24 : lw_okq (⟨"SquareCodeModel", "put", "(IIII)V"⟩, 24) := ⟨⟨by decide +kernel, by decide +kernel⟩, List.mem_of_getElem? (i := 439) (by decide +kernel), List.mem_of_getElem? (i := 537) (by decide +kernel), List.mem_of_getElem? (i := 538) (by decide +kernel)⟩
theorem lw_p25 : lw_okq (⟨"SquareCodeModel", "fault", "()I"⟩, 24) := ⟨⟨by decide +kernel, by decide +kernel⟩, List.mem_of_getElem? (i := 439) (by decide +kernel), List.mem_of_getElem? (i := 545) (by decide +kernel), List.mem_of_getElem? (i := 546) (by decide +kernel)⟩
theorem lw_p26 : lw_okq (⟨"SquareCodeModel", "raise", "(II)V"⟩, 24) := ⟨⟨by decide +kernel, by decide +kernel⟩, List.mem_of_getElem? (i := 439) (by decide +kernel), List.mem_of_getElem? (i := 558) (by decide +kernel), List.mem_of_getElem? (i := 559) (by decide +kernel)⟩
theorem lw_p27 : lw_okq (⟨"SquareCodeModel", "copy", "(II)V"⟩, 24) := ⟨⟨by decide +kernel, by decide +kernel⟩, List.mem_of_getElem? (i := 439) (by decide +kernel), List.mem_of_getElem? (i := 562) (by decide +kernel), List.mem_of_getElem? (i := 563) (by decide +kernel)⟩
theorem lw_p28 : lw_okq (⟨"SquareCodeModel", "operate", "(IIIII)V"⟩, 24) := ⟨⟨by decide +kernel, by decide +kernel⟩, List.mem_of_getElem? (i := 439) (by decide +kernel), List.mem_of_getElem? (i := 566) (by decide +kernel), List.mem_of_getElem? (i := 567) (by decide +kernel)⟩
theorem lw_p29 : lw_okq (⟨"SquareCodeModel", "get", "(III)I"⟩, 24) := ⟨⟨by decide +kernel, by decide +kernel⟩, List.mem_of_getElem? (i := 439) (by decide +kernel), List.mem_of_getElem? (i := 570) (by decide +kernel), List.mem_of_getElem? (i := 571) (by decide +kernel)⟩
theorem lw_p30 : lw_okq (⟨"SquareCodeModel", "writePower", "(II)I"⟩, 24) := ⟨⟨by decide +kernel, by decide +kernel⟩, List.mem_of_getElem? (i := 439) (by decide +kernel), List.mem_of_getElem? (i := 584) (by decide +kernel), List.mem_of_getElem? (i := 585) (by decide +kernel)⟩
theorem lw_p31 : lw_okq (⟨"SquareCodeModel", "write", "(IIII)I"⟩, 24) := ⟨⟨by decide +kernel, by decide +kernel⟩, List.mem_of_getElem? (i := 439) (by decide +kernel), List.mem_of_getElem? (i := 588) (by decide +kernel), List.mem_of_getElem? (i := 589) (by decide +kernel)⟩
def lw_privs_2 : List (MethodName × Nat) := [(⟨"SquareCode$Matrices", "multiply", "(III)V"⟩, 5), (⟨"SquareCode$Matrices", "keepFresh", "(I)V"⟩, 5), (⟨"SquareCode$Matrices", "turn", "(II)V"⟩, 5), (⟨"SquareCode$Matrices", "scale", "(III)V"⟩, 5), (⟨"SquareCode", "isAllDone", "()Z"⟩, 7), (⟨"SquareCode", "workOut", "()V"⟩, 7), (⟨"SquareCodeModel", "isPlace", "(II)Z"⟩, 24), (⟨"SquareCodeModel", "mod", "(I)I"⟩, 24), (⟨"SquareCodeModel", "put", "(IIII)V"⟩, 24), (⟨"SquareCodeModel", "fault", "()I"⟩, 24), (⟨"SquareCodeModel", "raise", "(II)V"⟩, 24), (⟨"SquareCodeModel", "copy", "(II)V"⟩, 24), (⟨"SquareCodeModel", "operate", "(IIIII)V"⟩, 24), (⟨"SquareCodeModel", "get", "(III)I"⟩, 24), (⟨"SquareCodeModel", "writePower", "(II)I"⟩, 24), (⟨"SquareCodeModel", "write", "(IIII)I"⟩, 24)]
theorem lw_r2 : ∀ q ∈ lw_privs_2, lw_okq q := List.forall_mem_cons.mpr ⟨lw_p16, List.forall_mem_cons.mpr ⟨lw_p17, List.forall_mem_cons.mpr ⟨lw_p18, List.forall_mem_cons.mpr ⟨lw_p19, List.forall_mem_cons.mpr ⟨lw_p20, List.forall_mem_cons.mpr ⟨lw_p21, List.forall_mem_cons.mpr ⟨lw_p22, List.forall_mem_cons.mpr ⟨lw_p23, List.forall_mem_cons.mpr ⟨lw_p24, List.forall_mem_cons.mpr ⟨lw_p25, List.forall_mem_cons.mpr ⟨lw_p26, List.forall_mem_cons.mpr ⟨lw_p27, List.forall_mem_cons.mpr ⟨lw_p28, List.forall_mem_cons.mpr ⟨lw_p29, List.forall_mem_cons.mpr ⟨lw_p30, List.forall_mem_cons.mpr ⟨lw_p31, fun _ h => absurd h List.not_mem_nil⟩⟩⟩⟩⟩⟩⟩⟩⟩⟩⟩⟩⟩⟩⟩⟩
theorem lw_p32 : lw_okq (⟨"SquareCodeModel", "valueOfInstruction", "(I)I"⟩, 24) := ⟨⟨by decide +kernel, by decide +kernel⟩, List.mem_of_getElem? (i := 439) (by decide +kernel), List.mem_of_getElem? (i := 596) (by decide +kernel), List.mem_of_getElem? (i := 597) (by decide +kernel)⟩
theorem lw_p33 : lw_okq (⟨"SquareCodeModel", "added", "(II)I"⟩, 24) := ⟨⟨by decide +kernel, by decide +kernel⟩, List.mem_of_getElem? (i := 439) (by decide +kernel), List.mem_of_getElem? (i := 600) (by decide +kernel), List.mem_of_getElem? (i := 601) (by decide +kernel)⟩
theorem lw_p34 : lw_okq (⟨"SquareCodeModel", "value", "(IIII)I"⟩, 24) := ⟨⟨by decide +kernel, by decide +kernel⟩, List.mem_of_getElem? (i := 439) (by decide +kernel), List.mem_of_getElem? (i := 604) (by decide +kernel), List.mem_of_getElem? (i := 605) (by decide +kernel)⟩
theorem lw_p35 : lw_okq (⟨"SquareCodeModel", "less", "(II)I"⟩, 24) := ⟨⟨by decide +kernel, by decide +kernel⟩, List.mem_of_getElem? (i := 439) (by decide +kernel), List.mem_of_getElem? (i := 608) (by decide +kernel), List.mem_of_getElem? (i := 609) (by decide +kernel)⟩
theorem lw_p36 : lw_okq (⟨"SquareCodeModel", "noughts", "()I"⟩, 24) := ⟨⟨by decide +kernel, by decide +kernel⟩, List.mem_of_getElem? (i := 439) (by decide +kernel), List.mem_of_getElem? (i := 612) (by decide +kernel), List.mem_of_getElem? (i := 613) (by decide +kernel)⟩
theorem lw_p37 : lw_okq (⟨"SquareCodeModel", "times", "(II)I"⟩, 24) := ⟨⟨by decide +kernel, by decide +kernel⟩, List.mem_of_getElem? (i := 439) (by decide +kernel), List.mem_of_getElem? (i := 616) (by decide +kernel), List.mem_of_getElem? (i := 617) (by decide +kernel)⟩
theorem lw_p38 : lw_okq (⟨"SquareCodeModel", "turned", "(I)I"⟩, 24) := ⟨⟨by decide +kernel, by decide +kernel⟩, List.mem_of_getElem? (i := 439) (by decide +kernel), List.mem_of_getElem? (i := 620) (by decide +kernel), List.mem_of_getElem? (i := 621) (by decide +kernel)⟩
theorem lw_p39 : lw_okq (⟨"SquareCodeModel", "scaled", "(II)I"⟩, 24) := ⟨⟨by decide +kernel, by decide +kernel⟩, List.mem_of_getElem? (i := 439) (by decide +kernel), List.mem_of_getElem? (i := 624) (by decide +kernel), List.mem_of_getElem? (i := 625) (by decide +kernel)⟩
def lw_privs_3 : List (MethodName × Nat) := [(⟨"SquareCodeModel", "valueOfInstruction", "(I)I"⟩, 24), (⟨"SquareCodeModel", "added", "(II)I"⟩, 24), (⟨"SquareCodeModel", "value", "(IIII)I"⟩, 24), (⟨"SquareCodeModel", "less", "(II)I"⟩, 24), (⟨"SquareCodeModel", "noughts", "()I"⟩, 24), (⟨"SquareCodeModel", "times", "(II)I"⟩, 24), (⟨"SquareCodeModel", "turned", "(I)I"⟩, 24), (⟨"SquareCodeModel", "scaled", "(II)I"⟩, 24)]
theorem lw_r3 : ∀ q ∈ lw_privs_3, lw_okq q := List.forall_mem_cons.mpr ⟨lw_p32, List.forall_mem_cons.mpr ⟨lw_p33, List.forall_mem_cons.mpr ⟨lw_p34, List.forall_mem_cons.mpr ⟨lw_p35, List.forall_mem_cons.mpr ⟨lw_p36, List.forall_mem_cons.mpr ⟨lw_p37, List.forall_mem_cons.mpr ⟨lw_p38, List.forall_mem_cons.mpr ⟨lw_p39, fun _ h => absurd h List.not_mem_nil⟩⟩⟩⟩⟩⟩⟩⟩
def lw_privs : List (MethodName × Nat) := lw_privs_1 ++ (lw_privs_2 ++ (lw_privs_3))
def lw_tbl : List Cond := k2_sels lw_privs ++ tables_1
theorem lw_privs_ok : ∀ q ∈ lw_privs, lw_okq q := by
  show ∀ q ∈ lw_privs_1 ++ (lw_privs_2 ++ (lw_privs_3)), lw_okq q
  exact List.forall_mem_append.mpr ⟨lw_r1, List.forall_mem_append.mpr ⟨lw_r2, lw_r3⟩⟩
end
section
abbrev R_C : String := "SquareCode$Code"
def T_C : u_T := fun k => match k with
  | 0 => ("SquareCode$Code", "instructions", "[I", true)
  | _ => ("SquareCode$Code", "length", "I", false)
def ty_C : Nat → FieldType := fun k => match k with
  | 0 => .array .int
  | _ => .int
theorem nm_C : ∀ a, a < 2 → ∀ b, b < 2 → a ≠ b → (T_C a).2.1 ≠ (T_C b).2.1 := by decide +kernel
theorem tyo_C : ∀ k, k < 2 → parseFieldDescriptor (T_C k).2.2.1 = some (ty_C k) := by decide +kernel
abbrev R_P : String := "SquareCode$Compiler"
def T_P : u_T := fun k => match k with
  | _ => ("SquareCode$Compiler", "registers", "[I", true)
def ty_P : Nat → FieldType := fun k => match k with
  | _ => .array .int
theorem nm_P : ∀ a, a < 1 → ∀ b, b < 1 → a ≠ b → (T_P a).2.1 ≠ (T_P b).2.1 := by decide +kernel
theorem tyo_P : ∀ k, k < 1 → parseFieldDescriptor (T_P k).2.2.1 = some (ty_P k) := by decide +kernel
abbrev R_M : String := "SquareCode$Matrices"
def T_M : u_T := fun k => match k with
  | 0 => ("SquareCode$Matrices", "modulus", "I", true)
  | 1 => ("SquareCode$Matrices", "side", "I", true)
  | 2 => ("SquareCode$Matrices", "size", "I", true)
  | 3 => ("SquareCode$Matrices", "cells", "[I", true)
  | _ => ("SquareCode$Matrices", "fresh", "[I", true)
def ty_M : Nat → FieldType := fun k => match k with
  | 0 => .int
  | 1 => .int
  | 2 => .int
  | 3 => .array .int
  | _ => .array .int
theorem nm_M : ∀ a, a < 5 → ∀ b, b < 5 → a ≠ b → (T_M a).2.1 ≠ (T_M b).2.1 := by decide +kernel
theorem tyo_M : ∀ k, k < 5 → parseFieldDescriptor (T_M k).2.2.1 = some (ty_M k) := by decide +kernel
abbrev R_O : String := "SquareCode$Optimiser"
def T_O : u_T := fun k => match k with
  | 0 => ("SquareCode$Optimiser", "modulus", "I", true)
  | 1 => ("SquareCode$Optimiser", "values", "LSquareCode$Code;", true)
  | 2 => ("SquareCode$Optimiser", "valueOf", "[I", true)
  | 3 => ("SquareCode$Optimiser", "isNeeded", "[Z", true)
  | _ => ("SquareCode$Optimiser", "registerOf", "[I", true)
def ty_O : Nat → FieldType := fun k => match k with
  | 0 => .int
  | 1 => .object "SquareCode$Code"
  | 2 => .array .int
  | 3 => .array .boolean
  | _ => .array .int
theorem nm_O : ∀ a, a < 5 → ∀ b, b < 5 → a ≠ b → (T_O a).2.1 ≠ (T_O b).2.1 := by decide +kernel
theorem tyo_O : ∀ k, k < 5 → parseFieldDescriptor (T_O k).2.2.1 = some (ty_O k) := by decide +kernel
abbrev R_R : String := "SquareCode$Source"
def T_R : u_T := fun k => match k with
  | 0 => ("SquareCode$Source", "words", "[I", true)
  | _ => ("SquareCode$Source", "length", "I", false)
def ty_R : Nat → FieldType := fun k => match k with
  | 0 => .array .int
  | _ => .int
theorem nm_R : ∀ a, a < 2 → ∀ b, b < 2 → a ≠ b → (T_R a).2.1 ≠ (T_R b).2.1 := by decide +kernel
theorem tyo_R : ∀ k, k < 2 → parseFieldDescriptor (T_R k).2.2.1 = some (ty_R k) := by decide +kernel
abbrev R_X : String := "SquareCode"
def T_X : u_T := fun k => match k with
  | 0 => ("SquareCode", "matrices", "LSquareCode$Matrices;", true)
  | 1 => ("SquareCode", "source", "LSquareCode$Source;", true)
  | 2 => ("SquareCode", "code", "LSquareCode$Code;", true)
  | 3 => ("SquareCode", "compiler", "LSquareCode$Compiler;", true)
  | 4 => ("SquareCode", "optimiser", "LSquareCode$Optimiser;", true)
  | 5 => ("SquareCode", "instructionsDone", "I", false)
  | _ => ("SquareCode", "isWorkedOut", "Z", false)
def ty_X : Nat → FieldType := fun k => match k with
  | 0 => .object "SquareCode$Matrices"
  | 1 => .object "SquareCode$Source"
  | 2 => .object "SquareCode$Code"
  | 3 => .object "SquareCode$Compiler"
  | 4 => .object "SquareCode$Optimiser"
  | 5 => .int
  | _ => .boolean
theorem nm_X : ∀ a, a < 7 → ∀ b, b < 7 → a ≠ b → (T_X a).2.1 ≠ (T_X b).2.1 := by decide +kernel
theorem tyo_X : ∀ k, k < 7 → parseFieldDescriptor (T_X k).2.2.1 = some (ty_X k) := by decide +kernel
abbrev R_N : String := "SquareCodeModel"
def T_N : u_T := fun k => match k with
  | 0 => ("SquareCodeModel", "p", "I", true)
  | 1 => ("SquareCodeModel", "n", "I", true)
  | 2 => ("SquareCodeModel", "words", "I", false)
  | 3 => ("SquareCodeModel", "word", "[I", true)
  | 4 => ("SquareCodeModel", "table", "[I", true)
  | 5 => ("SquareCodeModel", "direct", "[I", true)
  | 6 => ("SquareCodeModel", "hasDirect", "Z", false)
  | 7 => ("SquareCodeModel", "compiled", "Z", false)
  | 8 => ("SquareCodeModel", "size", "I", false)
  | 9 => ("SquareCodeModel", "op", "[I", true)
  | 10 => ("SquareCodeModel", "a", "[I", true)
  | 11 => ("SquareCodeModel", "b", "[I", true)
  | 12 => ("SquareCodeModel", "x", "[I", true)
  | 13 => ("SquareCodeModel", "outcome", "I", false)
  | 14 => ("SquareCodeModel", "done", "I", false)
  | 15 => ("SquareCodeModel", "there", "[I", true)
  | 16 => ("SquareCodeModel", "values", "I", false)
  | 17 => ("SquareCodeModel", "vOp", "[I", true)
  | 18 => ("SquareCodeModel", "vA", "[I", true)
  | 19 => ("SquareCodeModel", "vB", "[I", true)
  | 20 => ("SquareCodeModel", "vX", "[I", true)
  | 21 => ("SquareCodeModel", "needed", "[Z", true)
  | 22 => ("SquareCodeModel", "valueOf", "[I", true)
  | _ => ("SquareCodeModel", "place", "[I", true)
def ty_N : Nat → FieldType := fun k => match k with
  | 0 => .int
  | 1 => .int
  | 2 => .int
  | 3 => .array .int
  | 4 => .array .int
  | 5 => .array .int
  | 6 => .boolean
  | 7 => .boolean
  | 8 => .int
  | 9 => .array .int
  | 10 => .array .int
  | 11 => .array .int
  | 12 => .array .int
  | 13 => .int
  | 14 => .int
  | 15 => .array .int
  | 16 => .int
  | 17 => .array .int
  | 18 => .array .int
  | 19 => .array .int
  | 20 => .array .int
  | 21 => .array .boolean
  | 22 => .array .int
  | _ => .array .int
theorem nm_N : ∀ a, a < 24 → ∀ b, b < 24 → a ≠ b → (T_N a).2.1 ≠ (T_N b).2.1 := by decide +kernel
theorem tyo_N : ∀ k, k < 24 → parseFieldDescriptor (T_N k).2.2.1 = some (ty_N k) := by decide +kernel
abbrev zCl : List vw_C := [(R_C, T_C, 2), (R_P, T_P, 1), (R_M, T_M, 5), (R_O, T_O, 5), (R_R, T_R, 2), (R_X, T_X, 7), (R_N, T_N, 24)]
abbrev y_X_init : MethodName := ⟨"SquareCode", "<init>", "(II)V"⟩
abbrev y_X_feed : MethodName := ⟨"SquareCode", "feed", "(I)I"⟩
abbrev y_X_setInput : MethodName := ⟨"SquareCode", "setInput", "(IIII)I"⟩
abbrev y_X_compile : MethodName := ⟨"SquareCode", "compile", "()I"⟩
abbrev y_X_optimise : MethodName := ⟨"SquareCode", "optimise", "()I"⟩
abbrev y_X_run : MethodName := ⟨"SquareCode", "run", "(I)I"⟩
abbrev y_X_evalDirect : MethodName := ⟨"SquareCode", "evalDirect", "()I"⟩
abbrev y_X_out : MethodName := ⟨"SquareCode", "out", "(II)I"⟩
abbrev y_X_outDirect : MethodName := ⟨"SquareCode", "outDirect", "(II)I"⟩
abbrev y_X_codeAt : MethodName := ⟨"SquareCode", "codeAt", "(I)I"⟩
abbrev y_X_codeSize : MethodName := ⟨"SquareCode", "codeSize", "()I"⟩
abbrev y_X_products : MethodName := ⟨"SquareCode", "products", "()I"⟩
abbrev y_X_reset : MethodName := ⟨"SquareCode", "reset", "()V"⟩
abbrev y_X_hasCode : MethodName := ⟨"SquareCode", "hasCode", "()Z"⟩
abbrev y_X_isAllDone : MethodName := ⟨"SquareCode", "isAllDone", "()Z"⟩
abbrev y_X_rewind : MethodName := ⟨"SquareCode", "rewind", "()V"⟩
abbrev y_X_workOut : MethodName := ⟨"SquareCode", "workOut", "()V"⟩
abbrev y_X_operandsOf : MethodName := ⟨"SquareCode", "operandsOf", "(I)I"⟩
abbrev y_X_topDigit : MethodName := ⟨"SquareCode", "topDigit", "(I)I"⟩
abbrev y_X_isDigitOne : MethodName := ⟨"SquareCode", "isDigitOne", "(II)Z"⟩
abbrev y_N_init : MethodName := ⟨"SquareCodeModel", "<init>", "(II)V"⟩
abbrev y_N_in : MethodName := ⟨"SquareCodeModel", "in", "(III)Z"⟩
abbrev y_N_isPlace : MethodName := ⟨"SquareCodeModel", "isPlace", "(II)Z"⟩
abbrev y_N_get : MethodName := ⟨"SquareCodeModel", "get", "(III)I"⟩
abbrev y_N_put : MethodName := ⟨"SquareCodeModel", "put", "(IIII)V"⟩
abbrev y_N_mod : MethodName := ⟨"SquareCodeModel", "mod", "(I)I"⟩
abbrev y_N_copy : MethodName := ⟨"SquareCodeModel", "copy", "(II)V"⟩
abbrev y_N_operate : MethodName := ⟨"SquareCodeModel", "operate", "(IIIII)V"⟩
abbrev y_N_raise : MethodName := ⟨"SquareCodeModel", "raise", "(II)V"⟩
abbrev y_N_feed : MethodName := ⟨"SquareCodeModel", "feed", "(I)I"⟩
abbrev y_N_setInput : MethodName := ⟨"SquareCodeModel", "setInput", "(IIII)I"⟩
abbrev y_N_isTwo : MethodName := ⟨"SquareCodeModel", "isTwo", "(I)Z"⟩
abbrev y_N_isOne : MethodName := ⟨"SquareCodeModel", "isOne", "(I)Z"⟩
abbrev y_N_isWord : MethodName := ⟨"SquareCodeModel", "isWord", "(I)Z"⟩
abbrev y_N_fault : MethodName := ⟨"SquareCodeModel", "fault", "()I"⟩
abbrev y_N_evalDirect : MethodName := ⟨"SquareCodeModel", "evalDirect", "()I"⟩
abbrev y_N_write : MethodName := ⟨"SquareCodeModel", "write", "(IIII)I"⟩
abbrev y_N_highest : MethodName := ⟨"SquareCodeModel", "highest", "(I)I"⟩
abbrev y_N_steps : MethodName := ⟨"SquareCodeModel", "steps", "(I)I"⟩
abbrev y_N_writePower : MethodName := ⟨"SquareCodeModel", "writePower", "(II)I"⟩
abbrev y_N_compile : MethodName := ⟨"SquareCodeModel", "compile", "()I"⟩
abbrev y_N_value : MethodName := ⟨"SquareCodeModel", "value", "(IIII)I"⟩
abbrev y_N_noughts : MethodName := ⟨"SquareCodeModel", "noughts", "()I"⟩
abbrev y_N_added : MethodName := ⟨"SquareCodeModel", "added", "(II)I"⟩
abbrev y_N_less : MethodName := ⟨"SquareCodeModel", "less", "(II)I"⟩
abbrev y_N_times : MethodName := ⟨"SquareCodeModel", "times", "(II)I"⟩
abbrev y_N_turned : MethodName := ⟨"SquareCodeModel", "turned", "(I)I"⟩
abbrev y_N_scaled : MethodName := ⟨"SquareCodeModel", "scaled", "(II)I"⟩
abbrev y_N_valueOfInstruction : MethodName := ⟨"SquareCodeModel", "valueOfInstruction", "(I)I"⟩
abbrev y_N_optimise : MethodName := ⟨"SquareCodeModel", "optimise", "()I"⟩
abbrev y_N_run : MethodName := ⟨"SquareCodeModel", "run", "(I)I"⟩
abbrev y_N_out : MethodName := ⟨"SquareCodeModel", "out", "(II)I"⟩
abbrev y_N_outDirect : MethodName := ⟨"SquareCodeModel", "outDirect", "(II)I"⟩
abbrev y_N_codeAt : MethodName := ⟨"SquareCodeModel", "codeAt", "(I)I"⟩
abbrev y_N_codeSize : MethodName := ⟨"SquareCodeModel", "codeSize", "()I"⟩
abbrev y_N_products : MethodName := ⟨"SquareCodeModel", "products", "()I"⟩
abbrev y_N_reset : MethodName := ⟨"SquareCodeModel", "reset", "()V"⟩
abbrev y_C_init : MethodName := ⟨"SquareCode$Code", "<init>", "()V"⟩
abbrev y_C_length : MethodName := ⟨"SquareCode$Code", "length", "()I"⟩
abbrev y_C_clear : MethodName := ⟨"SquareCode$Code", "clear", "()V"⟩
abbrev y_C_instruction : MethodName := ⟨"SquareCode$Code", "instruction", "(I)I"⟩
abbrev y_C_operation : MethodName := ⟨"SquareCode$Code", "operation", "(I)I"⟩
abbrev y_C_first : MethodName := ⟨"SquareCode$Code", "first", "(I)I"⟩
abbrev y_C_second : MethodName := ⟨"SquareCode$Code", "second", "(I)I"⟩
abbrev y_C_result : MethodName := ⟨"SquareCode$Code", "result", "()I"⟩
abbrev y_C_count : MethodName := ⟨"SquareCode$Code", "count", "(I)I"⟩
abbrev y_C_append : MethodName := ⟨"SquareCode$Code", "append", "(III)I"⟩
abbrev y_C_findOrAppend : MethodName := ⟨"SquareCode$Code", "findOrAppend", "(III)I"⟩
abbrev y_C_packed : MethodName := ⟨"SquareCode$Code", "packed", "(III)I"⟩
abbrev y_P_init : MethodName := ⟨"SquareCode$Compiler", "<init>", "()V"⟩
abbrev y_P_translate : MethodName := ⟨"SquareCode$Compiler", "translate", "(LSquareCode$Source;LSquareCode$Code;)V"⟩
abbrev y_P_instructionsFor : MethodName := ⟨"SquareCode$Compiler", "instructionsFor", "(IIILSquareCode$Code;)I"⟩
abbrev y_P_powerOf : MethodName := ⟨"SquareCode$Compiler", "powerOf", "(IILSquareCode$Code;)I"⟩
abbrev y_M_init : MethodName := ⟨"SquareCode$Matrices", "<init>", "(II)V"⟩
abbrev y_M_hasCell : MethodName := ⟨"SquareCode$Matrices", "hasCell", "(II)Z"⟩
abbrev y_M_get : MethodName := ⟨"SquareCode$Matrices", "get", "(III)I"⟩
abbrev y_M_put : MethodName := ⟨"SquareCode$Matrices", "put", "(IIII)V"⟩
abbrev y_M_apply : MethodName := ⟨"SquareCode$Matrices", "apply", "(IIII)V"⟩
abbrev y_M_copy : MethodName := ⟨"SquareCode$Matrices", "copy", "(II)V"⟩
abbrev y_M_makeNought : MethodName := ⟨"SquareCode$Matrices", "makeNought", "(I)V"⟩
abbrev y_M_makeOne : MethodName := ⟨"SquareCode$Matrices", "makeOne", "(I)V"⟩
abbrev y_M_combine : MethodName := ⟨"SquareCode$Matrices", "combine", "(IIII)V"⟩
abbrev y_M_multiply : MethodName := ⟨"SquareCode$Matrices", "multiply", "(III)V"⟩
abbrev y_M_turn : MethodName := ⟨"SquareCode$Matrices", "turn", "(II)V"⟩
abbrev y_M_keepFresh : MethodName := ⟨"SquareCode$Matrices", "keepFresh", "(I)V"⟩
abbrev y_M_scale : MethodName := ⟨"SquareCode$Matrices", "scale", "(III)V"⟩
abbrev y_M_raise : MethodName := ⟨"SquareCode$Matrices", "raise", "(II)V"⟩
abbrev y_O_init : MethodName := ⟨"SquareCode$Optimiser", "<init>", "(I)V"⟩
abbrev y_O_improve : MethodName := ⟨"SquareCode$Optimiser", "improve", "(LSquareCode$Code;)V"⟩
abbrev y_O_value : MethodName := ⟨"SquareCode$Optimiser", "value", "(III)I"⟩
abbrev y_O_is : MethodName := ⟨"SquareCode$Optimiser", "is", "(II)Z"⟩
abbrev y_O_nought : MethodName := ⟨"SquareCode$Optimiser", "nought", "()I"⟩
abbrev y_O_sum : MethodName := ⟨"SquareCode$Optimiser", "sum", "(II)I"⟩
abbrev y_O_difference : MethodName := ⟨"SquareCode$Optimiser", "difference", "(II)I"⟩
abbrev y_O_product : MethodName := ⟨"SquareCode$Optimiser", "product", "(II)I"⟩
abbrev y_O_turned : MethodName := ⟨"SquareCode$Optimiser", "turned", "(I)I"⟩
abbrev y_O_scaled : MethodName := ⟨"SquareCode$Optimiser", "scaled", "(II)I"⟩
abbrev y_O_markNeeded : MethodName := ⟨"SquareCode$Optimiser", "markNeeded", "(I)V"⟩
abbrev y_O_rewrite : MethodName := ⟨"SquareCode$Optimiser", "rewrite", "(LSquareCode$Code;)V"⟩
abbrev y_O_rewritten : MethodName := ⟨"SquareCode$Optimiser", "rewritten", "(ILSquareCode$Code;)I"⟩
abbrev y_R_init : MethodName := ⟨"SquareCode$Source", "<init>", "()V"⟩
abbrev y_R_length : MethodName := ⟨"SquareCode$Source", "length", "()I"⟩
abbrev y_R_isFull : MethodName := ⟨"SquareCode$Source", "isFull", "()Z"⟩
abbrev y_R_append : MethodName := ⟨"SquareCode$Source", "append", "(I)V"⟩
abbrev y_R_clear : MethodName := ⟨"SquareCode$Source", "clear", "()V"⟩
abbrev y_R_operation : MethodName := ⟨"SquareCode$Source", "operation", "(I)I"⟩
abbrev y_R_number : MethodName := ⟨"SquareCode$Source", "number", "(I)I"⟩
abbrev y_R_fault : MethodName := ⟨"SquareCode$Source", "fault", "()I"⟩
abbrev y_R_instructionsNeeded : MethodName := ⟨"SquareCode$Source", "instructionsNeeded", "()I"⟩
abbrev y_R_powerInstructions : MethodName := ⟨"SquareCode$Source", "powerInstructions", "(I)I"⟩
abbrev y_R_isWord : MethodName := ⟨"SquareCode$Source", "isWord", "(I)Z"⟩
abbrev y_L_cell : MethodName := ⟨"SquareCodeLaw", "cell", "([II)I"⟩
abbrev y_L_law : MethodName := ⟨"SquareCodeLaw", "law", "([I)Z"⟩
abbrev y_JM_floorMod : MethodName := ⟨"java/lang/Math", "floorMod", "(II)I"⟩
abbrev y_JI_bitCount : MethodName := ⟨"java/lang/Integer", "bitCount", "(I)I"⟩
end
section
/-! Words: one list for all methods. -/
def zW : List Cond := lw_tbl.filter goodWord
theorem zin (i : Nat) {w : Cond} (h : tables_1[i]? = some w) (hg : goodWord w = true) : w ∈ zW := List.mem_filter.mpr ⟨List.mem_append_right _ (List.mem_of_getElem? h), hg⟩
theorem zinS (i : Nat) {w : Cond} (h : (k2_sels lw_privs)[i]? = some w) (hg : goodWord w = true) : w ∈ zW := List.mem_filter.mpr ⟨List.mem_append_left _ (List.mem_of_getElem? h), hg⟩
theorem z_good {w : Cond} (h : w ∈ zW) : GoodIn zW (w :: zW) := fun x hx => by
  have hx : x ∈ zW := (List.mem_cons.mp hx).elim (fun e => e ▸ h) id
  exact ⟨hx, good_of_word (List.mem_filter.mp hx).2⟩
theorem z_tail {w : Cond} {args : Array Value} {s : State} (h : ∀ x ∈ w :: zW, x.before args s = true) : ∀ x ∈ zW, x.before args s = true := fun x hx => h x (List.mem_cons_of_mem _ hx)
abbrev zHd (y : MethodName) (n : Nat) : Prop := y.cls ≠ "java/lang/invoke/MethodHandle" ∧ y.cls ≠ "java/lang/invoke/VarHandle" ∧ (parseMethodDescriptor y.desc).map (fun d => d.parameters.length) = some n
def zVW (y : MethodName) (b : ByteArray) (ml : Nat) (ret : Option FieldType) (n : Nat) : Prop := Cond.code y b ml ret ∈ zW ∧ Cond.initialized y.cls ∈ zW ∧ Cond.instanceMethod y ∈ zW ∧ Cond.selects y.cls y y ∈ zW ∧ zHd y n
def zSW (y : MethodName) (b : ByteArray) (ml : Nat) (ret : Option FieldType) (n : Nat) : Prop := Cond.code y b ml ret ∈ zW ∧ Cond.initialized y.cls ∈ zW ∧ Cond.static y ∈ zW ∧ zHd y n
def zIW (y : MethodName) (b : ByteArray) (ml : Nat) (n : Nat) : Prop := Cond.code y b ml none ∈ zW ∧ Cond.initialized y.cls ∈ zW ∧ Cond.instanceMethod y ∈ zW ∧ y.name = "<init>" ∧ zHd y n
def zNl : List (String × Nat × MethodName) := [("SquareCode$Source", 27, ⟨"SquareCode", "operandsOf", "(I)I"⟩), ("SquareCode$Source", 36, ⟨"SquareCode", "topDigit", "(I)I"⟩), ("SquareCode$Compiler", 30, ⟨"SquareCode", "operandsOf", "(I)I"⟩), ("SquareCode$Compiler", 48, ⟨"SquareCode", "topDigit", "(I)I"⟩), ("SquareCode$Compiler", 51, ⟨"SquareCode", "isDigitOne", "(II)Z"⟩), ("SquareCode$Optimiser", 99, ⟨"SquareCode", "operandsOf", "(I)I"⟩), ("SquareCode$Matrices", 75, ⟨"SquareCode", "topDigit", "(I)I"⟩), ("SquareCode$Matrices", 79, ⟨"SquareCode", "isDigitOne", "(II)Z"⟩)]
def zNest (U : State) : Prop := ∀ q ∈ zNl, va_Nw (.methodLinkNest q.1 q.2.1 q.2.2 "SquareCode") U
theorem zNestOf (j : Nat) {q : String × Nat × MethodName} {s : State} (hN : zNest s) (h : zNl[j]? = some q) : va_Nw (.methodLinkNest q.1 q.2.1 q.2.2 "SquareCode") s := hN q (List.mem_of_getElem? h)
theorem zNest.warm {s U : State} (hW : s.WarmedH U.vm) (h : zNest s) : zNest U := fun q hq => va_Nw.warmM hW (h q hq)
theorem zNest.same {s U : State} (hv : s.vm = U.vm) (h : zNest s) : zNest U := fun q hq => va_Nw.same rfl hv (h q hq)
/-! My own rows over the kit: pure guards, contracts over a fixed picture, calls with the frame put back in order. -/
def zFU : Nat := 4096
def nm {α β : Type} (x : α) (k : α → Option β) : Option β := k x
def gd {β : Type} (i : Int32) (n : Nat) (k : Option β) : Option β := if i < 0 ∨ n ≤ i.toNatClampNeg then none else k
def nz {β : Type} (y : Int32) (k : Option β) : Option β := if y = 0 then none else k
def cpg {β : Type} (sp dp n : Int32) (n0 n1 : Nat) (k : Option β) : Option β := if sp < 0 ∨ dp < 0 ∨ n < 0 ∨ n0 < sp.toNatClampNeg + n.toNatClampNeg ∨ n1 < dp.toNatClampNeg + n.toNatClampNeg then none else k
def zrem (x y : Int32) : Int32 := x - x / y * y
def zmin (x y : Int32) : Int32 := if y < x then y else x
def zmax (x y : Int32) : Int32 := if x < y then y else x
def zushr (x y : Int32) : Int32 := (x.toUInt32 >>> (y.toUInt32 &&& Int32.toUInt32 31)).toInt32
theorem nm_some {α β : Type} {x : α} {k : α → Option β} {z : β} (h : nm x k = some z) : ∃ u, u = x ∧ k u = some z := ⟨x, rfl, h⟩
theorem gd_some {β : Type} {i : Int32} {n : Nat} {k : Option β} {z : β} (h : gd i n k = some z) : vp_in i n ∧ k = some z := by
  unfold gd at h
  by_cases hc : i < 0 ∨ n ≤ i.toNatClampNeg
  · rw [if_pos hc] at h; cases h
  · rw [if_neg hc] at h; exact ⟨hc, h⟩
theorem nz_some {β : Type} {y : Int32} {k : Option β} {z : β} (h : nz y k = some z) : ¬ y = 0 ∧ k = some z := by
  unfold nz at h
  by_cases hc : y = 0
  · rw [if_pos hc] at h; cases h
  · rw [if_neg hc] at h; exact ⟨hc, h⟩
theorem cpg_some {β : Type} {sp dp n : Int32} {n0 n1 : Nat} {k : Option β} {z : β} (h : cpg sp dp n n0 n1 k = some z) : ¬ sp < 0 ∧ ¬ dp < 0 ∧ ¬ n < 0 ∧ sp.toNatClampNeg + n.toNatClampNeg ≤ n0 ∧ dp.toNatClampNeg + n.toNatClampNeg ≤ n1 ∧ k = some z := by
  unfold cpg at h
  by_cases hc : sp < 0 ∨ dp < 0 ∨ n < 0 ∨ n0 < sp.toNatClampNeg + n.toNatClampNeg ∨ n1 < dp.toNatClampNeg + n.toNatClampNeg
  · rw [if_pos hc] at h; cases h
  · rw [if_neg hc] at h
    refine ⟨fun h1 => hc (Or.inl h1), fun h1 => hc (Or.inr (Or.inl h1)), fun h1 => hc (Or.inr (Or.inr (Or.inl h1))), ?_, ?_, h⟩
    · exact Nat.le_of_not_lt fun h1 => hc (Or.inr (Or.inr (Or.inr (Or.inl h1))))
    · exact Nat.le_of_not_lt fun h1 => hc (Or.inr (Or.inr (Or.inr (Or.inr h1))))
theorem ob {α β : Type} {o : Option α} {f : α → Option β} {z : β} (h : o.bind f = some z) : ∃ r, o = some r ∧ f r = some z := by
  cases o with
  | none => cases h
  | some r => exact ⟨r, rfl, h⟩
theorem z_ne {x c : Int32} {k : Int} (hk : c.toInt = k) (h : ¬ x = c) : ¬ x.toInt = k := fun e => h (Int32.toInt_inj.mp (e.trans hk.symm))
theorem z_fm {α β : Type} {f : α → Option β} {l : List α} {r : List β} (h : l.map f = r.map some) : l.filterMap f = r := by
  induction l generalizing r with
  | nil => cases r with
    | nil => rfl
    | cons a r => cases h
  | cons a l ih => cases r with
    | nil => cases h
    | cons b r =>
      simp only [List.map_cons, List.cons.injEq] at h
      rw [List.filterMap_cons, h.1, ih h.2]
abbrev zT (kI kZ : ClassId) : List (ClassId × FieldType) := [(kI, .int), (kZ, .boolean)]
def zP (D : va_G) (kI kZ : ClassId) (ws : va_W) (sz : Nat) (U : State) : Prop := U.heap.size = sz ∧ va_P D zCl ws U.heap ∧ va_K D zCl (zT kI kZ) U ∧ va_D (fun _ => True) ws ∧ zNest U
def zB (D : va_G) (kI kZ : ClassId) (A : Nat → Prop) (ws : va_W) (_ : Unit) (t : State) : Prop := va_P D zCl ws t.heap ∧ va_K D zCl (zT kI kZ) t ∧ va_D A ws
/-- a method that answers r and turns the cells w into w' -/
def zMi (l : Launch) (D : va_G) (kI kZ : ClassId) (y : MethodName) (cc : ByteArray) (maxL : Nat) (ret : Option FieldType) (fr lo : Nat) (av : List Value) (w w' : va_W) (r : Int32) : Prop :=
  ∀ sz : Nat, Met l y (Cond.code y cc maxL ret :: zW) { frames := fr, cells := 0, slots := 0, locals := lo } (va_Pc av (zP D kI kZ w sz)) (va_Qi (fun (z : Int32) (_ : Unit) => z = r) (zB D kI kZ (va_A w sz) w') (va_A w sz)) 0 0 (va_A w sz)
/-- a method that answers nothing and turns the cells w into w' -/
def zMv (l : Launch) (D : va_G) (kI kZ : ClassId) (y : MethodName) (cc : ByteArray) (maxL : Nat) (ret : Option FieldType) (fr lo : Nat) (av : List Value) (w w' : va_W) : Prop :=
  ∀ sz : Nat, Met l y (Cond.code y cc maxL ret :: zW) { frames := fr, cells := 0, slots := 0, locals := lo } (va_Pc av (zP D kI kZ w sz)) (va_Qv (fun (_ : Unit) => True) (zB D kI kZ (va_A w sz) w') (va_A w sz)) 0 0 (va_A w sz)
theorem zMi.of {l : Launch} {D : va_G} {kI kZ : ClassId} {y : MethodName} {fr lo : Nat} {av : List Value} {w w' : va_W} {r : Int32} {cc : ByteArray} {maxL : Nat} {ty : FieldType}
    (hy : plainName y.cls = true) (hle : (lg_sl av).length ≤ maxL)
    (body : ∀ (p : Program) (e : Env) (R : Room) (s : State) (m : MethodId) (args : Array Value) (below : List Frame) (meth : Method) (c : Code) (Q : State → Prop) (A : Nat → Prop),
      R = { frames := fr, cells := 0, slots := 0, locals := lo } → p.tables.exec = Jvm.exec → c.code = cc → c.maxLocals = maxL → (∀ x ∈ zW, x.before args s = true) → s.vm.findClass y.cls = some m.cls → (∀ q : Nat, s.heap.size ≤ q → A q) → va_K D zCl (zT kI kZ) s → zNest s →
      (∀ (H : Heap) (locs : List Loc) (pc : Nat) (ls : Array Slot) (v : Int32), decode cc pc = .ok (.ireturn, 1) → narrow ty (.int v) = .int v → v = r → va_P D zCl w' H → va_D A w' → va_S A s.heap H locs → W p l e R s m args below meth c H locs 0 0 Q (F0 m pc ls [.int v])) →
      ∀ (ls : Array Slot) (H : Heap), lv_has ls maxL (lv_args 0 av) → va_P D zCl w H → va_D A w → va_S A s.heap H [] → W p l e R s m args below meth c H [] 0 0 Q (F0 m 0 ls [])) : zMi l D kI kZ y cc maxL (some ty) fr lo av w w' r := by
  intro sz
  refine Met.ofW (cc := cc) (maxL := maxL) (ret := some ty) hy rfl ?_
  intro p e s m args below meth c s₁ B hml hv
  obtain ⟨rfl, hsz, hP, hK, hD0, hN⟩ := hv
  have hx := B.exec
  have hb := B.bytes
  have hr := B.returns
  have hts := z_tail (atoms_spec (ws := Cond.code y cc maxL (some ty) :: zW) B.pre)
  have hown : s.vm.findClass y.cls = some m.cls := findClass_of_methodNamed B.named
  have hlocks := B.notSynchronized
  subst hsz
  have hD := hD0.self (sz := s.heap.size)
  have hl := lv_entry av (n := maxL) hle
  rw [lg_entry_eq]
  exact body p e _ s m _ below meth c _ (va_A w s.heap.size) rfl hx hb hml hts hown (fun q h => Or.inr h) hK hN
    (fun H locs pc ls v hd hn hv hP hD hS => W.zret hx hb hr hn (fun t ht hW => ⟨⟨v, (), rfl, hv, by rw [ht]; exact hP, va_K.moved hW.alike hK, hD⟩, hS.F ht⟩) hS.2.2 hd hlocks) _ _ hl hP hD va_S.rf
theorem zMv.of {l : Launch} {D : va_G} {kI kZ : ClassId} {y : MethodName} {fr lo : Nat} {av : List Value} {w w' : va_W} {cc : ByteArray} {maxL : Nat}
    (hy : plainName y.cls = true) (hle : (lg_sl av).length ≤ maxL)
    (body : ∀ (p : Program) (e : Env) (R : Room) (s : State) (m : MethodId) (args : Array Value) (below : List Frame) (meth : Method) (c : Code) (Q : State → Prop) (A : Nat → Prop),
      R = { frames := fr, cells := 0, slots := 0, locals := lo } → p.tables.exec = Jvm.exec → c.code = cc → c.maxLocals = maxL → (∀ x ∈ zW, x.before args s = true) → s.vm.findClass y.cls = some m.cls → (∀ q : Nat, s.heap.size ≤ q → A q) → va_K D zCl (zT kI kZ) s → zNest s →
      (∀ (H : Heap) (locs : List Loc) (pc : Nat) (ls : Array Slot), decode cc pc = .ok (.return_, 1) → va_P D zCl w' H → va_D A w' → va_S A s.heap H locs → W p l e R s m args below meth c H locs 0 0 Q (F0 m pc ls [])) →
      ∀ (ls : Array Slot) (H : Heap), lv_has ls maxL (lv_args 0 av) → va_P D zCl w H → va_D A w → va_S A s.heap H [] → W p l e R s m args below meth c H [] 0 0 Q (F0 m 0 ls [])) : zMv l D kI kZ y cc maxL none fr lo av w w' := by
  intro sz
  refine Met.ofW (cc := cc) (maxL := maxL) (ret := none) hy rfl ?_
  intro p e s m args below meth c s₁ B hml hv
  obtain ⟨rfl, hsz, hP, hK, hD0, hN⟩ := hv
  have hx := B.exec
  have hb := B.bytes
  have hr := B.returns
  have hts := z_tail (atoms_spec (ws := Cond.code y cc maxL none :: zW) B.pre)
  have hown : s.vm.findClass y.cls = some m.cls := findClass_of_methodNamed B.named
  have hlocks := B.notSynchronized
  subst hsz
  have hD := hD0.self (sz := s.heap.size)
  have hl := lv_entry av (n := maxL) hle
  rw [lg_entry_eq]
  exact body p e _ s m _ below meth c _ (va_A w s.heap.size) rfl hx hb hml hts hown (fun q h => Or.inr h) hK hN
    (fun H locs pc ls hd hP hD hS => W.vret hx hb hr (fun t ht hW => ⟨⟨(), rfl, trivial, by rw [ht]; exact hP, va_K.moved hW.alike hK, hD⟩, hS.F ht⟩) hS.2.2 hd hlocks) _ _ hl hP hD va_S.rf
section ZRows
variable {p : Program} {l : Launch} {e : Env} {R : Room} {s : State} {m : MethodId} {args : Array Value} {below : List Frame} {meth : Method} {c : Code} {H : Heap} {locs : List Loc} {Q : State → Prop}
variable {cc : ByteArray} {pc : Nat} {ls : Array Slot} {rest : List Value} {cells slots : Nat}
theorem z_top {x y : Int32} (e1 : y = x) (k : W p l e R s m args below meth c H locs cells slots Q (F0 m pc ls (.int y :: rest))) : W p l e R s m args below meth c H locs cells slots Q (F0 m pc ls (.int x :: rest)) := e1 ▸ k
theorem z_irem (hexec : p.tables.exec = Jvm.exec) (hb : c.code = cc) {x y : Int32} (hdg : decode cc pc = .ok (.irem, 1)) (hne : ¬ y = 0)
    (k : W p l e R s m args below meth c H locs cells slots Q (F0 m (pc + 1) ls (.int (zrem x y) :: rest))) : W p l e R s m args below meth c H locs cells slots Q (F0 m pc ls (.int y :: .int x :: rest)) := lv_irem hexec hb hdg hne k
theorem zP_blind {D : va_G} {kI kZ : ClassId} {av : List Value} {w : va_W} {sz : Nat} : FrameBlind (va_Pc av (zP D kI kZ w sz)) := fun a U g mk q => by
  obtain ⟨q0, q1, qP, qK, qD, qN⟩ := q
  exact ⟨q0, q1, qP, va_K.moved (u := U) (U := U.calling g mk a) (Vm.Alike.refl U.vm) qK, qD, zNest.same (s := U) (U := U.calling g mk a) rfl qN⟩
theorem z_pre {D : va_G} {kI kZ : ClassId} {As : List Value} {ws wc : va_W} {A : Nat → Prop} (hK : va_K D zCl (zT kI kZ) s) (hP : va_P D zCl ws H) (hD : va_D A ws) (hN : zNest s) (isC : List Nat) (hn : va_nd isC = true) (hC : isC.map (fun i => ws[i]?) = wc.map some) : PreS s H (va_Pc As (zP D kI kZ wc H.size)) As :=
  ⟨zP_blind, fun U hU hW => ⟨rfl, by rw [hU], by rw [hU]; exact hP.sub isC (z_fm hC), va_K.moved hW.alike hK, (hD.sub isC hn hC).weaken (fun _ _ _ _ => trivial), zNest.warm hW hN⟩⟩
theorem z_preV {D : va_G} {kI kZ : ClassId} {As : List Value} {ws wc : va_W} {A : Nat → Prop} {b q0 ci N : Nat} {C : String} {T : u_T} {fs : List Value} (hK : va_K D zCl (zT kI kZ) s) (hP : va_P D zCl ws H) (hD : va_D A ws) (hN : zNest s) (hc : zCl[ci]? = some (C, T, N)) (he : ws[q0]? = some (b, .inr (ci, fs))) (isC : List Nat) (hn : va_nd isC = true) (hC : isC.map (fun i => ws[i]?) = wc.map some) : PreV s H C b (va_Pc (.ref b :: As) (zP D kI kZ wc H.size)) As :=
  ⟨zP_blind, va_recv hK hP hc he, (z_pre hK hP hD hN isC hn hC).2⟩
/-- behind a call that answers an int -/
theorem z_ci {st0 : List Value} {a : Array Value} {A : Nat → Prop} {H0 : Heap} {D : va_G} {kI kZ : ClassId} {ws wc wr w1 w2 : va_W} {r : Int32}
    (hr : va_Run p l e R s m args below meth c H locs 0 0 0 0 (F0 m pc ls st0) rest (va_Qi (fun (z : Int32) (_ : Unit) => z = r) (zB D kI kZ (va_A wc H.size) w1) (va_A wc H.size) a) (va_A wc H.size))
    (hP : va_P D zCl ws H) (hD : va_D A ws) (hS : va_S A H0 H locs) (hA : ∀ q : Nat, H0.size ≤ q → A q) (isC isR pm : List Nat) (hC : isC.map (fun i => ws[i]?) = wc.map some) (hR : isR.map (fun i => ws[i]?) = wr.map some) (hn : va_nd isR = true) (hdis : ∀ i ∈ isR, i ∉ isC) (hpm : pm.map (fun i => (wr ++ w1)[i]?) = w2.map some) (hpn : va_nd pm = true)
    (kk : ∀ (H1 : Heap) (locs1 : List Loc), va_P D zCl w2 H1 → va_D A w2 → va_S A H0 H1 locs1 → W p l e R s m args below meth c H1 locs1 0 0 Q (F0 m (pc + 3) ls (.int r :: rest))) : W p l e R s m args below meth c H locs 0 0 Q (F0 m pc ls st0) := by
  have hFc := va_free (wc := wc) hD hS hA isC hC
  refine va_calli hr hS (fun q _ h => hFc q h) hFc (fun z u t H1 locs1 ht hvm h5 hB hz1 hk1 hS => ?_)
  obtain ⟨hP1, hK1, hD1⟩ := hB
  rw [ht] at hP1
  obtain ⟨hP, hD⟩ := va_join hP hD isC isR hC hR hn hdis hk1 hFc hP1 hD1
  subst h5
  exact kk H1 locs1 (hP.sub pm (z_fm hpm)) (hD.sub pm hpn hpm) hS
/-- behind a call that answers nothing -/
theorem z_cv {st0 : List Value} {a : Array Value} {A : Nat → Prop} {H0 : Heap} {D : va_G} {kI kZ : ClassId} {ws wc wr w1 w2 : va_W}
    (hr : va_Run p l e R s m args below meth c H locs 0 0 0 0 (F0 m pc ls st0) rest (va_Qv (fun (_ : Unit) => True) (zB D kI kZ (va_A wc H.size) w1) (va_A wc H.size) a) (va_A wc H.size))
    (hP : va_P D zCl ws H) (hD : va_D A ws) (hS : va_S A H0 H locs) (hA : ∀ q : Nat, H0.size ≤ q → A q) (isC isR pm : List Nat) (hC : isC.map (fun i => ws[i]?) = wc.map some) (hR : isR.map (fun i => ws[i]?) = wr.map some) (hn : va_nd isR = true) (hdis : ∀ i ∈ isR, i ∉ isC) (hpm : pm.map (fun i => (wr ++ w1)[i]?) = w2.map some) (hpn : va_nd pm = true)
    (kk : ∀ (H1 : Heap) (locs1 : List Loc), va_P D zCl w2 H1 → va_D A w2 → va_S A H0 H1 locs1 → W p l e R s m args below meth c H1 locs1 0 0 Q (F0 m (pc + 3) ls rest)) : W p l e R s m args below meth c H locs 0 0 Q (F0 m pc ls st0) := by
  have hFc := va_free (wc := wc) hD hS hA isC hC
  refine va_callv hr hS (fun q _ h => hFc q h) hFc (fun u t H1 locs1 ht hvm h5 hB hz1 hk1 hS => ?_)
  obtain ⟨hP1, hK1, hD1⟩ := hB
  rw [ht] at hP1
  obtain ⟨hP, hD⟩ := va_join hP hD isC isR hC hR hn hdis hk1 hFc hP1 hD1
  exact kk H1 locs1 (hP.sub pm (z_fm hpm)) (hD.sub pm hpn hpm) hS
theorem z_cwV {own : String} {index : Nat} {y : MethodName} {bytes : ByteArray} {maxL n fr lo : Nat} {ret : Option FieldType} (hts : ∀ w ∈ zW, w.before args s = true) (hm : zVW y bytes maxL ret n) (hl : Cond.methodLink own index y ∈ zW) (hR : fr + 1 ≤ R.frames ∧ 8 + (maxL + 11) + lo ≤ R.locals) : CallW R s args own y.cls index y bytes maxL ret (Cond.code y bytes maxL ret :: zW) { frames := fr, cells := 0, slots := 0, locals := lo } 0 0 n :=
  ⟨callB_of n hts (z_good hm.1) rfl rfl rfl (hts _ hm.2.1) (hts _ hl) hm.2.2.2.2 hR, hts _ hm.2.2.1, hts _ hm.2.2.2.1⟩
theorem z_cwS {own : String} {index : Nat} {y : MethodName} {bytes : ByteArray} {maxL n fr lo : Nat} {ret : Option FieldType} (hts : ∀ w ∈ zW, w.before args s = true) (hm : zSW y bytes maxL ret n) (hl : Cond.methodLink own index y ∈ zW) (hR : fr + 1 ≤ R.frames ∧ 8 + (maxL + 11) + lo ≤ R.locals) : CallB R s args own index y bytes maxL ret (Cond.code y bytes maxL ret :: zW) { frames := fr, cells := 0, slots := 0, locals := lo } 0 0 n ∧ (Cond.static y).before args s = true :=
  ⟨callB_of n hts (z_good hm.1) rfl rfl rfl (hts _ hm.2.1) (hts _ hl) hm.2.2.2 hR, hts _ hm.2.2.1⟩
theorem z_cwN {own : String} {index : Nat} {y : MethodName} {bytes : ByteArray} {maxL n fr lo : Nat} {ret : Option FieldType} (hts : ∀ w ∈ zW, w.before args s = true) (hm : zSW y bytes maxL ret n) (hl : va_Nw (.methodLinkNest own index y "SquareCode") s) (hR : fr + 1 ≤ R.frames ∧ 8 + (maxL + 11) + lo ≤ R.locals) : va_CN R s args own index y "SquareCode" bytes maxL ret (Cond.code y bytes maxL ret :: zW) { frames := fr, cells := 0, slots := 0, locals := lo } 0 0 n ∧ (Cond.static y).before args s = true ∧ True :=
  ⟨va_cnB n hts (z_good hm.1) rfl rfl rfl hl (hts _ hm.2.1) hm.2.2.2 hR, hts _ hm.2.2.1, trivial⟩
theorem z_cwI {own : String} {index : Nat} {y : MethodName} {bytes : ByteArray} {maxL n fr ce sl lo : Nat} (hts : ∀ w ∈ zW, w.before args s = true) (hm : zIW y bytes maxL n) (hl : Cond.methodLink own index y ∈ zW) (hR : fr + 1 ≤ R.frames ∧ 8 + (maxL + 11) + lo ≤ R.locals) : CallB R s args own index y bytes maxL none (Cond.code y bytes maxL none :: zW) { frames := fr, cells := ce, slots := sl, locals := lo } ce sl n ∧ y.name = "<init>" ∧ (Cond.instanceMethod y).before args s = true :=
  ⟨callB_of n hts (z_good hm.1) rfl rfl rfl (hts _ hm.2.1) (hts _ hl) hm.2.2.2.2 hR, hm.2.2.2.1, hts _ hm.2.2.1⟩
theorem z_min (hexec : p.tables.exec = Jvm.exec) (hb : c.code = cc) (hml : c.maxLocals = ls.size) {own : String} {index : Nat} (hown : s.vm.findClass own = some m.cls) (hlink : (Cond.methodLink own index Lib.Math.min.name).before args s = true) (hstat : (Cond.static Lib.Math.min.name).before args s = true) (hini : (Cond.initialized "java/lang/Math").before args s = true) (hcode : (Cond.code Lib.Math.min.name Lib.Math.min.code 2 (some .int)).before args s = true)
    (hframes : 1 ≤ R.frames) (hlocals : (rest.map fun v => v.category).sum + 13 ≤ R.locals) (hc : cells ≤ R.cells) (hs : slots ≤ R.slots) {x y : Int32} (hdg : decode cc pc = .ok (.invokestatic index, 3))
    (kk : W p l e R s m args below meth c H locs cells slots Q (F0 m (pc + 3) ls (.int (zmin x y) :: rest))) : W p l e R s m args below meth c H locs cells slots Q (F0 m pc ls (.int y :: .int x :: rest)) := va_mmin hexec hb hml hown hlink hstat hini hcode hframes hlocals hc hs hdg kk
theorem z_max (hexec : p.tables.exec = Jvm.exec) (hb : c.code = cc) (hml : c.maxLocals = ls.size) {own : String} {index : Nat} (hown : s.vm.findClass own = some m.cls) (hlink : (Cond.methodLink own index Lib.Math.max.name).before args s = true) (hstat : (Cond.static Lib.Math.max.name).before args s = true) (hini : (Cond.initialized "java/lang/Math").before args s = true) (hcode : (Cond.code Lib.Math.max.name Lib.Math.max.code 2 (some .int)).before args s = true)
    (hframes : 1 ≤ R.frames) (hlocals : (rest.map fun v => v.category).sum + 13 ≤ R.locals) (hc : cells ≤ R.cells) (hs : slots ≤ R.slots) {x y : Int32} (hdg : decode cc pc = .ok (.invokestatic index, 3))
    (kk : W p l e R s m args below meth c H locs cells slots Q (F0 m (pc + 3) ls (.int (zmax x y) :: rest))) : W p l e R s m args below meth c H locs cells slots Q (F0 m pc ls (.int y :: .int x :: rest)) := va_mmax hexec hb hml hown hlink hstat hini hcode hframes hlocals hc hs hdg kk
end ZRows
end
