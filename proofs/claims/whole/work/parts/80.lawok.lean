/-! The law's loop gives 1. -/
set_option maxHeartbeats 4000000 in
set_option maxRecDepth 100000 in
theorem law_ok {P n L : Nat} {xs : Nat → Int32} (hn : 0 < n) (hn4 : n ≤ 4) (hP : 1 < P) (hP2 : P ≤ 97) (hL : L ≤ 2562) : ∀ (fu i : Nat) (xd : Int32) (xw : Int32) (cells : Nat → Int32) (fresh : Nat → Int32) (words : Nat → Int32) (rl : Int32) (cins : Nat → Int32) (cl : Int32) (regs : Nat → Int32) (Vo : Nat → Int32) (isN : Nat → Int32) (reg : Nat → Int32) (F : Nat → Int32) (vlen : Int32) (nw : Int32) (word : Nat → Int32) (table : Nat → Int32) (direct : Nat → Int32) (hd : Int32) (cpd : Int32) (sz : Int32) (op : Nat → Int32) (a : Nat → Int32) (b : Nat → Int32) (x : Nat → Int32) (oc : Int32) (dn : Int32) (there : Nat → Int32) (nvs : Int32) (vOp : Nat → Int32) (vA : Nat → Int32) (vB : Nat → Int32) (vX : Nat → Int32) (nd : Nat → Int32) (No : Nat → Int32) (pla : Nat → Int32), Rel P n xd xw cells fresh words rl cins cl regs nw word table direct hd cpd sz op a b x oc dn there → 0 < fu → L < i + 5 * fu → i ≤ L + 5 →
    f_L_law_38 L xs (70 * (n * n)) (n * n) (nI P) (nI n) (nI (n * n)) (nI P) (nI P) (nI n) fu (nI i) xd xw cells fresh words rl cins cl regs Vo isN reg F vlen nw word table direct hd cpd sz op a b x oc dn there nvs vOp vA vB vX nd No pla = some 1 := by
  intro fu
  induction fu with
  | zero => intro i xd xw cells fresh words rl cins cl regs Vo isN reg F vlen nw word table direct hd cpd sz op a b x oc dn there nvs vOp vA vB vX nd No pla hR h0 h1 h2; omega
  | succ fu ih =>
    intro i xd xw cells fresh words rl cins cl regs Vo isN reg F vlen nw word table direct hd cpd sz op a b x oc dn there nvs vOp vA vB vX nd No pla hR h0 h1 h2
    have hx : ((Int32.ofNat L) - (5 : Int32) < nI i) ↔ L < i + 5 := by
      rw [Int32.lt_iff_toInt_lt, nI_toInt (by omega)]
      have e := pk_sub_toInt (a := L) (b := 5) (by omega) (by omega)
      have e2 : (Int32.ofNat L - (5 : Int32)).toInt = (L : Int) - 5 := e
      rw [e2]
      omega
    rw [f_L_law_38]
    by_cases hs : L < i + 5
    · rw [if_pos (hx.mpr hs)]
    · rw [if_neg (fun q => hs (hx.mp q)), gdN (by omega) (by omega), nI_clamp (by omega)]
      have e1 : nI i + (1 : Int32) = nI (i + 1) := nI_add i 1
      have e2 : nI i + (2 : Int32) = nI (i + 2) := nI_add i 2
      have e3 : nI i + (3 : Int32) = nI (i + 3) := nI_add i 3
      have e4 : nI i + (4 : Int32) = nI (i + 4) := nI_add i 4
      have e5 : nI i + (5 : Int32) = nI (i + 5) := nI_add i 5
      have g1 : ∀ {β : Type} (z : Option β), gd (nI (i + 1)) L z = z := fun z => gdN (by omega) (by omega)
      have c1 : (nI (i + 1)).toNatClampNeg = i + 1 := nI_clamp (by omega)
      have g2 : ∀ {β : Type} (z : Option β), gd (nI (i + 2)) L z = z := fun z => gdN (by omega) (by omega)
      have c2 : (nI (i + 2)).toNatClampNeg = i + 2 := nI_clamp (by omega)
      have g3 : ∀ {β : Type} (z : Option β), gd (nI (i + 3)) L z = z := fun z => gdN (by omega) (by omega)
      have c3 : (nI (i + 3)).toNatClampNeg = i + 3 := nI_clamp (by omega)
      have g4 : ∀ {β : Type} (z : Option β), gd (nI (i + 4)) L z = z := fun z => gdN (by omega) (by omega)
      have c4 : (nI (i + 4)).toNatClampNeg = i + 4 := nI_clamp (by omega)
      obtain ⟨j, hj, hop⟩ := pk_andE (xs i) (m := 15) 4 (by decide)
      rw [hop]
      rcases (show j = 0 ∨ j = 1 ∨ j = 2 ∨ j = 3 ∨ j = 4 ∨ j = 5 ∨ j = 6 ∨ j = 7 ∨ j = 8 ∨ j = 9 ∨ j = 10 ∨ j = 11 ∨ j = 12 ∨ j = 13 ∨ j = 14 ∨ j = 15 by omega) with rfl | rfl | rfl | rfl | rfl | rfl | rfl | rfl | rfl | rfl | rfl | rfl | rfl | rfl | rfl | rfl
      · rw [if_pos (show nI 0 = (0 : Int32) from rfl)]
        simp only [e1, g1, c1]
        obtain ⟨r, words', rl', q1, q2, q3⟩ := o_feed hR (xs (i + 1))
        rw [q1, ob_some, q2, ob_some, if_pos rfl, e5]
        exact ih (i + 5) xd xw cells fresh words' rl' cins cl regs Vo isN reg F vlen rl' words' table direct hd cpd sz op a b x oc dn there nvs vOp vA vB vX nd No pla q3 (by omega) (by omega) (by omega)
      · rw [if_neg (show ¬ nI 1 = (0 : Int32) by decide), if_pos (show nI 1 = (1 : Int32) from rfl)]
        simp only [e1, g1, c1, e2, g2, c2, e3, g3, c3, e4, g4, c4]
        obtain ⟨r, xd', cells', table', q1, q2, q3⟩ := o_setInput hn hn4 hP hP2 hR (xs (i + 1)) (xs (i + 2)) (xs (i + 3)) (xs (i + 4))
        rw [q1, ob_some, q2, ob_some, if_pos rfl, e5]
        exact ih (i + 5) xd' xw cells' fresh words rl cins cl regs Vo isN reg F vlen nw word table' direct hd cpd sz op a b x oc xd' there nvs vOp vA vB vX nd No pla q3 (by omega) (by omega) (by omega)
      · rw [if_neg (show ¬ nI 2 = (0 : Int32) by decide), if_neg (show ¬ nI 2 = (1 : Int32) by decide), if_pos (show nI 2 = (2 : Int32) from rfl)]
        obtain ⟨r, xd', cins', cl', regs', cpd', sz', op', a', b', x', oc', dn', there', q1, q2, q3⟩ := o_compile hR
        rw [q1, ob_some, q2, ob_some, if_pos rfl, e5]
        exact ih (i + 5) xd' xw cells fresh words rl cins' cl' regs' Vo isN reg F vlen nw word table direct hd cpd' sz' op' a' b' x' oc' dn' there' nvs vOp vA vB vX nd No pla q3 (by omega) (by omega) (by omega)
      · rw [if_neg (show ¬ nI 3 = (0 : Int32) by decide), if_neg (show ¬ nI 3 = (1 : Int32) by decide), if_neg (show ¬ nI 3 = (2 : Int32) by decide), if_pos (show nI 3 = (3 : Int32) from rfl)]
        obtain ⟨r, xd', cins', cl', Vo', isN', reg', F', vlen', sz', op', a', b', x', oc', dn', nvs', vOp', vA', vB', vX', nd', No', pla', q1, q2, q3⟩ := o_optimise hP hP2 hR Vo isN reg F vlen nvs vOp vA vB vX nd No pla
        rw [q1, ob_some, q2, ob_some, if_pos rfl, e5]
        exact ih (i + 5) xd' xw cells fresh words rl cins' cl' regs Vo' isN' reg' F' vlen' nw word table direct hd cpd sz' op' a' b' x' oc' dn' there nvs' vOp' vA' vB' vX' nd' No' pla' q3 (by omega) (by omega) (by omega)
      · rw [if_neg (show ¬ nI 4 = (0 : Int32) by decide), if_neg (show ¬ nI 4 = (1 : Int32) by decide), if_neg (show ¬ nI 4 = (2 : Int32) by decide), if_neg (show ¬ nI 4 = (3 : Int32) by decide), if_pos (show nI 4 = (4 : Int32) from rfl)]
        simp only [e1, g1, c1]
        obtain ⟨r, xd', cells', fresh', table', q1, q2, q3⟩ := o_run hn hn4 hP hP2 hR (xs (i + 1))
        rw [q1, ob_some, q2, ob_some, if_pos rfl, e5]
        exact ih (i + 5) xd' xw cells' fresh' words rl cins cl regs Vo isN reg F vlen nw word table' direct hd cpd sz op a b x oc xd' there nvs vOp vA vB vX nd No pla q3 (by omega) (by omega) (by omega)
      · rw [if_neg (show ¬ nI 5 = (0 : Int32) by decide), if_neg (show ¬ nI 5 = (1 : Int32) by decide), if_neg (show ¬ nI 5 = (2 : Int32) by decide), if_neg (show ¬ nI 5 = (3 : Int32) by decide), if_neg (show ¬ nI 5 = (4 : Int32) by decide), if_pos (show nI 5 = (5 : Int32) from rfl)]
        obtain ⟨r, xw', cells', fresh', table', direct', q1, q2, q3⟩ := o_eval hn hn4 hP hP2 hR
        rw [q1, ob_some, q2, ob_some, if_pos rfl, e5]
        exact ih (i + 5) xd xw' cells' fresh' words rl cins cl regs Vo isN reg F vlen nw word table' direct' xw' cpd sz op a b x oc dn there nvs vOp vA vB vX nd No pla q3 (by omega) (by omega) (by omega)
      · rw [if_neg (show ¬ nI 6 = (0 : Int32) by decide), if_neg (show ¬ nI 6 = (1 : Int32) by decide), if_neg (show ¬ nI 6 = (2 : Int32) by decide), if_neg (show ¬ nI 6 = (3 : Int32) by decide), if_neg (show ¬ nI 6 = (4 : Int32) by decide), if_neg (show ¬ nI 6 = (5 : Int32) by decide), if_pos (show nI 6 = (6 : Int32) from rfl)]
        simp only [e1, g1, c1, e2, g2, c2]
        obtain ⟨r, q1, q2⟩ := o_out hn hn4 hR (xs (i + 1)) (xs (i + 2))
        rw [q1, ob_some, q2, ob_some, if_pos rfl, e5]
        exact ih (i + 5) xd xw cells fresh words rl cins cl regs Vo isN reg F vlen nw word table direct hd cpd sz op a b x oc dn there nvs vOp vA vB vX nd No pla hR (by omega) (by omega) (by omega)
      · rw [if_neg (show ¬ nI 7 = (0 : Int32) by decide), if_neg (show ¬ nI 7 = (1 : Int32) by decide), if_neg (show ¬ nI 7 = (2 : Int32) by decide), if_neg (show ¬ nI 7 = (3 : Int32) by decide), if_neg (show ¬ nI 7 = (4 : Int32) by decide), if_neg (show ¬ nI 7 = (5 : Int32) by decide), if_neg (show ¬ nI 7 = (6 : Int32) by decide), if_pos (show nI 7 = (7 : Int32) from rfl)]
        simp only [e1, g1, c1, e2, g2, c2]
        obtain ⟨r, q1, q2⟩ := o_outDirect hn hn4 hR (xs (i + 1)) (xs (i + 2))
        rw [q1, ob_some, q2, ob_some, if_pos rfl, e5]
        exact ih (i + 5) xd xw cells fresh words rl cins cl regs Vo isN reg F vlen nw word table direct hd cpd sz op a b x oc dn there nvs vOp vA vB vX nd No pla hR (by omega) (by omega) (by omega)
      · rw [if_neg (show ¬ nI 8 = (0 : Int32) by decide), if_neg (show ¬ nI 8 = (1 : Int32) by decide), if_neg (show ¬ nI 8 = (2 : Int32) by decide), if_neg (show ¬ nI 8 = (3 : Int32) by decide), if_neg (show ¬ nI 8 = (4 : Int32) by decide), if_neg (show ¬ nI 8 = (5 : Int32) by decide), if_neg (show ¬ nI 8 = (6 : Int32) by decide), if_neg (show ¬ nI 8 = (7 : Int32) by decide), if_pos (show nI 8 = (8 : Int32) from rfl)]
        simp only [e1, g1, c1]
        obtain ⟨r, q1, q2⟩ := o_codeAt hR (xs (i + 1))
        rw [q1, ob_some, q2, ob_some, if_pos rfl, e5]
        exact ih (i + 5) xd xw cells fresh words rl cins cl regs Vo isN reg F vlen nw word table direct hd cpd sz op a b x oc dn there nvs vOp vA vB vX nd No pla hR (by omega) (by omega) (by omega)
      · rw [if_neg (show ¬ nI 9 = (0 : Int32) by decide), if_neg (show ¬ nI 9 = (1 : Int32) by decide), if_neg (show ¬ nI 9 = (2 : Int32) by decide), if_neg (show ¬ nI 9 = (3 : Int32) by decide), if_neg (show ¬ nI 9 = (4 : Int32) by decide), if_neg (show ¬ nI 9 = (5 : Int32) by decide), if_neg (show ¬ nI 9 = (6 : Int32) by decide), if_neg (show ¬ nI 9 = (7 : Int32) by decide), if_neg (show ¬ nI 9 = (8 : Int32) by decide), if_pos (show nI 9 = (9 : Int32) from rfl)]
        obtain ⟨r, q1, q2⟩ := o_codeSize hR
        rw [q1, ob_some, q2, ob_some, if_pos rfl, e5]
        exact ih (i + 5) xd xw cells fresh words rl cins cl regs Vo isN reg F vlen nw word table direct hd cpd sz op a b x oc dn there nvs vOp vA vB vX nd No pla hR (by omega) (by omega) (by omega)
      · rw [if_neg (show ¬ nI 10 = (0 : Int32) by decide), if_neg (show ¬ nI 10 = (1 : Int32) by decide), if_neg (show ¬ nI 10 = (2 : Int32) by decide), if_neg (show ¬ nI 10 = (3 : Int32) by decide), if_neg (show ¬ nI 10 = (4 : Int32) by decide), if_neg (show ¬ nI 10 = (5 : Int32) by decide), if_neg (show ¬ nI 10 = (6 : Int32) by decide), if_neg (show ¬ nI 10 = (7 : Int32) by decide), if_neg (show ¬ nI 10 = (8 : Int32) by decide), if_neg (show ¬ nI 10 = (9 : Int32) by decide), if_pos (show nI 10 = (10 : Int32) from rfl)]
        obtain ⟨r, q1, q2⟩ := o_products hR
        rw [q1, ob_some, q2, ob_some, if_pos rfl, e5]
        exact ih (i + 5) xd xw cells fresh words rl cins cl regs Vo isN reg F vlen nw word table direct hd cpd sz op a b x oc dn there nvs vOp vA vB vX nd No pla hR (by omega) (by omega) (by omega)
      · rw [if_neg (show ¬ nI 11 = (0 : Int32) by decide), if_neg (show ¬ nI 11 = (1 : Int32) by decide), if_neg (show ¬ nI 11 = (2 : Int32) by decide), if_neg (show ¬ nI 11 = (3 : Int32) by decide), if_neg (show ¬ nI 11 = (4 : Int32) by decide), if_neg (show ¬ nI 11 = (5 : Int32) by decide), if_neg (show ¬ nI 11 = (6 : Int32) by decide), if_neg (show ¬ nI 11 = (7 : Int32) by decide), if_neg (show ¬ nI 11 = (8 : Int32) by decide), if_neg (show ¬ nI 11 = (9 : Int32) by decide), if_neg (show ¬ nI 11 = (10 : Int32) by decide), if_pos (show nI 11 = (11 : Int32) from rfl)]
        obtain ⟨cells', table', q1, q2, q3⟩ := o_reset hn4 hP hR
        rw [q1, ob_some, q2, ob_some, e5]
        exact ih (i + 5) 0 0 cells' fresh words 0 cins 0 regs Vo isN reg F vlen 0 word table' direct 0 0 0 op a b x oc 0 there nvs vOp vA vB vX nd No pla q3 (by omega) (by omega) (by omega)
      · rw [if_neg (show ¬ nI 12 = (0 : Int32) by decide), if_neg (show ¬ nI 12 = (1 : Int32) by decide), if_neg (show ¬ nI 12 = (2 : Int32) by decide), if_neg (show ¬ nI 12 = (3 : Int32) by decide), if_neg (show ¬ nI 12 = (4 : Int32) by decide), if_neg (show ¬ nI 12 = (5 : Int32) by decide), if_neg (show ¬ nI 12 = (6 : Int32) by decide), if_neg (show ¬ nI 12 = (7 : Int32) by decide), if_neg (show ¬ nI 12 = (8 : Int32) by decide), if_neg (show ¬ nI 12 = (9 : Int32) by decide), if_neg (show ¬ nI 12 = (10 : Int32) by decide), if_neg (show ¬ nI 12 = (11 : Int32) by decide), e5]
        exact ih (i + 5) xd xw cells fresh words rl cins cl regs Vo isN reg F vlen nw word table direct hd cpd sz op a b x oc dn there nvs vOp vA vB vX nd No pla hR (by omega) (by omega) (by omega)
      · rw [if_neg (show ¬ nI 13 = (0 : Int32) by decide), if_neg (show ¬ nI 13 = (1 : Int32) by decide), if_neg (show ¬ nI 13 = (2 : Int32) by decide), if_neg (show ¬ nI 13 = (3 : Int32) by decide), if_neg (show ¬ nI 13 = (4 : Int32) by decide), if_neg (show ¬ nI 13 = (5 : Int32) by decide), if_neg (show ¬ nI 13 = (6 : Int32) by decide), if_neg (show ¬ nI 13 = (7 : Int32) by decide), if_neg (show ¬ nI 13 = (8 : Int32) by decide), if_neg (show ¬ nI 13 = (9 : Int32) by decide), if_neg (show ¬ nI 13 = (10 : Int32) by decide), if_neg (show ¬ nI 13 = (11 : Int32) by decide), e5]
        exact ih (i + 5) xd xw cells fresh words rl cins cl regs Vo isN reg F vlen nw word table direct hd cpd sz op a b x oc dn there nvs vOp vA vB vX nd No pla hR (by omega) (by omega) (by omega)
      · rw [if_neg (show ¬ nI 14 = (0 : Int32) by decide), if_neg (show ¬ nI 14 = (1 : Int32) by decide), if_neg (show ¬ nI 14 = (2 : Int32) by decide), if_neg (show ¬ nI 14 = (3 : Int32) by decide), if_neg (show ¬ nI 14 = (4 : Int32) by decide), if_neg (show ¬ nI 14 = (5 : Int32) by decide), if_neg (show ¬ nI 14 = (6 : Int32) by decide), if_neg (show ¬ nI 14 = (7 : Int32) by decide), if_neg (show ¬ nI 14 = (8 : Int32) by decide), if_neg (show ¬ nI 14 = (9 : Int32) by decide), if_neg (show ¬ nI 14 = (10 : Int32) by decide), if_neg (show ¬ nI 14 = (11 : Int32) by decide), e5]
        exact ih (i + 5) xd xw cells fresh words rl cins cl regs Vo isN reg F vlen nw word table direct hd cpd sz op a b x oc dn there nvs vOp vA vB vX nd No pla hR (by omega) (by omega) (by omega)
      · rw [if_neg (show ¬ nI 15 = (0 : Int32) by decide), if_neg (show ¬ nI 15 = (1 : Int32) by decide), if_neg (show ¬ nI 15 = (2 : Int32) by decide), if_neg (show ¬ nI 15 = (3 : Int32) by decide), if_neg (show ¬ nI 15 = (4 : Int32) by decide), if_neg (show ¬ nI 15 = (5 : Int32) by decide), if_neg (show ¬ nI 15 = (6 : Int32) by decide), if_neg (show ¬ nI 15 = (7 : Int32) by decide), if_neg (show ¬ nI 15 = (8 : Int32) by decide), if_neg (show ¬ nI 15 = (9 : Int32) by decide), if_neg (show ¬ nI 15 = (10 : Int32) by decide), if_neg (show ¬ nI 15 = (11 : Int32) by decide), e5]
        exact ih (i + 5) xd xw cells fresh words rl cins cl regs Vo isN reg F vlen nw word table direct hd cpd sz op a b x oc dn there nvs vOp vA vB vX nd No pla hR (by omega) (by omega) (by omega)
