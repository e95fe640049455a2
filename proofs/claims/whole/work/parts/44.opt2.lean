/-! Optimising: what is needed, and the new code. -/
/-- what both have marked: the same, noughts and ones; nothing behind res; whatever stands from q on has its parts marked -/
def MK (nv res q : Nat) (isN nd : Nat → Int32) (o a b : Nat → Nat) : Prop := (∀ i, i < nv → isN i = nd i ∧ (nd i = 0 ∨ nd i = 1)) ∧ (∀ u, q ≤ u → u < nv → nd u = 1 → (3 ≤ o u → nd (a u) = 1) ∧ (3 ≤ o u ∧ o u ≤ 5 → nd (b u) = 1)) ∧ (∀ u, res < u → u < nv → nd u = 0) ∧ nd res = 1
theorem ar_of {o : Nat} : (o ≤ 2 → ar o = 0) ∧ (3 ≤ o ∧ o ≤ 5 → ar o = 2) ∧ (6 ≤ o → ar o = 1) := by
  unfold ar
  refine ⟨fun e => if_pos e, fun e => ?_, fun e => ?_⟩
  · rw [if_neg (by omega), if_pos e.2]
  · rw [if_neg (by omega), if_neg (by omega)]
theorem MK.up {nv res q v : Nat} {isN nd : Nat → Int32} {o a b : Nat → Nat} (h : MK nv res q isN nd o a b) (hv : v ≤ res) (hq : v < q) : MK nv res q (upd isN v 1) (upd nd v 1) o a b := by
  obtain ⟨h1, h2, h3, h4⟩ := h
  have key : ∀ u, nd u = 1 → upd nd v 1 u = 1 := fun u hu => by
    by_cases e : u = v
    · subst e; rw [pk_us]
    · rw [pk_un e]; exact hu
  refine ⟨fun i hi => ?_, fun u hu hu2 e => ?_, fun u hu hu2 => ?_, key res h4⟩
  · by_cases e : i = v
    · subst e; rw [pk_us, pk_us]; exact ⟨rfl, Or.inr rfl⟩
    · rw [pk_un e, pk_un e]; exact h1 i hi
  · rw [pk_un (by omega)] at e
    obtain ⟨y1, y2⟩ := h2 u hu hu2 e
    exact ⟨fun z => key _ (y1 z), fun z => key _ (y2 z)⟩
  · rw [pk_un (by omega)]; exact h3 u hu hu2
theorem MK.down {nv res q : Nat} {isN nd : Nat → Int32} {o a b : Nat → Nat} (h : MK nv res (q + 1) isN nd o a b) (hq : nd q = 1 → (3 ≤ o q → nd (a q) = 1) ∧ (3 ≤ o q ∧ o q ≤ 5 → nd (b q) = 1)) : MK nv res q isN nd o a b := by
  obtain ⟨h1, h2, h3, h4⟩ := h
  refine ⟨h1, fun u hu hu2 e => ?_, h3, h4⟩
  by_cases eq : u = q
  · subst eq; exact hq e
  · exact h2 u (by omega) hu2 e
section Mark
variable {P nv res : Nat} {F vOp vA vB vX nd0 No pla : Nat → Int32} {o a b x : Nat → Nat} {sz oc dn : Int32} {op1 a1 b1 x1 : Nat → Int32}
theorem mk_loop (h : VS P nv F vOp vA vB vX nd0 o a b x) (hnv : nv ≤ 40) (hres : res < nv) : ∀ (q fu1 fu2 : Nat) (isN nd : Nat → Int32), q ≤ nv → q < fu1 → q < fu2 → MK nv res q isN nd o a b →
    ∃ isN' nd' : Nat → Int32, f_O_markNeeded_37 F fu1 (nI q + (-1)) isN = some isN' ∧ f_N_optimise_64 sz op1 a1 b1 x1 oc dn (nI nv) vOp vA vB vX No pla fu2 (nI q + (-1)) nd = f_N_optimise_141 oc dn (nI nv) vOp vA vB vX nd' No zFU (0 : Int32) (0 : Int32) op1 a1 b1 x1 pla ∧ MK nv res 0 isN' nd' o a b := by
  intro q
  induction q with
  | zero =>
    intro fu1 fu2 isN nd e1 e2 e3 hM
    obtain ⟨fu1, rfl⟩ : ∃ z, fu1 = z + 1 := ⟨fu1 - 1, by omega⟩
    obtain ⟨fu2, rfl⟩ : ∃ z, fu2 = z + 1 := ⟨fu2 - 1, by omega⟩
    exact ⟨isN, nd, by rw [f_O_markNeeded_37, if_pos (by decide)], by rw [f_N_optimise_64, if_pos (by decide)], hM⟩
  | succ q ih =>
    intro fu1 fu2 isN nd e1 e2 e3 hM
    obtain ⟨fu1, rfl⟩ : ∃ z, fu1 = z + 1 := ⟨fu1 - 1, by omega⟩
    obtain ⟨fu2, rfl⟩ : ∃ z, fu2 = z + 1 := ⟨fu2 - 1, by omega⟩
    obtain ⟨m1, m2, m3, m4⟩ := id hM
    obtain ⟨n1, n2⟩ := m1 q (by omega)
    obtain ⟨y1, y2, y3, y4, y5, y6⟩ := h.1 q (by omega)
    obtain ⟨b1', b2, b3, b4, b5, b6, b7⟩ := VI_b y6 (by omega)
    obtain ⟨v1, v2, v3, v4, v5, v6, v7, v8, v9⟩ := id y6
    obtain ⟨r0, r2, r1⟩ := ar_of (o := o q)
    have g1 : ∀ {β : Type} (z : Option β), gd (nI q) 48 z = z := fun z => gdN (by omega) (by decide)
    have c1 : (nI q).toNatClampNeg = q := nI_clamp (by omega)
    rw [f_O_markNeeded_37, f_N_optimise_64, pk_m1, if_neg (nI_pos (by omega)), if_neg (nI_pos (by omega)), gdN (by omega) (by decide)]
    simp only [g1, c1]
    rw [n1]
    rcases n2 with n2 | n2
    · rw [if_pos n2, if_pos n2, f_N_optimise_98]
      simp only [g1, c1]
      rw [if_pos n2]
      exact ih fu1 fu2 isN nd (by omega) (by omega) (by omega) (hM.down (fun z => by rw [n2] at z; exact absurd z (by decide)))
    · have nz1 : ¬ nd q = 0 := by rw [n2]; decide
      have hqr : q ≤ res := by
        by_cases e : res < q
        · exact absurd (m3 q e (by omega)) nz1
        · omega
      rw [if_neg nz1, if_neg nz1, p_Fop h hnv (by omega), ob_some, opnd (by omega), ob_some, y3]
      by_cases o3 : 3 ≤ o q
      · have ha : a q < q := v5 o3
        have g2 : ∀ {β : Type} (z : Option β), gd (nI (a q)) 48 z = z := fun z => gdN (by omega) (by decide)
        have c2 : (nI (a q)).toNatClampNeg = a q := nI_clamp (by omega)
        have har : ¬ nI (ar (o q)) < (1 : Int32) := by
          have : 1 ≤ ar (o q) := by
            by_cases z : o q ≤ 5
            · rw [r2 ⟨o3, z⟩]; omega
            · rw [r1 (by omega)]; omega
          exact nI_nlt (b := 1) this (by have := ar_le (o q); omega)
        have eav : av (o q) (a q) = nI (a q) := by unfold av; rw [if_pos o3]
        have hM1 := hM.up (v := a q) (by omega) (by omega)
        have nq : upd nd (a q) 1 q = 1 := by rw [pk_un (by omega)]; exact n2
        rw [if_neg har, p_F1 h hnv (by omega), ob_some, gdN (by omega) (by decide), eav, if_neg (nI_pos (by omega)), g2, c2, vn1, f_O_markNeeded_84, f_N_optimise_98]
        simp only [g1, c1]
        rw [nq, if_neg (show ¬ (1 : Int32) = 0 by decide), y4]
        by_cases o5 : o q ≤ 5
        · have hb : b q < q := (v6 ⟨o3, o5⟩).1
          have g3 : ∀ {β : Type} (z : Option β), gd (nI (b q)) 48 z = z := fun z => gdN (by omega) (by decide)
          have c3 : (nI (b q)).toNatClampNeg = b q := nI_clamp (by omega)
          have ebv : bv (o q) (b q) = nI (b q) := by unfold bv; rw [if_pos ⟨o3, o5⟩]
          have hM2 := hM1.up (v := b q) (by omega) (by omega)
          rw [if_pos (show nI (ar (o q)) = (2 : Int32) by rw [r2 ⟨o3, o5⟩]; rfl), p_F2 h hnv (by omega), ob_some, if_pos ⟨o3, o5⟩, gdN (by omega) (by decide), c3, vn1, ebv, if_neg (nI_pos (by omega)), g3, c3]
          refine ih fu1 fu2 _ _ (by omega) (by omega) (by omega) (hM2.down (fun _ => ⟨fun _ => ?_, fun _ => pk_us⟩))
          by_cases e : a q = b q
          · rw [e, pk_us]
          · rw [pk_un e, pk_us]
        · have ebv : bv (o q) (b q) = -1 := by unfold bv; rw [if_neg (by omega)]
          rw [if_neg (show ¬ nI (ar (o q)) = (2 : Int32) by rw [r1 (by omega)]; decide), ebv, if_pos (by decide)]
          exact ih fu1 fu2 _ _ (by omega) (by omega) (by omega) (hM1.down (fun _ => ⟨fun _ => pk_us, fun z => by omega⟩))
      · have eav : av (o q) (a q) = -1 := by unfold av; rw [if_neg o3]
        have ebv : bv (o q) (b q) = -1 := by unfold bv; rw [if_neg (by omega)]
        have e0 := r0 (by omega)
        rw [e0, if_pos (by decide), eav, if_pos (by decide), f_O_markNeeded_84, if_neg (by decide), f_N_optimise_98]
        simp only [g1, c1]
        rw [if_neg nz1, y4, ebv, if_pos (by decide)]
        exact ih fu1 fu2 isN nd (by omega) (by omega) (by omega) (hM.down (fun _ => ⟨fun z => absurd z o3, fun z => by omega⟩))
/-- the reference begins behind res, where nothing is marked -/
theorem mk_skip (h : VS P nv F vOp vA vB vX nd0 o a b x) (hnv : nv ≤ 40) (hres : res < nv) {nd : Nat → Int32} (h3 : ∀ u, res < u → u < nv → nd u = 0) : ∀ (m q fu : Nat), q = res + 1 + m → q ≤ nv → f_N_optimise_64 sz op1 a1 b1 x1 oc dn (nI nv) vOp vA vB vX No pla (fu + m) (nI q + (-1)) nd = f_N_optimise_64 sz op1 a1 b1 x1 oc dn (nI nv) vOp vA vB vX No pla fu (nI (res + 1) + (-1)) nd := by
  intro m
  induction m with
  | zero => intro q fu e1 e2; subst e1; rfl
  | succ m ih =>
    intro q fu e1 e2
    obtain ⟨z, rfl⟩ : ∃ z, q = z + 1 := ⟨q - 1, by omega⟩
    have n0 := h3 z (by omega) (by omega)
    have g1 : ∀ {β : Type} (y : Option β), gd (nI z) 48 y = y := fun y => gdN (by omega) (by decide)
    have c1 : (nI z).toNatClampNeg = z := nI_clamp (by omega)
    rw [← Nat.add_assoc, f_N_optimise_64, pk_m1, if_neg (nI_pos (by omega))]
    simp only [g1, c1]
    rw [if_pos n0, f_N_optimise_98]
    simp only [g1, c1]
    rw [if_pos n0]
    exact ih z fu (by omega) (by omega)
theorem rw_loop {isN nd : Nat → Int32} (h : VS P nv F vOp vA vB vX nd0 o a b x) (hnv : nv ≤ 40) (hres : res < nv) (hM : MK nv res 0 isN nd o a b) : ∀ (m v fu n : Nat) (reg place : Nat → Int32) (ci cop ca cb cx pl : Nat → Nat), v + m = nv → m < fu → n ≤ v → CR n ci cop ca cb cx → (∀ u, u < v → nd u = 1 → reg u = nI (pl u) ∧ place u = nI (pl u) ∧ pl u < n) → (res < v → 0 < n) →
    ∃ (n' : Nat) (reg' place' : Nat → Int32) (ci' cop' ca' cb' cx' : Nat → Nat), f_O_rewrite_6 isN F (nI nv) fu (nI v) (zN ci) (nI n) reg = some (zN ci', nI n', reg') ∧ f_N_optimise_141 oc dn (nI nv) vOp vA vB vX nd No fu (nI v) (nI n) (zN cop) (zN ca) (zN cb) (zN cx) place = some (0, nI n', zN cop', zN ca', zN cb', zN cx', nI (n' - 1), 0, nI nv, vOp, vA, vB, vX, nd, No, place') ∧ CR n' ci' cop' ca' cb' cx' ∧ 0 < n' ∧ n' ≤ 40 := by
  intro m
  induction m with
  | zero =>
    intro v fu n reg place ci cop ca cb cx pl e1 e2 e3 hC hp hn0
    obtain ⟨fu, rfl⟩ : ∃ z, fu = z + 1 := ⟨fu - 1, by omega⟩
    obtain rfl : v = nv := by omega
    have := hn0 hres
    refine ⟨n, reg, place, ci, cop, ca, cb, cx, ?_, ?_, hC, by omega, by omega⟩
    · rw [f_O_rewrite_6, f_C_length, ob_some, if_pos (nI_le (Nat.le_refl _) (by omega))]
    · rw [f_N_optimise_141, if_pos (nI_le (Nat.le_refl _) (by omega)), show (1 : Int32) = nI 1 from rfl, pk_sub (by omega)]
  | succ m ih =>
    intro v fu n reg place ci cop ca cb cx pl e1 e2 e3 hC hp hn0
    obtain ⟨fu, rfl⟩ : ∃ z, fu = z + 1 := ⟨fu - 1, by omega⟩
    obtain ⟨m1, m2, m3, m4⟩ := id hM
    obtain ⟨n1, n2⟩ := m1 v (by omega)
    obtain ⟨y1, y2, y3, y4, y5, y6⟩ := h.1 v (by omega)
    obtain ⟨b1', b2, b3, b4, b5, b6, b7⟩ := VI_b y6 (by omega)
    obtain ⟨v1, v2, v3, v4, v5, v6, v7, v8, v9⟩ := id y6
    obtain ⟨r0, r2, r1⟩ := ar_of (o := o v)
    have g1 : ∀ {β : Type} (z : Option β), gd (nI v) 48 z = z := fun z => gdN (by omega) (by decide)
    have g4 : ∀ {β : Type} (z : Option β), gd (nI v) 40 z = z := fun z => gdN (by omega) (by decide)
    have c1 : (nI v).toNatClampNeg = v := nI_clamp (by omega)
    rw [f_O_rewrite_6, f_N_optimise_141, f_C_length, ob_some, if_neg (nI_ge (by omega) (by omega)), if_neg (nI_ge (by omega) (by omega))]
    simp only [g1, g4, c1]
    rw [n1]
    rcases n2 with n2 | n2
    · rw [if_pos n2, if_pos n2, nI_1]
      refine ih (v + 1) fu n reg place ci cop ca cb cx pl (by omega) (by omega) (by omega) hC (fun u hu hu2 => ?_) (fun hr => ?_)
      · by_cases e : u = v
        · subst e; rw [n2] at hu2; exact absurd hu2 (by decide)
        · exact hp u (by omega) hu2
      · by_cases e : res = v
        · subst e; rw [n2] at m4; exact absurd m4 (by decide)
        · exact hn0 (by omega)
    · have nz1 : ¬ nd v = 0 := by rw [n2]; decide
      obtain ⟨cl1, cl2⟩ := m2 v (Nat.zero_le _) (by omega) n2
      -- the new instruction
      have key : ∃ A B : Nat, VI n (o v) A B (x v) ∧ f_O_rewritten (zN ci) (nI n) reg F (nI v) = some (nI n, zN (updN ci n (pkI (o v) A B (x v))), nI (n + 1)) ∧
          (∀ k141, (if 0 ≤ vA v then gd (vA v) 48 (f_N_optimise_194 k141 (nI v) (place (vA v).toNatClampNeg) (vOp v) (nI v) (nI n) (zN cop) (zN ca) (zN cb) (zN cx) oc dn (nI nv) vOp vA vB vX nd No place) else f_N_optimise_194 k141 (nI v) (0 : Int32) (vOp v) (nI v) (nI n) (zN cop) (zN ca) (zN cb) (zN cx) oc dn (nI nv) vOp vA vB vX nd No place) = k141 (nI (v + 1)) (nI (n + 1)) (zN (updN cop n (o v))) (zN (updN ca n A)) (zN (updN cb n B)) (zN (updN cx n (x v))) (upd place v (nI n))) := by
        have w194 : ∀ (k141 : Int32 → Int32 → (Nat → Int32) → (Nat → Int32) → (Nat → Int32) → (Nat → Int32) → (Nat → Int32) → Option (Int32 × Int32 × (Nat → Int32) × (Nat → Int32) × (Nat → Int32) × (Nat → Int32) × Int32 × Int32 × Int32 × (Nat → Int32) × (Nat → Int32) × (Nat → Int32) × (Nat → Int32) × (Nat → Int32) × (Nat → Int32) × (Nat → Int32))) (A B : Nat), (if 3 ≤ o v ∧ o v ≤ 5 then place (b v) = nI B else B = 0) → f_N_optimise_194 k141 (nI v) (nI A) (vOp v) (nI v) (nI n) (zN cop) (zN ca) (zN cb) (zN cx) oc dn (nI nv) vOp vA vB vX nd No place = k141 (nI (v + 1)) (nI (n + 1)) (zN (updN cop n (o v))) (zN (updN ca n A)) (zN (updN cb n B)) (zN (updN cx n (x v))) (upd place v (nI n)) := by
          intro k141 A B hB
          have w218 : f_N_optimise_218 k141 (nI v) (nI B) (nI A) (vOp v) (nI v) (nI n) (zN cop) (zN ca) (zN cb) (zN cx) oc dn (nI nv) vOp vA vB vX nd No place = k141 (nI (v + 1)) (nI (n + 1)) (zN (updN cop n (o v))) (zN (updN ca n A)) (zN (updN cb n B)) (zN (updN cx n (x v))) (upd place v (nI n)) := by
            rw [f_N_optimise_218]
            simp only [g1, c1]
            rw [y2, y5, p_write (by omega), ob_some, nI_1]
          rw [f_N_optimise_194]
          simp only [g1, c1]
          rw [y4]
          by_cases o5 : 3 ≤ o v ∧ o v ≤ 5
          · rw [if_pos o5] at hB
            have ebv : bv (o v) (b v) = nI (b v) := by unfold bv; rw [if_pos o5]
            rw [ebv, if_pos (nI_pos' (by omega)), gdN (by omega) (by decide), nI_clamp (by omega), hB]
            exact w218
          · rw [if_neg o5] at hB
            have ebv : bv (o v) (b v) = -1 := by unfold bv; rw [if_neg o5]
            subst hB
            rw [ebv, if_neg (by decide)]
            exact w218
        by_cases o3 : 3 ≤ o v
        · have ha : a v < v := v5 o3
          obtain ⟨p1, p2, p3⟩ := hp (a v) ha (cl1 o3)
          have eav : av (o v) (a v) = nI (a v) := by unfold av; rw [if_pos o3]
          have har : ¬ nI (ar (o v)) < (1 : Int32) := by
            have : 1 ≤ ar (o v) := by
              by_cases z : o v ≤ 5
              · rw [r2 ⟨o3, z⟩]; omega
              · rw [r1 (by omega)]; omega
            exact nI_nlt (b := 1) this (by have := ar_le (o v); omega)
          by_cases o5 : o v ≤ 5
          · have hb : b v < v := (v6 ⟨o3, o5⟩).1
            obtain ⟨s1, s2, s3⟩ := hp (b v) hb (cl2 ⟨o3, o5⟩)
            refine ⟨pl (a v), pl (b v), ⟨by omega, by omega, by omega, by omega, fun _ => p3, fun _ => ⟨s3, b6 ⟨o3, o5⟩⟩, by omega, by omega, by omega⟩, ?_, fun k141 => ?_⟩
            · rw [f_O_rewritten, p_Fop h hnv (by omega), ob_some, opnd (by omega), ob_some, if_neg har, p_F1 h hnv (by omega), ob_some, gdN (by omega) (by decide), nI_clamp (by omega), f_O_rewritten_38, if_pos (show nI (ar (o v)) = (2 : Int32) by rw [r2 ⟨o3, o5⟩]; rfl), p_F2 h hnv (by omega), ob_some, if_pos ⟨o3, o5⟩, gdN (by omega) (by decide), nI_clamp (by omega), p1, s1, f_O_rewritten_70, p_append (by omega), ob_some, show pkI (o v) (pl (a v)) (pl (b v)) (x v) = 10000 * o v + 100 * pl (a v) + pl (b v) by unfold pkI; rw [if_pos ⟨o3, o5⟩]]
            · rw [y3, eav, if_pos (nI_pos' (by omega)), gdN (by omega) (by decide), nI_clamp (by omega), p2]
              exact w194 k141 _ _ (by rw [if_pos ⟨o3, o5⟩]; exact s2)
          · refine ⟨pl (a v), 0, ⟨by omega, by omega, by omega, by omega, fun _ => p3, by omega, fun _ => rfl, v8, v9⟩, ?_, fun k141 => ?_⟩
            · rw [f_O_rewritten, p_Fop h hnv (by omega), ob_some, opnd (by omega), ob_some, if_neg har, p_F1 h hnv (by omega), ob_some, gdN (by omega) (by decide), nI_clamp (by omega), f_O_rewritten_38, if_neg (show ¬ nI (ar (o v)) = (2 : Int32) by rw [r1 (by omega)]; decide), p_F2 h hnv (by omega), ob_some, if_neg (show ¬ (3 ≤ o v ∧ o v ≤ 5) by omega), p1, f_O_rewritten_70, p_append (by omega), ob_some, show pkI (o v) (pl (a v)) 0 (x v) = 10000 * o v + 100 * pl (a v) + x v by unfold pkI; rw [if_neg (by omega)]]
            · rw [y3, eav, if_pos (nI_pos' (by omega)), gdN (by omega) (by decide), nI_clamp (by omega), p2]
              exact w194 k141 _ _ (by rw [if_neg (by omega)])
        · have eav : av (o v) (a v) = -1 := by unfold av; rw [if_neg o3]
          refine ⟨0, 0, ⟨by omega, v2, fun _ => ⟨rfl, rfl⟩, v4, by omega, by omega, by omega, by omega, by omega⟩, ?_, fun k141 => ?_⟩
          · rw [f_O_rewritten, p_Fop h hnv (by omega), ob_some, opnd (by omega), ob_some, r0 (by omega), if_pos (by decide), f_O_rewritten_38, if_neg (by decide), p_F2 h hnv (by omega), ob_some, if_neg (show ¬ (3 ≤ o v ∧ o v ≤ 5) by omega), show (0 : Int32) = nI 0 from rfl, f_O_rewritten_70, p_append (by omega), ob_some, show pkI (o v) 0 0 (x v) = 10000 * o v + 100 * 0 + x v by unfold pkI; rw [if_neg (by omega)]]
          · rw [y3, eav, if_neg (by decide)]
            exact w194 k141 0 _ (by rw [if_neg (by omega)])
      obtain ⟨A, B, k1, k2, k3⟩ := key
      rw [if_neg nz1, if_neg nz1, k2, ob_some]
      have hk := k3 (f_N_optimise_141 oc dn (nI nv) vOp vA vB vX nd No fu)
      rw [hk, nI_1]
      exact ih (v + 1) fu (n + 1) (upd reg v (nI n)) (upd place v (nI n)) _ _ _ _ _ (updN pl v n) (by omega) (by omega) (by omega) (CR_push hC k1) (fun u hu hu2 => by
        by_cases e : u = v
        · subst e; rw [pk_us, pk_us]; unfold updN; rw [if_pos rfl]; exact ⟨rfl, rfl, by omega⟩
        · rw [pk_un e, pk_un e]; unfold updN; rw [if_neg e]
          obtain ⟨t1, t2, t3⟩ := hp u (by omega) hu2
          exact ⟨t1, t2, by omega⟩) (fun _ => by omega)
end Mark
/-- optimising, side by side -/
theorem opt_eq {P len : Nat} {ci cop ca cb cx : Nat → Nat} (hP : 1 < P) (hP2 : P ≤ 97) (hlen : 0 < len) (hlen2 : len ≤ 40) (hC : CR len ci cop ca cb cx) (Vo isN reg F vOp vA vB vX nd No pla : Nat → Int32) (vlen nvs dn : Int32) :
    ∃ (n' : Nat) (ci' cop' ca' cb' cx' : Nat → Nat) (Vo' isN' reg' F' vOp' vA' vB' vX' nd' No' pla' : Nat → Int32) (vlen' nvs' : Int32), f_O_improve (zN ci) (nI len) (nI P) Vo isN reg F vlen = some (zN ci', nI n', Vo', isN', reg', F', vlen') ∧ f_N_optimise (nI P) 1 (nI len) (zN cop) (zN ca) (zN cb) (zN cx) (nI (len - 1)) dn nvs vOp vA vB vX nd No pla = some (0, nI n', zN cop', zN ca', zN cb', zN cx', nI (n' - 1), 0, nvs', vOp', vA', vB', vX', nd', No', pla') ∧ CR n' ci' cop' ca' cb' cx' ∧ 0 < n' ∧ n' ≤ 40 := by
  obtain ⟨nv, F1, vOp1, vA1, vB1, vX1, nd1, Vo1, No1, o, a, b, x, vl, s1, s2, s3, s4, s5⟩ := imp_loop (isN := isN) (reg := reg) (pla := pla) (oc := nI (len - 1)) (dn := dn) (cop := cop) (ca := ca) (cb := cb) (cx := cx) hP hP2 hlen2 hC len 0 zFU 0 F vOp vA vB vX nd Vo No (fun _ => 0) (fun _ => 0) (fun _ => 0) (fun _ => 0) (fun _ => 0) (by omega) (by unfold zFU; omega) (by omega) ⟨fun k hk => absurd hk (by omega), fun i j hi => absurd hi (by omega), fun k hk => absurd hk (by omega), fun k hk => absurd hk (by omega)⟩ (fun i hi => absurd hi (by omega))
  obtain ⟨t1, t2, t3⟩ := s5 (len - 1) (by omega)
  have hres := t3
  obtain ⟨isN1, u1, u2⟩ := mk_init (F := F1) (show nv ≤ 40 by omega) hres nv 0 zFU isN (by omega) (by unfold zFU; omega) (fun i hi => absurd hi (by omega))
  have hM : MK nv (vl (len - 1)) (vl (len - 1) + 1) isN1 (upd nd1 (vl (len - 1)) 1) o a b := by
    have e : ∀ i, i < nv → upd nd1 (vl (len - 1)) 1 i = if i = vl (len - 1) then 1 else 0 := fun i hi => by
      by_cases z : i = vl (len - 1)
      · rw [if_pos z, z, pk_us]
      · rw [if_neg z, pk_un z]; exact s4.2.2.2 i hi
    refine ⟨fun i hi => ?_, fun u hu hu2 z => ?_, fun u hu hu2 => ?_, pk_us⟩
    · rw [u2 i hi, e i hi]
      refine ⟨rfl, ?_⟩
      by_cases z : i = vl (len - 1)
      · rw [if_pos z]; exact Or.inr rfl
      · rw [if_neg z]; exact Or.inl rfl
    · rw [e u hu2, if_neg (by omega)] at z
      exact absurd z (by decide)
    · rw [e u hu2, if_neg (by omega)]
  obtain ⟨isN2, nd2, m1, m2, m3⟩ := mk_loop (sz := nI len) (op1 := zN cop) (a1 := zN ca) (b1 := zN cb) (x1 := zN cx) (oc := nI (len - 1)) (dn := dn) (No := No1) (pla := pla) s4 (by omega) hres (vl (len - 1) + 1) zFU (zFU - (nv - (vl (len - 1) + 1))) isN1 _ (by omega) (by unfold zFU; omega) (by unfold zFU; omega) hM
  obtain ⟨n', reg', place', ci', cop', ca', cb', cx', w1, w2, w3, w4, w5⟩ := rw_loop (oc := nI (len - 1)) (dn := dn) (No := No1) s4 (by omega) hres m3 nv 0 zFU 0 reg pla ci cop ca cb cx (fun _ => 0) (by omega) (by unfold zFU; omega) (by omega) (fun k hk => absurd hk (by omega)) (fun u hu => absurd hu (by omega)) (fun hr => absurd hr (by omega))
  refine ⟨n', ci', cop', ca', cb', cx', Vo1, isN2, reg', F1, vOp1, vA1, vB1, vX1, nd2, No1, place', nI nv, nI nv, ?_, ?_, w3, w4, w5⟩
  · rw [f_O_improve, f_C_clear, ob_some]
    refine (show _ = _ from s1).trans ?_
    rw [show (1 : Nat) = 0 + 1 from rfl, f_O_improve_9, f_C_length, ob_some, if_pos (nI_le (Nat.le_refl _) (by omega)), f_C_result, ob_some, show (1 : Int32) = nI 1 from rfl, pk_sub (by omega), gdN (by omega) (by decide), nI_clamp (by omega), t1, f_O_markNeeded]
    rw [show (0 : Int32) = nI 0 from rfl, u1, show nI (vl (len - 1)) = nI (vl (len - 1) + 1) + (-1) from (pk_m1 _).symm, m1, ob_some, f_O_rewrite, f_C_clear, ob_some, show (0 : Int32) = nI 0 from rfl, w1, ob_some]
  · rw [f_N_optimise, if_neg (show ¬ (1 : Int32) = 0 by decide)]
    refine (show _ = _ from s2).trans ?_
    rw [show (1 : Nat) = 0 + 1 from rfl, f_N_optimise_17, if_pos (nI_le (Nat.le_refl _) (by omega)), gdN (by omega) (by decide), nI_clamp (by omega), t2, gdN (by omega) (by decide), nI_clamp (by omega), vn1]
    simp only [nm]
    have hsk := mk_skip (sz := nI len) (op1 := zN cop) (a1 := zN ca) (b1 := zN cb) (x1 := zN cx) (oc := nI (len - 1)) (dn := dn) (No := No1) (pla := pla) (nd := upd nd1 (vl (len - 1)) 1) s4 (by omega) hres hM.2.2.1 (nv - (vl (len - 1) + 1)) nv (zFU - (nv - (vl (len - 1) + 1))) (by omega) (Nat.le_refl _)
    rw [show zFU - (nv - (vl (len - 1) + 1)) + (nv - (vl (len - 1) + 1)) = zFU by unfold zFU; omega] at hsk
    obtain ⟨z, hz⟩ : ∃ z, nv = z + 1 := ⟨nv - 1, by omega⟩
    rw [show nI nv - (1 : Int32) = nI nv + (-1) by rw [hz, nI_pred, pk_m1], hsk, m2]
    exact w2
