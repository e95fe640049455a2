/-! Running and working out, side by side. -/
theorem unpack {k o a b x : Nat} (hv : VI k o a b x) (hk : k ≤ 40) : pkI o a b x / 10000 = o ∧ pkI o a b x / 100 % 100 = a ∧ pkI o a b x % 100 = (if 3 ≤ o ∧ o ≤ 5 then b else x) ∧ pkI o a b x < 80000 := by
  obtain ⟨v1, v2, v3, v4, v5, v6, v7, v8, v9⟩ := hv
  unfold pkI
  by_cases h : 3 ≤ o ∧ o ≤ 5
  · rw [if_pos h]
    have h6 := v6 h
    have h5 := v5 h.1
    omega
  · rw [if_neg h]
    have ha : a < 41 := by
      by_cases h3 : 3 ≤ o
      · have := v5 h3; omega
      · have := v3 (by omega); omega
    have hx : x < 100 := by
      rcases (show o = 0 ∨ (o = 1 ∨ o = 2) ∨ o = 6 ∨ o = 7 by omega) with e | e | e | e
      · have := v2 e; omega
      · have := v4 e; omega
      · have := v8 e; omega
      · exact v9 e
    omega
section Unp
variable {ci : Nat → Nat} {k o a b x : Nat}
theorem p_Cop (hk : k < 40) (hv : VI k o a b x) (hc : ci k = pkI o a b x) : f_C_operation (zN ci) (nI k) = some (nI o) := by
  obtain ⟨u1, u2, u3, u4⟩ := unpack hv (by omega)
  rw [f_C_operation, gdN hk (by decide), nI_clamp (by omega), zN_at, hc, show (10000 : Int32) = nI 10000 from rfl, pk_div (by omega) (by decide) (by decide), u1]
theorem p_C1 (hk : k < 40) (hv : VI k o a b x) (hc : ci k = pkI o a b x) : f_C_first (zN ci) (nI k) = some (nI a) := by
  obtain ⟨u1, u2, u3, u4⟩ := unpack hv (by omega)
  rw [f_C_first, gdN hk (by decide), nI_clamp (by omega), zN_at, hc, show (100 : Int32) = nI 100 from rfl, pk_div (by omega) (by decide) (by decide), zremN (by omega) (by decide) (by decide), u2]
theorem p_C2 (hk : k < 40) (hv : VI k o a b x) (hc : ci k = pkI o a b x) : f_C_second (zN ci) (nI k) = some (nI (if 3 ≤ o ∧ o ≤ 5 then b else x)) := by
  obtain ⟨u1, u2, u3, u4⟩ := unpack hv (by omega)
  rw [f_C_second, gdN hk (by decide), nI_clamp (by omega), zN_at, hc, show (100 : Int32) = nI 100 from rfl, zremN (by omega) (by decide) (by decide), u3]
end Unp
theorem opM_x {n P o x y : Nat} {I L R : Mt} (h : o ≤ 6) : opM n P o x I L R = opM n P o y I L R := by
  unfold opM
  by_cases h0 : o = 0
  · rw [if_pos h0, if_pos h0]
  rw [if_neg h0, if_neg h0]
  by_cases h1 : o = 1
  · rw [if_pos h1, if_pos h1]
  rw [if_neg h1, if_neg h1]
  by_cases h2 : o = 2
  · rw [if_pos h2, if_pos h2]
  rw [if_neg h2, if_neg h2]
  by_cases h3 : o = 3
  · rw [if_pos h3, if_pos h3]
  rw [if_neg h3, if_neg h3]
  by_cases h4 : o = 4
  · rw [if_pos h4, if_pos h4]
  rw [if_neg h4, if_neg h4]
  by_cases h5 : o = 5
  · rw [if_pos h5, if_pos h5]
  rw [if_neg h5, if_neg h5, if_pos (by omega), if_pos (by omega)]
/-- a matrix of the class and one of the reference are the same, and below P -/
def sm (n P : Nat) (A B : Mt) : Prop := eqM n A B ∧ ltM n P B
theorem sm.lt {n P : Nat} {A B : Mt} (h : sm n P A B) : ltM n P A := ltM_congr h.1 h.2
/-- class's apply and reference's operate on operands that are the same -/
theorem both_op {n P o r a b r' a' b' x : Nat} {g h t : Nat → Nat} (hn : 0 < n) (hn4 : n ≤ 4) (hP : 1 < P) (hP2 : P ≤ 97) (ho : o ≤ 7) (hr : r < 70) (hr' : r' < 71) (hx0 : o = 0 → x < 4) (hx7 : o = 7 → x < 100)
    (hI : ∀ m, m < 4 → sm n P (cM n g (40 + m)) (nM t m)) (hL : 3 ≤ o → a < 70 ∧ a' < 71 ∧ a' ≠ 29 ∧ sm n P (cM n g a) (nM t a')) (hR : 3 ≤ o → o ≤ 5 → b < 70 ∧ b' < 71 ∧ b' ≠ 29 ∧ sm n P (cM n g b) (nM t b')) (hb : ¬ (3 ≤ o ∧ o ≤ 5) → b = x) :
    ∃ g' h' t' : Nat → Nat, f_M_apply (70 * (n * n)) (n * n) (nI P) (nI n) (nI (n * n)) (zN g) (zN h) (nI o) (nI r) (nI a) (nI b) = some (zN g', zN h') ∧ f_N_operate (nI P) (nI n) (zN t) (nI o) (nI a') (nI b') (nI x) (nI r') = some (zN t') ∧ sm n P (cM n g' r) (nM t' r') ∧ (∀ q, q ≠ r → eqM n (cM n g' q) (cM n g q)) ∧ (∀ q, q ≠ r' → q ≠ 29 → eqM n (nM t' q) (nM t q)) := by
  have hb0 : o = 0 → b = x := fun e => hb (by omega)
  have hb7 : o = 7 → b = x := fun e => hb (by omega)
  obtain ⟨g', h', e1, k1, m1⟩ := p_apply (g := g) (h := h) (o := o) (r := r) (a := a) (b := b) hn4 hP hP2 ho hr (fun e => by rw [hb0 e]; exact hx0 e) (fun e => by rw [hb7 e]; exact hx7 e) (fun e => ⟨(hL e).1, (hL e).2.2.2.lt⟩) (fun e e2 => ⟨(hR e e2).1, (hR e e2).2.2.2.lt⟩)
  obtain ⟨t', e2, k2, m2⟩ := p_operate (t := t) (o := o) (a := a') (b := b') (x := x) (r := r') hn hn4 hP hP2 ho hr' (fun e => ⟨(hL e).2.2.1, (hL e).2.1, (hL e).2.2.2.2⟩) (fun e e2 => ⟨(hR e e2).2.2.1, (hR e e2).2.1, (hR e e2).2.2.2.2⟩) hx7 (fun e => ⟨hx0 e, (hI x (hx0 e)).2⟩)
  refine ⟨g', h', t', e1, e2, ⟨?_, ltM_congr m2 (opM_lt hP (fun e => (hI x (hx0 e)).2) (fun e => (hL (by omega)).2.2.2.2))⟩, k1, k2⟩
  refine m1.tr (eqM.tr ?_ m2.sy)
  have hc : eqM n (opM n P o b (cM n g (40 + b)) (cM n g a) (cM n g b)) (opM n P o b (nM t x) (nM t a') (nM t b')) :=
    opM_congr (fun e => by rw [hb0 e]; exact (hI x (hx0 e)).1) (fun e => (hL e).2.2.2.1) (fun e e2 => (hR e e2).2.2.2.1)
  refine hc.tr ?_
  by_cases h6 : o ≤ 6
  · rw [opM_x (y := x) h6]
    exact eqM.rf
  · rw [hb7 (by omega)]
    exact eqM.rf
section Run
variable {n P len : Nat} {ci op a b x : Nat → Nat}
theorem run_eq (hn : 0 < n) (hn4 : n ≤ 4) (hP : 1 < P) (hP2 : P ≤ 97) (hlen : len ≤ 40) (hC : CR len ci op a b x) (f : Int32) (st : Nat) : ∀ (m i d fu : Nat) (g h t : Nat → Nat), i + m = st → st ≤ 40 → d + m ≤ len → m < fu → (∀ j, j < st → ¬ f ≤ nI j) → (f ≤ nI st ∨ len ≤ d + m) → (∀ q, q < 4 → sm n P (cM n g (40 + q)) (nM t q)) → (∀ q, q < d → sm n P (cM n g q) (nM t (31 + q))) →
    ∃ g' h' t' : Nat → Nat, ∃ r : Int32, f_X_run_33 (70 * (n * n)) (n * n) (nI P) (nI n) (nI (n * n)) (zN ci) (nI len) (nI st) fu (nI i) (nI d) (zN g) (zN h) = some (r, nI (d + m), zN g', zN h') ∧ f_N_run_12 (nI P) (nI n) (nI len) (zN op) (zN a) (zN b) (zN x) f fu (nI i) (zN t) (nI d) = some (r, zN t', nI (d + m)) ∧ (∀ q, q < d + m → sm n P (cM n g' q) (nM t' (31 + q))) ∧ (∀ q, 40 ≤ q → eqM n (cM n g' q) (cM n g q)) ∧ (∀ q, q < 29 → eqM n (nM t' q) (nM t q)) := by
  intro m
  induction m with
  | zero =>
    intro i d fu g h t h1 h2 h3 h4 h5 h6 h7 h8
    obtain ⟨fu, rfl⟩ : ∃ z, fu = z + 1 := ⟨fu - 1, by omega⟩
    obtain rfl : i = st := by omega
    have hc : (nI d = nI len) ↔ d = len := nI_eq (by omega) (by omega)
    have hN : f_N_run_12 (nI P) (nI n) (nI len) (zN op) (zN a) (zN b) (zN x) f (fu + 1) (nI i) (zN t) (nI d) = f_N_run_97 (nI len) (zN t) (nI d) := by
      rw [f_N_run_12]
      by_cases e : f ≤ nI i
      · rw [if_pos e]
      · rw [if_neg e, if_pos]
        rcases h6 with h6 | h6
        · exact absurd h6 e
        · exact nI_le h6 (by omega)
    rw [hN, f_X_run_33, if_pos (nI_le (Nat.le_refl _) (by omega)), f_X_isAllDone, f_C_length, ob_some, f_N_run_97]
    by_cases e : d = len
    · rw [if_pos (hc.mpr e), if_pos (hc.mpr e), ob_some, if_neg (by decide)]
      exact ⟨g, h, t, 0, rfl, rfl, fun q hq => h8 q (by omega), fun _ _ => eqM.rf, fun _ _ => eqM.rf⟩
    · rw [if_neg (fun z => e (hc.mp z)), if_neg (fun z => e (hc.mp z)), ob_some, if_pos rfl]
      exact ⟨g, h, t, 8, rfl, rfl, fun q hq => h8 q (by omega), fun _ _ => eqM.rf, fun _ _ => eqM.rf⟩
  | succ m ih =>
    intro i d fu g h t h1 h2 h3 h4 h5 h6 h7 h8
    obtain ⟨fu, rfl⟩ : ∃ z, fu = z + 1 := ⟨fu - 1, by omega⟩
    have hd : d < 40 := by omega
    obtain ⟨c1, c2⟩ := hC d (by omega)
    obtain ⟨v1, v2, v3, v4, v5, v6, v7, v8, v9⟩ := id c2
    obtain ⟨g1, h1', t1, e1, e2, m1, k1, k2⟩ := both_op (g := g) (h := h) (t := t) (o := op d) (r := d) (a := a d) (b := if 3 ≤ op d ∧ op d ≤ 5 then b d else x d) (r' := 31 + d) (a' := 31 + a d) (b' := 31 + b d) (x := x d) hn hn4 hP hP2 v1 (by omega) (by omega) v2 v9 h7
      (fun e => by have := v5 e; exact ⟨by omega, by omega, by omega, h8 (a d) this⟩)
      (fun e e' => by have := (v6 ⟨e, e'⟩).1; rw [if_pos ⟨e, e'⟩]; exact ⟨by omega, by omega, by omega, h8 (b d) this⟩)
      (fun e => by rw [if_neg e])
    obtain ⟨g', h', t', r, f1, f2, f3, f4, f5⟩ := ih (i + 1) (d + 1) fu g1 h1' t1 (by omega) h2 (by omega) (by omega) h5 (by rcases h6 with h6 | h6; exact Or.inl h6; exact Or.inr (by omega))
      (fun q hq => ⟨(k1 (40 + q) (by omega)).tr ((h7 q hq).1.tr (k2 q (by omega) (by omega)).sy), ltM_congr (k2 q (by omega) (by omega)) (h7 q hq).2⟩)
      (fun q hq => by
        by_cases e : q = d
        · subst e; exact m1
        · have hq' := h8 q (by omega)
          exact ⟨(k1 q e).tr (hq'.1.tr (k2 (31 + q) (by omega) (by omega)).sy), ltM_congr (k2 (31 + q) (by omega) (by omega)) hq'.2⟩)
    rw [show d + 1 + m = d + (m + 1) by omega] at f1 f2 f3
    refine ⟨g', h', t', r, ?_, ?_, f3, fun q hq => (f4 q hq).tr (k1 q (by omega)), fun q hq => (f5 q hq).tr (k2 q (by omega) (by omega))⟩
    · rw [f_X_run_33, if_neg (nI_ge (by omega) (by omega)), p_Cop hd c2 c1, ob_some, p_C1 hd c2 c1, ob_some, p_C2 hd c2 c1, ob_some, e1, ob_some, nI_1, nI_1]
      exact f1
    · rw [f_N_run_12, if_neg (h5 i (by omega)), if_neg (nI_ge (by omega) (by omega)), gdN (by omega) (by decide), gdN (by omega) (by decide), gdN (by omega) (by decide), gdN (by omega) (by decide), nI_clamp (by omega), zN_at, zN_at, zN_at, zN_at, show (31 : Int32) = nI 31 from rfl, nI_add, nI_add, nI_add, e2, ob_some, nI_1, nI_1]
      exact f2
end Run
section Eval
variable {n P w : Nat} {W : Nat → Int32}
theorem eval_eq (hn : 0 < n) (hn4 : n ≤ 4) (hP : 1 < P) (hP2 : P ≤ 97) (hw : w ≤ 24) (dir : Nat → Int32) (hd : Int32) : ∀ (m k th fu : Nat) (g h t : Nat → Nat), k + m = w → th ≤ k → okS W m k th → m < fu → (∀ q, q < 4 → sm n P (cM n g (40 + q)) (nM t q)) → (∀ q, q < th → sm n P (cM n g (44 + q)) (nM t (4 + q))) →
    ∃ g' h' t' : Nat → Nat, f_X_workOut_5 (70 * (n * n)) (n * n) (nI P) (nI n) (nI (n * n)) W (nI w) fu (nI (44 + th)) (nI k) (zN g) (zN h) = some (zN g', zN h') ∧ f_N_evalDirect_15 (nI P) (nI n) (nI w) W dir hd fu (nI (4 + th)) (nI k) (zN t) = f_N_evalDirect_122 (zN t') hd zFU (0 : Int32) dir ∧ sm n P (cM n g' 44) (nM t' 4) ∧ (∀ q, q < 44 → eqM n (cM n g' q) (cM n g q)) ∧ (∀ q, q < 4 ∨ 31 ≤ q → eqM n (nM t' q) (nM t q)) := by
  intro m
  induction m with
  | zero =>
    intro k th fu g h t h1 h2 h3 h4 h5 h6
    obtain ⟨fu, rfl⟩ : ∃ z, fu = z + 1 := ⟨fu - 1, by omega⟩
    obtain rfl : k = w := by omega
    have h3 : th = 1 := h3
    subst h3
    refine ⟨g, h, t, ?_, ?_, h6 0 (by omega), fun _ _ => eqM.rf, fun _ _ => eqM.rf⟩
    · rw [f_X_workOut_5, f_R_length, ob_some, if_pos (nI_le (Nat.le_refl _) (by omega))]
    · rw [f_N_evalDirect_15, if_pos (nI_le (Nat.le_refl _) (by omega))]
  | succ m ih =>
    intro k th fu g h t h1 h2 h3 h4 h5 h6
    obtain ⟨fu, rfl⟩ : ∃ z, fu = z + 1 := ⟨fu - 1, by omega⟩
    obtain ⟨v, hW, hv, hok, ha, hS⟩ := h3
    have hk : k < 24 := by omega
    have ho : v / 100 < 9 := by omega
    have a0 := ar_le (v / 100)
    obtain ⟨q1, q2, q3⟩ := okW_dec ⟨v, hv⟩ hok
    dsimp only at q1 q2 q3
    have he : v % 100 < 100 := Nat.mod_lt _ (by decide)
    -- the reference's arity
    have hM : ∀ (t0 : Nat → Nat), (if (if ar (v / 100) = 2 then (1 : Int32) else 0) = 0 then (some (if ar (v / 100) = 1 then (1 : Int32) else 0)).bind fun r7 => if r7 = 0 then f_N_evalDirect_59 (nI P) (nI n) W (f_N_evalDirect_15 (nI P) (nI n) (nI w) W dir hd fu) (nI (4 + th)) (nI k) (nI (v / 100)) (0 : Int32) (zN t0) dir hd else f_N_evalDirect_59 (nI P) (nI n) W (f_N_evalDirect_15 (nI P) (nI n) (nI w) W dir hd fu) (nI (4 + th)) (nI k) (nI (v / 100)) (1 : Int32) (zN t0) dir hd else f_N_evalDirect_59 (nI P) (nI n) W (f_N_evalDirect_15 (nI P) (nI n) (nI w) W dir hd fu) (nI (4 + th)) (nI k) (nI (v / 100)) (2 : Int32) (zN t0) dir hd) = f_N_evalDirect_59 (nI P) (nI n) W (f_N_evalDirect_15 (nI P) (nI n) (nI w) W dir hd fu) (nI (4 + th)) (nI k) (nI (v / 100)) (nI (ar (v / 100))) (zN t0) dir hd := by
      intro t0
      rcases a0 with e | e | e
      · rw [e]; rfl
      · rw [e]; rfl
      · rw [e]; rfl
    have hN1 : f_N_evalDirect_15 (nI P) (nI n) (nI w) W dir hd (fu + 1) (nI (4 + th)) (nI k) (zN t) = f_N_evalDirect_59 (nI P) (nI n) W (f_N_evalDirect_15 (nI P) (nI n) (nI w) W dir hd fu) (nI (4 + th)) (nI k) (nI (v / 100)) (nI (ar (v / 100))) (zN t) dir hd := by
      rw [f_N_evalDirect_15, if_neg (nI_ge (by omega) (by omega)), gdN hk (by decide), nI_clamp (by omega), hW, w_div hv]
      simp only [nm]
      rw [isTwo ho, ob_some, isOne ho]
      exact hM t
    obtain ⟨s, hs⟩ : ∃ s, th = s + ar (v / 100) := ⟨th - ar (v / 100), by omega⟩
    have s1 : 44 + th - ar (v / 100) = 44 + s := by omega
    have s2 : 4 + th - ar (v / 100) = 4 + s := by omega
    have s3 : th - ar (v / 100) + 1 = s + 1 := by omega
    rw [s3] at hS
    -- what both do with the word
    have step : ∃ g1 h1 t1 : Nat → Nat, (f_X_workOut_5 (70 * (n * n)) (n * n) (nI P) (nI n) (nI (n * n)) W (nI w) (fu + 1) (nI (44 + th)) (nI k) (zN g) (zN h) = f_X_workOut_5 (70 * (n * n)) (n * n) (nI P) (nI n) (nI (n * n)) W (nI w) fu (nI (44 + (s + 1))) (nI (k + 1)) (zN g1) (zN h1)) ∧ (f_N_evalDirect_59 (nI P) (nI n) W (f_N_evalDirect_15 (nI P) (nI n) (nI w) W dir hd fu) (nI (4 + th)) (nI k) (nI (v / 100)) (nI (ar (v / 100))) (zN t) dir hd = f_N_evalDirect_15 (nI P) (nI n) (nI w) W dir hd fu (nI (4 + (s + 1))) (nI (k + 1)) (zN t1)) ∧ sm n P (cM n g1 (44 + s)) (nM t1 (4 + s)) ∧ (∀ q, q ≠ 44 + s → q ≠ 68 → eqM n (cM n g1 q) (cM n g q)) ∧ (∀ q, q ≠ 4 + s → q ≠ 29 → q ≠ 30 → eqM n (nM t1 q) (nM t q)) := by
      have hX1 : ∀ z, f_X_workOut_5 (70 * (n * n)) (n * n) (nI P) (nI n) (nI (n * n)) W (nI w) (fu + 1) (nI (44 + th)) (nI k) (zN g) (zN h) = z ↔ (if nI (v / 100) = (8 : Int32) then (f_M_raise (70 * (n * n)) (n * n) (nI P) (nI n) (nI (n * n)) (zN g) (zN h) (nI (44 + s)) (nI (v % 100))).bind fun r7 => f_X_workOut_5 (70 * (n * n)) (n * n) (nI P) (nI n) (nI (n * n)) W (nI w) fu (nI (44 + s + 1)) (nI (k + 1)) r7.1 r7.2 else if nI (ar (v / 100)) = (2 : Int32) then f_X_workOut_86 (70 * (n * n)) (n * n) (nI P) (nI n) (nI (n * n)) (f_X_workOut_5 (70 * (n * n)) (n * n) (nI P) (nI n) (nI (n * n)) W (nI w) fu) (nI (44 + s)) (nI k) (nI (44 + s + 1)) (nI (44 + s)) (nI (44 + s)) (nI (v / 100)) (zN g) (zN h) else f_X_workOut_86 (70 * (n * n)) (n * n) (nI P) (nI n) (nI (n * n)) (f_X_workOut_5 (70 * (n * n)) (n * n) (nI P) (nI n) (nI (n * n)) W (nI w) fu) (nI (44 + s)) (nI k) (nI (v % 100)) (nI (44 + s)) (nI (44 + s)) (nI (v / 100)) (zN g) (zN h)) = z := by
        intro z
        rw [f_X_workOut_5, f_R_length, ob_some, if_neg (nI_ge (by omega) (by omega)), p_Rop hk hv hW, ob_some, p_Rnum hk hv hW, ob_some, opnd ho, ob_some]
        simp only [nm]
        rw [pk_sub (by omega), s1, nI_1, nI_1]
      by_cases h8 : v / 100 = 8
      · have hsr : sm n P (cM n g (44 + s)) (nM t (4 + s)) := h6 s (by rw [h8] at hs; have : ar 8 = 1 := rfl; omega)
        obtain ⟨g1, h1', e1, k1, m1⟩ := p_raise (g := g) (h := h) (r := 44 + s) (e := v % 100) hn4 hP hP2 (by omega) he hsr.lt
        obtain ⟨t1, e2, k2, m2⟩ := p_nraise (t := t) (r := 4 + s) (e := v % 100) hn hn4 hP hP2 (by omega) he hsr.2
        refine ⟨g1, h1', t1, ?_, ?_, ⟨m1.tr ((powM_congr hsr.1 _).tr m2.sy), ltM_congr m2 (powM_lt hP _)⟩, k1, k2⟩
        · rw [hX1, if_pos (by rw [h8]; decide), e1, ob_some]
          rfl
        · rw [f_N_evalDirect_59]
          simp only [nm]
          rw [pk_sub (by omega), s2, if_pos (by rw [h8]; decide), gdN hk (by decide), nI_clamp (by omega), hW, w_rem hv, e2, ob_some, f_N_evalDirect_110]
          simp only [nm]
          rw [nI_1, nI_1]
          rfl
      · have hlt : v / 100 ≤ 7 := by omega
        have hne : ¬ nI (v / 100) = (8 : Int32) := fun q => h8 ((nI_eq (by omega) (by decide)).mp q)
        have ha3 : 3 ≤ v / 100 → 1 ≤ ar (v / 100) := fun e => by unfold ar; rw [if_neg (by omega)]; split <;> omega
        have ha5 : (3 ≤ v / 100 ∧ v / 100 ≤ 5) ↔ ar (v / 100) = 2 := by
          unfold ar
          constructor
          · rintro ⟨e1, e2⟩
            rw [if_neg (by omega), if_pos e2]
          · intro e
            by_cases c : v / 100 ≤ 2
            · rw [if_pos c] at e; omega
            · rw [if_neg c] at e
              by_cases c2 : v / 100 ≤ 5
              · omega
              · rw [if_neg c2] at e; omega
        obtain ⟨g1, h1', t1, e1, e2, m1, k1, k2⟩ := both_op (g := g) (h := h) (t := t) (o := v / 100) (r := 44 + s) (a := 44 + s) (b := if ar (v / 100) = 2 then 44 + s + 1 else v % 100) (r' := 4 + s) (a' := 4 + s) (b' := 4 + s + 1) (x := v % 100) hn hn4 hP hP2 hlt (by omega) (by omega) q2 (fun _ => he) h5
          (fun e => by have := ha3 e; exact ⟨by omega, by omega, by omega, h6 s (by omega)⟩)
          (fun e e' => by have := ha5.mp ⟨e, e'⟩; rw [if_pos this]; exact ⟨by omega, by omega, by omega, h6 (s + 1) (by omega)⟩)
          (fun e => by rw [if_neg (fun z => e (ha5.mpr z))])
        refine ⟨g1, h1', t1, ?_, ?_, m1, fun q z _ => k1 q z, fun q z z2 _ => k2 q z z2⟩
        · rw [hX1, if_neg hne]
          by_cases c : ar (v / 100) = 2
          · rw [if_pos c] at e1
            rw [if_pos (by rw [c]; decide), f_X_workOut_86, e1, ob_some, nI_1, nI_1]
            rfl
          · rw [if_neg c] at e1
            rw [if_neg (show ¬ nI (ar (v / 100)) = (2 : Int32) from fun z => c ((nI_eq (by omega) (by decide)).mp z)), f_X_workOut_86, e1, ob_some, nI_1, nI_1]
            rfl
        · rw [f_N_evalDirect_59]
          simp only [nm]
          rw [pk_sub (by omega), s2, if_neg hne, gdN hk (by decide), nI_clamp (by omega), hW, w_rem hv, nI_1, e2, ob_some, f_N_evalDirect_110]
          simp only [nm]
          rw [nI_1, nI_1]
          rfl
    obtain ⟨g1, h1', t1, e1, e2, m1, k1, k2⟩ := step
    obtain ⟨g', h', t', f1, f2, f3, f4, f5⟩ := ih (k + 1) (s + 1) fu g1 h1' t1 (by omega) (by omega) hS (by omega)
      (fun q hq => ⟨(k1 (40 + q) (by omega) (by omega)).tr ((h5 q hq).1.tr (k2 q (by omega) (by omega) (by omega)).sy), ltM_congr (k2 q (by omega) (by omega) (by omega)) (h5 q hq).2⟩)
      (fun q hq => by
        by_cases e : q = s
        · subst e; exact m1
        · have hq' := h6 q (by omega)
          exact ⟨(k1 (44 + q) (by omega) (by omega)).tr (hq'.1.tr (k2 (4 + q) (by omega) (by omega) (by omega)).sy), ltM_congr (k2 (4 + q) (by omega) (by omega) (by omega)) hq'.2⟩)
    exact ⟨g', h', t', by rw [e1]; exact f1, by rw [hN1, e2]; exact f2, f3, fun q hq => (f4 q hq).tr (k1 q (by omega) (by omega)), fun q hq => (f5 q hq).tr (k2 q (by omega) (by omega) (by omega))⟩
end Eval
