/-! The calls that change the state. -/
theorem cM_upd {n r i j v : Nat} {g : Nat → Nat} (hi : i < n) (hj : j < n) : ∀ r' i' j', i' < n → j' < n → cM n (updN g (r * (n * n) + i * n + j) v) r' i' j' = if r' = r ∧ i' = i ∧ j' = j then v else cM n g r' i' j' := by
  intro r' i' j' hi' hj'
  have h1 := cell_lt hi hj
  have h2 := cell_lt hi' hj'
  unfold cM updN
  by_cases e : r' * (n * n) + i' * n + j' = r * (n * n) + i * n + j
  · have er : r' = r := by
      rcases Nat.lt_trichotomy r' r with h | h | h
      · have : (r' + 1) * (n * n) ≤ r * (n * n) := Nat.mul_le_mul_right _ h
        rw [Nat.add_mul] at this
        omega
      · exact h
      · have : (r + 1) * (n * n) ≤ r' * (n * n) := Nat.mul_le_mul_right _ h
        rw [Nat.add_mul] at this
        omega
    subst er
    have ec : i' * n + j' = i * n + j := by omega
    have ei : i' = i := by rw [← div_cell (i := i') hj', ← div_cell (i := i) hj, ec]
    have ej : j' = j := by rw [← mod_cell (i := i') hj', ← mod_cell (i := i) hj, ec]
    rw [if_pos e, if_pos ⟨rfl, ei, ej⟩]
  · rw [if_neg e, if_neg]
    rintro ⟨rfl, rfl, rfl⟩
    exact e rfl
theorem nM_upd {n r i j v : Nat} {t : Nat → Nat} (hn4 : n ≤ 4) (hi : i < n) (hj : j < n) : ∀ r' i' j', i' < n → j' < n → nM (updN t (16 * r + 4 * i + j) v) r' i' j' = if r' = r ∧ i' = i ∧ j' = j then v else nM t r' i' j' := by
  intro r' i' j' hi' hj'
  unfold nM updN
  by_cases e : 16 * r' + 4 * i' + j' = 16 * r + 4 * i + j
  · rw [if_pos e, if_pos (by omega)]
  · rw [if_neg e, if_neg (by rintro ⟨rfl, rfl, rfl⟩; exact e rfl)]
section Ops2
variable {P n : Nat} {xd xw : Int32} {cells fresh words : Nat → Int32} {rl : Int32} {cins : Nat → Int32} {cl : Int32} {regs : Nat → Int32} {nw : Int32} {word table direct : Nat → Int32} {hd cpd sz : Int32} {op a b x : Nat → Int32} {oc dn : Int32} {there : Nat → Int32}
theorem o_setInput (hn : 0 < n) (hn4 : n ≤ 4) (hP : 1 < P) (hP2 : P ≤ 97) (hR : Rel P n xd xw cells fresh words rl cins cl regs nw word table direct hd cpd sz op a b x oc dn there) (m u v z : Int32) : ∃ (r xd' : Int32) (cells' table' : Nat → Int32), f_X_setInput (70 * (n * n)) xd (nI P) (nI n) (nI (n * n)) cells m u v z = some (r, xd', cells') ∧ f_N_setInput (nI P) (nI n) table dn m u v z = some (r, table', xd') ∧ Rel P n xd' xw cells' fresh words rl cins cl regs nw word table' direct hd cpd sz op a b x oc xd' there := by
  obtain ⟨w, d, len, g, h, ci, rg, t, dr, op', a', b', x', tr, ⟨hw, rfl, rfl, rfl, rfl, rfl, rfl, rfl, rfl, rfl, rfl, rfl, rfl, rfl, rfl, rfl, rfl, rfl, rfl⟩, hc, hI, hG, hD⟩ := hR
  have hs : n * n ≤ 4 * 4 := Nat.mul_le_mul hn4 hn4
  have same : ∃ (r xd' : Int32) (cells' table' : Nat → Int32), some ((2 : Int32), nI d, zN g) = some (r, xd', cells') ∧ some ((2 : Int32), zN t, nI d) = some (r, table', xd') ∧ Rel P n xd' xw cells' (zN h) word (nI w) (zN ci) (nI len) (zN rg) (nI w) word table' (zN dr) hd cpd (nI len) (zN op') (zN a') (zN b') (zN x') oc xd' (zN tr) :=
    ⟨2, nI d, zN g, zN t, rfl, rfl, w, d, len, g, h, ci, rg, t, dr, op', a', b', x', tr, ⟨hw, rfl, rfl, rfl, rfl, rfl, rfl, rfl, rfl, rfl, rfl, rfl, rfl, rfl, rfl, rfl, rfl, rfl, rfl⟩, hc, hI, hG, hD⟩
  rw [f_X_setInput, f_N_setInput, f_N_in]
  rcases pk_ix m (n := 4) (by decide) with e | e | ⟨q, hq, rfl⟩
  · rw [if_pos e, if_pos e, ob_some, if_pos rfl]
    exact same
  · have h1 := Int32.le_iff_toInt_le.mp e
    have h2 : (nI 4).toInt = 4 := rfl
    have h0 : (0 : Int32).toInt = 0 := rfl
    have h3 : (3 : Int32).toInt = 3 := rfl
    have n0 : ¬ m < 0 := fun y => by have := Int32.lt_iff_toInt_lt.mp y; omega
    have n3 : (3 : Int32) < m := Int32.lt_iff_toInt_lt.mpr (by omega)
    rw [if_neg n0, if_pos (show (4 : Int32) ≤ m from e), if_neg n0, if_pos n3, ob_some, if_pos rfl]
    exact same
  · rw [if_neg (nI_pos (by omega)), if_neg (show ¬ (4 : Int32) ≤ nI q from nI_ge (b := 4) hq (by decide)), if_neg (nI_pos (by omega)), if_neg (show ¬ (3 : Int32) < nI q from nI_nlt (a := 3) (by omega) (by omega)), ob_some, if_neg (show ¬ (1 : Int32) = 0 by decide)]
    rcases place_ok hn hn4 u v with ⟨e1, e2⟩ | ⟨i, j, hi, hj, rfl, rfl, e1, e2⟩
    · rw [e1, e2, ob_some, ob_some, if_pos rfl, if_pos rfl]
      exact same
    · have hij := cell_lt hi hj
      have hrl := reg_lt (sz := n * n) (N := 70) (show 40 + q < 70 by omega) hij
      have hf := fm_lt (v := z) (P := P) (by omega)
      rw [e1, e2, ob_some, ob_some, if_neg (by decide), if_neg (by decide), show (40 : Int32) = nI 40 from rfl, nI_add, p_put (by omega) (by omega) (by omega) (by omega), ob_some, f_X_rewind, ob_some, p_mod (by omega) (by omega), ob_some, p_nput (by omega), ob_some]
      refine ⟨0, nI 0, _, _, rfl, rfl, w, 0, len, _, h, ci, rg, _, dr, op', a', b', x', tr, ⟨hw, rfl, rfl, rfl, rfl, rfl, rfl, rfl, rfl, rfl, rfl, rfl, rfl, rfl, rfl, rfl, rfl, rfl, rfl⟩, ?_, ?_, fun y hy => absurd hy (by omega), ?_⟩
      · rcases hc with ⟨c1, c2, c3⟩ | ⟨c1, c2, c3, c4, c5, c6⟩
        · exact Or.inl ⟨c1, c2, rfl⟩
        · exact Or.inr ⟨c1, c2, c3, by omega, c5, c6⟩
      · intro y hy
        obtain ⟨s1, s2⟩ := hI y hy
        refine ⟨fun i' j' hi' hj' => ?_, fun i' j' hi' hj' => ?_⟩
        · rw [cM_upd hi hj _ _ _ hi' hj', nM_upd hn4 hi hj _ _ _ hi' hj']
          by_cases c : y = q ∧ i' = i ∧ j' = j
          · rw [if_pos c, if_pos ⟨by omega, c.2⟩]
          · rw [if_neg c, if_neg (fun k => c ⟨by omega, k.2⟩)]
            exact s1 i' j' hi' hj'
        · rw [nM_upd hn4 hi hj _ _ _ hi' hj']
          by_cases c : y = q ∧ i' = i ∧ j' = j
          · rw [if_pos c]; exact hf
          · rw [if_neg c]; exact s2 i' j' hi' hj'
      · refine ⟨hD.1, ?_⟩
        rcases hD.2 with c | ⟨c, c2⟩
        · exact Or.inl c
        · refine Or.inr ⟨c, fun i' j' hi' hj' => ?_⟩
          rw [cM_upd hi hj _ _ _ hi' hj', if_neg (by omega)]
          exact c2 i' j' hi' hj'
theorem o_compile (hR : Rel P n xd xw cells fresh words rl cins cl regs nw word table direct hd cpd sz op a b x oc dn there) : ∃ (r xd' : Int32) (cins' : Nat → Int32) (cl' : Int32) (regs' : Nat → Int32) (cpd' sz' : Int32) (op' a' b' x' : Nat → Int32) (oc' dn' : Int32) (there' : Nat → Int32), f_X_compile xd words rl cins cl regs = some (r, xd', cins', cl', regs') ∧ f_N_compile nw word cpd sz op a b x oc dn there = some (r, cpd', sz', op', a', b', x', oc', dn', there') ∧ Rel P n xd' xw cells fresh words rl cins' cl' regs' nw word table direct hd cpd' sz' op' a' b' x' oc' dn' there' := by
  obtain ⟨w, d, len, g, h, ci, rg, t, dr, op', a', b', x', tr, ⟨hw, rfl, rfl, rfl, rfl, rfl, rfl, rfl, rfl, rfl, rfl, rfl, rfl, rfl, rfl, rfl, rfl, rfl, rfl⟩, hc, hI, hG, hD⟩ := hR
  obtain ⟨r, r1, r2, r3, r4⟩ := fault_ok (W := word) hw
  have same : ∀ r : Int32, ∃ (r' xd' : Int32) (cins' : Nat → Int32) (cl' : Int32) (regs' : Nat → Int32) (cpd' sz' : Int32) (op2 a2 b2 x2 : Nat → Int32) (oc' dn' : Int32) (there' : Nat → Int32), some (r, nI d, zN ci, nI len, zN rg) = some (r', xd', cins', cl', regs') ∧ some (r, cpd, nI len, zN op', zN a', zN b', zN x', oc, nI d, zN tr) = some (r', cpd', sz', op2, a2, b2, x2, oc', dn', there') ∧ Rel P n xd' xw (zN g) (zN h) word (nI w) cins' cl' regs' (nI w) word (zN t) (zN dr) hd cpd' sz' op2 a2 b2 x2 oc' dn' there' := fun r =>
    ⟨r, _, _, _, _, _, _, _, _, _, _, _, _, _, rfl, rfl, w, d, len, g, h, ci, rg, t, dr, op', a', b', x', tr, ⟨hw, rfl, rfl, rfl, rfl, rfl, rfl, rfl, rfl, rfl, rfl, rfl, rfl, rfl, rfl, rfl, rfl, rfl, rfl⟩, hc, hI, hG, hD⟩
  rw [f_X_compile, f_N_compile, r2, r3, ob_some, ob_some]
  by_cases e : r = 0
  · subst e
    have hS := r4 rfl
    have hT := totS_le (W := word) w 0
    rw [if_pos (show nI 0 = 0 from rfl), f_R_instructionsNeeded, show (0 : Int32) = nI 0 from rfl, need_ok hw w 0 0 0 zFU (by omega) hS (by unfold zFU; omega) (by omega), ob_some, steps_ok hw cpd (nI len) (zN op') (zN a') (zN b') (zN x') oc (nI d) (zN tr) w 0 0 0 zFU (by omega) hS (by unfold zFU; omega) (by omega), f_N_compile_39, if_neg (show ¬ (0 : Int32) < nI 0 by decide), Nat.zero_add]
    by_cases e2 : totS word w 0 ≤ 40
    · obtain ⟨n', ci2, rg2, op2, a2, b2, x2, tr2, f1, f2, f3, f4, f5⟩ := comp_eq (W := word) hw cpd oc (nI d) w 0 0 zFU 0 ci rg op' a' b' x' tr (by omega) (by omega) hS (by unfold zFU; omega) (fun k hk => absurd hk (by omega)) (fun s hs => absurd hs (by omega)) (fun hs => absurd hs (by omega)) (by omega)
      rw [if_pos (show nI (totS word w 0) ≤ (40 : Int32) from nI_le (b := 40) e2 (by decide)), if_pos (show nI (totS word w 0) ≤ (40 : Int32) from nI_le (b := 40) e2 (by decide)), f_P_translate, f_C_clear, ob_some, show (0 : Int32) = nI 0 from rfl, f1, ob_some, f_X_rewind, ob_some, f2]
      exact ⟨_, _, _, _, _, _, _, _, _, _, _, _, _, _, rfl, rfl, w, 0, n', g, h, ci2, rg2, t, dr, op2, a2, b2, x2, tr2, ⟨hw, rfl, rfl, rfl, rfl, rfl, rfl, rfl, rfl, rfl, rfl, rfl, rfl, rfl, rfl, rfl, rfl, rfl, rfl⟩, Or.inr ⟨rfl, f4, f5, by omega, f3, rfl⟩, hI, fun q hq => absurd hq (by omega), hD⟩
    · have hne : ¬ nI (totS word w 0) ≤ (40 : Int32) := nI_ge (a := 40) (by omega) (by omega)
      rw [if_neg hne, if_neg hne, f_N_compile_49, if_pos (by decide)]
      exact same 6
  · have hr0 : ¬ nI r = 0 := nI_ne0 (by omega) (by omega)
    have hle : ¬ nI r ≤ 0 := nI_nle (by omega) (by omega)
    have hlt : (0 : Int32) < nI r := nI_lt (a := 0) (by omega) (by omega)
    have hN : f_N_compile_9 (nI w) word (nI r) cpd (nI len) (zN op') (zN a') (zN b') (zN x') oc (nI d) (zN tr) zFU (0 : Int32) (0 : Int32) = some (nI r, cpd, nI len, zN op', zN a', zN b', zN x', oc, nI d, zN tr) := by
      have h39 : ∀ z : Int32, f_N_compile_39 (nI w) word (nI r) z cpd (nI len) (zN op') (zN a') (zN b') (zN x') oc (nI d) (zN tr) = some (nI r, cpd, nI len, zN op', zN a', zN b', zN x', oc, nI d, zN tr) := fun z => by
        rw [f_N_compile_39, if_pos hlt, f_N_compile_49, if_neg hle]
      rw [show zFU = 4095 + 1 from rfl, f_N_compile_9]
      by_cases c : nI w ≤ 0
      · rw [if_pos c]; exact h39 _
      · rw [if_neg c, if_neg hr0]; exact h39 _
    rw [if_neg hr0, hN]
    exact same (nI r)
theorem o_run (hn : 0 < n) (hn4 : n ≤ 4) (hP : 1 < P) (hP2 : P ≤ 97) (hR : Rel P n xd xw cells fresh words rl cins cl regs nw word table direct hd cpd sz op a b x oc dn there) (f : Int32) : ∃ (r xd' : Int32) (cells' fresh' table' : Nat → Int32), f_X_run (70 * (n * n)) (n * n) xd (nI P) (nI n) (nI (n * n)) cells fresh cins cl f = some (r, xd', cells', fresh') ∧ f_N_run (nI P) (nI n) table cpd sz op a b x dn f = some (r, table', xd') ∧ Rel P n xd' xw cells' fresh' words rl cins cl regs nw word table' direct hd cpd sz op a b x oc xd' there := by
  obtain ⟨w, d, len, g, h, ci, rg, t, dr, op', a', b', x', tr, ⟨hw, rfl, rfl, rfl, rfl, rfl, rfl, rfl, rfl, rfl, rfl, rfl, rfl, rfl, rfl, rfl, rfl, rfl, rfl⟩, hc, hI, hG, hD⟩ := hR
  have hl : len ≤ 40 := by rcases hc with ⟨-, e, -⟩ | ⟨-, -, e, -⟩ <;> omega
  rw [f_X_run, f_N_run, hasCode_ok (by omega), ob_some]
  rcases hc with ⟨c1, c2, c3⟩ | ⟨c1, c2, c3, c4, c5, c6⟩
  · subst c1 c2 c3
    exact ⟨7, _, _, _, _, rfl, rfl, w, 0, 0, g, h, ci, rg, t, dr, op', a', b', x', tr, ⟨hw, rfl, rfl, rfl, rfl, rfl, rfl, rfl, rfl, rfl, rfl, rfl, rfl, rfl, rfl, rfl, rfl, rfl, rfl⟩, Or.inl ⟨rfl, rfl, rfl⟩, hI, hG, hD⟩
  · subst c1
    rw [if_pos c2, if_neg (show ¬ (1 : Int32) = 0 by decide), if_neg (show ¬ (1 : Int32) = 0 by decide), f_C_length, ob_some]
    simp only [nm]
    rw [pk_sub c4]
    obtain ⟨st, k1, k2, k3, k4⟩ : ∃ st : Nat, zmin (zmax f 0) (nI (len - d)) = nI st ∧ st ≤ len - d ∧ (∀ j, j < st → ¬ f ≤ nI j) ∧ (f ≤ nI st ∨ len ≤ d + st) := by
      by_cases e : f < 0
      · refine ⟨0, ?_, by omega, fun j hj => absurd hj (by omega), Or.inl ?_⟩
        · unfold zmax
          rw [if_pos e]
          unfold zmin
          rw [if_neg (nI_pos (by omega))]
          rfl
        · have h1 := Int32.lt_iff_toInt_lt.mp e
          exact Int32.le_iff_toInt_le.mpr (by rw [show (nI 0).toInt = 0 from rfl]; have : (0 : Int32).toInt = 0 := rfl; omega)
      · obtain ⟨y, hy, rfl⟩ := nI_of e
        have hm : zmax (nI y) 0 = nI y := by unfold zmax; rw [if_neg e]
        rw [hm, zminN hy (by omega)]
        by_cases c : len - d < y
        · refine ⟨len - d, by rw [if_pos c], by omega, fun j hj => nI_ge (by omega) hy, Or.inr (by omega)⟩
        · refine ⟨y, by rw [if_neg c], by omega, fun j hj => nI_ge hj hy, Or.inl (nI_le (Nat.le_refl _) hy)⟩
    rw [k1]
    obtain ⟨g', h', t', r, f1, f2, f3, f4, f5⟩ := run_eq hn hn4 hP hP2 hl c5 f st st 0 d zFU g h t (by omega) (by omega) (by omega) (by unfold zFU; omega) k3 k4 hI hG
    refine ⟨r, nI (d + st), zN g', zN h', zN t', f1, f2, w, d + st, len, g', h', ci, rg, t', dr, op', a', b', x', tr, ⟨hw, rfl, rfl, rfl, rfl, rfl, rfl, rfl, rfl, rfl, rfl, rfl, rfl, rfl, rfl, rfl, rfl, rfl, rfl⟩, Or.inr ⟨rfl, c2, c3, by omega, c5, c6⟩, fun q hq => ?_, f3, hD.1, ?_⟩
    · exact ⟨(f4 (40 + q) (by omega)).tr ((hI q hq).1.tr (f5 q (by omega)).sy), ltM_congr (f5 q (by omega)) (hI q hq).2⟩
    · rcases hD.2 with c | ⟨c, c7⟩
      · exact Or.inl c
      · exact Or.inr ⟨c, fun i j hi hj => (f4 69 (by omega) i j hi hj).trans (c7 i j hi hj)⟩
theorem dir_loop {t dr : Nat → Nat} {hd : Int32} : ∀ (m k fu : Nat), k + m = 16 → m < fu → f_N_evalDirect_122 (zN t) hd fu (nI k) (zN (fill0 dr (fun c => t (64 + c)) k)) = some (0, zN t, zN (fill0 dr (fun c => t (64 + c)) 16), 1) := by
  intro m
  induction m with
  | zero =>
    intro k fu e1 e2
    obtain ⟨fu, rfl⟩ : ∃ z, fu = z + 1 := ⟨fu - 1, by omega⟩
    obtain rfl : k = 16 := by omega
    rw [f_N_evalDirect_122, if_pos (show (16 : Int32) ≤ nI 16 from nI_le (Nat.le_refl 16) (by decide))]
  | succ m ih =>
    intro k fu e1 e2
    obtain ⟨fu, rfl⟩ : ∃ z, fu = z + 1 := ⟨fu - 1, by omega⟩
    rw [f_N_evalDirect_122, if_neg (show ¬ (16 : Int32) ≤ nI k from nI_ge (b := 16) (by omega) (by decide)), show (64 : Int32) = nI 64 from rfl, nI_add, gdN (by omega) (by decide), gdN (by omega) (by decide), nI_clamp (by omega), nI_clamp (by omega), zN_at, upd_zN, nI_1, fill0_step (C := fun c => t (64 + c))]
    exact ih (k + 1) fu (by omega) (by omega)
theorem o_eval (hn : 0 < n) (hn4 : n ≤ 4) (hP : 1 < P) (hP2 : P ≤ 97) (hR : Rel P n xd xw cells fresh words rl cins cl regs nw word table direct hd cpd sz op a b x oc dn there) : ∃ (r xw' : Int32) (cells' fresh' table' direct' : Nat → Int32), f_X_evalDirect (70 * (n * n)) (n * n) xw (nI P) (nI n) (nI (n * n)) cells fresh words rl = some (r, xw', cells', fresh') ∧ f_N_evalDirect (nI P) (nI n) nw word table direct hd = some (r, table', direct', xw') ∧ Rel P n xd xw' cells' fresh' words rl cins cl regs nw word table' direct' xw' cpd sz op a b x oc dn there := by
  obtain ⟨w, d, len, g, h, ci, rg, t, dr, op', a', b', x', tr, ⟨hw, rfl, rfl, rfl, rfl, rfl, rfl, rfl, rfl, rfl, rfl, rfl, rfl, rfl, rfl, rfl, rfl, rfl, rfl⟩, hc, hI, hG, hD1, hD⟩ := hR
  subst hD1
  have hs : n * n ≤ 4 * 4 := Nat.mul_le_mul hn4 hn4
  have hdl : d ≤ 40 := by rcases hc with ⟨-, -, e⟩ | ⟨-, -, e, e2, -⟩ <;> omega
  obtain ⟨r, r1, r2, r3, r4⟩ := fault_ok (W := word) hw
  rw [f_X_evalDirect, f_N_evalDirect, r2, r3, ob_some, ob_some]
  by_cases e : r = 0
  · subst e
    obtain ⟨g', h', t', f1, f2, f3, f4, f5⟩ := eval_eq (W := word) hn hn4 hP hP2 hw (zN dr) xw w 0 0 zFU g h t (by omega) (by omega) (r4 rfl) (by unfold zFU; omega) hI (fun q hq => absurd hq (by omega))
    have hdir := dir_loop (t := t') (dr := dr) (hd := xw) 16 0 zFU (by omega) (by unfold zFU; omega)
    rw [fill0_0] at hdir
    have f1' : f_X_workOut (70 * (n * n)) (n * n) (nI P) (nI n) (nI (n * n)) (zN g) (zN h) word (nI w) = some (zN g', zN h') := f1
    have f2' : f_N_evalDirect_15 (nI P) (nI n) (nI w) word (zN dr) xw zFU (4 : Int32) (0 : Int32) (zN t) = some (0, zN t', zN (fill0 dr (fun c => t' (64 + c)) 16), 1) := f2.trans hdir
    rw [if_pos (show nI 0 = 0 from rfl), if_pos (show nI 0 ≤ 0 by decide), f1', ob_some, f2', show (69 : Int32) = nI 69 from rfl, show (44 : Int32) = nI 44 from rfl, p_copy (reg_le (by omega)) (reg_le (by omega)) (by omega), ob_some]
    have k1 : ∀ q, q ≠ 69 → eqM n (cM n (setR (n * n) g' 69 (fun c => g' (44 * (n * n) + c))) q) (cM n g' q) := fun q hq i j hi hj => by
      rw [cM_set i j hi hj, if_neg hq]
    refine ⟨0, 1, _, _, _, _, rfl, rfl, w, d, len, _, h', ci, rg, t', _, op', a', b', x', tr, ⟨hw, rfl, rfl, rfl, rfl, rfl, rfl, rfl, rfl, rfl, rfl, rfl, rfl, rfl, rfl, rfl, rfl, rfl, rfl⟩, hc, fun q hq => ?_, fun q hq => ?_, rfl, Or.inr ⟨rfl, fun i j hi hj => ?_⟩⟩
    · exact ⟨(k1 (40 + q) (by omega)).tr ((f4 (40 + q) (by omega)).tr ((hI q hq).1.tr (f5 q (by omega)).sy)), ltM_congr (f5 q (by omega)) (hI q hq).2⟩
    · exact ⟨(k1 q (by omega)).tr ((f4 q (by omega)).tr ((hG q hq).1.tr (f5 (31 + q) (by omega)).sy)), ltM_congr (f5 (31 + q) (by omega)) (hG q hq).2⟩
    · rw [cM_set i j hi hj, if_pos rfl]
      have h3 := f3.1 i j hi hj
      unfold cM nM at h3
      unfold fill0
      rw [if_pos (by omega), ← Nat.add_assoc, h3]
      show t' (16 * 4 + 4 * i + j) = t' (64 + (4 * i + j))
      congr 1
      omega
  · have hr0 : ¬ nI r = 0 := nI_ne0 (by omega) (by omega)
    have hle : ¬ nI r ≤ 0 := nI_nle (by omega) (by omega)
    rw [if_neg hr0, if_neg hle]
    exact ⟨nI r, xw, _, _, _, _, rfl, rfl, w, d, len, g, h, ci, rg, t, dr, op', a', b', x', tr, ⟨hw, rfl, rfl, rfl, rfl, rfl, rfl, rfl, rfl, rfl, rfl, rfl, rfl, rfl, rfl, rfl, rfl, rfl, rfl⟩, hc, hI, hG, rfl, hD⟩
end Ops2
