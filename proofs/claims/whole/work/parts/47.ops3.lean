/-! optimise and reset. -/
section Ops3
variable {P n : Nat} {xd xw : Int32} {cells fresh words : Nat → Int32} {rl : Int32} {cins : Nat → Int32} {cl : Int32} {regs : Nat → Int32} {nw : Int32} {word table direct : Nat → Int32} {hd cpd sz : Int32} {op a b x : Nat → Int32} {oc dn : Int32} {there : Nat → Int32}
theorem o_optimise (hP : 1 < P) (hP2 : P ≤ 97) (hR : Rel P n xd xw cells fresh words rl cins cl regs nw word table direct hd cpd sz op a b x oc dn there) (Vo isN reg F : Nat → Int32) (vlen nvs : Int32) (vOp vA vB vX nd No pla : Nat → Int32) :
    ∃ (r xd' : Int32) (cins' : Nat → Int32) (cl' : Int32) (Vo' isN' reg' F' : Nat → Int32) (vlen' : Int32) (sz' : Int32) (op' a' b' x' : Nat → Int32) (oc' dn' nvs' : Int32) (vOp' vA' vB' vX' nd' No' pla' : Nat → Int32), f_X_optimise xd cins cl (nI P) Vo isN reg F vlen = some (r, xd', cins', cl', Vo', isN', reg', F', vlen') ∧ f_N_optimise (nI P) cpd sz op a b x oc dn nvs vOp vA vB vX nd No pla = some (r, sz', op', a', b', x', oc', dn', nvs', vOp', vA', vB', vX', nd', No', pla') ∧ Rel P n xd' xw cells fresh words rl cins' cl' regs nw word table direct hd cpd sz' op' a' b' x' oc' dn' there := by
  obtain ⟨w, d, len, g, h, ci, rg, t, dr, op', a', b', x', tr, ⟨hw, rfl, rfl, rfl, rfl, rfl, rfl, rfl, rfl, rfl, rfl, rfl, rfl, rfl, rfl, rfl, rfl, rfl, rfl⟩, hc, hI, hG, hD⟩ := hR
  have hl : len ≤ 40 := by rcases hc with ⟨-, e, -⟩ | ⟨-, -, e, -⟩ <;> omega
  rw [f_X_optimise, hasCode_ok (by omega), ob_some]
  rcases hc with ⟨c1, c2, c3⟩ | ⟨c1, c2, c3, c4, c5, c6⟩
  · subst c1 c2 c3
    refine ⟨7, _, _, _, _, _, _, _, _, _, _, _, _, _, _, _, _, _, _, _, _, _, _, _, rfl, rfl, w, 0, 0, g, h, ci, rg, t, dr, op', a', b', x', tr, ⟨hw, rfl, rfl, rfl, rfl, rfl, rfl, rfl, rfl, rfl, rfl, rfl, rfl, rfl, rfl, rfl, rfl, rfl, rfl⟩, Or.inl ⟨rfl, rfl, rfl⟩, hI, hG, hD⟩
  · subst c1 c6
    obtain ⟨n', ci', cop', ca', cb', cx', Vo', isN', reg', F', vOp', vA', vB', vX', nd', No', pla', vlen', nvs', e1, e2, e3, e4, e5⟩ := opt_eq hP hP2 c2 c3 c5 Vo isN reg F vOp vA vB vX nd No pla vlen nvs (nI d)
    rw [if_pos c2, if_neg (show ¬ (1 : Int32) = 0 by decide), e1, ob_some, f_X_rewind, ob_some, e2]
    exact ⟨_, _, _, _, _, _, _, _, _, _, _, _, _, _, _, _, _, _, _, _, _, _, _, _, rfl, rfl, w, 0, n', g, h, ci', rg, t, dr, cop', ca', cb', cx', tr, ⟨hw, rfl, rfl, rfl, rfl, rfl, rfl, rfl, rfl, rfl, rfl, rfl, rfl, rfl, rfl, rfl, rfl, rfl, rfl⟩, Or.inr ⟨rfl, e4, e5, by omega, e3, rfl⟩, hI, fun q hq => absurd hq (by omega), hD⟩
theorem xreset_loop (hn4 : n ≤ 4) (c1 c2 c3 c4 : Int32) : ∀ (m k fu : Nat) (g : Nat → Nat), k + m = 4 → m < fu → (∀ q, q < k → eqM n (cM n g (40 + q)) nouM) → ∃ g' : Nat → Nat, f_X_reset_25 (70 * (n * n)) (nI (n * n)) c1 c2 c3 c4 fu (nI k) (zN g) = some (c1, c2, zN g', c3, c4) ∧ ∀ q, q < 4 → eqM n (cM n g' (40 + q)) nouM := by
  have hs : n * n ≤ 4 * 4 := Nat.mul_le_mul hn4 hn4
  intro m
  induction m with
  | zero =>
    intro k fu g e1 e2 e3
    obtain ⟨fu, rfl⟩ : ∃ z, fu = z + 1 := ⟨fu - 1, by omega⟩
    obtain rfl : k = 4 := by omega
    exact ⟨g, by rw [f_X_reset_25, if_pos (show (4 : Int32) ≤ nI 4 from nI_le (Nat.le_refl 4) (by decide))], e3⟩
  | succ m ih =>
    intro k fu g e1 e2 e3
    obtain ⟨fu, rfl⟩ : ∃ z, fu = z + 1 := ⟨fu - 1, by omega⟩
    obtain ⟨g', r1, r2⟩ := ih (k + 1) fu (setR (n * n) g (40 + k) (fun _ => 0)) (by omega) (by omega) (fun q hq i j hi hj => by
      rw [cM_set i j hi hj]
      by_cases e : 40 + q = 40 + k
      · rw [if_pos e]; rfl
      · rw [if_neg e]; exact e3 q (by omega) i j hi hj)
    refine ⟨g', ?_, r2⟩
    rw [f_X_reset_25, if_neg (show ¬ (4 : Int32) ≤ nI k from nI_ge (b := 4) (by omega) (by decide)), show (40 : Int32) = nI 40 from rfl, nI_add, p_makeNought (reg_le (by omega)) (by omega) (by omega), ob_some, nI_1]
    exact r1
theorem nreset_loop {t : Nat → Nat} (c1 c2 c3 c4 c5 : Int32) : ∀ (m k fu : Nat), k + m = 64 → m < fu → f_N_reset_27 c1 c2 c3 c4 c5 fu (nI k) (zN (fill0 t (fun _ => 0) k)) = some (c1, zN (fill0 t (fun _ => 0) 64), c2, c3, c4, c5) := by
  intro m
  induction m with
  | zero =>
    intro k fu e1 e2
    obtain ⟨fu, rfl⟩ : ∃ z, fu = z + 1 := ⟨fu - 1, by omega⟩
    obtain rfl : k = 64 := by omega
    rw [f_N_reset_27, if_pos (show (64 : Int32) ≤ nI 64 from nI_le (Nat.le_refl 64) (by decide))]
  | succ m ih =>
    intro k fu e1 e2
    obtain ⟨fu, rfl⟩ : ∃ z, fu = z + 1 := ⟨fu - 1, by omega⟩
    rw [f_N_reset_27, if_neg (show ¬ (64 : Int32) ≤ nI k from nI_ge (b := 64) (by omega) (by decide)), gdN (by omega) (by decide), nI_clamp (by omega), show (0 : Int32) = nI 0 from rfl, upd_zN, nI_1, fill0_step (C := fun _ => 0)]
    exact ih (k + 1) fu (by omega) (by omega)
theorem o_reset (hn4 : n ≤ 4) (hP : 1 < P) (hR : Rel P n xd xw cells fresh words rl cins cl regs nw word table direct hd cpd sz op a b x oc dn there) :
    ∃ (cells' table' : Nat → Int32), f_X_reset (70 * (n * n)) xd xw (nI (n * n)) cells rl cl = some (0, 0, cells', 0, 0) ∧ f_N_reset nw table hd cpd sz dn = some (0, table', 0, 0, 0, 0) ∧ Rel P n 0 0 cells' fresh words 0 cins 0 regs 0 word table' direct 0 0 0 op a b x oc 0 there := by
  obtain ⟨w, d, len, g, h, ci, rg, t, dr, op', a', b', x', tr, ⟨hw, rfl, rfl, rfl, rfl, rfl, rfl, rfl, rfl, rfl, rfl, rfl, rfl, rfl, rfl, rfl, rfl, rfl, rfl⟩, hc, hI, hG, hD⟩ := hR
  obtain ⟨g', r1, r2⟩ := xreset_loop (n := n) hn4 0 0 0 0 4 0 zFU g (by omega) (by unfold zFU; omega) (fun q hq => absurd hq (by omega))
  have r3 := nreset_loop (t := t) 0 0 0 0 0 64 0 zFU (by omega) (by unfold zFU; omega)
  rw [fill0_0] at r3
  have r1' : f_X_reset (70 * (n * n)) (nI d) xw (nI (n * n)) (zN g) (nI w) (nI len) = some (0, 0, zN g', 0, 0) := by
    rw [f_X_reset, f_R_clear, ob_some, f_C_clear, ob_some, f_X_rewind, ob_some]
    rw [show nI 0 = (0 : Int32) from rfl] at r1
    exact r1
  have r3' : f_N_reset (nI w) (zN t) hd cpd (nI len) (nI d) = some (0, zN (fill0 t (fun _ => 0) 64), 0, 0, 0, 0) := by
    rw [f_N_reset]
    rw [show nI 0 = (0 : Int32) from rfl] at r3
    exact r3
  refine ⟨_, _, r1', r3', 0, 0, 0, g', h, ci, rg, _, dr, op', a', b', x', tr, ⟨by omega, rfl, rfl, rfl, rfl, rfl, rfl, rfl, rfl, rfl, rfl, rfl, rfl, rfl, rfl, rfl, rfl, rfl, rfl⟩, Or.inl ⟨rfl, rfl, rfl⟩, fun q hq => ?_, fun q hq => absurd hq (by omega), rfl, Or.inl rfl⟩
  have z : ∀ i j, i < n → j < n → nM (fill0 t (fun _ => 0) 64) q i j = 0 := fun i j hi hj => by
    unfold nM fill0
    rw [if_pos (by omega)]
  exact ⟨fun i j hi hj => (r2 q hq i j hi hj).trans (z i j hi hj).symm, fun i j hi hj => by rw [z i j hi hj]; omega⟩
end Ops3
