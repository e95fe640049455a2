/-! Optimising: the loops. -/
section Opt
variable {P : Nat} {ci cop ca cb cx : Nat → Nat}
theorem vstep {nv k : Nat} {F vOp vA vB vX nd Vo No : Nat → Int32} {o a b x vl : Nat → Nat} (hP : 1 < P) (hP2 : P ≤ 97) (h : VS P nv F vOp vA vB vX nd o a b x) (hnv : nv < 40) (hk : k < 40) (hv : VI k (cop k) (ca k) (cb k) (cx k)) (hVo : ∀ i, i < k → Vo i = nI (vl i) ∧ No i = nI (vl i) ∧ vl i < nv) :
    JR P nv (f_O_value (nI P) Vo F (nI nv) (nI (cop k)) (nI (ca k)) (nI (if 3 ≤ cop k ∧ cop k ≤ 5 then cb k else cx k))) (f_N_valueOfInstruction (nI P) (zN cop) (zN ca) (zN cb) (zN cx) (nI nv) vOp vA vB vX nd No (nI k)) := by
  obtain ⟨b1, b2, b3, b4, b5, b6, b7⟩ := VI_b hv (by omega)
  obtain ⟨v1, v2, v3, v4, v5, v6, v7, v8, v9⟩ := id hv
  have g1 : ∀ {β : Type} (z : Option β), gd (nI k) 48 z = z := fun z => gdN (by omega) (by decide)
  have g2 : ∀ {β : Type} (z : Option β), gd (nI (ca k)) 48 z = z := fun z => gdN (by omega) (by decide)
  have g3 : ∀ {β : Type} (z : Option β), gd (nI (cb k)) 48 z = z := fun z => gdN (by omega) (by decide)
  have c1 : (nI k).toNatClampNeg = k := nI_clamp (by omega)
  have c2 : (nI (ca k)).toNatClampNeg = ca k := nI_clamp (by omega)
  have c3 : (nI (cb k)).toNatClampNeg = cb k := nI_clamp (by omega)
  rw [f_N_valueOfInstruction]
  simp only [nm, g1, c1, zN_at, g2, c2, g3, c3]
  have ne : ∀ c : Nat, c < 9 → cop k ≠ c → ¬ nI (cop k) = nI c := fun c hc e q => e ((nI_eq (by omega) (by omega)).mp q)
  rw [f_O_value]
  by_cases e3 : cop k = 3
  · obtain ⟨r1, r2, r3⟩ := hVo (ca k) (v5 (by omega))
    obtain ⟨s1, s2, s3⟩ := hVo (cb k) (v6 (by omega)).1
    rw [if_pos (show nI (cop k) = (3 : Int32) by rw [e3]; rfl), if_pos (show nI (cop k) = (3 : Int32) by rw [e3]; rfl), if_pos (show 3 ≤ cop k ∧ cop k ≤ 5 by omega), gdN (by omega) (by decide), gdN (by have := v6 (by omega); omega) (by decide), c2, c3, r1, r2, s1, s2]
    exact (sum_eq h hnv r3 s3).pack
  rw [if_neg (show ¬ nI (cop k) = (3 : Int32) from ne 3 (by omega) e3), if_neg (show ¬ nI (cop k) = (3 : Int32) from ne 3 (by omega) e3)]
  by_cases e4 : cop k = 4
  · obtain ⟨r1, r2, r3⟩ := hVo (ca k) (v5 (by omega))
    obtain ⟨s1, s2, s3⟩ := hVo (cb k) (v6 (by omega)).1
    rw [if_pos (show nI (cop k) = (4 : Int32) by rw [e4]; rfl), if_pos (show nI (cop k) = (4 : Int32) by rw [e4]; rfl), if_pos (show 3 ≤ cop k ∧ cop k ≤ 5 by omega), gdN (by omega) (by decide), gdN (by have := v6 (by omega); omega) (by decide), c2, c3, r1, r2, s1, s2]
    exact (dif_eq h hnv r3 s3).pack
  rw [if_neg (show ¬ nI (cop k) = (4 : Int32) from ne 4 (by omega) e4), if_neg (show ¬ nI (cop k) = (4 : Int32) from ne 4 (by omega) e4)]
  by_cases e5 : cop k = 5
  · obtain ⟨r1, r2, r3⟩ := hVo (ca k) (v5 (by omega))
    obtain ⟨s1, s2, s3⟩ := hVo (cb k) (v6 (by omega)).1
    rw [if_pos (show nI (cop k) = (5 : Int32) by rw [e5]; rfl), if_pos (show nI (cop k) = (5 : Int32) by rw [e5]; rfl), if_pos (show 3 ≤ cop k ∧ cop k ≤ 5 by omega), gdN (by omega) (by decide), gdN (by have := v6 (by omega); omega) (by decide), c2, c3, r1, r2, s1, s2]
    exact (pro_eq h hnv r3 s3).pack
  rw [if_neg (show ¬ nI (cop k) = (5 : Int32) from ne 5 (by omega) e5), if_neg (show ¬ nI (cop k) = (5 : Int32) from ne 5 (by omega) e5)]
  by_cases e6 : cop k = 6
  · obtain ⟨r1, r2, r3⟩ := hVo (ca k) (v5 (by omega))
    rw [if_pos (show nI (cop k) = (6 : Int32) by rw [e6]; rfl), if_pos (show nI (cop k) = (6 : Int32) by rw [e6]; rfl), gdN (by have := v5 (by omega); omega) (by decide), c2, r1, r2]
    exact (tur_eq h hnv r3).pack
  rw [if_neg (show ¬ nI (cop k) = (6 : Int32) from ne 6 (by omega) e6), if_neg (show ¬ nI (cop k) = (6 : Int32) from ne 6 (by omega) e6)]
  by_cases e7 : cop k = 7
  · obtain ⟨r1, r2, r3⟩ := hVo (ca k) (v5 (by omega))
    rw [if_pos (show nI (cop k) = (7 : Int32) by rw [e7]; rfl), if_pos (show nI (cop k) = (7 : Int32) by rw [e7]; rfl), if_neg (show ¬ (3 ≤ cop k ∧ cop k ≤ 5) by omega), gdN (by have := v5 (by omega); omega) (by decide), c2, r1, r2, nzN (by omega) (by omega), zremN (by omega) (by omega) (by omega)]
    exact (sca_eq h hnv r3 hP hP2 b4).pack
  rw [if_neg (show ¬ nI (cop k) = (7 : Int32) from ne 7 (by omega) e7), if_neg (show ¬ nI (cop k) = (7 : Int32) from ne 7 (by omega) e7), if_neg (show ¬ (3 ≤ cop k ∧ cop k ≤ 5) by omega), b7 (by omega)]
  exact (val0 h hnv (by omega) v2 v4).pack
theorem imp_loop {len : Nat} (hP : 1 < P) (hP2 : P ≤ 97) (hlen : len ≤ 40) (hC : CR len ci cop ca cb cx) (isN reg pla : Nat → Int32) (oc dn : Int32) : ∀ (m k fu nv : Nat) (F vOp vA vB vX nd Vo No : Nat → Int32) (o a b x vl : Nat → Nat), k + m = len → m < fu → nv ≤ k → VS P nv F vOp vA vB vX nd o a b x → (∀ i, i < k → Vo i = nI (vl i) ∧ No i = nI (vl i) ∧ vl i < nv) →
    ∃ (nv' : Nat) (F' vOp' vA' vB' vX' nd' Vo' No' : Nat → Int32) (o' a' b' x' vl' : Nat → Nat), f_O_improve_9 (nI P) (zN ci) (nI len) isN reg fu (nI k) Vo F (nI nv) = f_O_improve_9 (nI P) (zN ci) (nI len) isN reg 1 (nI len) Vo' F' (nI nv') ∧ f_N_optimise_17 (nI P) (nI len) (zN cop) (zN ca) (zN cb) (zN cx) oc dn pla fu (nI k) (nI nv) vOp vA vB vX nd No = f_N_optimise_17 (nI P) (nI len) (zN cop) (zN ca) (zN cb) (zN cx) oc dn pla 1 (nI len) (nI nv') vOp' vA' vB' vX' nd' No' ∧ nv' ≤ len ∧ VS P nv' F' vOp' vA' vB' vX' nd' o' a' b' x' ∧ (∀ i, i < len → Vo' i = nI (vl' i) ∧ No' i = nI (vl' i) ∧ vl' i < nv') := by
  intro m
  induction m with
  | zero =>
    intro k fu nv F vOp vA vB vX nd Vo No o a b x vl e1 e2 e3 h hVo
    obtain ⟨fu, rfl⟩ : ∃ z, fu = z + 1 := ⟨fu - 1, by omega⟩
    obtain rfl : k = len := by omega
    refine ⟨nv, F, vOp, vA, vB, vX, nd, Vo, No, o, a, b, x, vl, ?_, ?_, e3, h, hVo⟩
    · rw [show (1 : Nat) = 0 + 1 from rfl, f_O_improve_9, f_O_improve_9, f_C_length, ob_some, if_pos (nI_le (Nat.le_refl _) (by omega)), ob_some, if_pos (nI_le (Nat.le_refl _) (by omega))]
    · rw [show (1 : Nat) = 0 + 1 from rfl, f_N_optimise_17, f_N_optimise_17, if_pos (nI_le (Nat.le_refl _) (by omega)), if_pos (nI_le (Nat.le_refl _) (by omega))]
  | succ m ih =>
    intro k fu nv F vOp vA vB vX nd Vo No o a b x vl e1 e2 e3 h hVo
    obtain ⟨fu, rfl⟩ : ∃ z, fu = z + 1 := ⟨fu - 1, by omega⟩
    have hk : k < 40 := by omega
    obtain ⟨q1, q2⟩ := hC k (by omega)
    obtain ⟨j, nv', F', vOp', vA', vB', vX', nd', o', a', b', x', r1, r2, r3, r4, r5, r6⟩ := vstep (cop := cop) (ca := ca) (cb := cb) (cx := cx) hP hP2 h (by omega) hk q2 hVo
    obtain ⟨nv2, F2, vOp2, vA2, vB2, vX2, nd2, Vo2, No2, o2, a2, b2, x2, vl2, s1, s2, s3, s4, s5⟩ := ih (k + 1) fu nv' F' vOp' vA' vB' vX' nd' (upd Vo k (nI j)) (upd No k (nI j)) o' a' b' x' (updN vl k j) (by omega) (by omega) (by omega) r3 (fun i hi => by
      by_cases e : i = k
      · subst e; rw [pk_us, pk_us]; unfold updN; rw [if_pos rfl]; exact ⟨rfl, rfl, r4⟩
      · rw [pk_un e, pk_un e]; unfold updN; rw [if_neg e]
        obtain ⟨t1, t2, t3⟩ := hVo i (by omega)
        exact ⟨t1, t2, by omega⟩)
    refine ⟨nv2, F2, vOp2, vA2, vB2, vX2, nd2, Vo2, No2, o2, a2, b2, x2, vl2, ?_, ?_, s3, s4, s5⟩
    · rw [f_O_improve_9, f_C_length, ob_some, if_neg (nI_ge (by omega) (by omega)), p_Cop hk q2 q1, ob_some, p_C1 hk q2 q1, ob_some, p_C2 hk q2 q1, ob_some, r1, ob_some, gdN hk (by decide), nI_clamp (by omega), nI_1]
      exact s1
    · rw [f_N_optimise_17, if_neg (nI_ge (by omega) (by omega)), r2, ob_some, gdN (by omega) (by decide), nI_clamp (by omega), nI_1]
      exact s2
theorem vn1 : vp_nar .boolean (1 : Int32) = 1 := by decide +kernel
theorem vn0 : vp_nar .boolean (0 : Int32) = 0 := by decide +kernel
theorem mk_init {nv res : Nat} {F : Nat → Int32} (hnv : nv ≤ 40) (hres : res < nv) : ∀ (m k fu : Nat) (isN : Nat → Int32), k + m = nv → m < fu → (∀ i, i < k → isN i = if i = res then 1 else 0) →
    ∃ isN' : Nat → Int32, f_O_markNeeded_2 F (nI nv) (nI res) fu (nI k) isN = f_O_markNeeded_37 F zFU (nI res) isN' ∧ ∀ i, i < nv → isN' i = if i = res then 1 else 0 := by
  intro m
  induction m with
  | zero =>
    intro k fu isN e1 e2 h
    obtain ⟨fu, rfl⟩ : ∃ z, fu = z + 1 := ⟨fu - 1, by omega⟩
    obtain rfl : k = nv := by omega
    exact ⟨isN, by rw [f_O_markNeeded_2, f_C_length, ob_some, if_pos (nI_le (Nat.le_refl _) (by omega))], h⟩
  | succ m ih =>
    intro k fu isN e1 e2 h
    obtain ⟨fu, rfl⟩ : ∃ z, fu = z + 1 := ⟨fu - 1, by omega⟩
    have hc : (nI k = nI res) ↔ k = res := nI_eq (by omega) (by omega)
    obtain ⟨isN', r1, r2⟩ := ih (k + 1) fu (upd isN k (if k = res then 1 else 0)) (by omega) (by omega) (fun i hi => by
      by_cases e : i = k
      · subst e; rw [pk_us]
      · rw [pk_un e]; exact h i (by omega))
    refine ⟨isN', ?_, r2⟩
    rw [← r1, f_O_markNeeded_2, f_C_length, ob_some, if_neg (nI_ge (by omega) (by omega))]
    by_cases e : k = res
    · rw [if_pos (hc.mpr e), f_O_markNeeded_28, gdN (by omega) (by decide), nI_clamp (by omega), vn1, nI_1, if_pos e]
    · rw [if_neg (fun q => e (hc.mp q)), f_O_markNeeded_28, gdN (by omega) (by decide), nI_clamp (by omega), vn0, nI_1, if_neg e]
end Opt
