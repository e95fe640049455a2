/-! The rules, side by side. -/
section Rules
variable {P nv : Nat} {F vOp vA vB vX nd : Nat → Int32} {o a b x : Nat → Nat}
theorem val2 {o1 a1 b1 : Nat} (h : VS P nv F vOp vA vB vX nd o a b x) (hnv : nv < 40) (ho : 3 ≤ o1 ∧ o1 ≤ 5) (ha : a1 < nv) (hb : b1 < nv) : JR P nv (f_C_findOrAppend F (nI nv) (nI o1) (nI a1) (nI b1)) (f_N_value (nI nv) vOp vA vB vX nd (nI o1) (nI a1) (nI b1) (nI 0)) := by
  have e := val_eq (o1 := o1) (a1 := a1) (b1 := b1) (x1 := 0) h hnv ⟨by omega, by omega, by omega, by omega, fun _ => ha, fun _ => ⟨hb, rfl⟩, by omega, by omega, by omega⟩ (by omega)
  unfold av bv at e
  rw [if_pos ho, if_pos ho.1, if_pos ho] at e
  exact e
theorem val6 {a1 : Nat} (h : VS P nv F vOp vA vB vX nd o a b x) (hnv : nv < 40) (ha : a1 < nv) : JR P nv (f_C_findOrAppend F (nI nv) (nI 6) (nI a1) (nI 0)) (f_N_value (nI nv) vOp vA vB vX nd (nI 6) (nI a1) (-1) (nI 0)) :=
  val_eq (o1 := 6) (a1 := a1) (b1 := 0) (x1 := 0) h hnv ⟨by omega, by omega, by omega, by omega, fun _ => ha, by omega, fun _ => rfl, fun _ => rfl, by omega⟩ (by omega)
theorem val7 {a1 x1 : Nat} (h : VS P nv F vOp vA vB vX nd o a b x) (hnv : nv < 40) (ha : a1 < nv) (hx : 2 ≤ x1 ∧ x1 < P ∧ o a1 ≠ 2) (hx2 : x1 < 100) : JR P nv (f_C_findOrAppend F (nI nv) (nI 7) (nI a1) (nI x1)) (f_N_value (nI nv) vOp vA vB vX nd (nI 7) (nI a1) (-1) (nI x1)) :=
  val_eq (o1 := 7) (a1 := a1) (b1 := 0) (x1 := x1) h hnv ⟨by omega, by omega, by omega, by omega, fun _ => ha, by omega, fun _ => rfl, by omega, fun _ => hx2⟩ (fun _ => hx)
theorem val0 {o1 x1 : Nat} (h : VS P nv F vOp vA vB vX nd o a b x) (hnv : nv < 40) (ho : o1 ≤ 2) (hx : o1 = 0 → x1 < 4) (hx2 : o1 = 1 ∨ o1 = 2 → x1 = 0) : JR P nv (f_C_findOrAppend F (nI nv) (nI o1) (nI 0) (nI x1)) (f_N_value (nI nv) vOp vA vB vX nd (nI o1) (-1) (-1) (nI x1)) := by
  have e := val_eq (o1 := o1) (a1 := 0) (b1 := 0) (x1 := x1) h hnv ⟨by omega, hx, fun _ => ⟨rfl, rfl⟩, hx2, by omega, by omega, by omega, by omega, by omega⟩ (by omega)
  unfold av bv at e
  rw [if_neg (by omega), if_neg (by omega), if_neg (by omega)] at e
  exact e
theorem zminN {v w : Nat} (hv : v < 2 ^ 31) (hw : w < 2 ^ 31) : zmin (nI v) (nI w) = nI (if w < v then w else v) := by
  unfold zmin
  by_cases e : w < v
  · rw [if_pos e, if_pos ((nI_ltI hw hv).mpr e)]
  · rw [if_neg e, if_neg (fun q => e ((nI_ltI hw hv).mp q))]
theorem zmaxN {v w : Nat} (hv : v < 2 ^ 31) (hw : w < 2 ^ 31) : zmax (nI v) (nI w) = nI (if v < w then w else v) := by
  unfold zmax
  by_cases e : v < w
  · rw [if_pos e, if_pos ((nI_ltI hv hw).mpr e)]
  · rw [if_neg e, if_neg (fun q => e ((nI_ltI hv hw).mp q))]
theorem ite10 {c : Prop} [Decidable c] : ((if c then (1 : Int32) else 0) = 0) ↔ ¬ c := by
  by_cases h : c
  · rw [if_pos h]; exact ⟨fun q => absurd q (by decide), fun q => absurd h q⟩
  · rw [if_neg h]; exact ⟨fun _ => h, fun _ => rfl⟩
theorem sum_eq {v w : Nat} (h : VS P nv F vOp vA vB vX nd o a b x) (hnv : nv < 40) (hv : v < nv) (hw : w < nv) : JR P nv (f_O_sum F (nI nv) (nI v) (nI w)) (f_N_added (nI nv) vOp vA vB vX nd (nI v) (nI w)) := by
  rw [f_O_sum, f_N_added, show (2 : Int32) = nI 2 from rfl, p_is h (by omega) hw (by omega), ob_some, p_is h (by omega) hv (by omega), ob_some, gdN (by omega) (by decide), gdN (by omega) (by decide), nI_clamp (by omega), nI_clamp (by omega)]
  have i1 := vOp_is (c := 2) h (by omega) hw (by omega)
  have i2 := vOp_is (c := 2) h (by omega) hv (by omega)
  by_cases c1 : o w = 2
  · rw [if_neg (fun q => ite10.mp q c1), if_pos (i1.mpr c1)]
    exact JR.same h hv
  · rw [if_pos (ite10.mpr c1), if_neg (fun q => c1 (i1.mp q))]
    by_cases c2 : o v = 2
    · rw [if_neg (fun q => ite10.mp q c2), if_pos (i2.mpr c2)]
      exact JR.same h hw
    · rw [if_pos (ite10.mpr c2), if_neg (fun q => c2 (i2.mp q)), zminN (by omega) (by omega), zmaxN (by omega) (by omega), show (3 : Int32) = nI 3 from rfl, show (0 : Int32) = nI 0 from rfl]
      by_cases c3 : w ≤ v
      · rw [if_pos ((nI_leI (by omega) (by omega)).mpr c3)]
        by_cases c4 : w = v
        · subst c4
          rw [if_neg (by omega), ]
          exact (val2 h hnv (by omega) hw hw).pack
        · rw [if_pos (by omega), if_neg (by omega)]
          exact (val2 h hnv (by omega) hw hv).pack
      · rw [if_neg (fun q => c3 ((nI_leI (by omega) (by omega)).mp q)), if_neg (by omega), if_pos (by omega)]
        exact (val2 h hnv (by omega) hv hw).pack
theorem dif_eq {v w : Nat} (h : VS P nv F vOp vA vB vX nd o a b x) (hnv : nv < 40) (hv : v < nv) (hw : w < nv) : JR P nv (f_O_difference F (nI nv) (nI v) (nI w)) (f_N_less (nI nv) vOp vA vB vX nd (nI v) (nI w)) := by
  rw [f_O_difference, f_N_less, show (2 : Int32) = nI 2 from rfl, p_is h (by omega) hw (by omega), ob_some, gdN (by omega) (by decide), nI_clamp (by omega)]
  have i1 := vOp_is (c := 2) h (by omega) hw (by omega)
  by_cases c1 : o w = 2
  · rw [if_neg (fun q => ite10.mp q c1), if_pos (i1.mpr c1)]
    exact JR.same h hv
  · rw [if_pos (ite10.mpr c1), if_neg (fun q => c1 (i1.mp q))]
    by_cases c2 : nI v = nI w
    · rw [if_pos c2, if_pos c2]
      exact (nou_eq h hnv).pack
    · rw [if_neg c2, if_neg c2, show (4 : Int32) = nI 4 from rfl, show (0 : Int32) = nI 0 from rfl]
      exact (val2 h hnv (by omega) hv hw).pack
theorem pro_eq {v w : Nat} (h : VS P nv F vOp vA vB vX nd o a b x) (hnv : nv < 40) (hv : v < nv) (hw : w < nv) : JR P nv (f_O_product F (nI nv) (nI v) (nI w)) (f_N_times (nI nv) vOp vA vB vX nd (nI v) (nI w)) := by
  rw [f_O_product, f_N_times, show (2 : Int32) = nI 2 from rfl, show (1 : Int32) = nI 1 from rfl, p_is h (by omega) hv (by omega), ob_some, p_is h (by omega) hw (by omega), ob_some, p_is h (by omega) hw (by omega), ob_some, p_is h (by omega) hv (by omega), ob_some, gdN (by omega) (by decide), gdN (show w < 48 by omega) (by decide), gdN (show w < 48 by omega) (by decide), gdN (show v < 48 by omega) (by decide), nI_clamp (by omega), nI_clamp (by omega)]
  have i1 := vOp_is (c := 2) h (by omega) hw (by omega)
  have i2 := vOp_is (c := 2) h (by omega) hv (by omega)
  have i3 := vOp_is (c := 1) h (by omega) hw (by omega)
  have i4 := vOp_is (c := 1) h (by omega) hv (by omega)
  by_cases c1 : o v = 2
  · rw [if_neg (fun q => ite10.mp q c1), if_pos (i2.mpr c1)]
    exact (nou_eq h hnv).pack
  · rw [if_pos (ite10.mpr c1), if_neg (fun q => c1 (i2.mp q))]
    by_cases c2 : o w = 2
    · rw [if_neg (fun q => ite10.mp q c2), if_pos (i1.mpr c2)]
      exact (nou_eq h hnv).pack
    · rw [if_pos (ite10.mpr c2), if_neg (fun q => c2 (i1.mp q))]
      by_cases c3 : o w = 1
      · rw [if_neg (fun q => ite10.mp q c3), if_pos (i3.mpr c3)]
        exact JR.same h hv
      · rw [if_pos (ite10.mpr c3), if_neg (fun q => c3 (i3.mp q))]
        by_cases c4 : o v = 1
        · rw [if_neg (fun q => ite10.mp q c4), if_pos (i4.mpr c4)]
          exact JR.same h hw
        · rw [if_pos (ite10.mpr c4), if_neg (fun q => c4 (i4.mp q)), show (5 : Int32) = nI 5 from rfl, show (0 : Int32) = nI 0 from rfl]
          exact (val2 h hnv (by omega) hv hw).pack
theorem tur_eq {v : Nat} (h : VS P nv F vOp vA vB vX nd o a b x) (hnv : nv < 40) (hv : v < nv) : JR P nv (f_O_turned F (nI nv) (nI v)) (f_N_turned (nI nv) vOp vA vB vX nd (nI v)) := by
  rw [f_O_turned, f_N_turned, show (2 : Int32) = nI 2 from rfl, show (1 : Int32) = nI 1 from rfl, show (6 : Int32) = nI 6 from rfl, p_is h (by omega) hv (by omega), ob_some, p_is h (by omega) hv (by omega), ob_some, p_is h (by omega) hv (by omega), ob_some, p_F1 h (by omega) hv, ob_some, gdN (by omega) (by decide), gdN (by omega) (by decide), gdN (by omega) (by decide), gdN (by omega) (by decide), nI_clamp (by omega)]
  have i1 := vOp_is (c := 1) h (by omega) hv (by omega)
  have i2 := vOp_is (c := 2) h (by omega) hv (by omega)
  have i3 := vOp_is (c := 6) h (by omega) hv (by omega)
  by_cases c1 : o v = 1
  · rw [if_neg (fun q => ite10.mp q c1), if_pos (i1.mpr c1)]
    exact JR.same h hv
  · rw [if_pos (ite10.mpr c1), if_neg (fun q => c1 (i1.mp q))]
    by_cases c2 : o v = 2
    · rw [if_neg (fun q => ite10.mp q c2), if_pos (i2.mpr c2)]
      exact JR.same h hv
    · rw [if_pos (ite10.mpr c2), if_neg (fun q => c2 (i2.mp q))]
      by_cases c3 : o v = 6
      · obtain ⟨-, -, y3, -, -, y6⟩ := h.1 v hv
        have ha : a v < v := y6.2.2.2.2.1 (by omega)
        rw [if_neg (fun q => ite10.mp q c3), if_pos (i3.mpr c3), y3, show av (o v) (a v) = nI (a v) by unfold av; rw [if_pos (by omega)]]
        exact JR.same h (by omega)
      · rw [if_pos (ite10.mpr c3), if_neg (fun q => c3 (i3.mp q)), show (0 : Int32) = nI 0 from rfl]
        exact (val6 h hnv hv).pack
theorem find_same {v : Nat} (h : VS P nv F vOp vA vB vX nd o a b x) (hnv : nv ≤ 40) (hv : v < nv) (ho : o v = 7) : f_C_findOrAppend F (nI nv) (nI 7) (nI (a v)) (nI (x v)) = some (nI v, F, nI nv) := by
  obtain ⟨h1, h2, h3, h4⟩ := h
  have e : pkI (o v) (a v) (b v) (x v) = (7 * 100 + a v) * 100 + x v := by unfold pkI; rw [if_neg (by omega), ho]; omega
  have lp : ∀ (m k fu : Nat), k + m = v → m < fu → f_C_findOrAppend_11 (nI 7) (nI (a v)) (nI (x v)) (nI (pkI (o v) (a v) (b v) (x v))) F (nI nv) fu (nI k) = some (nI v, F, nI nv) := by
    intro m
    induction m with
    | zero =>
      intro k fu e1 e2
      obtain ⟨fu, rfl⟩ : ∃ z, fu = z + 1 := ⟨fu - 1, by omega⟩
      obtain rfl : k = v := by omega
      rw [f_C_findOrAppend_11, if_neg (nI_ge (by omega) (by omega)), gdN (by omega) (by decide), nI_clamp (by omega), (h1 k hv).1, if_pos rfl]
    | succ m ih =>
      intro k fu e1 e2
      obtain ⟨fu, rfl⟩ : ∃ z, fu = z + 1 := ⟨fu - 1, by omega⟩
      have u1 := unpack (h1 k (by omega)).2.2.2.2.2 (by omega)
      have u2 := unpack (h1 v (by omega)).2.2.2.2.2 (by omega)
      rw [f_C_findOrAppend_11, if_neg (nI_ge (by omega) (by omega)), gdN (by omega) (by decide), nI_clamp (by omega), (h1 k (by omega)).1, if_neg, nI_1]
      · exact ih (k + 1) fu (by omega) (by omega)
      · intro q
        have := h2 k v (by omega) hv ((nI_eq (by omega) (by omega)).mp q)
        omega
  rw [f_C_findOrAppend, f_C_packed, ob_some, show (100 : Int32) = nI 100 from rfl, pk_mul, nI_add, pk_mul, nI_add, ← e]
  exact lp v 0 zFU (by omega) (by unfold zFU; omega)
theorem sca_eq {v y : Nat} (h : VS P nv F vOp vA vB vX nd o a b x) (hnv : nv < 40) (hv : v < nv) (hP : 1 < P) (hP2 : P ≤ 97) (hy : y < 100) : JR P nv (f_O_scaled (nI P) F (nI nv) (nI v) (nI (y % P))) (f_N_scaled (nI P) (nI nv) vOp vA vB vX nd (nI v) (nI y)) := by
  have i2 := vOp_is (c := 2) h (by omega) hv (by omega)
  have i7 := vOp_is (c := 7) h (by omega) hv (by omega)
  obtain ⟨-, -, y3, -, y5, y6⟩ := h.1 v hv
  have hym : y % P < P := Nat.mod_lt _ (by omega)
  rw [f_N_scaled, nzN (by omega) (by omega), zremN (by omega) (by omega) (by omega)]
  simp only [nm]
  generalize y % P = z at *
  rw [f_O_scaled, show (7 : Int32) = nI 7 from rfl, show (2 : Int32) = nI 2 from rfl, show (1 : Int32) = nI 1 from rfl, p_is h (by omega) hv (by omega), ob_some, gdN (by omega) (by decide), gdN (by omega) (by decide), gdN (by omega) (by decide), gdN (by omega) (by decide), gdN (by omega) (by decide), nI_clamp (by omega), nzN (by omega) (by omega)]
  have z0 : (nI z = 0) ↔ z = 0 := nI_eq (b := 0) (by omega) (by omega)
  have z1 : (nI z = nI 1) ↔ z = 1 := nI_eq (by omega) (by omega)
  by_cases c7 : o v = 7
  · obtain ⟨s1, s2, s3⟩ := h.2.2.1 v hv c7
    have ha : a v < v := y6.2.2.2.2.1 (by omega)
    have hm : x v * z ≤ 97 * 97 := Nat.mul_le_mul (by omega) (by omega)
    have hf : x v * z % P < P := Nat.mod_lt _ (by omega)
    have isa := p_is (c := 2) h (by omega) (show a v < nv by omega) (by omega)
    rw [if_neg (fun q => ite10.mp q c7), p_F1 h (by omega) hv, ob_some, f_O_scaled_24, if_neg (fun q => ite10.mp q c7), p_F2 h (by omega) hv, ob_some, if_neg (show ¬ (3 ≤ o v ∧ o v ≤ 5) by omega), nzN (by omega) (by omega), pk_mul, zremN (by omega) (by omega) (by omega), f_O_scaled_49, show (2 : Int32) = nI 2 from rfl, isa, ob_some, if_pos (ite10.mpr s3), y3, show av (o v) (a v) = nI (a v) by unfold av; rw [if_pos (by omega)], y5, pk_mul, zremN (by omega) (by omega) (by omega)]
    by_cases c0 : z = 0
    · subst c0
      rw [if_pos (show nI (x v * 0 % P) = 0 by rw [Nat.mul_zero, Nat.zero_mod]; rfl), if_pos (show nI 0 = (0 : Int32) from rfl)]
      exact (nou_eq h hnv).pack
    · rw [if_neg (show ¬ nI z = 0 from fun q => c0 (z0.mp q)), if_neg (show ¬ vOp v = nI 2 from fun q => by have := i2.mp q; omega)]
      by_cases c1 : z = 1
      · subst c1
        rw [Nat.mul_one, Nat.mod_eq_of_lt s2, if_neg (nI_ne0 (by omega) (by omega)), if_neg (show ¬ nI (x v) = (1 : Int32) from fun q => by have := (nI_eq (b := 1) (by omega) (by omega)).mp q; omega), if_pos (show nI 1 = nI 1 from rfl), show (7 : Int32) = nI 7 from rfl, find_same h (by omega) hv c7, ob_some]
        exact JR.same h hv
      · rw [if_neg (show ¬ nI z = nI 1 from fun q => c1 (z1.mp q)), if_pos (i7.mpr c7)]
        generalize x v * z % P = f at *
        have f0 : (nI f = 0) ↔ f = 0 := nI_eq (b := 0) (by omega) (by omega)
        have f1 : (nI f = nI 1) ↔ f = 1 := nI_eq (by omega) (by omega)
        rw [show (1 : Int32) = nI 1 from rfl, show (7 : Int32) = nI 7 from rfl]
        by_cases d0 : f = 0
        · rw [if_pos (f0.mpr d0), if_pos (f0.mpr d0)]
          exact (nou_eq h hnv).pack
        · rw [if_neg (fun q => d0 (f0.mp q)), if_neg (fun q => d0 (f0.mp q))]
          by_cases d1 : f = 1
          · rw [if_pos (f1.mpr d1), if_pos (f1.mpr d1)]
            exact JR.same h (by omega)
          · rw [if_neg (fun q => d1 (f1.mp q)), if_neg (fun q => d1 (f1.mp q))]
            exact (val7 h hnv (by omega) ⟨by omega, hf, s3⟩ (by omega)).pack
  · rw [if_pos (ite10.mpr c7), f_O_scaled_24, if_pos (ite10.mpr c7), f_O_scaled_49, show (2 : Int32) = nI 2 from rfl, show (1 : Int32) = nI 1 from rfl, show (7 : Int32) = nI 7 from rfl, p_is h (by omega) hv (by omega), ob_some]
    by_cases c0 : z = 0
    · rw [if_pos (z0.mpr c0), if_pos (z0.mpr c0)]
      exact (nou_eq h hnv).pack
    · rw [if_neg (fun q => c0 (z0.mp q)), if_neg (fun q => c0 (z0.mp q))]
      by_cases c2 : o v = 2
      · rw [if_neg (fun q => ite10.mp q c2), if_pos (i2.mpr c2)]
        exact (nou_eq h hnv).pack
      · rw [if_pos (ite10.mpr c2), if_neg (fun q => c2 (i2.mp q))]
        by_cases c1 : z = 1
        · rw [if_pos (z1.mpr c1), if_pos (z1.mpr c1)]
          exact JR.same h hv
        · rw [if_neg (fun q => c1 (z1.mp q)), if_neg (fun q => c1 (z1.mp q)), if_neg (fun q => c7 (i7.mp q))]
          exact (val7 h hnv hv ⟨by omega, hym, c2⟩ (by omega)).pack
end Rules
