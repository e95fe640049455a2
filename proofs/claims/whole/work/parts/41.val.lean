/-! Optimising, first half: the values. -/
def av (o a : Nat) : Int32 := if 3 ≤ o then nI a else (-1)
def bv (o b : Nat) : Int32 := if 3 ≤ o ∧ o ≤ 5 then nI b else (-1)
theorem VI_b {k o a b x : Nat} (hv : VI k o a b x) (hk : k ≤ 40) : o ≤ 7 ∧ a < 41 ∧ b < 41 ∧ x < 100 ∧ (¬ (3 ≤ o ∧ o ≤ 5) → b = 0) ∧ (3 ≤ o ∧ o ≤ 5 → x = 0) ∧ (¬ 3 ≤ o → a = 0) := by
  obtain ⟨v1, v2, v3, v4, v5, v6, v7, v8, v9⟩ := hv
  have ha : a < 41 ∧ (¬ 3 ≤ o → a = 0) := by
    by_cases h3 : 3 ≤ o
    · have := v5 h3; exact ⟨by omega, fun z => absurd h3 z⟩
    · have := v3 (by omega); exact ⟨by omega, fun _ => this.1⟩
  have hb : b < 41 ∧ (¬ (3 ≤ o ∧ o ≤ 5) → b = 0) := by
    by_cases h3 : 3 ≤ o ∧ o ≤ 5
    · have := v6 h3; exact ⟨by omega, fun z => absurd h3 z⟩
    · by_cases h2 : o ≤ 2
      · have := v3 h2; exact ⟨by omega, fun _ => this.2⟩
      · have := v7 (by omega); exact ⟨by omega, fun _ => this⟩
  have hx : x < 100 ∧ (3 ≤ o ∧ o ≤ 5 → x = 0) := by
    rcases (show o = 0 ∨ (o = 1 ∨ o = 2) ∨ (3 ≤ o ∧ o ≤ 5) ∨ o = 6 ∨ o = 7 by omega) with e | e | e | e | e
    · have := v2 e; exact ⟨by omega, by omega⟩
    · have := v4 e; exact ⟨by omega, by omega⟩
    · have := (v6 e).2; exact ⟨by omega, fun _ => this⟩
    · have := v8 e; exact ⟨by omega, by omega⟩
    · have := v9 e; exact ⟨by omega, by omega⟩
  exact ⟨v1, ha.1, hb.1, hx.1, hb.2, hx.2, ha.2⟩
theorem pk_iff {k o a b x k' o' a' b' x' : Nat} (h1 : VI k o a b x) (h2 : VI k' o' a' b' x') (hk : k ≤ 40) (hk' : k' ≤ 40) : pkI o a b x = pkI o' a' b' x' ↔ (o = o' ∧ a = a' ∧ b = b' ∧ x = x') := by
  constructor
  · intro e
    obtain ⟨u1, u2, u3, -⟩ := unpack h1 hk
    obtain ⟨w1, w2, w3, -⟩ := unpack h2 hk'
    obtain ⟨-, -, -, -, p1, p2, -⟩ := VI_b h1 hk
    obtain ⟨-, -, -, -, r1, r2, -⟩ := VI_b h2 hk'
    rw [e] at u1 u2 u3
    have eo : o = o' := u1.symm.trans w1
    have ea : a = a' := u2.symm.trans w2
    have e3 := u3.symm.trans w3
    subst eo
    by_cases h : 3 ≤ o ∧ o ≤ 5
    · rw [if_pos h, if_pos h] at e3
      exact ⟨rfl, ea, e3, by rw [p2 h, r2 h]⟩
    · rw [if_neg h, if_neg h] at e3
      exact ⟨rfl, ea, by rw [p1 h, r1 h], e3⟩
  · rintro ⟨rfl, rfl, rfl, rfl⟩
    rfl
theorem f_iff {k o a b x k' o' a' b' x' : Nat} (h1 : VI k o a b x) (h2 : VI k' o' a' b' x') (hk : k ≤ 40) (hk' : k' ≤ 40) : (nI o = nI o' ∧ av o a = av o' a' ∧ bv o b = bv o' b' ∧ nI x = nI x') ↔ (o = o' ∧ a = a' ∧ b = b' ∧ x = x') := by
  obtain ⟨p0, p3, p4, p5, p1, p2, p6⟩ := VI_b h1 hk
  obtain ⟨r0, r3, r4, r5, r1, r2, r6⟩ := VI_b h2 hk'
  constructor
  · rintro ⟨e1, e2, e3, e4⟩
    have eo : o = o' := (nI_eq (by omega) (by omega)).mp e1
    have ex : x = x' := (nI_eq (by omega) (by omega)).mp e4
    subst eo
    refine ⟨rfl, ?_, ?_, ex⟩
    · unfold av at e2
      by_cases h : 3 ≤ o
      · rw [if_pos h, if_pos h] at e2
        exact (nI_eq (by omega) (by omega)).mp e2
      · rw [p6 h, r6 h]
    · unfold bv at e3
      by_cases h : 3 ≤ o ∧ o ≤ 5
      · rw [if_pos h, if_pos h] at e3
        exact (nI_eq (by omega) (by omega)).mp e3
      · rw [p1 h, r1 h]
  · rintro ⟨rfl, rfl, rfl, rfl⟩
    exact ⟨rfl, rfl, rfl, rfl⟩
def VE (F vOp vA vB vX : Nat → Int32) (o a b x : Nat → Nat) (k : Nat) : Prop := F k = nI (pkI (o k) (a k) (b k) (x k)) ∧ vOp k = nI (o k) ∧ vA k = av (o k) (a k) ∧ vB k = bv (o k) (b k) ∧ vX k = nI (x k) ∧ VI k (o k) (a k) (b k) (x k)
def VS (P nv : Nat) (F vOp vA vB vX nd : Nat → Int32) (o a b x : Nat → Nat) : Prop := (∀ k, k < nv → VE F vOp vA vB vX o a b x k) ∧ (∀ i j, i < nv → j < nv → pkI (o i) (a i) (b i) (x i) = pkI (o j) (a j) (b j) (x j) → i = j) ∧ (∀ k, k < nv → o k = 7 → 2 ≤ x k ∧ x k < P ∧ o (a k) ≠ 2) ∧ (∀ k, k < nv → nd k = 0)
abbrev JRt : Type := Option (Int32 × Int32 × (Nat → Int32) × (Nat → Int32) × (Nat → Int32) × (Nat → Int32) × (Nat → Int32))
def JR (P nv : Nat) (c : Option (Int32 × (Nat → Int32) × Int32)) (m : JRt) : Prop := ∃ (j nv' : Nat) (F vOp vA vB vX nd : Nat → Int32) (o a b x : Nat → Nat), c = some (nI j, F, nI nv') ∧ m = some (nI j, nI nv', vOp, vA, vB, vX, nd) ∧ VS P nv' F vOp vA vB vX nd o a b x ∧ j < nv' ∧ nv ≤ nv' ∧ nv' ≤ nv + 1
section Val
variable {P nv : Nat} {F vOp vA vB vX nd : Nat → Int32} {o a b x : Nat → Nat}
theorem p_app {n o1 a1 b1 : Nat} (hn : n < 40) : f_C_append F (nI n) (nI o1) (nI a1) (nI b1) = some (nI n, upd F n (nI (10000 * o1 + 100 * a1 + b1)), nI (n + 1)) := by
  rw [f_C_append, f_C_packed, ob_some, gdN hn (by decide), nI_clamp (by omega), nI_1, nI_pred, show (100 : Int32) = nI 100 from rfl, pk_mul, nI_add, pk_mul, nI_add, show (o1 * 100 + a1) * 100 + b1 = 10000 * o1 + 100 * a1 + b1 by omega]
theorem val_loop {o1 a1 b1 x1 : Nat} (h : VS P nv F vOp vA vB vX nd o a b x) (hnv : nv < 40) (hv : VI nv o1 a1 b1 x1) (hsc : o1 = 7 → 2 ≤ x1 ∧ x1 < P ∧ o a1 ≠ 2) : ∀ (m k fu : Nat), k + m = nv → m < fu → (∀ i, i < k → ¬ pkI (o i) (a i) (b i) (x i) = pkI o1 a1 b1 x1) →
    JR P nv (f_C_findOrAppend_11 (nI o1) (nI a1) (nI (if 3 ≤ o1 ∧ o1 ≤ 5 then b1 else x1)) (nI (pkI o1 a1 b1 x1)) F (nI nv) fu (nI k)) (f_N_value_3 (nI o1) (av o1 a1) (bv o1 b1) (nI x1) (nI nv) vOp vA vB vX nd fu (nI k)) := by
  obtain ⟨h1, h2, h3, h4⟩ := h
  intro m
  induction m with
  | zero =>
    intro k fu e1 e2 e3
    obtain ⟨fu, rfl⟩ : ∃ z, fu = z + 1 := ⟨fu - 1, by omega⟩
    obtain rfl : k = nv := by omega
    rw [f_C_findOrAppend_11, f_N_value_3, if_pos (nI_le (Nat.le_refl _) (by omega)), if_pos (nI_le (Nat.le_refl _) (by omega)), p_app hnv, ob_some, gdN (by omega) (by decide), gdN (by omega) (by decide), gdN (by omega) (by decide), gdN (by omega) (by decide), gdN (by omega) (by decide), nI_clamp (by omega), nI_1, nI_pred]
    have hne : ∀ i, i < k → i ≠ k := fun i hi => by omega
    refine ⟨k, k + 1, _, _, _, _, _, _, updN o k o1, updN a k a1, updN b k b1, updN x k x1, rfl, rfl, ⟨?_, ?_, ?_, ?_⟩, by omega, by omega, by omega⟩
    · intro i hi
      by_cases e : i = k
      · subst e
        unfold VE updN
        simp only [pk_us, if_true]
        exact ⟨rfl, trivial, trivial, trivial, trivial, hv⟩
      · obtain ⟨y1, y2, y3, y4, y5, y6⟩ := h1 i (by omega)
        unfold VE updN
        simp only [pk_un e, if_neg e]
        exact ⟨y1, y2, y3, y4, y5, y6⟩
    · intro i j hi hj
      unfold updN
      by_cases ei : i = k
      · by_cases ej : j = k
        · intro _; omega
        · simp only [if_pos ei, if_neg ej]
          intro q
          exact absurd q.symm (e3 j (by omega))
      · by_cases ej : j = k
        · simp only [if_pos ej, if_neg ei]
          intro q
          exact absurd q (e3 i (by omega))
        · simp only [if_neg ei, if_neg ej]
          exact h2 i j (by omega) (by omega)
    · intro i hi
      unfold updN
      by_cases ei : i = k
      · simp only [if_pos ei]
        intro q
        have := hsc q
        have ha1 : a1 < k := hv.2.2.2.2.1 (by omega)
        rw [if_neg (by omega)]
        exact this
      · simp only [if_neg ei]
        intro q
        have hv2 := (h1 i (by omega)).2.2.2.2.2
        have ha1 : a i < i := hv2.2.2.2.2.1 (by omega)
        rw [if_neg (by omega)]
        exact h3 i (by omega) q
    · intro i hi
      by_cases e : i = k
      · subst e
        rw [pk_us]
        rfl
      · rw [pk_un e]
        exact h4 i (by omega)
  | succ m ih =>
    intro k fu e1 e2 e3
    obtain ⟨fu, rfl⟩ : ∃ z, fu = z + 1 := ⟨fu - 1, by omega⟩
    obtain ⟨y1, y2, y3, y4, y5, y6⟩ := h1 k (by omega)
    have hbk := unpack y6 (by omega)
    have hbn := unpack hv (by omega)
    have hpi := pk_iff y6 hv (by omega) (by omega)
    have hfi := f_iff y6 hv (by omega) (by omega)
    rw [f_C_findOrAppend_11, f_N_value_3, if_neg (nI_ge (by omega) (by omega)), if_neg (nI_ge (by omega) (by omega)), gdN (by omega) (by decide), gdN (show k < 48 by omega) (by decide), gdN (show k < 48 by omega) (by decide), gdN (show k < 48 by omega) (by decide), gdN (show k < 48 by omega) (by decide), nI_clamp (by omega), y1, y2, y3, y4, y5]
    by_cases hm : pkI (o k) (a k) (b k) (x k) = pkI o1 a1 b1 x1
    · have hf := hfi.mpr (hpi.mp hm)
      rw [if_pos (by rw [hm]), if_pos hf.1, if_pos hf.2.1, if_pos hf.2.2.1, if_pos hf.2.2.2]
      exact ⟨k, nv, F, vOp, vA, vB, vX, nd, o, a, b, x, rfl, rfl, ⟨h1, h2, h3, h4⟩, by omega, by omega, by omega⟩
    · rw [if_neg (fun q => hm ((nI_eq (by omega) (by omega)).mp q)), nI_1]
      have hrec := ih (k + 1) fu (by omega) (by omega) (fun i hi => by
        by_cases e : i = k
        · subst e; exact hm
        · exact e3 i (by omega))
      by_cases c1 : nI (o k) = nI o1
      · rw [if_pos c1]
        by_cases c2 : av (o k) (a k) = av o1 a1
        · rw [if_pos c2]
          by_cases c3 : bv (o k) (b k) = bv o1 b1
          · rw [if_pos c3]
            by_cases c4 : nI (x k) = nI x1
            · exact absurd (hpi.mpr (hfi.mp ⟨c1, c2, c3, c4⟩)) hm
            · rw [if_neg c4]; exact hrec
          · rw [if_neg c3]; exact hrec
        · rw [if_neg c2]; exact hrec
      · rw [if_neg c1]; exact hrec
theorem val_eq {o1 a1 b1 x1 : Nat} (h : VS P nv F vOp vA vB vX nd o a b x) (hnv : nv < 40) (hv : VI nv o1 a1 b1 x1) (hsc : o1 = 7 → 2 ≤ x1 ∧ x1 < P ∧ o a1 ≠ 2) :
    JR P nv (f_C_findOrAppend F (nI nv) (nI o1) (nI a1) (nI (if 3 ≤ o1 ∧ o1 ≤ 5 then b1 else x1))) (f_N_value (nI nv) vOp vA vB vX nd (nI o1) (av o1 a1) (bv o1 b1) (nI x1)) := by
  have h0 := val_loop h hnv hv hsc nv 0 zFU (by omega) (by unfold zFU; omega) (fun i hi => by omega)
  rw [f_C_findOrAppend, f_C_packed, ob_some, f_N_value, show (100 : Int32) = nI 100 from rfl, pk_mul, nI_add, pk_mul, nI_add, show (o1 * 100 + a1) * 100 + (if 3 ≤ o1 ∧ o1 ≤ 5 then b1 else x1) = pkI o1 a1 b1 x1 by unfold pkI; omega]
  exact h0
/-- the packaging of an answer -/
theorem JR.pack {c : Option (Int32 × (Nat → Int32) × Int32)} {m : JRt} (h : JR P nv c m) : JR P nv (c.bind fun r => some (r.1, r.2.1, r.2.2)) (m.bind fun r => some (r.1, r.2.1, r.2.2.1, r.2.2.2.1, r.2.2.2.2.1, r.2.2.2.2.2.1, r.2.2.2.2.2.2)) := by
  obtain ⟨j, nv', F, vOp, vA, vB, vX, nd, o, a, b, x, e1, e2, e3⟩ := h
  rw [e1, e2]
  exact ⟨j, nv', F, vOp, vA, vB, vX, nd, o, a, b, x, rfl, rfl, e3⟩
theorem JR.same {j : Nat} (h : VS P nv F vOp vA vB vX nd o a b x) (hj : j < nv) : JR P nv (some (nI j, F, nI nv)) (some (nI j, nI nv, vOp, vA, vB, vX, nd)) := ⟨j, nv, F, vOp, vA, vB, vX, nd, o, a, b, x, rfl, rfl, h, hj, by omega, by omega⟩
theorem nou_eq (h : VS P nv F vOp vA vB vX nd o a b x) (hnv : nv < 40) : JR P nv (f_O_nought F (nI nv)) (f_N_noughts (nI nv) vOp vA vB vX nd) :=
  (val_eq (o1 := 2) (a1 := 0) (b1 := 0) (x1 := 0) h hnv ⟨by omega, by omega, fun _ => ⟨rfl, rfl⟩, fun _ => rfl, by omega, by omega, by omega, by omega, by omega⟩ (by omega)).pack
theorem p_Fop {v : Nat} (h : VS P nv F vOp vA vB vX nd o a b x) (hnv : nv ≤ 40) (hv : v < nv) : f_C_operation F (nI v) = some (nI (o v)) := by
  obtain ⟨y1, -, -, -, -, y6⟩ := h.1 v hv
  obtain ⟨u1, u2, u3, u4⟩ := unpack y6 (by omega)
  rw [f_C_operation, gdN (by omega) (by decide), nI_clamp (by omega), y1, show (10000 : Int32) = nI 10000 from rfl, pk_div (by omega) (by decide) (by decide), u1]
theorem p_F1 {v : Nat} (h : VS P nv F vOp vA vB vX nd o a b x) (hnv : nv ≤ 40) (hv : v < nv) : f_C_first F (nI v) = some (nI (a v)) := by
  obtain ⟨y1, -, -, -, -, y6⟩ := h.1 v hv
  obtain ⟨u1, u2, u3, u4⟩ := unpack y6 (by omega)
  rw [f_C_first, gdN (by omega) (by decide), nI_clamp (by omega), y1, show (100 : Int32) = nI 100 from rfl, pk_div (by omega) (by decide) (by decide), zremN (by omega) (by decide) (by decide), u2]
theorem p_F2 {v : Nat} (h : VS P nv F vOp vA vB vX nd o a b x) (hnv : nv ≤ 40) (hv : v < nv) : f_C_second F (nI v) = some (nI (if 3 ≤ o v ∧ o v ≤ 5 then b v else x v)) := by
  obtain ⟨y1, -, -, -, -, y6⟩ := h.1 v hv
  obtain ⟨u1, u2, u3, u4⟩ := unpack y6 (by omega)
  rw [f_C_second, gdN (by omega) (by decide), nI_clamp (by omega), y1, show (100 : Int32) = nI 100 from rfl, zremN (by omega) (by decide) (by decide), u3]
theorem p_is {v c : Nat} (h : VS P nv F vOp vA vB vX nd o a b x) (hnv : nv ≤ 40) (hv : v < nv) (hc : c < 9) : f_O_is F (nI c) (nI v) = some (if o v = c then 1 else 0) := by
  have hb := (VI_b (h.1 v hv).2.2.2.2.2 (by omega)).1
  rw [f_O_is, p_Fop h hnv hv, ob_some]
  by_cases e : o v = c
  · rw [if_pos (by rw [e]), if_pos e]
  · rw [if_neg (fun q => e ((nI_eq (by omega) (by omega)).mp q)), if_neg e]
theorem vOp_is {v c : Nat} (h : VS P nv F vOp vA vB vX nd o a b x) (hnv : nv ≤ 40) (hv : v < nv) (hc : c < 9) : (vOp v = nI c) ↔ o v = c := by
  have hb := (VI_b (h.1 v hv).2.2.2.2.2 (by omega)).1
  rw [(h.1 v hv).2.1]
  exact nI_eq (by omega) (by omega)
end Val
