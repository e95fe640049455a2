/-! Words and faults. -/
def okW (v : Nat) : Bool := decide (v < 900) && (v / 100 == 7 || v / 100 == 8 || (v / 100 == 0 && decide (v % 100 < 4)) || (v / 100 != 0 && v % 100 == 0))
def ar (o : Nat) : Nat := if o ≤ 2 then 0 else if o ≤ 5 then 2 else 1
theorem isWord_dec : ∀ k : Fin 900, f_R_isWord (nI k) = some (if okW k then 1 else 0) ∧ f_N_isWord (nI k) = some (if okW k then 1 else 0) := by decide +kernel
theorem isWord_ok (x : Int32) : (f_R_isWord x = some 0 ∧ f_N_isWord x = some 0) ∨ ∃ v : Nat, v < 900 ∧ okW v = true ∧ x = nI v ∧ f_R_isWord x = some 1 ∧ f_N_isWord x = some 1 := by
  by_cases hx : x < 0
  · refine Or.inl ⟨?_, ?_⟩
    · rw [f_R_isWord, if_neg]
      exact fun h => by
        have h1 := Int32.lt_iff_toInt_lt.mp hx
        have h2 := Int32.le_iff_toInt_le.mp h
        omega
    · rw [f_N_isWord, nm, nm, f_N_in, if_pos hx, ob_some, if_pos rfl]
  · obtain ⟨k, hk, rfl⟩ := nI_of hx
    by_cases h9 : k < 900
    · obtain ⟨e1, e2⟩ := isWord_dec ⟨k, h9⟩
      dsimp only at e1 e2
      cases h : okW k with
      | true => rw [h] at e1 e2; exact Or.inr ⟨k, h9, h, rfl, e1, e2⟩
      | false => rw [h] at e1 e2; exact Or.inl ⟨e1, e2⟩
    · refine Or.inl ⟨?_, ?_⟩
      · have hd : nI k / (100 : Int32) = nI (k / 100) := pk_div (d := 100) hk (by decide) (by decide)
        have hne : ∀ c : Nat, c < 9 → ¬ nI (k / 100) = nI c := fun c hc h => by
          have := (nI_eq (by omega) (by omega)).mp h
          omega
        rw [f_R_isWord, if_pos (nI_pos' hk), nm, hd, if_neg (show ¬ nI (k / 100) = (0 : Int32) from hne 0 (by omega)), if_neg (show ¬ nI (k / 100) = (1 : Int32) from hne 1 (by omega)), if_neg (show ¬ nI (k / 100) = (2 : Int32) from hne 2 (by omega)), if_neg (show ¬ nI (k / 100) = (3 : Int32) from hne 3 (by omega)), if_neg (show ¬ nI (k / 100) = (4 : Int32) from hne 4 (by omega)), if_neg (show ¬ nI (k / 100) = (5 : Int32) from hne 5 (by omega)), if_neg (show ¬ nI (k / 100) = (6 : Int32) from hne 6 (by omega)), if_neg (show ¬ nI (k / 100) = (7 : Int32) from hne 7 (by omega)), if_neg (show ¬ nI (k / 100) = (8 : Int32) from hne 8 (by omega))]
      · rw [f_N_isWord, nm, nm, f_N_in, if_neg hx, if_pos, ob_some, if_pos rfl]
        exact nI_lt (a := 899) (by omega) hk
theorem opnd_ok : ∀ o : Fin 9, f_X_operandsOf (nI o) = some (nI (ar o)) := by decide +kernel
theorem isTwo_ok : ∀ o : Fin 9, f_N_isTwo (nI o) = some (if ar o = 2 then 1 else 0) := by decide +kernel
theorem isOne_ok : ∀ o : Fin 9, f_N_isOne (nI o) = some (if ar o = 1 then 1 else 0) := by decide +kernel
theorem opnd {o : Nat} (h : o < 9) : f_X_operandsOf (nI o) = some (nI (ar o)) := opnd_ok ⟨o, h⟩
theorem isTwo {o : Nat} (h : o < 9) : f_N_isTwo (nI o) = some (if ar o = 2 then 1 else 0) := isTwo_ok ⟨o, h⟩
theorem isOne {o : Nat} (h : o < 9) : f_N_isOne (nI o) = some (if ar o = 1 then 1 else 0) := isOne_ok ⟨o, h⟩
theorem ar_le (o : Nat) : ar o = 0 ∨ ar o = 1 ∨ ar o = 2 := by
  unfold ar; split
  · exact Or.inl rfl
  · split
    · exact Or.inr (Or.inr rfl)
    · exact Or.inr (Or.inl rfl)
/-- m words from word k on, with th matrices there: no fault -/
def okS (W : Nat → Int32) : Nat → Nat → Nat → Prop
  | 0, _, th => th = 1
  | m + 1, k, th => ∃ v : Nat, W k = nI v ∧ v < 900 ∧ okW v = true ∧ ar (v / 100) ≤ th ∧ okS W m (k + 1) (th - ar (v / 100) + 1)
theorem w_div {v : Nat} (h : v < 900) : nI v / (100 : Int32) = nI (v / 100) := pk_div (d := 100) (by omega) (by decide) (by decide)
theorem w_rem {v : Nat} (h : v < 900) : zrem (nI v) (100 : Int32) = nI (v % 100) := zremN (d := 100) (by omega) (by decide) (by decide)
theorem p_Rop {W : Nat → Int32} {k v : Nat} (hk : k < 24) (hv : v < 900) (hW : W k = nI v) : f_R_operation W (nI k) = some (nI (v / 100)) := by
  rw [f_R_operation, gdN hk (by decide), nI_clamp (by omega), hW, w_div hv]
theorem p_Rnum {W : Nat → Int32} {k v : Nat} (hk : k < 24) (hv : v < 900) (hW : W k = nI v) : f_R_number W (nI k) = some (nI (v % 100)) := by
  rw [f_R_number, gdN hk (by decide), nI_clamp (by omega), hW, w_rem hv]
theorem th_step {th a : Nat} (h : a ≤ th) (ha : a = 0 ∨ a = 1 ∨ a = 2) : nI th + ((1 : Int32) - nI a) = nI (th - a + 1) := by
  rcases ha with rfl | rfl | rfl
  · rw [show (1 : Int32) - nI 0 = 1 by decide, nI_1]; rfl
  · rw [show (1 : Int32) - nI 1 = 0 by decide, Int32.add_zero, show th - 1 + 1 = th by omega]
  · rw [show (1 : Int32) - nI 2 = -1 by decide]
    obtain ⟨z, rfl⟩ : ∃ z, th = z + 1 := ⟨th - 1, by omega⟩
    rw [pk_m1, show z + 1 - 2 + 1 = z by omega]
theorem fault_eq {W : Nat → Int32} {w : Nat} (hw : w ≤ 24) : ∀ (m k th fu : Nat), k + m = w → th ≤ k → m < fu →
    ∃ r : Nat, r ≤ 5 ∧ f_R_fault_4 W (nI w) fu (nI th) (nI k) = some (nI r) ∧ f_N_fault_4 (nI w) W fu (nI th) (nI k) = some (nI r) ∧ (r = 0 → okS W m k th) := by
  intro m
  induction m with
  | zero =>
    intro k th fu h1 h2 h3
    obtain ⟨fu, rfl⟩ : ∃ z, fu = z + 1 := ⟨fu - 1, by omega⟩
    obtain rfl : k = w := by omega
    rw [f_R_fault_4, f_N_fault_4, if_pos (nI_le (Nat.le_refl _) (by omega)), if_pos (nI_le (Nat.le_refl _) (by omega))]
    by_cases h : th = 1
    · subst h
      exact ⟨0, by omega, by rw [if_pos (by decide)]; rfl, by rw [if_pos (by decide)]; rfl, fun _ => rfl⟩
    · have hn : ¬ nI th = (1 : Int32) := fun q => h ((nI_eq (by omega) (by decide)).mp q)
      exact ⟨5, by omega, by rw [if_neg hn]; rfl, by rw [if_neg hn]; rfl, fun q => by omega⟩
  | succ m ih =>
    intro k th fu h1 h2 h3
    obtain ⟨fu, rfl⟩ : ∃ z, fu = z + 1 := ⟨fu - 1, by omega⟩
    have hk : k < 24 := by omega
    rw [f_R_fault_4, f_N_fault_4, if_neg (nI_ge (by omega) (by omega)), if_neg (nI_ge (by omega) (by omega)), gdN hk (by decide), gdN hk (by decide), nI_clamp (by omega)]
    rcases isWord_ok (W k) with ⟨e1, e2⟩ | ⟨v, hv, hok, hW, e1, e2⟩
    · rw [e1, e2, ob_some, ob_some, if_pos rfl, if_pos rfl]
      exact ⟨3, by omega, rfl, rfl, fun q => by omega⟩
    · have ho : v / 100 < 9 := by omega
      have a0 := ar_le (v / 100)
      have hc : (nI (ar (v / 100)) ≤ nI th) ↔ ar (v / 100) ≤ th := nI_leI (by omega) (by omega)
      rw [e1, e2, ob_some, ob_some, if_neg (by decide), if_neg (by decide), p_Rop hk hv hW, ob_some, opnd ho, ob_some, gdN hk (by decide)]
      simp only [nm]
      rw [hW, w_div hv, isTwo ho, ob_some, isOne ho]
      have hm : ∀ (a : Nat), a = ar (v / 100) → f_N_fault_59 (f_N_fault_4 (nI w) W fu) (nI th) (nI k) (nI a) = if nI (ar (v / 100)) ≤ nI th then f_N_fault_4 (nI w) W fu (nI (th - ar (v / 100) + 1)) (nI (k + 1)) else some 4 := by
        intro a ha
        subst ha
        rw [f_N_fault_59]
        by_cases h : ar (v / 100) ≤ th
        · rw [if_pos (hc.mpr h), if_pos (hc.mpr h), nm, pk_sub h, nI_1, nI_1]
        · rw [if_neg (fun q => h (hc.mp q)), if_neg (fun q => h (hc.mp q))]
      have hM : (if (if ar (v / 100) = 2 then (1 : Int32) else 0) = 0 then (some (if ar (v / 100) = 1 then (1 : Int32) else 0)).bind fun r5 => if r5 = 0 then f_N_fault_59 (f_N_fault_4 (nI w) W fu) (nI th) (nI k) (0 : Int32) else f_N_fault_59 (f_N_fault_4 (nI w) W fu) (nI th) (nI k) (1 : Int32) else f_N_fault_59 (f_N_fault_4 (nI w) W fu) (nI th) (nI k) (2 : Int32)) = if nI (ar (v / 100)) ≤ nI th then f_N_fault_4 (nI w) W fu (nI (th - ar (v / 100) + 1)) (nI (k + 1)) else some 4 := by
        rcases a0 with h | h | h
        · rw [← hm 0 h.symm, h]; rfl
        · rw [← hm 1 h.symm, h]; rfl
        · rw [← hm 2 h.symm, h]; rfl
      rw [hM]
      by_cases h : ar (v / 100) ≤ th
      · rw [if_pos (hc.mpr h), if_pos (hc.mpr h), th_step h a0, nI_1]
        obtain ⟨r, r1, r2, r3, r4⟩ := ih (k + 1) (th - ar (v / 100) + 1) fu (by omega) (by omega) (by omega)
        exact ⟨r, r1, r2, r3, fun q => ⟨v, hW, hv, hok, h, r4 q⟩⟩
      · rw [if_neg (fun q => h (hc.mp q)), if_neg (fun q => h (hc.mp q))]
        exact ⟨4, by omega, rfl, rfl, fun q => by omega⟩
theorem fault_ok {W : Nat → Int32} {w : Nat} (hw : w ≤ 24) : ∃ r : Nat, r ≤ 5 ∧ f_R_fault W (nI w) = some (nI r) ∧ f_N_fault (nI w) W = some (nI r) ∧ (r = 0 → okS W w 0 0) := by
  obtain ⟨r, r1, r2, r3, r4⟩ := fault_eq (W := W) hw w 0 0 zFU (by omega) (Nat.zero_le _) (by unfold zFU; omega)
  exact ⟨r, r1, r2, r3, r4⟩
/-- how many instructions an exponent makes -/
def pst (e : Nat) : Nat := if e = 0 then 1 else Nat.log2 e + (e % 2 + e / 2 % 2 + e / 4 % 2 + e / 8 % 2 + e / 16 % 2 + e / 32 % 2 + e / 64 % 2) - 1
def stp (v : Nat) : Nat := if v / 100 = 8 then pst (v % 100) else 1
theorem pst_le : ∀ e : Fin 100, pst e ≤ 13 := by decide +kernel
theorem rpow_ok : ∀ e : Fin 100, f_R_powerInstructions (nI e) = some (nI (pst e)) := by decide +kernel
theorem nstep_ok : ∀ v : Fin 900, okW v = true → f_N_steps (nI v) = some (nI (stp v)) := by decide +kernel
theorem stp_le {v : Nat} : stp v ≤ 13 := by
  unfold stp
  split
  · exact pst_le ⟨v % 100, Nat.mod_lt _ (by decide)⟩
  · omega
/-- the instructions of m words from word k on -/
def totS (W : Nat → Int32) : Nat → Nat → Nat
  | 0, _ => 0
  | m + 1, k => stp (W k).toNatClampNeg + totS W m (k + 1)
