/-! The class's matrices: put, one, turn, apply. -/
theorem p_put {sz n r i j nc P : Nat} {g : Nat → Nat} {v : Int32} (hP : 0 < P) (hP2 : P ≤ 100) (h : r * sz + i * n + j < nc) (hnc : nc < 2 ^ 31) : f_M_put nc (nI P) (nI n) (nI sz) (zN g) (nI r) (nI i) (nI j) v = some (zN (updN g (r * sz + i * n + j) (fm v P))) := by
  rw [f_M_put, p_floorMod hP hP2, ob_some]
  simp only [pk_mul, nI_add]
  rw [gdN h hnc, nI_clamp (by omega), upd_zN]
/-- ones on the diagonal up to row m, noughts else -/
def oneC (n m : Nat) : Nat → Nat := fun c => if c / n = c % n ∧ c / n < m then 1 else 0
theorem oneC_step {n m sz r : Nat} {g : Nat → Nat} (hsz : sz = n * n) (hm : m < n) : updN (setR sz g r (oneC n m)) (r * sz + m * n + m) 1 = setR sz g r (oneC n (m + 1)) := by
  have hc := cell_lt hm hm
  funext k
  unfold updN setR
  by_cases hk : k = r * sz + m * n + m
  · subst hk
    rw [if_pos rfl, if_pos (by omega), show r * sz + m * n + m - r * sz = m * n + m by omega]
    unfold oneC
    rw [div_cell hm, mod_cell hm, if_pos ⟨rfl, by omega⟩]
  · rw [if_neg hk]
    by_cases h2 : r * sz ≤ k ∧ k < r * sz + sz
    · rw [if_pos h2, if_pos h2]
      unfold oneC
      by_cases h3 : (k - r * sz) / n = (k - r * sz) % n ∧ (k - r * sz) / n < m
      · rw [if_pos h3, if_pos ⟨h3.1, by omega⟩]
      · rw [if_neg h3, if_neg]
        rintro ⟨e1, e2⟩
        have e3 : (k - r * sz) / n = m := by
          by_cases h4 : (k - r * sz) / n < m
          · exact absurd ⟨e1, h4⟩ h3
          · omega
        have e4 := Nat.div_add_mod (k - r * sz) n
        rw [← e1, e3, Nat.mul_comm] at e4
        omega
    · rw [if_neg h2, if_neg h2]
theorem p_makeOne_7 {sz n r nc P : Nat} {g : Nat → Nat} (hn : n ≤ 4) (hsz : sz = n * n) (hP : 1 < P) (hP2 : P ≤ 97) (hr : r * sz + sz ≤ nc) (hnc : nc < 2 ^ 31) : ∀ (fu m : Nat), m ≤ n → n - m < fu →
    f_M_makeOne_7 nc (nI P) (nI n) (nI sz) (nI r) fu (nI m) (zN (setR sz g r (oneC n m))) = some (zN (setR sz g r (oneC n n))) := by
  intro fu
  induction fu with
  | zero => intro m h1 h2; omega
  | succ fu ih =>
    intro m h1 h2
    rw [f_M_makeOne_7]
    by_cases h : m = n
    · subst h
      rw [if_pos (nI_le (Nat.le_refl _) (by omega))]
    · have hc := cell_lt (show m < n by omega) (show m < n by omega)
      rw [if_neg (nI_ge (by omega) (by omega)), p_put (by omega) (by omega) (by omega) hnc, ob_some, nI_1, show (1 : Int32) = nI 1 from rfl, fm_nI (by omega), Nat.mod_eq_of_lt hP, oneC_step hsz (by omega)]
      exact ih (m + 1) (by omega) (by omega)
theorem p_makeOne {sz n r nc P : Nat} {g : Nat → Nat} (hn : n ≤ 4) (hsz : sz = n * n) (hP : 1 < P) (hP2 : P ≤ 97) (hr : r * sz + sz ≤ nc) (hnc : nc < 2 ^ 31) : f_M_makeOne nc (nI P) (nI n) (nI sz) (zN g) (nI r) = some (zN (setR sz g r (oneC n n))) := by
  have hs : n * n ≤ 4 * 4 := Nat.mul_le_mul hn hn
  rw [f_M_makeOne, p_makeNought hr hnc (by omega), ob_some]
  have h := p_makeOne_7 (g := g) hn hsz hP hP2 hr hnc zFU 0 (Nat.zero_le _) (by unfold zFU; omega)
  have e : oneC n 0 = fun _ => 0 := by funext c; unfold oneC; rw [if_neg (by omega)]
  rw [e] at h
  exact h
def turnC (n sz : Nat) (g : Nat → Nat) (a : Nat) : Nat → Nat := fun c => g (a * sz + c % n * n + c / n)
section Turn
variable {n sz a r nc nf : Nat} {g : Nat → Nat}
theorem p_turn_13 (hn : n ≤ 4) (hsz : sz = n * n) (ha : a * sz + sz ≤ nc) (hnc : nc < 2 ^ 31) (hf : sz ≤ nf) (hnf : nf < 2 ^ 31)
    {i : Nat} (hi : i < n) (k2 : Int32 → (Nat → Int32) → Option ((Nat → Int32) × (Nat → Int32))) (h : Nat → Nat) : ∀ (fu j : Nat), j ≤ n → n - j < fu →
    f_M_turn_13 nc nf (nI n) (nI sz) (nI a) k2 (nI i) (zN g) fu (nI j) (zN (fill0 h (turnC n sz g a) (i * n + j))) = k2 (nI (i + 1)) (zN (fill0 h (turnC n sz g a) (i * n + n))) := by
  intro fu
  induction fu with
  | zero => intro j h1 h2; omega
  | succ fu ih =>
    intro j h1 h2
    rw [f_M_turn_13]
    by_cases hj : j = n
    · subst hj
      rw [if_pos (nI_le (Nat.le_refl _) (by omega)), nI_1]
    · have hj2 : j < n := by omega
      have e1 := cell_lt hj2 hi
      have e2 := cell_lt hi hj2
      have e : g (a * sz + j * n + i) = turnC n sz g a (i * n + j) := by unfold turnC; rw [div_cell hj2, mod_cell hj2]
      rw [if_neg (nI_ge (by omega) (by omega)), p_get (by omega) hnc, ob_some, pk_mul, nI_add, gdN (by omega) hnf, nI_clamp (by omega), upd_zN, nI_1, e, fill0_step]
      exact ih (j + 1) (by omega) (by omega)
theorem p_turn_2 (hn : n ≤ 4) (hsz : sz = n * n) (hr : r * sz + sz ≤ nc) (ha : a * sz + sz ≤ nc) (hnc : nc < 2 ^ 31) (hf : sz ≤ nf) (hnf : nf < 2 ^ 31)
    (h : Nat → Nat) : ∀ (fu i : Nat), i ≤ n → n - i < fu →
    f_M_turn_2 nc nf (nI n) (nI sz) (nI r) (nI a) (zN g) fu (nI i) (zN (fill0 h (turnC n sz g a) (i * n))) = some (zN (setR sz g r (turnC n sz g a)), zN (fill0 h (turnC n sz g a) sz)) := by
  intro fu
  induction fu with
  | zero => intro i h1 h2; omega
  | succ fu ih =>
    intro i h1 h2
    rw [f_M_turn_2]
    by_cases hi : i = n
    · subst hi
      rw [if_pos (nI_le (Nat.le_refl _) (by omega)), p_keepFresh hr hnc hf hnf, ob_some, ← hsz]
      congr 3
      funext k
      unfold setR fill0
      by_cases hk : r * sz ≤ k ∧ k < r * sz + sz
      · rw [if_pos hk, if_pos (by omega), if_pos hk]
      · rw [if_neg hk, if_neg hk]
    · rw [if_neg (nI_ge (by omega) (by omega))]
      refine (p_turn_13 hn hsz ha hnc hf hnf (i := i) (by omega) _ h zFU 0 (Nat.zero_le _) (by unfold zFU; omega)).trans ?_
      rw [show i * n + n = (i + 1) * n by rw [Nat.add_mul, Nat.one_mul]]
      exact ih (i + 1) (by omega) (by omega)
theorem p_turn (hn : n ≤ 4) (hsz : sz = n * n) (hr : r * sz + sz ≤ nc) (ha : a * sz + sz ≤ nc) (hnc : nc < 2 ^ 31) (hf : sz ≤ nf) (hnf : nf < 2 ^ 31) (h : Nat → Nat) :
    f_M_turn nc nf (nI n) (nI sz) (zN g) (zN h) (nI r) (nI a) = some (zN (setR sz g r (turnC n sz g a)), zN (fill0 h (turnC n sz g a) sz)) := by
  rw [f_M_turn]
  have q := p_turn_2 (n := n) (g := g) hn hsz hr ha hnc hf hnf h zFU 0 (Nat.zero_le _) (by unfold zFU; omega)
  rw [Nat.zero_mul, fill0_0] at q
  exact q
end Turn
/-- a square matrix, its cell (i, j) for i, j < n -/
abbrev Mt : Type := Nat → Nat → Nat
/-- the matrix in region r of the class's cells -/
def cM (n : Nat) (g : Nat → Nat) (r : Nat) : Mt := fun i j => g (r * (n * n) + i * n + j)
def eqM (n : Nat) (A B : Mt) : Prop := ∀ i j, i < n → j < n → A i j = B i j
def ltM (n P : Nat) (A : Mt) : Prop := ∀ i j, i < n → j < n → A i j < P
def oneM : Mt := fun i j => if i = j then 1 else 0
def nouM : Mt := fun _ _ => 0
def addM (P : Nat) (A B : Mt) : Mt := fun i j => (A i j + B i j) % P
def subM (P : Nat) (A B : Mt) : Mt := fun i j => (A i j + (P - 1) * B i j) % P
def mulM (n P : Nat) (A B : Mt) : Mt := fun i j => sumN (fun t => A i t * B t j) n % P
def turM (A : Mt) : Mt := fun i j => A j i
def scaM (P x : Nat) (A : Mt) : Mt := fun i j => A i j * x % P
/-- what an instruction makes; I: inputs, L, R: its operands, x: its number -/
def opM (n P o x : Nat) (I L R : Mt) : Mt :=
  if o = 0 then I else if o = 1 then oneM else if o = 2 then nouM else if o = 3 then addM P L R else if o = 4 then subM P L R else if o = 5 then mulM n P L R else if o = 6 then turM L else scaM P x L
theorem opM_congr {n P o x : Nat} {I I' L L' R R' : Mt} (hI : o = 0 → eqM n I I') (hL : 3 ≤ o → eqM n L L') (hR : 3 ≤ o → o ≤ 5 → eqM n R R') : eqM n (opM n P o x I L R) (opM n P o x I' L' R') := by
  intro i j hi hj
  unfold opM
  by_cases h0 : o = 0
  · rw [if_pos h0, if_pos h0]; exact hI h0 i j hi hj
  rw [if_neg h0, if_neg h0]
  by_cases h1 : o = 1
  · rw [if_pos h1, if_pos h1]
  rw [if_neg h1, if_neg h1]
  by_cases h2 : o = 2
  · rw [if_pos h2, if_pos h2]
  rw [if_neg h2, if_neg h2]
  have hL := hL (by omega)
  by_cases h3 : o = 3
  · rw [if_pos h3, if_pos h3]; unfold addM; rw [hL i j hi hj, hR (by omega) (by omega) i j hi hj]
  rw [if_neg h3, if_neg h3]
  by_cases h4 : o = 4
  · rw [if_pos h4, if_pos h4]; unfold subM; rw [hL i j hi hj, hR (by omega) (by omega) i j hi hj]
  rw [if_neg h4, if_neg h4]
  by_cases h5 : o = 5
  · rw [if_pos h5, if_pos h5]; unfold mulM
    rw [sumN_congr (fun t ht => by rw [hL i t hi ht, hR (by omega) (by omega) t j ht hj])]
  rw [if_neg h5, if_neg h5]
  by_cases h6 : o = 6
  · rw [if_pos h6, if_pos h6]; exact hL j i hj hi
  rw [if_neg h6, if_neg h6]
  unfold scaM
  rw [hL i j hi hj]
theorem opM_lt {n P o x : Nat} {I L R : Mt} (hP : 1 < P) (hI : o = 0 → ltM n P I) (hL : o = 6 → ltM n P L) : ltM n P (opM n P o x I L R) := by
  intro i j hi hj
  unfold opM
  by_cases h0 : o = 0
  · rw [if_pos h0]; exact hI h0 i j hi hj
  rw [if_neg h0]
  by_cases h1 : o = 1
  · rw [if_pos h1]; unfold oneM; split <;> omega
  rw [if_neg h1]
  by_cases h2 : o = 2
  · rw [if_pos h2]; unfold nouM; omega
  rw [if_neg h2]
  by_cases h3 : o = 3
  · rw [if_pos h3]; exact Nat.mod_lt _ (by omega)
  rw [if_neg h3]
  by_cases h4 : o = 4
  · rw [if_pos h4]; exact Nat.mod_lt _ (by omega)
  rw [if_neg h4]
  by_cases h5 : o = 5
  · rw [if_pos h5]; exact Nat.mod_lt _ (by omega)
  rw [if_neg h5]
  by_cases h6 : o = 6
  · rw [if_pos h6]; exact hL h6 j i hj hi
  rw [if_neg h6]
  exact Nat.mod_lt _ (by omega)
theorem cM_set {n r r' : Nat} {g h : Nat → Nat} : eqM n (cM n (setR (n * n) g r h) r') (if r' = r then (fun i j => h (i * n + j)) else cM n g r') := by
  intro i j hi hj
  have hc := cell_lt hi hj
  unfold cM
  by_cases e : r' = r
  · subst e
    rw [if_pos rfl, Nat.add_assoc, setR_same hc]
  · rw [if_neg e, Nat.add_assoc, setR_other hc e]
theorem cell_of {n c : Nat} (hc : c < n * n) : c / n < n ∧ c % n < n ∧ c / n * n + c % n = c := by
  have hn : 0 < n := by
    rcases Nat.eq_zero_or_pos n with h | h
    · subst h; omega
    · exact h
  refine ⟨Nat.div_lt_of_lt_mul hc, Nat.mod_lt _ hn, ?_⟩
  rw [Nat.mul_comm]
  exact Nat.div_add_mod c n
theorem ltM_reg {n P r : Nat} {g : Nat → Nat} (h : ltM n P (cM n g r)) : ∀ c, c < n * n → g (r * (n * n) + c) < P := by
  intro c hc
  obtain ⟨h1, h2, h3⟩ := cell_of hc
  have h4 := h _ _ h1 h2
  unfold cM at h4
  rw [Nat.add_assoc, h3] at h4
  exact h4
