/-! apply of the class; get, put, copy, operate of the reference. -/
theorem p_apply {n P o r a b : Nat} {g h : Nat → Nat} (hn : n ≤ 4) (hP : 1 < P) (hP2 : P ≤ 97) (ho : o ≤ 7) (hr : r < 70) (h0 : o = 0 → b < 4) (h7 : o = 7 → b < 100) (hL : 3 ≤ o → a < 70 ∧ ltM n P (cM n g a)) (hR : 3 ≤ o → o ≤ 5 → b < 70 ∧ ltM n P (cM n g b)) :
    ∃ g' h' : Nat → Nat, f_M_apply (70 * (n * n)) (n * n) (nI P) (nI n) (nI (n * n)) (zN g) (zN h) (nI o) (nI r) (nI a) (nI b) = some (zN g', zN h') ∧ (∀ r', r' ≠ r → eqM n (cM n g' r') (cM n g r')) ∧ eqM n (cM n g' r) (opM n P o b (cM n g (40 + b)) (cM n g a) (cM n g b)) := by
  have hs : n * n ≤ 4 * 4 := Nat.mul_le_mul hn hn
  have hnc : 70 * (n * n) < 2 ^ 31 := by omega
  have hrr := reg_le (sz := n * n) hr
  have key : ∀ C : Nat → Nat, (∀ i j, i < n → j < n → C (i * n + j) = opM n P o b (cM n g (40 + b)) (cM n g a) (cM n g b) i j) →
      (∀ r', r' ≠ r → eqM n (cM n (setR (n * n) g r C) r') (cM n g r')) ∧ eqM n (cM n (setR (n * n) g r C) r) (opM n P o b (cM n g (40 + b)) (cM n g a) (cM n g b)) := by
    intro C hC
    refine ⟨fun r' hr' i j hi hj => ?_, fun i j hi hj => ?_⟩
    · rw [cM_set i j hi hj, if_neg hr']
    · rw [cM_set i j hi hj, if_pos rfl]
      exact hC i j hi hj
  rcases (show o = 0 ∨ o = 1 ∨ o = 2 ∨ o = 3 ∨ o = 4 ∨ o = 5 ∨ o = 6 ∨ o = 7 by omega) with rfl | rfl | rfl | rfl | rfl | rfl | rfl | rfl
  · have hb := h0 rfl
    refine ⟨setR (n * n) g r (fun c => g ((40 + b) * (n * n) + c)), h, ?_, key (fun c => g ((40 + b) * (n * n) + c)) ?_⟩
    · rw [f_M_apply, if_pos (by decide), show (40 : Int32) = nI 40 from rfl, nI_add, p_copy hrr (reg_le (by omega)) hnc, ob_some]
    · intro i j hi hj
      unfold opM cM
      rw [if_pos rfl, Nat.add_assoc]
  · refine ⟨setR (n * n) g r (oneC n n), h, ?_, key (oneC n n) ?_⟩
    · rw [f_M_apply, if_neg (by decide), if_pos (by decide), p_makeOne hn rfl hP hP2 hrr hnc, ob_some]
    · intro i j hi hj
      show oneC n n (i * n + j) = oneM i j
      unfold oneM oneC
      rw [div_cell hj, mod_cell hj]
      by_cases e : i = j
      · rw [if_pos ⟨e, hi⟩, if_pos e]
      · rw [if_neg (fun q => e q.1), if_neg e]
  · refine ⟨setR (n * n) g r (fun _ => 0), h, ?_, key (fun _ => 0) ?_⟩
    · rw [f_M_apply, if_neg (by decide), if_neg (by decide), if_pos (by decide), p_makeNought hrr hnc (by omega), ob_some]
    · intro i j hi hj
      rfl
  · obtain ⟨ha, hga⟩ := hL (by omega)
    obtain ⟨hb, hgb⟩ := hR (by omega) (by omega)
    refine ⟨setR (n * n) g r (fun c => (g (a * (n * n) + c) + 1 * g (b * (n * n) + c)) % P), h, ?_, key (fun c => (g (a * (n * n) + c) + 1 * g (b * (n * n) + c)) % P) ?_⟩
    · rw [f_M_apply, if_neg (by decide), if_neg (by decide), if_neg (by decide), if_pos (by decide), show (1 : Int32) = nI 1 from rfl, p_combine hrr (reg_le ha) (reg_le hb) hnc (by omega) (by omega) hP2 (by omega) (ltM_reg hga) (ltM_reg hgb), ob_some]
    · intro i j hi hj
      show (g (a * (n * n) + (i * n + j)) + 1 * g (b * (n * n) + (i * n + j))) % P = (g (a * (n * n) + i * n + j) + g (b * (n * n) + i * n + j)) % P
      rw [Nat.one_mul, Nat.add_assoc, Nat.add_assoc]
  · obtain ⟨ha, hga⟩ := hL (by omega)
    obtain ⟨hb, hgb⟩ := hR (by omega) (by omega)
    refine ⟨setR (n * n) g r (fun c => (g (a * (n * n) + c) + (P - 1) * g (b * (n * n) + c)) % P), h, ?_, key (fun c => (g (a * (n * n) + c) + (P - 1) * g (b * (n * n) + c)) % P) ?_⟩
    · rw [f_M_apply, if_neg (by decide), if_neg (by decide), if_neg (by decide), if_neg (by decide), if_pos (by decide), show (1 : Int32) = nI 1 from rfl, pk_sub (by omega), p_combine hrr (reg_le ha) (reg_le hb) hnc (by omega) (by omega) hP2 (by omega) (ltM_reg hga) (ltM_reg hgb), ob_some]
    · intro i j hi hj
      show (g (a * (n * n) + (i * n + j)) + (P - 1) * g (b * (n * n) + (i * n + j))) % P = (g (a * (n * n) + i * n + j) + (P - 1) * g (b * (n * n) + i * n + j)) % P
      rw [Nat.add_assoc, Nat.add_assoc]
  · obtain ⟨ha, hga⟩ := hL (by omega)
    obtain ⟨hb, hgb⟩ := hR (by omega) (by omega)
    refine ⟨setR (n * n) g r (mulC n P (n * n) g a b), fill0 h (mulC n P (n * n) g a b) (n * n), ?_, key (mulC n P (n * n) g a b) ?_⟩
    · rw [f_M_apply, if_neg (by decide), if_neg (by decide), if_neg (by decide), if_neg (by decide), if_neg (by decide), if_pos (by decide), p_multiply hn rfl (by omega) hP2 hrr (reg_le ha) (reg_le hb) hnc (Nat.le_refl _) (by omega) (ltM_reg hga) (ltM_reg hgb), ob_some]
    · intro i j hi hj
      unfold mulC
      rw [div_cell hj, mod_cell hj]
      rfl
  · obtain ⟨ha, hga⟩ := hL (by omega)
    refine ⟨setR (n * n) g r (turnC n (n * n) g a), fill0 h (turnC n (n * n) g a) (n * n), ?_, key (turnC n (n * n) g a) ?_⟩
    · rw [f_M_apply, if_neg (by decide), if_neg (by decide), if_neg (by decide), if_neg (by decide), if_neg (by decide), if_neg (by decide), if_pos (by decide), p_turn hn rfl hrr (reg_le ha) hnc (Nat.le_refl _) (by omega), ob_some]
    · intro i j hi hj
      unfold turnC
      rw [div_cell hj, mod_cell hj]
      rfl
  · obtain ⟨ha, hga⟩ := hL (by omega)
    refine ⟨setR (n * n) g r (fun c => g (a * (n * n) + c) * b % P), h, ?_, key (fun c => g (a * (n * n) + c) * b % P) ?_⟩
    · rw [f_M_apply, if_neg (by decide), if_neg (by decide), if_neg (by decide), if_neg (by decide), if_neg (by decide), if_neg (by decide), if_neg (by decide), p_scale hrr (reg_le ha) hnc (by omega) (by omega) hP2 (h7 rfl) (ltM_reg hga), ob_some]
    · intro i j hi hj
      show g (a * (n * n) + (i * n + j)) * b % P = g (a * (n * n) + i * n + j) * b % P
      rw [Nat.add_assoc]
/-- the matrix in region r of the reference's table -/
def nM (t : Nat → Nat) (r : Nat) : Mt := fun i j => t (16 * r + 4 * i + j)
theorem p_nget {r i j : Nat} {t : Nat → Nat} (h : 16 * r + 4 * i + j < 1136) : f_N_get (zN t) (nI r) (nI i) (nI j) = some (nI (t (16 * r + 4 * i + j))) := by
  unfold f_N_get
  simp only [show (16 : Int32) = nI 16 from rfl, show (4 : Int32) = nI 4 from rfl, pk_mul, nI_add]
  rw [gdN h (by decide), nI_clamp (by omega), zN_at]
theorem p_nput {r i j v : Nat} {t : Nat → Nat} (h : 16 * r + 4 * i + j < 1136) : f_N_put (zN t) (nI r) (nI i) (nI j) (nI v) = some (zN (updN t (16 * r + 4 * i + j) v)) := by
  unfold f_N_put
  simp only [show (16 : Int32) = nI 16 from rfl, show (4 : Int32) = nI 4 from rfl, pk_mul, nI_add]
  rw [gdN h (by decide), nI_clamp (by omega), upd_zN]
theorem p_ncopy_2 {a b : Nat} {t : Nat → Nat} (ha : a < 71) (hb : b < 71) : ∀ (fu c : Nat), c ≤ 16 → 16 - c < fu →
    f_N_copy_2 (nI a) (nI b) fu (nI c) (zN (fillR 16 t b (fun c => t (a * 16 + c)) c)) = some (zN (setR 16 t b (fun c => t (a * 16 + c)))) := by
  intro fu
  induction fu with
  | zero => intro c h1 h2; omega
  | succ fu ih =>
    intro c h1 h2
    rw [f_N_copy_2, show (16 : Int32) = nI 16 from rfl]
    by_cases h : c = 16
    · subst h
      rw [if_pos (nI_le (Nat.le_refl _) (by omega)), fillR_all]
    · rw [if_neg (nI_ge (by omega) (by omega)), pk_mul, pk_mul, nI_add, nI_add, Nat.mul_comm 16 a, Nat.mul_comm 16 b, gdN (by omega) (by decide), gdN (by omega) (by decide), nI_clamp (by omega), nI_clamp (by omega), zN_at, fillR_late (Nat.le_refl _) (by omega), upd_zN, nI_1, fillR_step (h := fun c => t (a * 16 + c))]
      exact ih _ (by omega) (by omega)
theorem p_ncopy {a b : Nat} {t : Nat → Nat} (ha : a < 71) (hb : b < 71) : f_N_copy (zN t) (nI a) (nI b) = some (zN (setR 16 t b (fun c => t (a * 16 + c)))) := by
  rw [f_N_copy]
  have h := p_ncopy_2 (t := t) ha hb zFU 0 (Nat.zero_le _) (by unfold zFU; omega)
  rw [fillR_0] at h
  exact h
/-- the reference's work region, filled up to row i, column j -/
def wkT (t : Nat → Nat) (val : Mt) (n i j : Nat) : Nat → Nat := fun k => if 464 ≤ k ∧ k < 480 ∧ (k - 464) % 4 < n ∧ ((k - 464) / 4 < i ∨ ((k - 464) / 4 = i ∧ (k - 464) % 4 < j)) then val ((k - 464) / 4) ((k - 464) % 4) else t k
theorem wkT_0 {t : Nat → Nat} {val : Mt} {n : Nat} : wkT t val n 0 0 = t := by
  funext k; unfold wkT; rw [if_neg (by omega)]
theorem wkT_row {t : Nat → Nat} {val : Mt} {n i : Nat} : wkT t val n i n = wkT t val n (i + 1) 0 := by
  funext k
  unfold wkT
  by_cases h : 464 ≤ k ∧ k < 480 ∧ (k - 464) % 4 < n ∧ ((k - 464) / 4 < i ∨ ((k - 464) / 4 = i ∧ (k - 464) % 4 < n))
  · rw [if_pos h, if_pos (by omega)]
  · rw [if_neg h, if_neg (by omega)]
theorem wkT_step {t : Nat → Nat} {val : Mt} {n i j : Nat} (hn : n ≤ 4) (hi : i < n) (hj : j < n) : updN (wkT t val n i j) (16 * 29 + 4 * i + j) (val i j) = wkT t val n i (j + 1) := by
  funext k
  unfold updN wkT
  by_cases hk : k = 16 * 29 + 4 * i + j
  · subst hk
    rw [if_pos rfl, if_pos (by omega), show (16 * 29 + 4 * i + j - 464) / 4 = i by omega, show (16 * 29 + 4 * i + j - 464) % 4 = j by omega]
  · rw [if_neg hk]
    by_cases h : 464 ≤ k ∧ k < 480 ∧ (k - 464) % 4 < n ∧ ((k - 464) / 4 < i ∨ ((k - 464) / 4 = i ∧ (k - 464) % 4 < j))
    · rw [if_pos h, if_pos (by omega)]
    · rw [if_neg h, if_neg (by omega)]
theorem wkT_out {t : Nat → Nat} {val : Mt} {n i j r a b : Nat} (hr : r ≠ 29) (ha : a < 4) (hb : b < 4) : wkT t val n i j (16 * r + 4 * a + b) = t (16 * r + 4 * a + b) := by
  unfold wkT
  rw [if_neg (by omega)]
theorem wkT_in {t : Nat → Nat} {val : Mt} {n a b : Nat} (hn : n ≤ 4) (ha : a < n) (hb : b < n) : wkT t val n n 0 (16 * 29 + 4 * a + b) = val a b := by
  unfold wkT
  rw [if_pos (by omega), show (16 * 29 + 4 * a + b - 464) / 4 = a by omega, show (16 * 29 + 4 * a + b - 464) % 4 = b by omega]
theorem fm_sub {a b P : Nat} (hP : 0 < P) (hP2 : P ≤ 97) (ha : a < P) (hb : b < P) : fm (nI a - nI b) P = (a + (P - 1) * b) % P := by
  unfold fm
  rw [pk_sub_toInt (by omega) (by omega)]
  have e : ((a : Int) - b) = ((a + (P - 1) * b : Nat) : Int) + (P : Int) * (-(b : Int)) := by
    have h1 : ((P - 1 : Nat) : Int) = (P : Int) - 1 := by omega
    rw [Int.natCast_add, Int.natCast_mul, h1, Int.sub_mul, Int.mul_neg, Int.one_mul]
    omega
  rw [e, Int.add_mul_emod_self_left]
  omega
section Oper
variable {n P : Nat} {t : Nat → Nat}
theorem p_198 {i j : Nat} {v : Int32} (hP : 0 < P) (hP2 : P ≤ 97) (hi : i < 4) (hj : j < 4) (k15 : Int32 → (Nat → Int32) → Option ((Nat → Int32))) : f_N_operate_198 (nI P) k15 (nI i) (nI j) v (zN t) = k15 (nI (j + 1)) (zN (updN t (16 * 29 + 4 * i + j) (fm v P))) := by
  rw [f_N_operate_198, p_mod hP (by omega), ob_some, show (29 : Int32) = nI 29 from rfl, p_nput (by omega), ob_some, nI_1]
theorem p_151 {o i j : Nat} {a2 a3 v : Int32} (hn : 0 < n) (hn4 : n ≤ 4) (hP : 0 < P) (hP2 : P ≤ 97) (ho : o ≤ 7) (ho5 : o ≠ 5) (hi : i < 4) (hj : j < 4) (k15 : Int32 → (Nat → Int32) → Option ((Nat → Int32))) : f_N_operate_151 (nI P) (nI n) (nI o) a2 a3 k15 (nI i) (nI j) v (zN t) = k15 (nI (j + 1)) (zN (updN t (16 * 29 + 4 * i + j) (fm v P))) := by
  rw [f_N_operate_151, show zFU = 4095 + 1 from rfl, f_N_operate_154, if_neg, if_neg, p_198 hP hP2 hi hj]
  · exact fun h => ho5 ((nI_eq (by omega) (by decide)).mp h)
  · exact nI_ge (a := 0) hn (by omega)
theorem p_154 {a b i j : Nat} (hn4 : n ≤ 4) (hP : 0 < P) (hP2 : P ≤ 97) (ha : a < 71) (hb : b < 71) (hi : i < n) (hj : j < n) (k15 : Int32 → (Nat → Int32) → Option ((Nat → Int32))) : ∀ (fu k : Nat), k ≤ n → n - k < fu →
    f_N_operate_154 (nI P) (nI n) (nI 5) (nI a) (nI b) k15 (nI i) (nI j) (zN t) fu (nI (sumN (fun s => nM t a i s * nM t b s j) k)) (nI k) = k15 (nI (j + 1)) (zN (updN t (16 * 29 + 4 * i + j) (fm (nI (sumN (fun s => nM t a i s * nM t b s j) n)) P))) := by
  intro fu
  induction fu with
  | zero => intro k h1 h2; omega
  | succ fu ih =>
    intro k h1 h2
    rw [f_N_operate_154]
    by_cases hk : k = n
    · subst hk
      rw [if_pos (nI_le (Nat.le_refl _) (by omega)), p_198 hP hP2 (by omega) (by omega)]
    · rw [if_neg (nI_ge (by omega) (by omega)), if_pos (by decide), p_nget (by omega), ob_some, p_nget (by omega), ob_some, nm, pk_mul, nI_add, nI_1]
      exact ih (k + 1) (by omega) (by omega)
end Oper
