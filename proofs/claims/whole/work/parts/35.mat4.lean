/-! operate of the reference. -/
section Oper2
variable {n P : Nat} {t : Nat → Nat}
/-- one cell of operate -/
theorem p_43 {o a b x i j : Nat} (hn : 0 < n) (hn4 : n ≤ 4) (hP : 1 < P) (hP2 : P ≤ 97) (ho : o ≤ 7) (ha : 3 ≤ o → a < 71 ∧ ltM n P (nM t a)) (hb : 3 ≤ o → o ≤ 5 → b < 71 ∧ ltM n P (nM t b)) (hx : o = 7 → x < 100) (h0 : o = 0 → x < 4 ∧ ltM n P (nM t x)) (hi : i < n) (hj : j < n) (k15 : Int32 → (Nat → Int32) → Option ((Nat → Int32))) :
    (if nI o = 0 then (f_N_get (zN t) (nI x) (nI i) (nI j)).bind fun r15 => f_N_operate_43 (nI P) (nI n) (nI o) (nI a) (nI b) (nI x) k15 (nI i) (nI j) r15 (zN t) else f_N_operate_43 (nI P) (nI n) (nI o) (nI a) (nI b) (nI x) k15 (nI i) (nI j) (0 : Int32) (zN t)) =
      k15 (nI (j + 1)) (zN (updN t (16 * 29 + 4 * i + j) (opM n P o x (nM t x) (nM t a) (nM t b) i j))) := by
  rcases (show o = 0 ∨ o = 1 ∨ o = 2 ∨ o = 3 ∨ o = 4 ∨ o = 5 ∨ o = 6 ∨ o = 7 by omega) with rfl | rfl | rfl | rfl | rfl | rfl | rfl | rfl
  · obtain ⟨hx4, hl⟩ := h0 rfl
    have hv := hl i j hi hj
    rw [if_pos (by decide), p_nget (by omega), ob_some, f_N_operate_43, if_neg (by decide), f_N_operate_62, if_neg (by decide), f_N_operate_88, if_neg (by decide), f_N_operate_114, if_neg (by decide), f_N_operate_131, if_neg (by decide), p_151 hn hn4 (by omega) hP2 (by omega) (by decide) (by omega) (by omega)]
    unfold nM at hv
    rw [fm_nI (by omega), Nat.mod_eq_of_lt hv]
    rfl
  · rw [if_neg (by decide), f_N_operate_43, if_pos (by decide)]
    by_cases e : i = j
    · subst e
      rw [if_pos rfl, f_N_operate_60, f_N_operate_62, if_neg (by decide), f_N_operate_88, if_neg (by decide), f_N_operate_114, if_neg (by decide), f_N_operate_131, if_neg (by decide), p_151 hn hn4 (by omega) hP2 (by omega) (by decide) (by omega) (by omega), show (1 : Int32) = nI 1 from rfl, fm_nI (by omega), Nat.mod_eq_of_lt hP]
      show k15 _ (zN (updN t _ 1)) = k15 _ (zN (updN t _ (oneM i i)))
      unfold oneM
      rw [if_pos rfl]
    · rw [if_neg (fun q => e ((nI_eq (by omega) (by omega)).mp q)), f_N_operate_60, f_N_operate_62, if_neg (by decide), f_N_operate_88, if_neg (by decide), f_N_operate_114, if_neg (by decide), f_N_operate_131, if_neg (by decide), p_151 hn hn4 (by omega) hP2 (by omega) (by decide) (by omega) (by omega), show (0 : Int32) = nI 0 from rfl, fm_nI (by omega), Nat.zero_mod]
      show k15 _ (zN (updN t _ 0)) = k15 _ (zN (updN t _ (oneM i j)))
      unfold oneM
      rw [if_neg e]
  · rw [if_neg (by decide), f_N_operate_43, if_neg (by decide), f_N_operate_62, if_neg (by decide), f_N_operate_88, if_neg (by decide), f_N_operate_114, if_neg (by decide), f_N_operate_131, if_neg (by decide), p_151 hn hn4 (by omega) hP2 (by omega) (by decide) (by omega) (by omega), show (0 : Int32) = nI 0 from rfl, fm_nI (by omega), Nat.zero_mod]
    rfl
  · obtain ⟨ha1, hal⟩ := ha (by omega)
    obtain ⟨hb1, hbl⟩ := hb (by omega) (by omega)
    have hv1 := hal i j hi hj
    have hv2 := hbl i j hi hj
    unfold nM at hv1 hv2
    rw [if_neg (by decide), f_N_operate_43, if_neg (by decide), f_N_operate_62, if_pos (by decide), p_nget (by omega), ob_some, p_nget (by omega), ob_some, nm, f_N_operate_88, if_neg (by decide), f_N_operate_114, if_neg (by decide), f_N_operate_131, if_neg (by decide), p_151 hn hn4 (by omega) hP2 (by omega) (by decide) (by omega) (by omega), nI_add, fm_nI (by omega)]
    rfl
  · obtain ⟨ha1, hal⟩ := ha (by omega)
    obtain ⟨hb1, hbl⟩ := hb (by omega) (by omega)
    have hv1 := hal i j hi hj
    have hv2 := hbl i j hi hj
    unfold nM at hv1 hv2
    rw [if_neg (by decide), f_N_operate_43, if_neg (by decide), f_N_operate_62, if_neg (by decide), f_N_operate_88, if_pos (by decide), p_nget (by omega), ob_some, p_nget (by omega), ob_some, nm, f_N_operate_114, if_neg (by decide), f_N_operate_131, if_neg (by decide), p_151 hn hn4 (by omega) hP2 (by omega) (by decide) (by omega) (by omega), fm_sub (by omega) hP2 hv1 hv2]
    rfl
  · obtain ⟨ha1, hal⟩ := ha (by omega)
    obtain ⟨hb1, hbl⟩ := hb (by omega) (by omega)
    rw [if_neg (by decide), f_N_operate_43, if_neg (by decide), f_N_operate_62, if_neg (by decide), f_N_operate_88, if_neg (by decide), f_N_operate_114, if_neg (by decide), f_N_operate_131, if_neg (by decide), f_N_operate_151]
    refine (p_154 hn4 (by omega) hP2 ha1 hb1 hi hj k15 zFU 0 (Nat.zero_le _) (by unfold zFU; omega)).trans ?_
    have hB : ∀ s, s < n → nM t a i s * nM t b s j ≤ 97 * 97 := fun s hs => Nat.mul_le_mul (by have := hal i s hi hs; omega) (by have := hbl s j hs hj; omega)
    have hS := sumN_le hB
    have hS2 : n * (97 * 97) ≤ 4 * (97 * 97) := Nat.mul_le_mul_right _ hn4
    rw [fm_nI (by omega)]
    rfl
  · obtain ⟨ha1, hal⟩ := ha (by omega)
    have hv1 := hal j i hj hi
    unfold nM at hv1
    rw [if_neg (by decide), f_N_operate_43, if_neg (by decide), f_N_operate_62, if_neg (by decide), f_N_operate_88, if_neg (by decide), f_N_operate_114, if_pos (by decide), p_nget (by omega), ob_some, f_N_operate_131, if_neg (by decide), p_151 hn hn4 (by omega) hP2 (by omega) (by decide) (by omega) (by omega), fm_nI (by omega), Nat.mod_eq_of_lt hv1]
    rfl
  · obtain ⟨ha1, hal⟩ := ha (by omega)
    have hv1 := hal i j hi hj
    have hx1 := hx rfl
    unfold nM at hv1
    have hm : x * t (16 * a + 4 * i + j) ≤ 100 * 97 := Nat.mul_le_mul (by omega) (by omega)
    rw [if_neg (by decide), f_N_operate_43, if_neg (by decide), f_N_operate_62, if_neg (by decide), f_N_operate_88, if_neg (by decide), f_N_operate_114, if_neg (by decide), f_N_operate_131, if_pos (by decide), p_nget (by omega), ob_some, nm, p_151 hn hn4 (by omega) hP2 (by omega) (by decide) (by omega) (by omega), pk_mul, fm_nI (by omega), Nat.mul_comm x]
    rfl
theorem nM_wk {val : Mt} {i j r : Nat} (hr : r ≠ 29) (hn4 : n ≤ 4) : eqM n (nM (wkT t val n i j) r) (nM t r) := fun a b ha hb => wkT_out hr (by omega) (by omega)
theorem opM_wk {val : Mt} {o x a b i j : Nat} (hn4 : n ≤ 4) (h0 : o = 0 → x ≠ 29) (ha : 3 ≤ o → a ≠ 29) (hb : 3 ≤ o → o ≤ 5 → b ≠ 29) : eqM n (opM n P o x (nM (wkT t val n i j) x) (nM (wkT t val n i j) a) (nM (wkT t val n i j) b)) (opM n P o x (nM t x) (nM t a) (nM t b)) :=
  opM_congr (fun h => nM_wk (h0 h) hn4) (fun h => nM_wk (ha h) hn4) (fun h h2 => nM_wk (hb h h2) hn4)
theorem ltM_congr {A B : Mt} (h : eqM n A B) (hB : ltM n P B) : ltM n P A := fun i j hi hj => by rw [h i j hi hj]; exact hB i j hi hj
theorem p_oper_15 {o a b x i : Nat} (hn : 0 < n) (hn4 : n ≤ 4) (hP : 1 < P) (hP2 : P ≤ 97) (ho : o ≤ 7) (ha : 3 ≤ o → a ≠ 29 ∧ a < 71 ∧ ltM n P (nM t a)) (hb : 3 ≤ o → o ≤ 5 → b ≠ 29 ∧ b < 71 ∧ ltM n P (nM t b)) (hx : o = 7 → x < 100) (h0 : o = 0 → x < 4 ∧ ltM n P (nM t x)) (hi : i < n) (k3 : Int32 → (Nat → Int32) → Option ((Nat → Int32))) : ∀ (fu j : Nat), j ≤ n → n - j < fu →
    f_N_operate_15 (nI P) (nI n) (nI o) (nI a) (nI b) (nI x) k3 (nI i) fu (nI j) (zN (wkT t (opM n P o x (nM t x) (nM t a) (nM t b)) n i j)) = k3 (nI (i + 1)) (zN (wkT t (opM n P o x (nM t x) (nM t a) (nM t b)) n (i + 1) 0)) := by
  intro fu
  induction fu with
  | zero => intro j h1 h2; omega
  | succ fu ih =>
    intro j h1 h2
    rw [f_N_operate_15]
    by_cases hj : j = n
    · subst hj
      rw [if_pos (nI_le (Nat.le_refl _) (by omega)), nI_1, wkT_row]
    · have hj2 : j < n := by omega
      rw [if_neg (nI_ge (by omega) (by omega))]
      refine (p_43 hn hn4 hP hP2 ho (fun h => ⟨(ha h).2.1, ltM_congr (nM_wk (ha h).1 hn4) (ha h).2.2⟩) (fun h h3 => ⟨(hb h h3).2.1, ltM_congr (nM_wk (hb h h3).1 hn4) (hb h h3).2.2⟩) hx (fun h => ⟨(h0 h).1, ltM_congr (nM_wk (by have := (h0 h).1; omega) hn4) (h0 h).2⟩) hi hj2 _).trans ?_
      rw [opM_wk hn4 (fun h => by have := (h0 h).1; omega) (fun h => (ha h).1) (fun h h3 => (hb h h3).1) i j hi hj2, wkT_step hn4 hi hj2]
      exact ih (j + 1) (by omega) (by omega)
theorem p_oper_3 {o a b x r : Nat} (hn : 0 < n) (hn4 : n ≤ 4) (hP : 1 < P) (hP2 : P ≤ 97) (ho : o ≤ 7) (hr : r < 71) (ha : 3 ≤ o → a ≠ 29 ∧ a < 71 ∧ ltM n P (nM t a)) (hb : 3 ≤ o → o ≤ 5 → b ≠ 29 ∧ b < 71 ∧ ltM n P (nM t b)) (hx : o = 7 → x < 100) (h0 : o = 0 → x < 4 ∧ ltM n P (nM t x)) : ∀ (fu i : Nat), i ≤ n → n - i < fu →
    f_N_operate_3 (nI P) (nI n) (nI o) (nI a) (nI b) (nI x) (nI r) fu (nI i) (zN (wkT t (opM n P o x (nM t x) (nM t a) (nM t b)) n i 0)) = some (zN (setR 16 (wkT t (opM n P o x (nM t x) (nM t a) (nM t b)) n n 0) r (fun c => wkT t (opM n P o x (nM t x) (nM t a) (nM t b)) n n 0 (29 * 16 + c)))) := by
  intro fu
  induction fu with
  | zero => intro i h1 h2; omega
  | succ fu ih =>
    intro i h1 h2
    rw [f_N_operate_3]
    by_cases hi : i = n
    · subst hi
      rw [if_pos (nI_le (Nat.le_refl _) (by omega)), show (29 : Int32) = nI 29 from rfl, p_ncopy (by omega) hr, ob_some]
    · rw [if_neg (nI_ge (by omega) (by omega))]
      refine (p_oper_15 hn hn4 hP hP2 ho ha hb hx h0 (show i < n by omega) _ zFU 0 (Nat.zero_le _) (by unfold zFU; omega)).trans ?_
      exact ih (i + 1) (by omega) (by omega)
/-- operate: region r gets the outcome, all others but the work region stay -/
theorem p_operate {o a b x r : Nat} (hn : 0 < n) (hn4 : n ≤ 4) (hP : 1 < P) (hP2 : P ≤ 97) (ho : o ≤ 7) (hr : r < 71) (ha : 3 ≤ o → a ≠ 29 ∧ a < 71 ∧ ltM n P (nM t a)) (hb : 3 ≤ o → o ≤ 5 → b ≠ 29 ∧ b < 71 ∧ ltM n P (nM t b)) (hx : o = 7 → x < 100) (h0 : o = 0 → x < 4 ∧ ltM n P (nM t x)) :
    ∃ t' : Nat → Nat, f_N_operate (nI P) (nI n) (zN t) (nI o) (nI a) (nI b) (nI x) (nI r) = some (zN t') ∧ (∀ r', r' ≠ r → r' ≠ 29 → eqM n (nM t' r') (nM t r')) ∧ eqM n (nM t' r) (opM n P o x (nM t x) (nM t a) (nM t b)) := by
  have h := p_oper_3 (t := t) hn hn4 hP hP2 ho hr ha hb hx h0 zFU 0 (Nat.zero_le _) (by unfold zFU; omega)
  rw [wkT_0] at h
  refine ⟨_, h, ?_, ?_⟩
  · intro r' h1 h2 i j hi hj
    unfold nM
    rw [Nat.add_assoc, Nat.mul_comm 16 r', setR_other (by omega) h1, Nat.mul_comm r' 16, ← Nat.add_assoc, wkT_out h2 (by omega) (by omega)]
  · intro i j hi hj
    show setR 16 _ r _ (16 * r + 4 * i + j) = _
    rw [Nat.add_assoc, Nat.mul_comm 16 r, setR_same (by omega)]
    show wkT t _ n n 0 (29 * 16 + (4 * i + j)) = _
    rw [show 29 * 16 + (4 * i + j) = 16 * 29 + 4 * i + j by omega, wkT_in hn4 hi hj]
end Oper2
