/-! Pure side: the class's matrices. Region r of size sz is g (r*sz + c). -/
theorem p_makeNought_2 {sz r nc : Nat} (hb : r * sz + sz ≤ nc) (hnc : nc < 2 ^ 31) : ∀ (fu c : Nat) (g : Nat → Nat), c ≤ sz → sz - c < fu →
    f_M_makeNought_2 nc (nI sz) (nI r) fu (nI c) (zN g) = some (zN (fun k => if r * sz + c ≤ k ∧ k < r * sz + sz then 0 else g k)) := by
  intro fu
  induction fu with
  | zero => intro c g h1 h2; omega
  | succ fu ih =>
    intro c g h1 h2
    rw [f_M_makeNought_2]
    by_cases h : c = sz
    · subst h
      rw [if_pos (nI_le (Nat.le_refl _) (by omega))]
      congr 2
      funext k
      rw [if_neg (by omega)]
    · rw [if_neg (nI_ge (by omega) (by omega)), pk_mul, nI_add, gdN (by omega) hnc, nI_clamp (by omega), show (0 : Int32) = nI 0 from rfl, upd_zN, nI_1, ih _ _ (by omega) (by omega)]
      congr 2
      funext k
      unfold updN
      by_cases hk : k = r * sz + c
      · subst hk; rw [if_neg (by omega), if_pos rfl, if_pos (by omega)]
      · rw [if_neg hk]
        by_cases hk2 : r * sz + c ≤ k ∧ k < r * sz + sz
        · rw [if_pos hk2, if_pos (by omega)]
        · rw [if_neg hk2, if_neg (by omega)]
theorem p_makeNought {sz r nc : Nat} {g : Nat → Nat} (hb : r * sz + sz ≤ nc) (hnc : nc < 2 ^ 31) (hs : sz < 4096) : f_M_makeNought nc (nI sz) (zN g) (nI r) = some (zN (setR sz g r (fun _ => 0))) := by
  rw [f_M_makeNought]
  exact p_makeNought_2 hb hnc zFU 0 g (Nat.zero_le _) (by unfold zFU; omega)
theorem p_copy {sz a b nc : Nat} {g : Nat → Nat} (ha : a * sz + sz ≤ nc) (hb : b * sz + sz ≤ nc) (hnc : nc < 2 ^ 31) : f_M_copy nc (nI sz) (zN g) (nI a) (nI b) = some (zN (setR sz g a (fun c => g (b * sz + c)))) := by
  rw [f_M_copy, pk_mul, pk_mul, cpgN (by omega) (by omega) hnc hnc, nI_clamp (by omega), nI_clamp (by omega), nI_clamp (by omega)]
  congr 1
  funext k
  unfold va_cpy setR zN
  by_cases h : a * sz ≤ k ∧ k < a * sz + sz
  · rw [if_pos h]; dsimp only; rw [if_pos h]
  · rw [if_neg h]; dsimp only; rw [if_neg h]
/-- a loop that fills region r, cell by cell, from what cell c of the present array says -/
def fillR (sz : Nat) (g : Nat → Nat) (r : Nat) (h : Nat → Nat) (c : Nat) : Nat → Nat := fun k => if r * sz ≤ k ∧ k < r * sz + c then h (k - r * sz) else g k
theorem fillR_0 {sz r : Nat} {g h : Nat → Nat} : fillR sz g r h 0 = g := by
  funext k; unfold fillR; rw [if_neg (by omega)]
theorem fillR_all {sz r : Nat} {g h : Nat → Nat} : fillR sz g r h sz = setR sz g r h := rfl
theorem fillR_step {sz r c : Nat} {g h : Nat → Nat} : updN (fillR sz g r h c) (r * sz + c) (h c) = fillR sz g r h (c + 1) := by
  funext k
  unfold updN fillR
  by_cases hk : k = r * sz + c
  · subst hk
    rw [if_pos rfl, if_pos (by omega)]
    congr 1
    omega
  · rw [if_neg hk]
    by_cases h2 : r * sz ≤ k ∧ k < r * sz + c
    · rw [if_pos h2, if_pos (by omega)]
    · rw [if_neg h2, if_neg (by omega)]
theorem fillR_late {sz r c r' c' : Nat} {g h : Nat → Nat} (hc : c ≤ c') (hc' : c' < sz) : fillR sz g r h c (r' * sz + c') = g (r' * sz + c') := by
  unfold fillR
  rw [if_neg]
  rintro ⟨h1, h2⟩
  rcases Nat.lt_trichotomy r r' with h3 | h3 | h3
  · have : (r + 1) * sz ≤ r' * sz := Nat.mul_le_mul_right sz h3
    rw [Nat.add_mul] at this
    omega
  · subst h3; omega
  · have : (r' + 1) * sz ≤ r * sz := Nat.mul_le_mul_right sz h3
    rw [Nat.add_mul] at this
    omega
theorem p_scale_3 {sz P a b x nc : Nat} {g : Nat → Nat} (ha : a * sz + sz ≤ nc) (hb : b * sz + sz ≤ nc) (hnc : nc < 2 ^ 31) (hP : 0 < P) (hP2 : P ≤ 97) (hx : x < 100) (hg : ∀ c, c < sz → g (b * sz + c) < P) : ∀ (fu c : Nat), c ≤ sz → sz - c < fu →
    f_M_scale_3 nc (nI P) (nI sz) (nI a) (nI b) (nI x) fu (nI c) (zN (fillR sz g a (fun c => g (b * sz + c) * x % P) c)) = some (zN (setR sz g a (fun c => g (b * sz + c) * x % P))) := by
  intro fu
  induction fu with
  | zero => intro c h1 h2; omega
  | succ fu ih =>
    intro c h1 h2
    rw [f_M_scale_3]
    by_cases h : c = sz
    · subst h
      rw [if_pos (nI_le (Nat.le_refl _) (by omega)), fillR_all]
    · have hv := hg c (by omega)
      have hm : g (b * sz + c) * x ≤ 97 * 100 := Nat.mul_le_mul (by omega) (by omega)
      rw [if_neg (nI_ge (by omega) (by omega)), pk_mul, nI_add, gdN (by omega) hnc, nzN hP (by omega), pk_mul, nI_add, gdN (by omega) hnc, nI_clamp (by omega), nI_clamp (by omega), zN_at, fillR_late (Nat.le_refl _) (by omega), pk_mul, zremN (by omega) hP (by omega), upd_zN, nI_1, fillR_step (h := fun c => g (b * sz + c) * x % P)]
      exact ih _ (by omega) (by omega)
theorem p_scale {sz P a b x nc : Nat} {g : Nat → Nat} (ha : a * sz + sz ≤ nc) (hb : b * sz + sz ≤ nc) (hnc : nc < 2 ^ 31) (hs : sz < 4096) (hP : 0 < P) (hP2 : P ≤ 97) (hx : x < 100) (hg : ∀ c, c < sz → g (b * sz + c) < P) :
    f_M_scale nc (nI P) (nI sz) (zN g) (nI a) (nI b) (nI x) = some (zN (setR sz g a (fun c => g (b * sz + c) * x % P))) := by
  rw [f_M_scale]
  have h := p_scale_3 (g := g) ha hb hnc hP hP2 hx hg zFU 0 (Nat.zero_le _) (by unfold zFU; omega)
  rw [fillR_0] at h
  exact h
theorem p_combine_3 {sz P a b d x nc : Nat} {g : Nat → Nat} (ha : a * sz + sz ≤ nc) (hb : b * sz + sz ≤ nc) (hd : d * sz + sz ≤ nc) (hnc : nc < 2 ^ 31) (hP : 0 < P) (hP2 : P ≤ 97) (hx : x < 100) (hg : ∀ c, c < sz → g (b * sz + c) < P) (hg2 : ∀ c, c < sz → g (d * sz + c) < P) : ∀ (fu c : Nat), c ≤ sz → sz - c < fu →
    f_M_combine_3 nc (nI P) (nI sz) (nI a) (nI b) (nI d) (nI x) fu (nI c) (zN (fillR sz g a (fun c => (g (b * sz + c) + x * g (d * sz + c)) % P) c)) = some (zN (setR sz g a (fun c => (g (b * sz + c) + x * g (d * sz + c)) % P))) := by
  intro fu
  induction fu with
  | zero => intro c h1 h2; omega
  | succ fu ih =>
    intro c h1 h2
    rw [f_M_combine_3]
    by_cases h : c = sz
    · subst h
      rw [if_pos (nI_le (Nat.le_refl _) (by omega)), fillR_all]
    · have hv := hg c (by omega)
      have hv2 := hg2 c (by omega)
      have hm : x * g (d * sz + c) ≤ 100 * 97 := Nat.mul_le_mul (by omega) (by omega)
      rw [if_neg (nI_ge (by omega) (by omega)), pk_mul, nI_add, gdN (by omega) hnc, pk_mul, nI_add, gdN (by omega) hnc, nm, nzN hP (by omega), pk_mul, nI_add, gdN (by omega) hnc, nI_clamp (by omega), nI_clamp (by omega), nI_clamp (by omega), zN_at, zN_at, fillR_late (Nat.le_refl _) (by omega), fillR_late (Nat.le_refl _) (by omega), pk_mul, nI_add, zremN (by omega) hP (by omega), upd_zN, nI_1, fillR_step (h := fun c => (g (b * sz + c) + x * g (d * sz + c)) % P)]
      exact ih _ (by omega) (by omega)
theorem p_combine {sz P a b d x nc : Nat} {g : Nat → Nat} (ha : a * sz + sz ≤ nc) (hb : b * sz + sz ≤ nc) (hd : d * sz + sz ≤ nc) (hnc : nc < 2 ^ 31) (hs : sz < 4096) (hP : 0 < P) (hP2 : P ≤ 97) (hx : x < 100) (hg : ∀ c, c < sz → g (b * sz + c) < P) (hg2 : ∀ c, c < sz → g (d * sz + c) < P) :
    f_M_combine nc (nI P) (nI sz) (zN g) (nI a) (nI b) (nI d) (nI x) = some (zN (setR sz g a (fun c => (g (b * sz + c) + x * g (d * sz + c)) % P))) := by
  rw [f_M_combine]
  have h := p_combine_3 (g := g) ha hb hd hnc hP hP2 hx hg hg2 zFU 0 (Nat.zero_le _) (by unfold zFU; omega)
  rw [fillR_0] at h
  exact h
theorem p_get {sz n r i j nc : Nat} {g : Nat → Nat} (h : r * sz + i * n + j < nc) (hnc : nc < 2 ^ 31) : f_M_get nc (nI n) (nI sz) (zN g) (nI r) (nI i) (nI j) = some (nI (g (r * sz + i * n + j))) := by
  unfold f_M_get
  simp only [pk_mul, nI_add]
  rw [gdN h hnc, nI_clamp (by omega), zN_at]
theorem p_keepFresh {sz a nc nf : Nat} {g h : Nat → Nat} (ha : a * sz + sz ≤ nc) (hnc : nc < 2 ^ 31) (hf : sz ≤ nf) (hnf : nf < 2 ^ 31) : f_M_keepFresh nc nf (nI sz) (zN g) (zN h) (nI a) = some (zN (setR sz g a h)) := by
  unfold f_M_keepFresh
  rw [show (0 : Int32) = nI 0 from rfl, pk_mul, cpgN (by omega) (by omega) hnf hnc, nI_clamp (by omega), nI_clamp (by omega), nI_clamp (by omega)]
  congr 1
  funext k
  unfold va_cpy setR zN
  by_cases hk : a * sz ≤ k ∧ k < a * sz + sz
  · rw [if_pos hk]; dsimp only; rw [if_pos hk, Nat.zero_add]
  · rw [if_neg hk]; dsimp only; rw [if_neg hk]
/-- the cell of a product -/
def mulF (n sz : Nat) (g : Nat → Nat) (a b i j : Nat) : Nat → Nat := fun t => g (a * sz + i * n + t) * g (b * sz + t * n + j)
def mulC (n P sz : Nat) (g : Nat → Nat) (a b : Nat) : Nat → Nat := fun c => sumN (mulF n sz g a b (c / n) (c % n)) n % P
section Mul
variable {n P sz a b r nc nf : Nat} {g : Nat → Nat}
theorem p_mul_30 (hn : n ≤ 4) (hsz : sz = n * n) (hP : 0 < P) (hP2 : P ≤ 97) (ha : a * sz + sz ≤ nc) (hb : b * sz + sz ≤ nc) (hnc : nc < 2 ^ 31) (hf : sz ≤ nf) (hnf : nf < 2 ^ 31) (hga : ∀ c, c < sz → g (a * sz + c) < P) (hgb : ∀ c, c < sz → g (b * sz + c) < P)
    {i j : Nat} (hi : i < n) (hj : j < n) (k15 : Int32 → (Nat → Int32) → Option ((Nat → Int32) × (Nat → Int32))) (h : Nat → Nat) : ∀ (fu k : Nat), k ≤ n → n - k < fu →
    f_M_multiply_30 nc nf (nI P) (nI n) (nI sz) (nI a) (nI b) k15 (nI i) (nI j) (zN g) (zN h) fu (nI (sumN (mulF n sz g a b i j) k)) (nI k) = k15 (nI (j + 1)) (zN (updN h (i * n + j) (sumN (mulF n sz g a b i j) n % P))) := by
  have hB : ∀ t, t < n → mulF n sz g a b i j t ≤ 97 * 97 := by
    intro t ht
    have h1 := hga (i * n + t) (by rw [hsz]; exact cell_lt hi ht)
    have h2 := hgb (t * n + j) (by rw [hsz]; exact cell_lt ht hj)
    rw [← Nat.add_assoc] at h1 h2
    exact Nat.mul_le_mul (by omega) (by omega)
  have hij := cell_lt hi hj
  intro fu
  induction fu with
  | zero => intro k h1 h2; omega
  | succ fu ih =>
    intro k h1 h2
    rw [f_M_multiply_30]
    by_cases hk : k = n
    · subst hk
      have hS := sumN_le hB
      have hS2 : k * (97 * 97) ≤ 4 * (97 * 97) := Nat.mul_le_mul_right _ hn
      rw [if_pos (nI_le (Nat.le_refl _) (by omega)), nzN hP (by omega), pk_mul, nI_add, gdN (by omega) hnf, nI_clamp (by omega), zremN (by omega) hP (by omega), upd_zN, nI_1]
    · have hk2 : k < n := by omega
      have e1 := cell_lt hi hk2
      have e2 := cell_lt hk2 hj
      rw [if_neg (nI_ge (by omega) (by omega)), p_get (by omega) hnc, ob_some, p_get (by omega) hnc, ob_some, nm, pk_mul, nI_add, nI_1]
      exact ih (k + 1) (by omega) (by omega)
theorem p_mul_15 (hn : n ≤ 4) (hsz : sz = n * n) (hP : 0 < P) (hP2 : P ≤ 97) (ha : a * sz + sz ≤ nc) (hb : b * sz + sz ≤ nc) (hnc : nc < 2 ^ 31) (hf : sz ≤ nf) (hnf : nf < 2 ^ 31) (hga : ∀ c, c < sz → g (a * sz + c) < P) (hgb : ∀ c, c < sz → g (b * sz + c) < P)
    {i : Nat} (hi : i < n) (k3 : Int32 → (Nat → Int32) → Option ((Nat → Int32) × (Nat → Int32))) (h : Nat → Nat) : ∀ (fu j : Nat), j ≤ n → n - j < fu →
    f_M_multiply_15 nc nf (nI P) (nI n) (nI sz) (nI a) (nI b) k3 (nI i) (zN g) fu (nI j) (zN (fill0 h (mulC n P sz g a b) (i * n + j))) = k3 (nI (i + 1)) (zN (fill0 h (mulC n P sz g a b) (i * n + n))) := by
  intro fu
  induction fu with
  | zero => intro j h1 h2; omega
  | succ fu ih =>
    intro j h1 h2
    rw [f_M_multiply_15]
    by_cases hj : j = n
    · subst hj
      rw [if_pos (nI_le (Nat.le_refl _) (by omega)), nI_1]
    · have hj2 : j < n := by omega
      rw [if_neg (nI_ge (by omega) (by omega))]
      refine (p_mul_30 hn hsz hP hP2 ha hb hnc hf hnf hga hgb hi hj2 _ _ zFU 0 (Nat.zero_le _) (by unfold zFU; omega)).trans ?_
      have e : sumN (mulF n sz g a b i j) n % P = mulC n P sz g a b (i * n + j) := by unfold mulC; rw [div_cell hj2, mod_cell hj2]
      rw [e, fill0_step]
      exact ih (j + 1) (by omega) (by omega)
theorem p_mul_3 (hn : n ≤ 4) (hsz : sz = n * n) (hP : 0 < P) (hP2 : P ≤ 97) (hr : r * sz + sz ≤ nc) (ha : a * sz + sz ≤ nc) (hb : b * sz + sz ≤ nc) (hnc : nc < 2 ^ 31) (hf : sz ≤ nf) (hnf : nf < 2 ^ 31) (hga : ∀ c, c < sz → g (a * sz + c) < P) (hgb : ∀ c, c < sz → g (b * sz + c) < P)
    (h : Nat → Nat) : ∀ (fu i : Nat), i ≤ n → n - i < fu →
    f_M_multiply_3 nc nf (nI P) (nI n) (nI sz) (nI r) (nI a) (nI b) (zN g) fu (nI i) (zN (fill0 h (mulC n P sz g a b) (i * n))) = some (zN (setR sz g r (mulC n P sz g a b)), zN (fill0 h (mulC n P sz g a b) sz)) := by
  intro fu
  induction fu with
  | zero => intro i h1 h2; omega
  | succ fu ih =>
    intro i h1 h2
    rw [f_M_multiply_3]
    by_cases hi : i = n
    · subst hi
      rw [if_pos (nI_le (Nat.le_refl _) (by omega)), p_keepFresh hr hnc hf hnf, ob_some, ← hsz]
      congr 3
      funext k
      unfold setR fill0
      by_cases hk : r * sz ≤ k ∧ k < r * sz + sz
      · rw [if_pos hk, if_pos (by omega), if_pos hk]
      · rw [if_neg hk, if_neg hk]
    · rw [if_neg (nI_ge (by omega) (by omega))]
      refine (p_mul_15 hn hsz hP hP2 ha hb hnc hf hnf hga hgb (i := i) (by omega) _ h zFU 0 (Nat.zero_le _) (by unfold zFU; omega)).trans ?_
      rw [show i * n + n = (i + 1) * n by rw [Nat.add_mul, Nat.one_mul]]
      exact ih (i + 1) (by omega) (by omega)
theorem p_multiply (hn : n ≤ 4) (hsz : sz = n * n) (hP : 0 < P) (hP2 : P ≤ 97) (hr : r * sz + sz ≤ nc) (ha : a * sz + sz ≤ nc) (hb : b * sz + sz ≤ nc) (hnc : nc < 2 ^ 31) (hf : sz ≤ nf) (hnf : nf < 2 ^ 31) (hga : ∀ c, c < sz → g (a * sz + c) < P) (hgb : ∀ c, c < sz → g (b * sz + c) < P) (h : Nat → Nat) :
    f_M_multiply nc nf (nI P) (nI n) (nI sz) (zN g) (zN h) (nI r) (nI a) (nI b) = some (zN (setR sz g r (mulC n P sz g a b)), zN (fill0 h (mulC n P sz g a b) sz)) := by
  rw [f_M_multiply]
  have q := p_mul_3 (n := n) (g := g) hn hsz hP hP2 hr ha hb hnc hf hnf hga hgb h zFU 0 (Nat.zero_le _) (by unfold zFU; omega)
  rw [Nat.zero_mul, fill0_0] at q
  exact q
end Mul
