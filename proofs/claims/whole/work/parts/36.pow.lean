/-! Powers of a matrix. -/
theorem sumN_mod {f : Nat → Nat} {P n : Nat} : sumN f n % P = sumN (fun t => f t % P) n % P := by
  induction n with
  | zero => rfl
  | succ n ih =>
    show (sumN f n + f n) % P = (sumN (fun t => f t % P) n + f n % P) % P
    rw [Nat.add_mod, ih, ← Nat.add_mod, Nat.add_mod_mod]
theorem sumN_add {f g : Nat → Nat} {n : Nat} : sumN (fun t => f t + g t) n = sumN f n + sumN g n := by
  induction n with
  | zero => rfl
  | succ n ih =>
    show sumN (fun t => f t + g t) n + (f n + g n) = (sumN f n + f n) + (sumN g n + g n)
    rw [ih]; omega
theorem sumN_mulr {f : Nat → Nat} {n c : Nat} : sumN (fun t => f t * c) n = sumN f n * c := by
  induction n with
  | zero => exact (Nat.zero_mul c).symm
  | succ n ih =>
    show sumN (fun t => f t * c) n + f n * c = (sumN f n + f n) * c
    rw [ih, Nat.add_mul]
theorem sumN_mull {f : Nat → Nat} {n c : Nat} : sumN (fun t => c * f t) n = c * sumN f n := by
  rw [sumN_congr (g := fun t => f t * c) (fun t _ => Nat.mul_comm _ _), sumN_mulr, Nat.mul_comm]
theorem sumN_zero {n : Nat} : sumN (fun _ => 0) n = 0 := by
  induction n with
  | zero => rfl
  | succ n ih => exact ih
theorem sumN_swap {f : Nat → Nat → Nat} {n m : Nat} : sumN (fun t => sumN (fun s => f s t) m) n = sumN (fun s => sumN (fun t => f s t) n) m := by
  induction n with
  | zero => exact sumN_zero.symm
  | succ n ih =>
    show sumN (fun t => sumN (fun s => f s t) m) n + sumN (fun s => f s n) m = sumN (fun s => sumN (fun t => f s t) n + f s n) m
    rw [ih, sumN_add]
theorem sumN_one {f : Nat → Nat} {n k : Nat} (hk : k < n) : sumN (fun t => (if k = t then 1 else 0) * f t) n = f k := by
  induction n with
  | zero => omega
  | succ n ih =>
    show sumN (fun t => (if k = t then 1 else 0) * f t) n + (if k = n then 1 else 0) * f n = f k
    by_cases h : k = n
    · subst h
      rw [if_pos rfl, Nat.one_mul, sumN_congr (g := fun _ => 0) (fun t ht => by rw [if_neg (by omega), Nat.zero_mul]), sumN_zero, Nat.zero_add]
    · rw [if_neg h, Nat.zero_mul, Nat.add_zero, ih (by omega)]
theorem eqM.rf {n : Nat} {A : Mt} : eqM n A A := fun _ _ _ _ => rfl
theorem eqM.tr {n : Nat} {A B C : Mt} (h : eqM n A B) (h2 : eqM n B C) : eqM n A C := fun i j hi hj => (h i j hi hj).trans (h2 i j hi hj)
theorem eqM.sy {n : Nat} {A B : Mt} (h : eqM n A B) : eqM n B A := fun i j hi hj => (h i j hi hj).symm
theorem mulM_congr {n P : Nat} {A A' B B' : Mt} (hA : eqM n A A') (hB : eqM n B B') : eqM n (mulM n P A B) (mulM n P A' B') := fun i j hi hj => by
  unfold mulM
  rw [sumN_congr (fun t ht => by rw [hA i t hi ht, hB t j ht hj])]
theorem mulM_assoc {n P : Nat} {A B C : Mt} : eqM n (mulM n P (mulM n P A B) C) (mulM n P A (mulM n P B C)) := fun i j _ _ => by
  show sumN (fun t => (sumN (fun s => A i s * B s t) n % P) * C t j) n % P = sumN (fun s => A i s * (sumN (fun t => B s t * C t j) n % P)) n % P
  rw [sumN_mod, sumN_congr (g := fun t => (sumN (fun s => A i s * B s t * C t j) n) % P) (fun t _ => by rw [Nat.mod_mul_mod, sumN_mulr]), ← sumN_mod,
    sumN_mod (f := fun s => A i s * (sumN (fun t => B s t * C t j) n % P)), sumN_congr (f := fun s => A i s * (sumN (fun t => B s t * C t j) n % P) % P) (g := fun s => (sumN (fun t => A i s * B s t * C t j) n) % P) (fun s _ => by rw [Nat.mul_mod_mod, ← sumN_mull, sumN_congr (fun t _ => (Nat.mul_assoc _ _ _).symm)]), ← sumN_mod, sumN_swap]
theorem mulM_1l {n P : Nat} {A : Mt} (hA : ltM n P A) : eqM n (mulM n P oneM A) A := fun i j hi hj => by
  show sumN (fun t => (if i = t then 1 else 0) * A t j) n % P = A i j
  rw [sumN_one (f := fun t => A t j) hi, Nat.mod_eq_of_lt (hA i j hi hj)]
theorem mulM_1r {n P : Nat} {A : Mt} (hA : ltM n P A) : eqM n (mulM n P A oneM) A := fun i j hi hj => by
  show sumN (fun t => A i t * (if t = j then 1 else 0)) n % P = A i j
  rw [sumN_congr (g := fun t => (if j = t then 1 else 0) * A i t) (fun t _ => by
    rw [Nat.mul_comm]
    by_cases h : t = j
    · rw [if_pos h, if_pos h.symm]
    · rw [if_neg h, if_neg (fun q => h q.symm)]), sumN_one (f := fun t => A i t) hj, Nat.mod_eq_of_lt (hA i j hi hj)]
theorem mulM_lt {n P : Nat} {A B : Mt} (hP : 0 < P) : ltM n P (mulM n P A B) := fun _ _ _ _ => Nat.mod_lt _ hP
theorem oneM_lt {n P : Nat} (hP : 1 < P) : ltM n P oneM := fun i j _ _ => by unfold oneM; split <;> omega
def powM (n P : Nat) (A : Mt) : Nat → Mt
  | 0 => oneM
  | k + 1 => mulM n P (powM n P A k) A
theorem powM_lt {n P : Nat} {A : Mt} (hP : 1 < P) : ∀ k, ltM n P (powM n P A k)
  | 0 => oneM_lt hP
  | _ + 1 => mulM_lt (by omega)
theorem powM_1 {n P : Nat} {A : Mt} (hA : ltM n P A) : eqM n (powM n P A 1) A := mulM_1l hA
theorem powM_add {n P : Nat} {A : Mt} (hP : 1 < P) (a : Nat) : ∀ b, eqM n (mulM n P (powM n P A a) (powM n P A b)) (powM n P A (a + b))
  | 0 => mulM_1r (powM_lt hP a)
  | b + 1 => mulM_assoc.sy.tr (mulM_congr (powM_add hP a b) eqM.rf)
theorem powM_congr {n P : Nat} {A B : Mt} (h : eqM n A B) : ∀ k, eqM n (powM n P A k) (powM n P B k)
  | 0 => eqM.rf
  | k + 1 => mulM_congr (powM_congr h k) h
theorem powM_sq {n P : Nat} {A : Mt} (hP : 1 < P) : ∀ k, eqM n (powM n P (mulM n P A A) k) (powM n P A (2 * k))
  | 0 => eqM.rf
  | k + 1 => by
    have h1 := mulM_congr (n := n) (P := P) (powM_sq (n := n) (A := A) hP k) (eqM.rf (A := mulM n P A A))
    refine h1.tr (mulM_assoc.sy.tr ?_)
    exact eqM.rf
theorem topDigit_ok : ∀ e : Fin 100, f_X_topDigit (nI e) = some (nI (Nat.log2 e)) := by decide +kernel
theorem isDigit_ok : ∀ e : Fin 100, ∀ p : Fin 7, f_X_isDigitOne (nI e) (nI p) = some (nI (e.val / 2 ^ p.val % 2)) := by decide +kernel
theorem log_ok : ∀ e : Fin 100, e.val ≠ 0 → Nat.log2 e < 7 ∧ e.val / 2 ^ (Nat.log2 e) = 1 ∧ nI (Nat.log2 e) - (1 : Int32) = nI (Nat.log2 e) + (-1) := by decide +kernel
section Raise
variable {n P r e : Nat}
/-- the class's loop over the digits; q of them are left -/
theorem p_raise_24 (hn4 : n ≤ 4) (hP : 1 < P) (hP2 : P ≤ 97) (hr : r < 68) (he : e < 100) {A : Mt} (hA : ltM n P A) : ∀ (q fu : Nat) (g h : Nat → Nat), q < 7 → q < fu → eqM n (cM n g 68) A → eqM n (cM n g r) (powM n P A (e / 2 ^ q)) →
    ∃ g' h' : Nat → Nat, f_M_raise_24 (70 * (n * n)) (n * n) (nI P) (nI n) (nI (n * n)) (nI r) (nI e) fu (nI q + (-1)) (zN g) (zN h) = some (zN g', zN h') ∧ (∀ r', r' ≠ r → eqM n (cM n g' r') (cM n g r')) ∧ eqM n (cM n g' r) (powM n P A e) := by
  have hs : n * n ≤ 4 * 4 := Nat.mul_le_mul hn4 hn4
  have mul : ∀ (g h : Nat → Nat) (a b : Nat), a < 70 → b < 70 → ltM n P (cM n g a) → ltM n P (cM n g b) → ∃ g' h' : Nat → Nat, f_M_multiply (70 * (n * n)) (n * n) (nI P) (nI n) (nI (n * n)) (zN g) (zN h) (nI r) (nI a) (nI b) = some (zN g', zN h') ∧ (∀ r', r' ≠ r → eqM n (cM n g' r') (cM n g r')) ∧ eqM n (cM n g' r) (mulM n P (cM n g a) (cM n g b)) := by
    intro g h a b ha hb h1 h2
    refine ⟨_, _, p_multiply hn4 rfl (by omega) hP2 (reg_le (by omega)) (reg_le ha) (reg_le hb) (by omega) (Nat.le_refl _) (by omega) (ltM_reg h1) (ltM_reg h2) h, fun r' hr' i j hi hj => ?_, fun i j hi hj => ?_⟩
    · rw [cM_set i j hi hj, if_neg hr']
    · rw [cM_set i j hi hj, if_pos rfl]
      unfold mulC
      rw [div_cell hj, mod_cell hj]
      rfl
  intro q
  induction q with
  | zero =>
    intro fu g h h1 h2 h3 h4
    obtain ⟨fu, rfl⟩ : ∃ z, fu = z + 1 := ⟨fu - 1, by omega⟩
    refine ⟨g, h, ?_, fun _ _ => eqM.rf, ?_⟩
    · rw [f_M_raise_24, if_pos (by decide)]
    · rw [Nat.pow_zero, Nat.div_one] at h4
      exact h4
  | succ q ih =>
    intro fu g h h1 h2 h3 h4
    obtain ⟨fu, rfl⟩ : ∃ z, fu = z + 1 := ⟨fu - 1, by omega⟩
    have hlr : ltM n P (cM n g r) := ltM_congr h4 (powM_lt hP _)
    obtain ⟨g1, h1', e1, k1, m1⟩ := mul g h r r (by omega) (by omega) hlr hlr
    rw [f_M_raise_24, pk_m1, if_neg (nI_pos (by omega)), e1, ob_some, isDigit_ok ⟨e, he⟩ ⟨q, by omega⟩, ob_some]
    have hsq : eqM n (cM n g1 r) (powM n P A (e / 2 ^ (q + 1) + e / 2 ^ (q + 1))) := m1.tr ((mulM_congr h4 h4).tr (powM_add hP _ _))
    have hf : eqM n (cM n g1 68) A := (k1 68 (by omega)).tr h3
    have hd : e / 2 ^ q = e / 2 ^ (q + 1) + e / 2 ^ (q + 1) + e / 2 ^ q % 2 := by
      rw [Nat.pow_succ, ← Nat.div_div_eq_div_mul]
      omega
    dsimp only
    rcases (show e / 2 ^ q % 2 = 0 ∨ e / 2 ^ q % 2 = 1 by omega) with hb | hb
    · rw [hb, if_pos (by decide)]
      rw [hb, Nat.add_zero] at hd
      rw [← hd] at hsq
      obtain ⟨g', h', e2, k2, m2⟩ := ih fu g1 h1' (by omega) (by omega) hf hsq
      exact ⟨g', h', e2, fun r' hr' => (k2 r' hr').tr (k1 r' hr'), m2⟩
    · rw [hb, if_neg (by decide)]
      rw [hb] at hd
      obtain ⟨g2, h2', e3, k3, m3⟩ := mul g1 h1' r 68 (by omega) (by omega) (ltM_congr hsq (powM_lt hP _)) (ltM_congr hf hA)
      rw [show (68 : Int32) = nI 68 from rfl, e3, ob_some]
      have hsq2 : eqM n (cM n g2 r) (powM n P A (e / 2 ^ q)) := by
        rw [hd]
        exact m3.tr (mulM_congr hsq hf)
      obtain ⟨g', h', e2, k2, m2⟩ := ih fu g2 h2' (by omega) (by omega) ((k3 68 (by omega)).tr hf) hsq2
      exact ⟨g', h', e2, fun r' hr' => (k2 r' hr').tr ((k3 r' hr').tr (k1 r' hr')), m2⟩
theorem p_raise (hn4 : n ≤ 4) (hP : 1 < P) (hP2 : P ≤ 97) (hr : r < 68) (he : e < 100) {g h : Nat → Nat} (hA : ltM n P (cM n g r)) :
    ∃ g' h' : Nat → Nat, f_M_raise (70 * (n * n)) (n * n) (nI P) (nI n) (nI (n * n)) (zN g) (zN h) (nI r) (nI e) = some (zN g', zN h') ∧ (∀ r', r' ≠ r → r' ≠ 68 → eqM n (cM n g' r') (cM n g r')) ∧ eqM n (cM n g' r) (powM n P (cM n g r) e) := by
  have hs : n * n ≤ 4 * 4 := Nat.mul_le_mul hn4 hn4
  rw [f_M_raise]
  by_cases h0 : e = 0
  · subst h0
    rw [if_pos (by decide), p_makeOne hn4 rfl hP hP2 (reg_le (by omega)) (by omega), ob_some]
    refine ⟨_, _, rfl, fun r' hr' _ i j hi hj => ?_, fun i j hi hj => ?_⟩
    · rw [cM_set i j hi hj, if_neg hr']
    · rw [cM_set i j hi hj, if_pos rfl]
      show oneC n n (i * n + j) = oneM i j
      unfold oneM oneC
      rw [div_cell hj, mod_cell hj]
      by_cases e : i = j
      · rw [if_pos ⟨e, hi⟩, if_pos e]
      · rw [if_neg (fun q => e q.1), if_neg e]
  · obtain ⟨l1, l2, l3⟩ := log_ok ⟨e, he⟩ h0
    dsimp only at l1 l2 l3
    rw [if_neg (nI_ne0 (by omega) (by omega)), show (68 : Int32) = nI 68 from rfl, p_copy (reg_le (by omega)) (reg_le (by omega)) (by omega), ob_some, topDigit_ok ⟨e, he⟩, ob_some, nm]
    dsimp only
    rw [l3]
    have c1 : eqM n (cM n (setR (n * n) g 68 (fun c => g (r * (n * n) + c))) 68) (cM n g r) := fun i j hi hj => by
      rw [cM_set i j hi hj, if_pos rfl]
      unfold cM
      rw [Nat.add_assoc]
    have c2 : ∀ r', r' ≠ 68 → eqM n (cM n (setR (n * n) g 68 (fun c => g (r * (n * n) + c))) r') (cM n g r') := fun r' hr' i j hi hj => by
      rw [cM_set i j hi hj, if_neg hr']
    obtain ⟨g', h', e2, k2, m2⟩ := p_raise_24 (h := h) hn4 hP hP2 hr he hA (Nat.log2 e) zFU _ l1 (by unfold zFU; omega) c1 (by
      rw [l2]
      exact (c2 r (by omega)).tr (powM_1 hA).sy)
    exact ⟨g', h', e2, fun r' h1 h2 => (k2 r' h1).tr (c2 r' h2), m2⟩
/-- the reference's loop: outcome times factor to the t is the power -/
theorem p_nraise_18 (hn : 0 < n) (hn4 : n ≤ 4) (hP : 1 < P) (hP2 : P ≤ 97) (hr : r < 29) : ∀ (k e fu : Nat) (t : Nat → Nat), e < 2 ^ k → k ≤ 30 → k < fu → ltM n P (nM t r) → ltM n P (nM t 30) →
    ∃ t' : Nat → Nat, f_N_raise_18 (nI P) (nI n) (nI r) fu (nI e) (zN t) = some (zN t') ∧ (∀ r', r' ≠ r → r' ≠ 29 → r' ≠ 30 → eqM n (nM t' r') (nM t r')) ∧ eqM n (nM t' r) (mulM n P (nM t r) (powM n P (nM t 30) e)) := by
  intro k
  induction k with
  | zero =>
    intro e fu t h1 _ h2 h3 h4
    obtain rfl : e = 0 := by omega
    obtain ⟨fu, rfl⟩ : ∃ z, fu = z + 1 := ⟨fu - 1, by omega⟩
    rw [f_N_raise_18, if_pos (by decide)]
    exact ⟨t, rfl, fun _ _ _ _ => eqM.rf, (mulM_1r h3).sy⟩
  | succ k ih =>
    intro e fu t h1 hk h2 h3 h4
    obtain ⟨fu, rfl⟩ : ∃ z, fu = z + 1 := ⟨fu - 1, by omega⟩
    have hpk : 2 ^ (k + 1) ≤ 2 ^ 30 := Nat.pow_le_pow_right (by decide) hk
    rw [f_N_raise_18]
    by_cases h0 : e = 0
    · subst h0
      rw [if_pos (by decide)]
      exact ⟨t, rfl, fun _ _ _ _ => eqM.rf, (mulM_1r h3).sy⟩
    · have hz : nI e / (2 : Int32) = nI (e / 2) := pk_div (d := 2) (by omega) (by decide) (by decide)
      rw [if_neg (nI_nle (by omega) (by omega)), show (2 : Int32) = nI 2 from rfl, zremN (by omega) (by omega) (by omega)]
      have h2e : e / 2 < 2 ^ k := by rw [Nat.pow_succ] at h1; omega
      -- the square
      have sq : ∀ t : Nat → Nat, ltM n P (nM t r) → ltM n P (nM t 30) → ∃ t' : Nat → Nat, f_N_raise_39 (nI P) (nI n) (f_N_raise_18 (nI P) (nI n) (nI r) fu) (nI e) (zN t) = some (zN t') ∧ (∀ r', r' ≠ r → r' ≠ 29 → r' ≠ 30 → eqM n (nM t' r') (nM t r')) ∧ eqM n (nM t' r) (mulM n P (nM t r) (powM n P (nM t 30) (2 * (e / 2)))) := by
        intro t h3 h4
        obtain ⟨t1, e1, k1, m1⟩ := p_operate (t := t) (o := 5) (a := 30) (b := 30) (x := 0) (r := 30) hn hn4 hP hP2 (by omega) (by omega) (fun _ => ⟨by omega, by omega, h4⟩) (fun _ _ => ⟨by omega, by omega, h4⟩) (fun h => by omega) (fun h => by omega)
        have m1 : eqM n (nM t1 30) (mulM n P (nM t 30) (nM t 30)) := m1
        obtain ⟨t2, e2, k2, m2⟩ := ih (e / 2) fu t1 h2e (by omega) (by omega) (ltM_congr (k1 r (by omega) (by omega)) h3) (ltM_congr m1 (mulM_lt (by omega)))
        refine ⟨t2, ?_, fun r' a1 a2 a3 => (k2 r' a1 a2 a3).tr (k1 r' a3 a2), m2.tr (mulM_congr (k1 r (by omega) (by omega)) ((powM_congr m1 _).tr (powM_sq hP _)))⟩
        rw [f_N_raise_39]
        rw [show (5 : Int32) = nI 5 from rfl, show (30 : Int32) = nI 30 from rfl, show (0 : Int32) = nI 0 from rfl, e1, ob_some, nm, hz, e2]
      rcases (show e % 2 = 0 ∨ e % 2 = 1 by omega) with hb | hb
      · rw [hb, if_neg (by decide)]
        obtain ⟨t', e2, k2, m2⟩ := sq t h3 h4
        rw [show 2 * (e / 2) = e by omega] at m2
        exact ⟨t', e2, k2, m2⟩
      · rw [hb, if_pos (by decide)]
        obtain ⟨t1, e1, k1, m1⟩ := p_operate (t := t) (o := 5) (a := r) (b := 30) (x := 0) (r := r) hn hn4 hP hP2 (by omega) (by omega) (fun _ => ⟨by omega, by omega, h3⟩) (fun _ _ => ⟨by omega, by omega, h4⟩) (fun h => by omega) (fun h => by omega)
        have m1 : eqM n (nM t1 r) (mulM n P (nM t r) (nM t 30)) := m1
        have k30 : eqM n (nM t1 30) (nM t 30) := k1 30 (by omega) (by omega)
        obtain ⟨t', e2, k2, m2⟩ := sq t1 (ltM_congr m1 (mulM_lt (by omega))) (ltM_congr k30 h4)
        rw [show (5 : Int32) = nI 5 from rfl, show (30 : Int32) = nI 30 from rfl, show (0 : Int32) = nI 0 from rfl, e1, ob_some, e2]
        refine ⟨t', rfl, fun r' a1 a2 a3 => (k2 r' a1 a2 a3).tr (k1 r' a1 a2), m2.tr ?_⟩
        refine (mulM_congr m1 (powM_congr k30 _)).tr (mulM_assoc.tr (mulM_congr eqM.rf ?_))
        refine (mulM_congr (powM_1 h4).sy eqM.rf).tr ((powM_add hP 1 _).tr ?_)
        rw [show 1 + 2 * (e / 2) = e by omega]
        exact eqM.rf
theorem p_nraise (hn : 0 < n) (hn4 : n ≤ 4) (hP : 1 < P) (hP2 : P ≤ 97) (hr : r < 29) (he : e < 100) {t : Nat → Nat} (hA : ltM n P (nM t r)) :
    ∃ t' : Nat → Nat, f_N_raise (nI P) (nI n) (zN t) (nI r) (nI e) = some (zN t') ∧ (∀ r', r' ≠ r → r' ≠ 29 → r' ≠ 30 → eqM n (nM t' r') (nM t r')) ∧ eqM n (nM t' r) (powM n P (nM t r) e) := by
  have c1 : eqM n (nM (setR 16 t 30 (fun c => t (r * 16 + c))) 30) (nM t r) := fun i j hi hj => by
    show setR 16 t 30 _ (16 * 30 + 4 * i + j) = t (16 * r + 4 * i + j)
    rw [Nat.add_assoc, Nat.mul_comm 16 30, setR_same (by omega), Nat.mul_comm r 16, ← Nat.add_assoc]
  have c2 : ∀ r', r' ≠ 30 → eqM n (nM (setR 16 t 30 (fun c => t (r * 16 + c))) r') (nM t r') := fun r' hr' i j hi hj => by
    show setR 16 t 30 _ (16 * r' + 4 * i + j) = t (16 * r' + 4 * i + j)
    rw [Nat.add_assoc, Nat.mul_comm 16 r', setR_other (by omega) hr']
  obtain ⟨t1, e1, k1, m1⟩ := p_operate (t := setR 16 t 30 (fun c => t (r * 16 + c))) (o := 1) (a := 0) (b := 0) (x := 0) (r := r) hn hn4 hP hP2 (by omega) (by omega) (fun h => by omega) (fun h => by omega) (fun h => by omega) (fun h => by omega)
  have m1 : eqM n (nM t1 r) oneM := m1
  have k30 : eqM n (nM t1 30) (nM t r) := (k1 30 (by omega) (by omega)).tr c1
  obtain ⟨t2, e2, k2, m2⟩ := p_nraise_18 (e := e) (fu := zFU) (t := t1) hn hn4 hP hP2 hr 7 (by omega) (by omega) (by unfold zFU; omega) (ltM_congr m1 (oneM_lt hP)) (ltM_congr k30 hA)
  refine ⟨t2, ?_, fun r' a1 a2 a3 => (k2 r' a1 a2 a3).tr ((k1 r' a1 a2).tr (c2 r' a3)), m2.tr ((mulM_congr m1 (powM_congr k30 _)).tr (mulM_1l (powM_lt hP _)))⟩
  rw [f_N_raise, show (30 : Int32) = nI 30 from rfl, p_ncopy (by omega) (by omega), ob_some, show (1 : Int32) = nI 1 from rfl, show (0 : Int32) = nI 0 from rfl, e1, ob_some, e2]
end Raise
