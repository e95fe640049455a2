/-! Pure side: numbers as nI of naturals, arrays as nI of a function, regions of an array. -/
def zN (g : Nat → Nat) : Nat → Int32 := fun k => nI (g k)
def updN (g : Nat → Nat) (i v : Nat) : Nat → Nat := fun k => if k = i then v else g k
theorem upd_zN (g : Nat → Nat) (i v : Nat) : upd (zN g) i (nI v) = zN (updN g i v) := by
  funext k
  unfold upd updN zN
  by_cases h : k = i
  · rw [if_pos h]; dsimp only; rw [if_pos h]
  · rw [if_neg h]; dsimp only; rw [if_neg h]
theorem zN_at (g : Nat → Nat) (k : Nat) : zN g k = nI (g k) := rfl
theorem gdN {β : Type} {i n : Nat} {k : Option β} (h : i < n) (hn : n < 2 ^ 31) : gd (nI i) n k = k := if_neg (nI_in h hn)
theorem nzN {β : Type} {y : Nat} {k : Option β} (h : 0 < y) (hy : y < 2 ^ 31) : nz (nI y) k = k := if_neg (nI_ne0 h hy)
theorem zremN {a d : Nat} (ha : a < 2 ^ 31) (h0 : 0 < d) (hd : d < 2 ^ 31) : zrem (nI a) (nI d) = nI (a % d) := pk_rem ha h0 hd
theorem cpgN {β : Type} {a b n n0 n1 : Nat} {k : Option β} (h0 : a + n ≤ n0) (h1 : b + n ≤ n1) (hn0 : n0 < 2 ^ 31) (hn1 : n1 < 2 ^ 31) : cpg (nI a) (nI b) (nI n) n0 n1 k = k := by
  unfold cpg
  rw [if_neg]
  rw [nI_clamp (by omega), nI_clamp (by omega), nI_clamp (by omega)]
  rintro (h | h | h | h | h)
  · exact nI_pos (by omega) h
  · exact nI_pos (by omega) h
  · exact nI_pos (by omega) h
  · omega
  · omega
def setR (sz : Nat) (g : Nat → Nat) (r : Nat) (h : Nat → Nat) : Nat → Nat := fun k => if r * sz ≤ k ∧ k < r * sz + sz then h (k - r * sz) else g k
theorem setR_same {sz r c : Nat} {g h : Nat → Nat} (hc : c < sz) : setR sz g r h (r * sz + c) = h c := by
  unfold setR
  rw [if_pos ⟨by omega, by omega⟩]
  congr 1
  omega
theorem setR_other {sz r r' c : Nat} {g h : Nat → Nat} (hc : c < sz) (hr : r' ≠ r) : setR sz g r h (r' * sz + c) = g (r' * sz + c) := by
  unfold setR
  rw [if_neg]
  rintro ⟨h1, h2⟩
  rcases Nat.lt_or_gt_of_ne hr with h3 | h3
  · have : (r' + 1) * sz ≤ r * sz := Nat.mul_le_mul_right sz h3
    rw [Nat.add_mul] at this
    omega
  · have : (r + 1) * sz ≤ r' * sz := Nat.mul_le_mul_right sz h3
    rw [Nat.add_mul] at this
    omega
theorem ob_some {α β : Type} (a : α) (f : α → Option β) : (some a).bind f = f a := rfl
theorem cell_lt {n i j : Nat} (hi : i < n) (hj : j < n) : i * n + j < n * n := by
  have h : (i + 1) * n ≤ n * n := Nat.mul_le_mul_right n hi
  rw [Nat.add_mul] at h
  omega
theorem reg_lt {sz r N c : Nat} (hr : r < N) (hc : c < sz) : r * sz + c < N * sz := by
  have h : (r + 1) * sz ≤ N * sz := Nat.mul_le_mul_right sz hr
  rw [Nat.add_mul] at h
  omega
theorem reg_le {sz r N : Nat} (hr : r < N) : r * sz + sz ≤ N * sz := by
  have h : (r + 1) * sz ≤ N * sz := Nat.mul_le_mul_right sz hr
  rw [Nat.add_mul] at h
  omega
theorem div_cell {n i j : Nat} (hj : j < n) : (i * n + j) / n = i := by
  rw [Nat.mul_comm, Nat.mul_add_div (by omega), Nat.div_eq_of_lt hj, Nat.add_zero]
theorem mod_cell {n i j : Nat} (hj : j < n) : (i * n + j) % n = j := by
  rw [Nat.mul_comm, Nat.mul_add_mod, Nat.mod_eq_of_lt hj]
def sumN (f : Nat → Nat) : Nat → Nat
  | 0 => 0
  | n + 1 => sumN f n + f n
theorem sumN_le {f : Nat → Nat} {B n : Nat} (h : ∀ t, t < n → f t ≤ B) : sumN f n ≤ n * B := by
  induction n with
  | zero => exact Nat.zero_le _
  | succ n ih =>
    have h1 := ih (fun t ht => h t (by omega))
    have h2 := h n (by omega)
    rw [Nat.add_mul]
    show sumN f n + f n ≤ _
    omega
theorem sumN_congr {f g : Nat → Nat} {n : Nat} (h : ∀ t, t < n → f t = g t) : sumN f n = sumN g n := by
  induction n with
  | zero => rfl
  | succ n ih =>
    show sumN f n + f n = sumN g n + g n
    rw [ih (fun t ht => h t (by omega)), h n (by omega)]
def fill0 (h C : Nat → Nat) (m : Nat) : Nat → Nat := fun k => if k < m then C k else h k
theorem fill0_0 {h C : Nat → Nat} : fill0 h C 0 = h := by funext k; unfold fill0; rw [if_neg (by omega)]
theorem fill0_step {h C : Nat → Nat} {m : Nat} : updN (fill0 h C m) m (C m) = fill0 h C (m + 1) := by
  funext k
  unfold updN fill0
  by_cases hk : k = m
  · subst hk; rw [if_pos rfl, if_pos (by omega)]
  · rw [if_neg hk]
    by_cases h2 : k < m
    · rw [if_pos h2, if_pos (by omega)]
    · rw [if_neg h2, if_neg (by omega)]
/-- the remainder of any int, never negative -/
def fm (v : Int32) (P : Nat) : Nat := (v.toInt % (P : Int)).toNat
theorem fm_lt {v : Int32} {P : Nat} (hP : 0 < P) : fm v P < P := by
  unfold fm
  have h1 := Int.emod_nonneg v.toInt (show (P : Int) ≠ 0 by omega)
  have h2 := Int.emod_lt_of_pos v.toInt (show (0 : Int) < P by omega)
  omega
theorem zrem_toInt {v : Int32} {P : Nat} (hP : 0 < P) (hP2 : P ≤ 100) : (zrem v (nI P)).toInt = v.toInt.tmod P := by
  have hp : (nI P).toInt = (P : Int) := nI_toInt (by omega)
  have hne : nI P ≠ -1 := fun h => by
    have h2 := congrArg Int32.toInt h
    rw [hp, show (-1 : Int32).toInt = -1 from rfl] at h2
    omega
  have hd : (v / nI P).toInt = v.toInt.tdiv P := by rw [Int32.toInt_div_of_ne_right _ _ hne, hp]
  have hn : (v.toInt.tmod P).natAbs < P := by
    rw [Int.natAbs_tmod]
    exact Nat.mod_lt _ hP
  unfold zrem
  rw [Int32.toInt_sub, Int32.toInt_mul, hd, hp, Int.sub_bmod_bmod, Int.mul_comm, ← Int.tmod_def]
  exact Int.bmod_eq_of_le (by omega) (by omega)
theorem i32_eq {x : Int32} {k : Nat} (hk : k < 2 ^ 31) (h : x.toInt = k) : x = nI k := Int32.toInt_inj.mp (by rw [h, nI_toInt hk])
theorem fm_of {v : Int32} {P : Nat} (hP : 0 < P) (hP2 : P ≤ 100) (h0 : 0 ≤ (zrem v (nI P)).toInt ) (h1 : 0 ≤ v.toInt ∨ (zrem v (nI P)).toInt = 0) : zrem v (nI P) = nI (fm v P) := by
  have hf := fm_lt (v := v) hP
  have hr := zrem_toInt (v := v) hP hP2
  refine i32_eq (by omega) ?_
  rw [hr] at h0 h1 ⊢
  have h3 := Int.emod_nonneg v.toInt (show (P : Int) ≠ 0 by omega)
  have h4 : v.toInt.tmod P = v.toInt % P := by
    rcases h1 with h1 | h1
    · exact Int.tmod_eq_emod_of_nonneg h1
    · rw [h1]
      have := Int.tmod_add_mul_tdiv v.toInt P
      rw [h1, Int.zero_add] at this
      rw [← this]
      simp
  rw [h4]
  unfold fm
  omega
theorem fm_neg {v : Int32} {P : Nat} (hP : 0 < P) (hP2 : P ≤ 100) (h1 : (zrem v (nI P)).toInt < 0) : zrem v (nI P) + nI P = nI (fm v P) := by
  have hf := fm_lt (v := v) hP
  have hr := zrem_toInt (v := v) hP hP2
  have hp : (nI P).toInt = (P : Int) := nI_toInt (by omega)
  have hn : (v.toInt.tmod P).natAbs < P := by
    rw [Int.natAbs_tmod]
    exact Nat.mod_lt _ hP
  refine i32_eq (by omega) ?_
  rw [Int32.toInt_add, hp, hr]
  rw [hr] at h1
  have e : v.toInt % P = v.toInt.tmod P + P := by
    have h5 := Int.tmod_add_mul_tdiv v.toInt P
    have h6 : v.toInt = (v.toInt.tmod P + P) + P * (v.toInt.tdiv P - 1) := by
      rw [Int.mul_sub, Int.mul_one]; omega
    rw [h6, Int.add_mul_emod_self_left, ← h6]
    exact Int.emod_eq_of_lt (by omega) (by omega)
  rw [Int.bmod_eq_of_le (by omega) (by omega), ← e]
  unfold fm
  have h3 := Int.emod_nonneg v.toInt (show (P : Int) ≠ 0 by omega)
  omega
theorem zrem_sign {v : Int32} {P : Nat} (hP : 0 < P) (hP2 : P ≤ 100) : (0 ≤ v.toInt → 0 ≤ (zrem v (nI P)).toInt) ∧ (v.toInt < 0 → (zrem v (nI P)).toInt ≤ 0) := by
  rw [zrem_toInt hP hP2]
  refine ⟨fun h => Int.tmod_nonneg _ h, fun h => ?_⟩
  have h2 : 0 ≤ (-v.toInt).tmod P := Int.tmod_nonneg _ (by omega)
  rw [Int.neg_tmod] at h2
  omega
theorem p_mod {v : Int32} {P : Nat} (hP : 0 < P) (hP2 : P ≤ 100) : f_N_mod (nI P) v = some (nI (fm v P)) := by
  obtain ⟨s1, s2⟩ := zrem_sign (v := v) hP hP2
  rw [f_N_mod, nzN hP (by omega), nm]
  by_cases h : 0 ≤ zrem v (nI P)
  · have h0 : 0 ≤ (zrem v (nI P)).toInt := Int32.le_iff_toInt_le.mp h
    rw [if_pos h, fm_of hP hP2 h0 (by omega)]
  · have h0 : ¬ 0 ≤ (zrem v (nI P)).toInt := fun q => h (Int32.le_iff_toInt_le.mpr q)
    rw [if_neg h, fm_neg hP hP2 (by omega)]
theorem xor_sign {x y : Int32} (hy : 0 ≤ y.toInt) : 0 ≤ x ^^^ y ↔ 0 ≤ x.toInt := by
  have h : ∀ z : Int32, 0 ≤ z.toInt ↔ z.toBitVec.msb = false := fun z => by
    show 0 ≤ z.toBitVec.toInt ↔ _
    rw [BitVec.msb_eq_toInt]
    simp
  have hy2 := (h y).mp hy
  rw [Int32.le_iff_toInt_le]
  show 0 ≤ (x ^^^ y).toInt ↔ _
  rw [h, h, Int32.toBitVec_xor, BitVec.msb_xor, hy2]
  simp
theorem p_floorMod {v : Int32} {P : Nat} (hP : 0 < P) (hP2 : P ≤ 100) : f_JM_floorMod v (nI P) = some (nI (fm v P)) := by
  obtain ⟨s1, s2⟩ := zrem_sign (v := v) hP hP2
  have hp : (nI P).toInt = (P : Int) := nI_toInt (by omega)
  rw [f_JM_floorMod, nzN hP (by omega), nm]
  by_cases h : 0 ≤ v ^^^ nI P
  · have h0 := (xor_sign (by rw [hp]; omega)).mp h
    rw [if_pos h, fm_of hP hP2 (s1 h0) (Or.inl h0)]
  · have h0 : ¬ 0 ≤ v.toInt := fun q => h ((xor_sign (by rw [hp]; omega)).mpr q)
    rw [if_neg h]
    by_cases hz : zrem v (nI P) = 0
    · have hz2 : (zrem v (nI P)).toInt = 0 := by rw [hz]; rfl
      rw [if_pos hz, fm_of hP hP2 (by omega) (Or.inr hz2)]
    · have hz2 : (zrem v (nI P)).toInt ≠ 0 := fun q => hz (Int32.toInt_inj.mp (q.trans (show (0 : Int) = (0 : Int32).toInt from rfl)))
      have h3 := s2 (by omega)
      rw [if_neg hz, fm_neg hP hP2 (by omega)]
theorem fm_nI {a P : Nat} (ha : a < 2 ^ 31) : fm (nI a) P = a % P := by
  unfold fm
  rw [nI_toInt ha]
  omega
