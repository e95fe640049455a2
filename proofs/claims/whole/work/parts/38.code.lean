/-! Code: the class's packed instructions and the reference's four rows; compiling. -/
theorem totS_le {W : Nat → Int32} : ∀ m k, totS W m k ≤ 13 * m
  | 0, _ => Nat.le_refl _
  | m + 1, k => by
    have h1 := totS_le (W := W) m (k + 1)
    have h2 := stp_le (v := (W k).toNatClampNeg)
    show stp (W k).toNatClampNeg + totS W m (k + 1) ≤ _
    omega
theorem need_ok {W : Nat → Int32} {w : Nat} (hw : w ≤ 24) : ∀ (m k th s fu : Nat), k + m = w → okS W m k th → m < fu → s ≤ 13 * k →
    f_R_instructionsNeeded_4 W (nI w) fu (nI s) (nI k) = some (nI (s + totS W m k)) := by
  intro m
  induction m with
  | zero =>
    intro k th s fu h1 h2 h3 h4
    obtain ⟨fu, rfl⟩ : ∃ z, fu = z + 1 := ⟨fu - 1, by omega⟩
    obtain rfl : k = w := by omega
    rw [f_R_instructionsNeeded_4, if_pos (nI_le (Nat.le_refl _) (by omega))]
    rfl
  | succ m ih =>
    intro k th s fu h1 h2 h3 h4
    obtain ⟨fu, rfl⟩ : ∃ z, fu = z + 1 := ⟨fu - 1, by omega⟩
    obtain ⟨v, hW, hv, hok, ha, hS⟩ := h2
    have hk : k < 24 := by omega
    have hl := stp_le (v := v)
    have e : totS W (m + 1) k = stp v + totS W m (k + 1) := by
      show stp (W k).toNatClampNeg + _ = _
      rw [hW, nI_clamp (by omega)]
    rw [f_R_instructionsNeeded_4, if_neg (nI_ge (by omega) (by omega)), p_Rop hk hv hW, ob_some]
    simp only [nm]
    have hi := ih (k + 1) _ (s + stp v) fu (by omega) hS (by omega) (by omega)
    rw [e, ← Nat.add_assoc]
    by_cases h8 : v / 100 = 8
    · have es : stp v = pst (v % 100) := by unfold stp; rw [if_pos h8]
      rw [h8, if_pos (by decide), p_Rnum hk hv hW, ob_some, rpow_ok ⟨v % 100, Nat.mod_lt _ (by decide)⟩, ob_some]
      dsimp only
      rw [nI_add, nI_1, ← es, hi]
    · have es : stp v = 1 := by unfold stp; rw [if_neg h8]
      rw [if_neg (show ¬ nI (v / 100) = (8 : Int32) from fun q => h8 ((nI_eq (by omega) (by decide)).mp q)), nI_1, nI_1]
      rw [es] at hi ⊢
      exact hi
theorem steps_ok {W : Nat → Int32} {w : Nat} (hw : w ≤ 24) (c1 c2 : Int32) (f1 f2 f3 f4 : Nat → Int32) (c3 c4 : Int32) (f5 : Nat → Int32) : ∀ (m k th s fu : Nat), k + m = w → okS W m k th → m < fu → s ≤ 13 * k →
    f_N_compile_9 (nI w) W (nI 0) c1 c2 f1 f2 f3 f4 c3 c4 f5 fu (nI s) (nI k) = f_N_compile_39 (nI w) W (nI 0) (nI (s + totS W m k)) c1 c2 f1 f2 f3 f4 c3 c4 f5 := by
  intro m
  induction m with
  | zero =>
    intro k th s fu h1 h2 h3 h4
    obtain ⟨fu, rfl⟩ : ∃ z, fu = z + 1 := ⟨fu - 1, by omega⟩
    obtain rfl : k = w := by omega
    rw [f_N_compile_9, if_pos (nI_le (Nat.le_refl _) (by omega))]
    rfl
  | succ m ih =>
    intro k th s fu h1 h2 h3 h4
    obtain ⟨fu, rfl⟩ : ∃ z, fu = z + 1 := ⟨fu - 1, by omega⟩
    obtain ⟨v, hW, hv, hok, ha, hS⟩ := h2
    have hk : k < 24 := by omega
    have hl := stp_le (v := v)
    have e : totS W (m + 1) k = stp v + totS W m (k + 1) := by
      show stp (W k).toNatClampNeg + _ = _
      rw [hW, nI_clamp (by omega)]
    have hs := nstep_ok ⟨v, hv⟩ hok
    dsimp only at hs
    rw [f_N_compile_9, if_neg (nI_ge (by omega) (by omega)), if_pos (by decide), gdN hk (by decide), nI_clamp (by omega), hW, hs, ob_some]
    simp only [nm]
    rw [nI_add, nI_1, ih (k + 1) _ (s + stp v) fu (by omega) hS (by omega) (by omega), e, Nat.add_assoc]
def pkI (o a b x : Nat) : Nat := 10000 * o + 100 * a + (if 3 ≤ o ∧ o ≤ 5 then b else x)
def VI (k o a b x : Nat) : Prop := o ≤ 7 ∧ (o = 0 → x < 4) ∧ (o ≤ 2 → a = 0 ∧ b = 0) ∧ (o = 1 ∨ o = 2 → x = 0) ∧ (3 ≤ o → a < k) ∧ (3 ≤ o ∧ o ≤ 5 → b < k ∧ x = 0) ∧ (6 ≤ o → b = 0) ∧ (o = 6 → x = 0) ∧ (o = 7 → x < 100)
def CR (n : Nat) (ci op a b x : Nat → Nat) : Prop := ∀ k, k < n → ci k = pkI (op k) (a k) (b k) (x k) ∧ VI k (op k) (a k) (b k) (x k)
theorem CR_push {n : Nat} {ci op a b x : Nat → Nat} {o a1 b1 x1 : Nat} (h : CR n ci op a b x) (hv : VI n o a1 b1 x1) : CR (n + 1) (updN ci n (pkI o a1 b1 x1)) (updN op n o) (updN a n a1) (updN b n b1) (updN x n x1) := by
  intro k hk
  unfold updN
  by_cases e : k = n
  · subst e
    simp only [if_true]
    exact ⟨trivial, hv⟩
  · simp only [if_neg e]
    exact h k (by omega)
theorem p_append {n o a b : Nat} {ci : Nat → Nat} (hn : n < 40) : f_C_append (zN ci) (nI n) (nI o) (nI a) (nI b) = some (nI n, zN (updN ci n (10000 * o + 100 * a + b)), nI (n + 1)) := by
  rw [f_C_append, f_C_packed, ob_some, gdN hn (by decide), nI_clamp (by omega), nI_1, nI_pred, show (100 : Int32) = nI 100 from rfl, pk_mul, nI_add, pk_mul, nI_add, upd_zN, show (o * 100 + a) * 100 + b = 10000 * o + 100 * a + b by omega]
theorem p_write {n o a1 b1 x1 : Nat} {op a b x : Nat → Nat} (hn : n < 48) : f_N_write (nI n) (zN op) (zN a) (zN b) (zN x) (nI o) (nI a1) (nI b1) (nI x1) = some (nI n, nI (n + 1), zN (updN op n o), zN (updN a n a1), zN (updN b n b1), zN (updN x n x1)) := by
  rw [f_N_write, gdN hn (by decide), gdN hn (by decide), gdN hn (by decide), gdN hn (by decide), nI_clamp (by omega), nI_1, nI_pred, upd_zN, upd_zN, upd_zN, upd_zN]
def cntB (e : Nat) : Nat → Nat
  | 0 => 0
  | q + 1 => cntB e q + 1 + e / 2 ^ q % 2
theorem cnt_pst : ∀ e : Fin 100, e.val ≠ 0 → cntB e (Nat.log2 e) = pst e := by decide +kernel
theorem high_ok : ∀ e : Fin 100, e.val ≠ 0 → f_N_highest (nI e) = some (nI (2 ^ Nat.log2 e)) := by decide +kernel
theorem bit_ok : ∀ e : Fin 100, ∀ p : Fin 7, (nI e &&& nI (2 ^ p.val) = 0) ↔ e.val / 2 ^ p.val % 2 = 0 := by decide +kernel
theorem half_ok : ∀ p : Fin 8, nI (2 ^ p.val) / (2 : Int32) = nI (2 ^ p.val / 2) := by decide +kernel
theorem pow_eq {reg e : Nat} (he : e < 100) : ∀ (q fu n pw : Nat) (ci op a b x : Nat → Nat), q < 7 → q < fu → CR n ci op a b x → pw < n → reg < n → n + cntB e q ≤ 40 →
    ∃ (n' pw' : Nat) (ci' op' a' b' x' : Nat → Nat), f_P_powerOf_22 (nI reg) (nI e) fu (nI pw) (nI q + (-1)) (zN ci) (nI n) = some (nI pw', zN ci', nI n') ∧ f_N_writePower_23 (nI reg) (nI e) fu (nI pw) (nI (2 ^ q / 2)) (nI n) (zN op) (zN a) (zN b) (zN x) = some (nI pw', nI n', zN op', zN a', zN b', zN x') ∧ CR n' ci' op' a' b' x' ∧ n' = n + cntB e q ∧ (q = 0 ∧ pw' = pw ∨ pw' + 1 = n') := by
  intro q
  induction q with
  | zero =>
    intro fu n pw ci op a b x h1 h2 h3 h4 h5 h6
    obtain ⟨fu, rfl⟩ : ∃ z, fu = z + 1 := ⟨fu - 1, by omega⟩
    exact ⟨n, pw, ci, op, a, b, x, by rw [f_P_powerOf_22, if_pos (by decide)], by rw [f_N_writePower_23, if_pos (by decide)], h3, rfl, Or.inl ⟨rfl, rfl⟩⟩
  | succ q ih =>
    intro fu n pw ci op a b x h1 h2 h3 h4 h5 h6
    obtain ⟨fu, rfl⟩ : ∃ z, fu = z + 1 := ⟨fu - 1, by omega⟩
    have hc : cntB e (q + 1) = cntB e q + 1 + e / 2 ^ q % 2 := rfl
    have hp : 2 ^ (q + 1) / 2 = 2 ^ q := by rw [Nat.pow_succ]; omega
    have hq0 : 0 < 2 ^ q := Nat.pow_pos (by decide)
    have hq1 : 2 ^ q ≤ 2 ^ 7 := Nat.pow_le_pow_right (by decide) (by omega)
    have hd := isDigit_ok ⟨e, he⟩ ⟨q, by omega⟩
    have hb : (nI e &&& nI (2 ^ q) = nI 0) ↔ e / 2 ^ q % 2 = 0 := bit_ok ⟨e, he⟩ ⟨q, by omega⟩
    have hcz : q = 0 → cntB e q = 0 := fun h => by subst h; rfl
    have hh := half_ok ⟨q, by omega⟩
    dsimp only at hd hh
    have hv : VI n 5 pw pw 0 := ⟨by omega, by omega, by omega, by omega, fun _ => h4, fun _ => ⟨h4, rfl⟩, by omega, by omega, by omega⟩
    have c1 := CR_push h3 hv
    rw [f_P_powerOf_22, f_N_writePower_23, pk_m1, if_neg (nI_pos (by omega)), hp, if_neg (nI_nle hq0 (by omega)), show (5 : Int32) = nI 5 from rfl, p_append (by omega), ob_some, hd, ob_some, show (0 : Int32) = nI 0 from rfl, p_write (by omega), ob_some]
    simp only [nm]
    rw [hh]
    have e5 : pkI 5 pw pw 0 = 10000 * 5 + 100 * pw + pw := rfl
    rw [e5] at c1
    rcases (show e / 2 ^ q % 2 = 0 ∨ e / 2 ^ q % 2 = 1 by omega) with hz | hz
    · rw [hz, if_pos (show nI 0 = nI 0 from rfl), if_pos (hb.mpr hz)]
      obtain ⟨n', pw', ci', op', a', b', x', r1, r2, r3, r4, r5⟩ := ih fu (n + 1) n _ _ _ _ _ (by omega) (by omega) c1 (by omega) (by omega) (by omega)
      exact ⟨n', pw', ci', op', a', b', x', r1, r2, r3, by omega, Or.inr (by rcases r5 with ⟨h, h'⟩ | h; (have := hcz h; omega); exact h)⟩
    · have hne : ¬ (nI e &&& nI (2 ^ q) = nI 0) := fun z => by
        have := hb.mp z
        omega
      rw [hz, if_neg (by decide), if_neg hne, p_append (by omega), ob_some, p_write (by omega), ob_some]
      have hv2 : VI (n + 1) 5 n reg 0 := ⟨by omega, by omega, by omega, by omega, fun _ => by omega, fun _ => ⟨by omega, rfl⟩, by omega, by omega, by omega⟩
      have c2 := CR_push c1 hv2
      rw [show pkI 5 n reg 0 = 10000 * 5 + 100 * n + reg from rfl] at c2
      obtain ⟨n', pw', ci', op', a', b', x', r1, r2, r3, r4, r5⟩ := ih fu (n + 2) (n + 1) _ _ _ _ _ (by omega) (by omega) c2 (by omega) (by omega) (by omega)
      exact ⟨n', pw', ci', op', a', b', x', r1, r2, r3, by omega, Or.inr (by rcases r5 with ⟨h, h'⟩ | h; (have := hcz h; omega); exact h)⟩
