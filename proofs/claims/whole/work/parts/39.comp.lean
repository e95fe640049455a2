/-! Compiling: class and reference side by side. -/
theorem okW_dec : ∀ v : Fin 900, okW v = true → v.val / 100 ≤ 8 ∧ (v.val / 100 = 0 → v.val % 100 < 4) ∧ (1 ≤ v.val / 100 ∧ v.val / 100 ≤ 6 → v.val % 100 = 0) := by decide +kernel
theorem emit_eq {v th k n : Nat} {ci rg op a b x tr : Nat → Nat} (hv : v < 900) (hok : okW v = true) (ha : ar (v / 100) ≤ th) (hth : th < 24) (h3 : CR n ci op a b x) (hr : ∀ s, s < th → rg s = tr s ∧ rg s < n) (htop : 0 < th → rg (th - 1) + 1 = n) (hn : n + stp v ≤ 40)
    (k70 : Int32 → Int32 → Int32 → (Nat → Int32) → (Nat → Int32) → (Nat → Int32) → (Nat → Int32) → (Nat → Int32) → Option (Int32 × Int32 × Int32 × (Nat → Int32) × (Nat → Int32) × (Nat → Int32) × (Nat → Int32) × Int32 × Int32 × (Nat → Int32))) (c1 c3 c4 : Int32) :
    ∃ (n' pw : Nat) (ci' op' a' b' x' : Nat → Nat), f_P_instructionsFor (zN ci) (nI n) (zN rg) (nI (v / 100)) (nI (v % 100)) (nI (th - ar (v / 100))) = some (nI pw, zN ci', nI n') ∧
      f_N_compile_129 k70 (nI k) (nI (v / 100)) (nI (v % 100)) (nI (ar (v / 100))) (nI th) c1 (nI n) (zN op) (zN a) (zN b) (zN x) c3 c4 (zN tr) = f_N_compile_226 k70 (nI (th - ar (v / 100))) (nI k) (nI pw) (nI (th - ar (v / 100))) c1 (nI n') (zN op') (zN a') (zN b') (zN x') c3 c4 (zN tr) ∧
      CR n' ci' op' a' b' x' ∧ n' = n + stp v ∧ pw + 1 = n' := by
  obtain ⟨q1, q2, q3⟩ := okW_dec ⟨v, hv⟩ hok
  dsimp only at q1 q2 q3
  have es : stp v = if v / 100 = 8 then pst (v % 100) else 1 := rfl
  have he : v % 100 < 100 := Nat.mod_lt _ (by decide)
  rw [es] at hn ⊢
  have ho : v / 100 < 9 := by omega
  have hsub : nI th - nI (ar (v / 100)) = nI (th - ar (v / 100)) := pk_sub ha
  rw [f_N_compile_129, hsub]
  simp only [nm]
  rw [isTwo ho, ob_some, isOne ho]
  clear es hsub hok
  generalize v / 100 = o at *
  generalize v % 100 = e at *
  have k0 : ∀ o', o' ≤ 2 → o = o' → ∃ (n' pw : Nat) (ci' op' a' b' x' : Nat → Nat), f_P_instructionsFor_52 (nI o) (nI e) (zN ci) (nI n) = some (nI pw, zN ci', nI n') ∧ (f_N_write (nI n) (zN op) (zN a) (zN b) (zN x) (nI o) (nI 0) (nI 0) (nI e)) = some (nI pw, nI n', zN op', zN a', zN b', zN x') ∧ CR n' ci' op' a' b' x' ∧ n' = n + 1 ∧ pw + 1 = n' := by
    intro o' h h'
    rw [if_neg (by omega)] at hn
    have hv : VI n o 0 0 e := ⟨by omega, fun z => q2 z, fun _ => ⟨rfl, rfl⟩, fun z => q3 (by omega), by omega, by omega, by omega, by omega, by omega⟩
    have c := CR_push h3 hv
    rw [show pkI o 0 0 e = 10000 * o + 100 * 0 + e by unfold pkI; rw [if_neg (by omega)]] at c
    exact ⟨n + 1, n, _, _, _, _, _, by rw [f_P_instructionsFor_52, show (0 : Int32) = nI 0 from rfl, p_append (by omega), ob_some], p_write (by omega), c, rfl, rfl⟩
  have k3 : ∀ t, th = t + 2 → 3 ≤ o → o ≤ 5 → ∃ (n' pw : Nat) (ci' op' a' b' x' : Nat → Nat), f_P_instructionsFor_61 (zN rg) (nI o) (nI t) (zN ci) (nI n) = some (nI pw, zN ci', nI n') ∧ (f_N_write (nI n) (zN op) (zN a) (zN b) (zN x) (nI o) (nI (tr t)) (nI (tr (t + 1))) (nI 0)) = some (nI pw, nI n', zN op', zN a', zN b', zN x') ∧ CR n' ci' op' a' b' x' ∧ n' = n + 1 ∧ pw + 1 = n' := by
    intro t ht h h'
    rw [if_neg (by omega)] at hn
    obtain ⟨r1, r2⟩ := hr t (by omega)
    obtain ⟨r3, r4⟩ := hr (t + 1) (by omega)
    have hv : VI n o (tr t) (tr (t + 1)) 0 := ⟨by omega, by omega, by omega, by omega, fun _ => by omega, fun _ => ⟨by omega, rfl⟩, by omega, by omega, by omega⟩
    have c := CR_push h3 hv
    rw [show pkI o (tr t) (tr (t + 1)) 0 = 10000 * o + 100 * tr t + tr (t + 1) by unfold pkI; rw [if_pos ⟨h, h'⟩]] at c
    refine ⟨n + 1, n, _, _, _, _, _, ?_, p_write (by omega), c, rfl, rfl⟩
    rw [f_P_instructionsFor_61, nI_1, gdN (by omega) (by decide), gdN (by omega) (by decide), nI_clamp (by omega), nI_clamp (by omega), zN_at, zN_at, r1, r3, p_append (by omega), ob_some]
  have k6 : ∀ t, th = t + 1 → o = 6 ∨ o = 7 → ∃ (n' pw : Nat) (ci' op' a' b' x' : Nat → Nat), f_P_instructionsFor_95 (zN rg) (nI o) (nI e) (nI t) (zN ci) (nI n) = some (nI pw, zN ci', nI n') ∧ (f_N_write (nI n) (zN op) (zN a) (zN b) (zN x) (nI o) (nI (tr t)) (nI 0) (nI e)) = some (nI pw, nI n', zN op', zN a', zN b', zN x') ∧ CR n' ci' op' a' b' x' ∧ n' = n + 1 ∧ pw + 1 = n' := by
    intro t ht h
    rw [if_neg (by omega)] at hn
    obtain ⟨r1, r2⟩ := hr t (by omega)
    have hv : VI n o (tr t) 0 e := ⟨by omega, by omega, by omega, by omega, fun _ => by omega, by omega, fun _ => rfl, fun z => q3 (by omega), fun _ => he⟩
    have c := CR_push h3 hv
    rw [show pkI o (tr t) 0 e = 10000 * o + 100 * tr t + e by unfold pkI; rw [if_neg (by omega)]] at c
    refine ⟨n + 1, n, _, _, _, _, _, ?_, p_write (by omega), c, rfl, rfl⟩
    rw [f_P_instructionsFor_95, gdN (by omega) (by decide), nI_clamp (by omega), zN_at, r1, p_append (by omega), ob_some]
  rw [f_P_instructionsFor]
  rcases (show o = 0 ∨ o = 1 ∨ o = 2 ∨ o = 3 ∨ o = 4 ∨ o = 5 ∨ o = 6 ∨ o = 7 ∨ o = 8 by omega) with rfl | rfl | rfl | rfl | rfl | rfl | rfl | rfl | rfl
  · obtain ⟨n', pw, ci', op', a', b', x', e1, e2, e3, e4, e5⟩ := k0 0 (by omega) rfl
    refine ⟨n', pw, ci', op', a', b', x', ?_, ?_, e3, e4, e5⟩
    · rw [if_pos (by decide), e1]
    · rw [if_neg (by decide), if_pos (by decide), ob_some, if_pos (by decide), show (0 : Int32) = nI 0 from rfl, e2, ob_some]
  · obtain ⟨n', pw, ci', op', a', b', x', e1, e2, e3, e4, e5⟩ := k0 1 (by omega) rfl
    refine ⟨n', pw, ci', op', a', b', x', ?_, ?_, e3, e4, e5⟩
    · rw [if_neg (by decide), if_pos (by decide), e1]
    · rw [if_neg (by decide), if_pos (by decide), ob_some, if_pos (by decide), show (0 : Int32) = nI 0 from rfl, e2, ob_some]
  · obtain ⟨n', pw, ci', op', a', b', x', e1, e2, e3, e4, e5⟩ := k0 2 (by omega) rfl
    refine ⟨n', pw, ci', op', a', b', x', ?_, ?_, e3, e4, e5⟩
    · rw [if_neg (by decide), if_neg (by decide), if_pos (by decide), e1]
    · rw [if_neg (by decide), if_pos (by decide), ob_some, if_pos (by decide), show (0 : Int32) = nI 0 from rfl, e2, ob_some]
  · obtain ⟨t, rfl⟩ : ∃ t, th = t + 2 := ⟨th - 2, by have : ar 3 = 2 := rfl; omega⟩
    obtain ⟨n', pw, ci', op', a', b', x', e1, e2, e3, e4, e5⟩ := k3 t rfl (by omega) (by omega)
    rw [show t + 2 - ar 3 = t from rfl]
    refine ⟨n', pw, ci', op', a', b', x', ?_, ?_, e3, e4, e5⟩
    · rw [if_neg (by decide), if_neg (by decide), if_neg (by decide), if_pos (by decide), e1]
    · rw [if_neg (by decide), if_neg (by decide), gdN (by omega) (by decide), nI_1, gdN (by omega) (by decide), nI_clamp (by omega), nI_clamp (by omega), zN_at, zN_at, show (0 : Int32) = nI 0 from rfl, e2, ob_some]
  · obtain ⟨t, rfl⟩ : ∃ t, th = t + 2 := ⟨th - 2, by have : ar 4 = 2 := rfl; omega⟩
    obtain ⟨n', pw, ci', op', a', b', x', e1, e2, e3, e4, e5⟩ := k3 t rfl (by omega) (by omega)
    rw [show t + 2 - ar 4 = t from rfl]
    refine ⟨n', pw, ci', op', a', b', x', ?_, ?_, e3, e4, e5⟩
    · rw [if_neg (by decide), if_neg (by decide), if_neg (by decide), if_neg (by decide), if_pos (by decide), e1]
    · rw [if_neg (by decide), if_neg (by decide), gdN (by omega) (by decide), nI_1, gdN (by omega) (by decide), nI_clamp (by omega), nI_clamp (by omega), zN_at, zN_at, show (0 : Int32) = nI 0 from rfl, e2, ob_some]
  · obtain ⟨t, rfl⟩ : ∃ t, th = t + 2 := ⟨th - 2, by have : ar 5 = 2 := rfl; omega⟩
    obtain ⟨n', pw, ci', op', a', b', x', e1, e2, e3, e4, e5⟩ := k3 t rfl (by omega) (by omega)
    rw [show t + 2 - ar 5 = t from rfl]
    refine ⟨n', pw, ci', op', a', b', x', ?_, ?_, e3, e4, e5⟩
    · rw [if_neg (by decide), if_neg (by decide), if_neg (by decide), if_neg (by decide), if_neg (by decide), if_pos (by decide), e1]
    · rw [if_neg (by decide), if_neg (by decide), gdN (by omega) (by decide), nI_1, gdN (by omega) (by decide), nI_clamp (by omega), nI_clamp (by omega), zN_at, zN_at, show (0 : Int32) = nI 0 from rfl, e2, ob_some]
  · obtain ⟨t, rfl⟩ : ∃ t, th = t + 1 := ⟨th - 1, by have : ar 6 = 1 := rfl; omega⟩
    obtain ⟨n', pw, ci', op', a', b', x', e1, e2, e3, e4, e5⟩ := k6 t rfl (by omega)
    rw [show t + 1 - ar 6 = t from rfl]
    refine ⟨n', pw, ci', op', a', b', x', ?_, ?_, e3, e4, e5⟩
    · rw [if_neg (by decide), if_neg (by decide), if_neg (by decide), if_neg (by decide), if_neg (by decide), if_neg (by decide), if_pos (by decide), e1]
    · rw [if_neg (by decide), if_pos (by decide), ob_some, if_neg (by decide), gdN (by omega) (by decide), nI_clamp (by omega), zN_at, show (0 : Int32) = nI 0 from rfl, e2, ob_some]
  · obtain ⟨t, rfl⟩ : ∃ t, th = t + 1 := ⟨th - 1, by have : ar 7 = 1 := rfl; omega⟩
    obtain ⟨n', pw, ci', op', a', b', x', e1, e2, e3, e4, e5⟩ := k6 t rfl (by omega)
    rw [show t + 1 - ar 7 = t from rfl]
    refine ⟨n', pw, ci', op', a', b', x', ?_, ?_, e3, e4, e5⟩
    · rw [if_neg (by decide), if_neg (by decide), if_neg (by decide), if_neg (by decide), if_neg (by decide), if_neg (by decide), if_neg (by decide), if_pos (by decide), e1]
    · rw [if_neg (by decide), if_pos (by decide), ob_some, if_neg (by decide), gdN (by omega) (by decide), nI_clamp (by omega), zN_at, show (0 : Int32) = nI 0 from rfl, e2, ob_some]
  · obtain ⟨t, rfl⟩ : ∃ t, th = t + 1 := ⟨th - 1, by have : ar 8 = 1 := rfl; omega⟩
    rw [show t + 1 - ar 8 = t from rfl, if_neg (by decide), if_neg (by decide), if_neg (by decide), if_neg (by decide), if_neg (by decide), if_neg (by decide), if_neg (by decide), if_neg (by decide), if_pos (by decide), if_pos (by decide), gdN (by omega) (by decide), gdN (by omega) (by decide), nI_clamp (by omega), zN_at, zN_at]
    rw [if_pos rfl] at hn ⊢
    obtain ⟨r1, r2⟩ := hr t (by omega)
    have ht := htop (by omega)
    rw [show t + 1 - 1 = t from rfl] at ht
    rw [← r1, f_P_powerOf, f_N_writePower]
    by_cases h0 : e = 0
    · subst h0
      have hv : VI n 1 0 0 0 := ⟨by omega, by omega, fun _ => ⟨rfl, rfl⟩, fun _ => rfl, by omega, by omega, by omega, by omega, by omega⟩
      have c := CR_push h3 hv
      have hp : pst 0 = 1 := rfl
      rw [show pkI 1 0 0 0 = 10000 * 1 + 100 * 0 + 0 from rfl] at c
      rw [if_pos (by decide), if_pos (by decide), show (0 : Int32) = nI 0 from rfl, show (1 : Int32) = nI 1 from rfl, p_append (by omega), p_write (by omega)]
      exact ⟨n + 1, n, _, _, _, _, _, rfl, rfl, c, rfl, rfl⟩
    · obtain ⟨l1, l2, l3⟩ := log_ok ⟨e, he⟩ h0
      have hp := cnt_pst ⟨e, he⟩ h0
      have hh := high_ok ⟨e, he⟩ h0
      have ht2 := topDigit_ok ⟨e, he⟩
      dsimp only at l1 l2 l3 hp hh ht2
      have hf := half_ok ⟨Nat.log2 e, by omega⟩
      dsimp only at hf
      have hne : ¬ nI e = 0 := nI_ne0 (by omega) (by omega)
      rw [if_neg hne, if_neg hne, ht2, hh, ob_some, ob_some]
      simp only [nm]
      rw [l3, hf]
      obtain ⟨n', pw', ci', op', a', b', x', e1, e2, e3, e4, e5⟩ := pow_eq he (Nat.log2 e) zFU n (rg t) ci op a b x l1 (by unfold zFU; omega) h3 r2 r2 (by omega)
      rw [e1, e2]
      refine ⟨n', pw', ci', op', a', b', x', rfl, rfl, e3, by omega, ?_⟩
      rcases e5 with ⟨hq, hq2⟩ | hq
      · rw [hq] at e4
        have : cntB e 0 = 0 := rfl
        omega
      · exact hq
theorem comp_eq {W : Nat → Int32} {w : Nat} (hw : w ≤ 24) (c1 c3 c4 : Int32) : ∀ (m k th fu n : Nat) (ci rg op a b x tr : Nat → Nat), k + m = w → th ≤ k → okS W m k th → m < fu → CR n ci op a b x → (∀ s, s < th → rg s = tr s ∧ rg s < n) → (0 < th → rg (th - 1) + 1 = n) → n + totS W m k ≤ 40 →
    ∃ (n' : Nat) (ci' rg' op' a' b' x' tr' : Nat → Nat), f_P_translate_9 W (nI w) fu (nI th) (nI k) (zN ci) (nI n) (zN rg) = some (zN ci', nI n', zN rg') ∧ f_N_compile_70 (nI w) W c1 c3 c4 fu (nI th) (nI k) (nI n) (zN op) (zN a) (zN b) (zN x) (zN tr) = some (0, 1, nI n', zN op', zN a', zN b', zN x', nI (n' - 1), 0, zN tr') ∧ CR n' ci' op' a' b' x' ∧ 0 < n' ∧ n' ≤ 40 := by
  intro m
  induction m with
  | zero =>
    intro k th fu n ci rg op a b x tr h1 h2 h3 h4 h5 h6 h7 h8
    obtain ⟨fu, rfl⟩ : ∃ z, fu = z + 1 := ⟨fu - 1, by omega⟩
    obtain rfl : k = w := by omega
    have h3 : th = 1 := h3
    subst h3
    have e0 := h7 (by omega)
    obtain ⟨e1, e2⟩ := h6 0 (by omega)
    refine ⟨n, ci, rg, op, a, b, x, tr, ?_, ?_, h5, by omega, by omega⟩
    · rw [f_P_translate_9, f_R_length, ob_some, if_pos (nI_le (Nat.le_refl _) (by omega))]
    · rw [f_N_compile_70, if_pos (nI_le (Nat.le_refl _) (by omega)), show gd (0 : Int32) 25 = gd (nI 0) 25 from rfl, gdN (by omega) (by decide), show (0 : Int32).toNatClampNeg = 0 from rfl, zN_at, ← e1, show n - 1 = rg 0 by rw [show (1 : Nat) - 1 = 0 from rfl] at e0; omega]
  | succ m ih =>
    intro k th fu n ci rg op a b x tr h1 h2 h3 h4 h5 h6 h7 h8
    obtain ⟨fu, rfl⟩ : ∃ z, fu = z + 1 := ⟨fu - 1, by omega⟩
    obtain ⟨v, hW, hv, hok, ha, hS⟩ := h3
    have hk : k < 24 := by omega
    have ho : v / 100 < 9 := by omega
    have et : totS W (m + 1) k = stp v + totS W m (k + 1) := by
      show stp (W k).toNatClampNeg + _ = _
      rw [hW, nI_clamp (by omega)]
    obtain ⟨n', pw, ci', op', a', b', x', e1, e2, e3, e4, e5⟩ := emit_eq (k := k) hv hok ha (by omega) h5 h6 h7 (by omega) (f_N_compile_70 (nI w) W c1 c3 c4 fu) c1 c3 c4
    have a0 := ar_le (v / 100)
    have hg1 : ∀ s, s < th - ar (v / 100) + 1 → updN rg (th - ar (v / 100)) pw s = updN tr (th - ar (v / 100)) pw s ∧ updN rg (th - ar (v / 100)) pw s < n' := by
      intro s hs
      unfold updN
      by_cases e : s = th - ar (v / 100)
      · rw [if_pos e, if_pos e]; exact ⟨rfl, by omega⟩
      · rw [if_neg e, if_neg e]
        obtain ⟨y1, y2⟩ := h6 s (by omega)
        exact ⟨y1, by omega⟩
    have hg2 : 0 < th - ar (v / 100) + 1 → updN rg (th - ar (v / 100)) pw (th - ar (v / 100) + 1 - 1) + 1 = n' := fun _ => by
      unfold updN
      rw [if_pos (by omega)]
      exact e5
    obtain ⟨n2, ci2, rg2, op2, a2, b2, x2, tr2, f1, f2, f3, f4, f5⟩ := ih (k + 1) (th - ar (v / 100) + 1) fu n' ci' (updN rg (th - ar (v / 100)) pw) op' a' b' x' (updN tr (th - ar (v / 100)) pw) (by omega) (by omega) hS (by omega) e3 hg1 hg2 (by omega)
    refine ⟨n2, ci2, rg2, op2, a2, b2, x2, tr2, ?_, ?_, f3, f4, f5⟩
    · rw [f_P_translate_9, f_R_length, ob_some, if_neg (nI_ge (by omega) (by omega)), p_Rop hk hv hW, ob_some, opnd ho, ob_some]
      simp only [nm]
      rw [pk_sub ha, p_Rnum hk hv hW, ob_some, e1, ob_some]
      dsimp only
      rw [gdN (by omega) (by decide), nI_clamp (by omega), upd_zN, nI_1, nI_1, f1]
    · rw [f_N_compile_70, if_neg (nI_ge (by omega) (by omega)), gdN hk (by decide), nI_clamp (by omega), hW, w_div hv]
      simp only [nm]
      rw [gdN hk (by decide), w_rem hv, isTwo ho, ob_some, isOne ho]
      have hM : (if (if ar (v / 100) = 2 then (1 : Int32) else 0) = 0 then (some (if ar (v / 100) = 1 then (1 : Int32) else 0)).bind fun r12 => if r12 = 0 then f_N_compile_129 (f_N_compile_70 (nI w) W c1 c3 c4 fu) (nI k) (nI (v / 100)) (nI (v % 100)) (0 : Int32) (nI th) c1 (nI n) (zN op) (zN a) (zN b) (zN x) c3 c4 (zN tr) else f_N_compile_129 (f_N_compile_70 (nI w) W c1 c3 c4 fu) (nI k) (nI (v / 100)) (nI (v % 100)) (1 : Int32) (nI th) c1 (nI n) (zN op) (zN a) (zN b) (zN x) c3 c4 (zN tr) else f_N_compile_129 (f_N_compile_70 (nI w) W c1 c3 c4 fu) (nI k) (nI (v / 100)) (nI (v % 100)) (2 : Int32) (nI th) c1 (nI n) (zN op) (zN a) (zN b) (zN x) c3 c4 (zN tr)) = f_N_compile_129 (f_N_compile_70 (nI w) W c1 c3 c4 fu) (nI k) (nI (v / 100)) (nI (v % 100)) (nI (ar (v / 100))) (nI th) c1 (nI n) (zN op) (zN a) (zN b) (zN x) c3 c4 (zN tr) := by
        rcases a0 with h | h | h
        · rw [h]; rfl
        · rw [h]; rfl
        · rw [h]; rfl
      rw [hM, e2, f_N_compile_226, gdN (by omega) (by decide)]
      simp only [nm]
      rw [nI_clamp (by omega), upd_zN, nI_1, nI_1, f2]
