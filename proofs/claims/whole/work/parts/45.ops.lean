/-! The calls, side by side. -/
theorem hasCode_ok {len : Nat} (h : len < 2 ^ 31) : f_X_hasCode (nI len) = some (if 0 < len then 1 else 0) := by
  rw [f_X_hasCode, f_C_length, ob_some]
  by_cases e : 0 < len
  · rw [if_neg (nI_nle e h), if_pos e]
  · obtain rfl : len = 0 := by omega
    rw [if_pos (by decide), if_neg e]
theorem place_ok {n : Nat} (hn : 0 < n) (hn4 : n ≤ 4) (u v : Int32) : (f_M_hasCell (nI n) u v = some 0 ∧ f_N_isPlace (nI n) u v = some 0) ∨ ∃ i j : Nat, i < n ∧ j < n ∧ u = nI i ∧ v = nI j ∧ f_M_hasCell (nI n) u v = some 1 ∧ f_N_isPlace (nI n) u v = some 1 := by
  have hs : nI n - (1 : Int32) = nI (n - 1) := pk_sub (b := 1) hn
  have big : ∀ y : Int32, nI n ≤ y → ¬ y < 0 ∧ nI (n - 1) < y := fun y hy => by
    have h1 := Int32.le_iff_toInt_le.mp hy
    rw [nI_toInt (by omega)] at h1
    refine ⟨fun q => ?_, ?_⟩
    · have h2 := Int32.lt_iff_toInt_lt.mp q
      have h3 : (0 : Int32).toInt = 0 := rfl
      omega
    · rw [Int32.lt_iff_toInt_lt, nI_toInt (by omega)]
      omega
  have sml : ∀ k, k < n → ¬ nI k < 0 ∧ ¬ nI n ≤ nI k ∧ ¬ nI (n - 1) < nI k := fun k hk => ⟨nI_pos (by omega), nI_ge hk (by omega), nI_nlt (by omega) (by omega)⟩
  unfold f_M_hasCell f_N_isPlace f_N_in
  rw [hs]
  rcases pk_ix u (n := n) (by omega) with h | h | ⟨i, hi, rfl⟩
  · exact Or.inl ⟨if_pos h, by rw [if_pos h, ob_some, if_pos rfl]⟩
  · obtain ⟨b1, b2⟩ := big u h
    exact Or.inl ⟨by rw [if_neg b1, if_pos h], by rw [if_neg b1, if_pos b2, ob_some, if_pos rfl]⟩
  · obtain ⟨s1, s2, s3⟩ := sml i hi
    rw [if_neg s1, if_neg s2, if_neg s1, if_neg s3, ob_some, if_neg (show ¬ (1 : Int32) = 0 by decide)]
    rcases pk_ix v (n := n) (by omega) with h | h | ⟨j, hj, rfl⟩
    · exact Or.inl ⟨if_pos h, by rw [if_pos h, ob_some, if_pos rfl]⟩
    · obtain ⟨b1, b2⟩ := big v h
      exact Or.inl ⟨by rw [if_neg b1, if_pos h], by rw [if_neg b1, if_pos b2, ob_some, if_pos rfl]⟩
    · obtain ⟨t1, t2, t3⟩ := sml j hj
      exact Or.inr ⟨i, j, hi, hj, rfl, rfl, by rw [if_neg t1, if_neg t2], by rw [if_neg t1, if_neg t3, ob_some, if_neg (by decide)]⟩
/-- the machine-free state of both is the same in what a call can show -/
def Rel (P n : Nat) (xd xw : Int32) (cells fresh words : Nat → Int32) (rl : Int32) (cins : Nat → Int32) (cl : Int32) (regs : Nat → Int32) (nw : Int32) (word table direct : Nat → Int32) (hd cpd sz : Int32) (op a b x : Nat → Int32) (oc dn : Int32) (there : Nat → Int32) : Prop :=
  ∃ (w d len : Nat) (g h ci rg t dr op' a' b' x' tr : Nat → Nat), (w ≤ 24 ∧ xd = nI d ∧ dn = nI d ∧ cells = zN g ∧ fresh = zN h ∧ rl = nI w ∧ nw = nI w ∧ word = words ∧ cins = zN ci ∧ cl = nI len ∧ sz = nI len ∧ regs = zN rg ∧ table = zN t ∧ direct = zN dr ∧ op = zN op' ∧ a = zN a' ∧ b = zN b' ∧ x = zN x' ∧ there = zN tr) ∧
    ((cpd = 0 ∧ len = 0 ∧ d = 0) ∨ (cpd = 1 ∧ 0 < len ∧ len ≤ 40 ∧ d ≤ len ∧ CR len ci op' a' b' x' ∧ oc = nI (len - 1))) ∧ (∀ q, q < 4 → sm n P (cM n g (40 + q)) (nM t q)) ∧ (∀ q, q < d → sm n P (cM n g q) (nM t (31 + q))) ∧ (xw = hd ∧ (hd = 0 ∨ (hd = 1 ∧ ∀ i j, i < n → j < n → cM n g 69 i j = dr (4 * i + j))))
section Ops
variable {P n : Nat} {xd xw : Int32} {cells fresh words : Nat → Int32} {rl : Int32} {cins : Nat → Int32} {cl : Int32} {regs : Nat → Int32} {nw : Int32} {word table direct : Nat → Int32} {hd cpd sz : Int32} {op a b x : Nat → Int32} {oc dn : Int32} {there : Nat → Int32}
theorem o_feed (hR : Rel P n xd xw cells fresh words rl cins cl regs nw word table direct hd cpd sz op a b x oc dn there) (v : Int32) : ∃ (r : Int32) (words' : Nat → Int32) (rl' : Int32), f_X_feed words rl cl v = some (r, words', rl') ∧ f_N_feed nw word cpd v = some (r, rl', words') ∧ Rel P n xd xw cells fresh words' rl' cins cl regs rl' words' table direct hd cpd sz op a b x oc dn there := by
  obtain ⟨w, d, len, g, h, ci, rg, t, dr, op', a', b', x', tr, ⟨hw, rfl, rfl, rfl, rfl, rfl, rfl, rfl, rfl, rfl, rfl, rfl, rfl, rfl, rfl, rfl, rfl, rfl, rfl⟩, hc, hI, hG, hD⟩ := hR
  have hl : len ≤ 40 := by rcases hc with ⟨-, e, -⟩ | ⟨-, -, e, -⟩ <;> omega
  rw [f_X_feed, f_N_feed, f_R_isFull, show (24 : Int32) = nI 24 from rfl]
  by_cases e : 24 ≤ w
  · rw [if_neg (nI_nlt e (by omega)), ob_some, if_neg (by decide), if_pos (nI_le e (by omega))]
    exact ⟨1, word, nI w, rfl, rfl, w, d, len, g, h, ci, rg, t, dr, op', a', b', x', tr, ⟨hw, rfl, rfl, rfl, rfl, rfl, rfl, rfl, rfl, rfl, rfl, rfl, rfl, rfl, rfl, rfl, rfl, rfl, rfl⟩, hc, hI, hG, hD⟩
  · rw [if_pos (nI_lt (by omega) (by omega)), ob_some, if_pos rfl, if_neg (nI_ge (by omega) (by omega)), hasCode_ok (by omega), ob_some]
    rcases hc with ⟨c1, c2, c3⟩ | ⟨c1, c2, c3⟩
    · subst c1 c2 c3
      rw [if_pos (show (0 : Int32) = 0 from rfl), if_pos (show (if 0 < 0 then (1 : Int32) else 0) = 0 from rfl), f_R_append, gdN (by omega) (by decide), ob_some, gdN (by omega) (by decide), nI_clamp (by omega), nI_1]
      exact ⟨0, _, _, rfl, rfl, w + 1, 0, 0, g, h, ci, rg, t, dr, op', a', b', x', tr, ⟨by omega, rfl, rfl, rfl, rfl, rfl, rfl, rfl, rfl, rfl, rfl, rfl, rfl, rfl, rfl, rfl, rfl, rfl, rfl⟩, Or.inl ⟨rfl, rfl, rfl⟩, hI, hG, hD⟩
    · subst c1
      rw [if_pos c2, if_neg (by decide), if_neg (by decide)]
      exact ⟨1, word, nI w, rfl, rfl, w, d, len, g, h, ci, rg, t, dr, op', a', b', x', tr, ⟨hw, rfl, rfl, rfl, rfl, rfl, rfl, rfl, rfl, rfl, rfl, rfl, rfl, rfl, rfl, rfl, rfl, rfl, rfl⟩, Or.inr ⟨rfl, c2, c3⟩, hI, hG, hD⟩
theorem o_codeSize (hR : Rel P n xd xw cells fresh words rl cins cl regs nw word table direct hd cpd sz op a b x oc dn there) : ∃ r : Int32, f_X_codeSize cl = some r ∧ f_N_codeSize cpd sz = some r := by
  obtain ⟨w, d, len, g, h, ci, rg, t, dr, op', a', b', x', tr, ⟨hw, rfl, rfl, rfl, rfl, rfl, rfl, rfl, rfl, rfl, rfl, rfl, rfl, rfl, rfl, rfl, rfl, rfl, rfl⟩, hc, hI, hG, hD⟩ := hR
  have hl : len ≤ 40 := by rcases hc with ⟨-, e, -⟩ | ⟨-, -, e, -⟩ <;> omega
  rw [f_X_codeSize, f_N_codeSize, hasCode_ok (by omega), ob_some]
  rcases hc with ⟨c1, c2, c3⟩ | ⟨c1, c2, c3⟩
  · subst c1 c2
    exact ⟨-1, rfl, rfl⟩
  · subst c1
    rw [if_pos c2, if_neg (by decide), if_neg (by decide), f_C_length, ob_some]
    exact ⟨nI len, rfl, rfl⟩
theorem o_codeAt (hR : Rel P n xd xw cells fresh words rl cins cl regs nw word table direct hd cpd sz op a b x oc dn there) (v : Int32) : ∃ r : Int32, f_X_codeAt cins cl v = some r ∧ f_N_codeAt cpd sz op a b x v = some r := by
  obtain ⟨w, d, len, g, h, ci, rg, t, dr, op', a', b', x', tr, ⟨hw, rfl, rfl, rfl, rfl, rfl, rfl, rfl, rfl, rfl, rfl, rfl, rfl, rfl, rfl, rfl, rfl, rfl, rfl⟩, hc, hI, hG, hD⟩ := hR
  have hl : len ≤ 40 := by rcases hc with ⟨-, e, -⟩ | ⟨-, -, e, -⟩ <;> omega
  rw [f_X_codeAt, f_N_codeAt, f_C_length, ob_some, f_N_in]
  rcases hc with ⟨c1, c2, c3⟩ | ⟨c1, c2, c3, c4, c5, c6⟩
  · subst c1 c2
    rw [if_pos (show (0 : Int32) = 0 from rfl)]
    by_cases e : v < 0
    · rw [if_pos e]; exact ⟨-1, rfl, rfl⟩
    · rw [if_neg e, if_pos]
      · exact ⟨-1, rfl, rfl⟩
      · obtain ⟨k, hk, rfl⟩ := nI_of e
        exact nI_le (Nat.zero_le _) hk
  · subst c1
    have hs : nI len - (1 : Int32) = nI (len - 1) := pk_sub (b := 1) c2
    rw [if_neg (show ¬ (1 : Int32) = 0 by decide), hs]
    by_cases e : v < 0
    · rw [if_pos e, if_pos e, ob_some, if_pos rfl]; exact ⟨-1, rfl, rfl⟩
    · rw [if_neg e, if_neg e]
      obtain ⟨k, hk, rfl⟩ := nI_of e
      by_cases e2 : len ≤ k
      · rw [if_pos (nI_le e2 hk), if_pos (nI_lt (by omega) hk), ob_some, if_pos rfl]
        exact ⟨-1, rfl, rfl⟩
      · have g1 : ∀ {β : Type} (z : Option β), gd (nI k) 48 z = z := fun z => gdN (by omega) (by decide)
        have cl1 : (nI k).toNatClampNeg = k := nI_clamp hk
        obtain ⟨q1, q2⟩ := c5 k (by omega)
        obtain ⟨b1, b2, b3, b4, b5, b6, b7⟩ := VI_b q2 (by omega)
        rw [if_neg (nI_ge (by omega) (by omega)), if_neg (nI_nlt (by omega) (by omega)), ob_some, if_neg (by decide), f_C_instruction, gdN (by omega) (by decide), ob_some]
        simp only [g1, cl1, zN_at]
        rw [isTwo (by omega), ob_some]
        refine ⟨_, rfl, ?_⟩
        rw [q1]
        have o126 : ∀ z : Nat, f_N_codeAt_126 (zN op') (nI k) (nI z) = some (nI (10000 * op' k + z)) := fun z => by
          rw [f_N_codeAt_126]
          simp only [g1, cl1, zN_at]
          rw [show (10000 : Int32) = nI 10000 from rfl, pk_mul, nI_add]
        obtain ⟨r0, r2, r1⟩ := ar_of (o := op' k)
        unfold pkI
        by_cases e0 : op' k = 0
        · rw [if_pos (show nI (op' k) = 0 by rw [e0]; rfl), o126, if_neg (by omega), b7 (by omega), Nat.mul_zero, Nat.add_zero]
        · rw [if_neg (show ¬ nI (op' k) = 0 from nI_ne0 (by omega) (by omega)), show (100 : Int32) = nI 100 from rfl]
          simp only [pk_mul, nI_add]
          by_cases e7 : op' k = 7
          · rw [if_pos (show nI (op' k) = (7 : Int32) by rw [e7]; rfl), o126, if_neg (by omega), Nat.add_assoc]
          · rw [if_neg (show ¬ nI (op' k) = (7 : Int32) from fun q => e7 ((nI_eq (b := 7) (by omega) (by omega)).mp q))]
            by_cases e5 : 3 ≤ op' k ∧ op' k ≤ 5
            · rw [if_pos (r2 e5), if_neg (by decide), o126, if_pos e5, Nat.add_assoc]
            · have h2 : ar (op' k) ≠ 2 := by
                by_cases z : op' k ≤ 2
                · rw [r0 z]; omega
                · rw [r1 (by omega)]; omega
              rw [if_neg h2, if_pos rfl, if_neg e5]
              by_cases e6 : op' k = 6
              · rw [if_pos (show nI (op' k) = (6 : Int32) by rw [e6]; rfl), o126, (q2.2.2.2.2.2.2.2.1 e6), Nat.add_zero]
              · have := q2.2.2.2.1 (by omega)
                rw [if_neg (show ¬ nI (op' k) = (6 : Int32) from fun q => e6 ((nI_eq (b := 6) (by omega) (by omega)).mp q)), show (0 : Int32) = nI 0 from rfl, o126, this, b7 (by omega)]
theorem cnt_eq {len : Nat} {ci op' a' b' x' : Nat → Nat} (hl : len ≤ 40) (hC : CR len ci op' a' b' x') : ∀ (m k c fu : Nat), k + m = len → m < fu → c ≤ k → ∃ r : Int32, f_C_count_4 (zN ci) (nI len) (5 : Int32) fu (nI c) (nI k) = some r ∧ f_N_products_4 1 (nI len) (zN op') fu (nI c) (nI k) = some r := by
  intro m
  induction m with
  | zero =>
    intro k c fu e1 e2 e3
    obtain ⟨fu, rfl⟩ : ∃ z, fu = z + 1 := ⟨fu - 1, by omega⟩
    obtain rfl : k = len := by omega
    exact ⟨nI c, by rw [f_C_count_4, if_pos (nI_le (Nat.le_refl _) (by omega))], by rw [f_N_products_4, if_pos (nI_le (Nat.le_refl _) (by omega)), if_neg (by decide)]⟩
  | succ m ih =>
    intro k c fu e1 e2 e3
    obtain ⟨fu, rfl⟩ : ∃ z, fu = z + 1 := ⟨fu - 1, by omega⟩
    obtain ⟨q1, q2⟩ := hC k (by omega)
    rw [f_C_count_4, f_N_products_4, if_neg (nI_ge (by omega) (by omega)), if_neg (nI_ge (by omega) (by omega)), p_Cop (by omega) q2 q1, ob_some, gdN (by omega) (by decide), nI_clamp (by omega), zN_at]
    simp only [nm]
    by_cases e : nI (op' k) = (5 : Int32)
    · rw [if_pos e, if_pos e, nI_1, nI_1]
      exact ih (k + 1) (c + 1) fu (by omega) (by omega) (by omega)
    · rw [if_neg e, if_neg e, nI_1]
      exact ih (k + 1) c fu (by omega) (by omega) (by omega)
theorem o_products (hR : Rel P n xd xw cells fresh words rl cins cl regs nw word table direct hd cpd sz op a b x oc dn there) : ∃ r : Int32, f_X_products cins cl = some r ∧ f_N_products cpd sz op = some r := by
  obtain ⟨w, d, len, g, h, ci, rg, t, dr, op', a', b', x', tr, ⟨hw, rfl, rfl, rfl, rfl, rfl, rfl, rfl, rfl, rfl, rfl, rfl, rfl, rfl, rfl, rfl, rfl, rfl, rfl⟩, hc, hI, hG, hD⟩ := hR
  have hl : len ≤ 40 := by rcases hc with ⟨-, e, -⟩ | ⟨-, -, e, -⟩ <;> omega
  rw [f_X_products, f_N_products, hasCode_ok (by omega), ob_some]
  rcases hc with ⟨c1, c2, c3⟩ | ⟨c1, c2, c3, c4, c5, c6⟩
  · subst c1 c2
    refine ⟨-1, rfl, ?_⟩
    rw [show zFU = 4095 + 1 from rfl, f_N_products_4, if_pos (by decide), if_pos rfl]
  · subst c1
    obtain ⟨r, r1, r2⟩ := cnt_eq hl c5 len 0 0 zFU (by omega) (by unfold zFU; omega) (by omega)
    rw [if_pos c2, if_neg (by decide), f_C_count]
    exact ⟨r, by rw [show (0 : Int32) = nI 0 from rfl, r1, ob_some], r2⟩
theorem o_out (hn : 0 < n) (hn4 : n ≤ 4) (hR : Rel P n xd xw cells fresh words rl cins cl regs nw word table direct hd cpd sz op a b x oc dn there) (u v : Int32) : ∃ r : Int32, f_X_out (70 * (n * n)) xd (nI n) (nI (n * n)) cells cl u v = some r ∧ f_N_out (nI n) table cpd sz oc dn u v = some r := by
  obtain ⟨w, d, len, g, h, ci, rg, t, dr, op', a', b', x', tr, ⟨hw, rfl, rfl, rfl, rfl, rfl, rfl, rfl, rfl, rfl, rfl, rfl, rfl, rfl, rfl, rfl, rfl, rfl, rfl⟩, hc, hI, hG, hD⟩ := hR
  have hs : n * n ≤ 4 * 4 := Nat.mul_le_mul hn4 hn4
  have hl : len ≤ 40 := by rcases hc with ⟨-, e, -⟩ | ⟨-, -, e, -⟩ <;> omega
  rw [f_X_out, f_N_out, hasCode_ok (by omega), ob_some]
  rcases hc with ⟨c1, c2, c3⟩ | ⟨c1, c2, c3, c4, c5, c6⟩
  · subst c1 c2
    exact ⟨-1, rfl, rfl⟩
  · subst c1 c6
    have hcq : (nI d = nI len) ↔ d = len := nI_eq (by omega) (by omega)
    rw [if_pos c2, if_neg (by decide), if_neg (by decide), f_X_isAllDone, f_C_length, ob_some]
    by_cases e : d = len
    · rw [if_pos (hcq.mpr e), if_pos (hcq.mpr e), ob_some, if_neg (by decide)]
      rcases place_ok hn hn4 u v with ⟨e1, e2⟩ | ⟨i, j, hi, hj, rfl, rfl, e1, e2⟩
      · rw [e1, e2, ob_some, ob_some, if_pos rfl, if_pos rfl]
        exact ⟨-1, rfl, rfl⟩
      · have hij := cell_lt hi hj
        have hrl := reg_lt (sz := n * n) (N := 70) (show len - 1 < 70 by omega) hij
        have hsm := (hG (len - 1) (by omega)).1 i j hi hj
        unfold cM nM at hsm
        rw [e1, e2, ob_some, ob_some, if_neg (by decide), if_neg (by decide), f_C_result, ob_some, show (1 : Int32) = nI 1 from rfl, pk_sub (by omega), p_get (by omega) (by omega), ob_some, show (31 : Int32) = nI 31 from rfl, nI_add, p_nget (by omega), ob_some, hsm]
        exact ⟨_, rfl, rfl⟩
    · rw [if_neg (fun q => e (hcq.mp q)), if_neg (fun q => e (hcq.mp q)), ob_some, if_pos rfl]
      exact ⟨-1, rfl, rfl⟩
theorem o_outDirect (hn : 0 < n) (hn4 : n ≤ 4) (hR : Rel P n xd xw cells fresh words rl cins cl regs nw word table direct hd cpd sz op a b x oc dn there) (u v : Int32) : ∃ r : Int32, f_X_outDirect (70 * (n * n)) xw (nI n) (nI (n * n)) cells u v = some r ∧ f_N_outDirect (nI n) direct hd u v = some r := by
  obtain ⟨w, d, len, g, h, ci, rg, t, dr, op', a', b', x', tr, ⟨hw, rfl, rfl, rfl, rfl, rfl, rfl, rfl, rfl, rfl, rfl, rfl, rfl, rfl, rfl, rfl, rfl, rfl, rfl⟩, hc, hI, hG, hD1, hD⟩ := hR
  have hs : n * n ≤ 4 * 4 := Nat.mul_le_mul hn4 hn4
  subst hD1
  rw [f_X_outDirect, f_N_outDirect]
  rcases hD with c1 | ⟨c1, c2⟩
  · subst c1
    exact ⟨-1, rfl, rfl⟩
  · subst c1
    rw [if_neg (by decide), if_neg (by decide)]
    rcases place_ok hn hn4 u v with ⟨e1, e2⟩ | ⟨i, j, hi, hj, rfl, rfl, e1, e2⟩
    · rw [e1, e2, ob_some, ob_some, if_pos rfl, if_pos rfl]
      exact ⟨-1, rfl, rfl⟩
    · have hij := cell_lt hi hj
      have hrl := reg_lt (sz := n * n) (N := 70) (show 69 < 70 by omega) hij
      have hsm := c2 i j hi hj
      unfold cM at hsm
      rw [e1, e2, ob_some, ob_some, if_neg (by decide), if_neg (by decide), show (69 : Int32) = nI 69 from rfl, p_get (by omega) (by omega), ob_some, show (4 : Int32) = nI 4 from rfl, pk_mul, nI_add, gdN (by omega) (by decide), nI_clamp (by omega), zN_at, hsm]
      exact ⟨_, rfl, rfl⟩
end Ops
