theorem zclP_ok (v : Int32) : ∃ P : Nat, 1 < P ∧ P ≤ 97 ∧ zclP v = nI P := by
  unfold zclP
  by_cases h : v < 2
  · rw [if_pos h]; exact ⟨7, by omega, by omega, rfl⟩
  · rw [if_neg h]
    by_cases h2 : 97 < v
    · rw [if_pos h2]; exact ⟨7, by omega, by omega, rfl⟩
    · rw [if_neg h2]
      have t2 : (2 : Int32).toInt = 2 := rfl
      have t97 : (97 : Int32).toInt = 97 := rfl
      have h3 : ¬ v.toInt < 2 := fun q => h (Int32.lt_iff_toInt_lt.mpr (by omega))
      have h4 : ¬ 97 < v.toInt := fun q => h2 (Int32.lt_iff_toInt_lt.mpr (by omega))
      exact ⟨v.toInt.toNat, by omega, by omega, i32_eq (by omega) (by omega)⟩
theorem zclS_nat (v : Int32) : ∃ n : Nat, 0 < n ∧ n ≤ 4 ∧ zclS v = nI n := by
  rcases zclS_ok v with h | h | h | h
  · exact ⟨1, by omega, by omega, h⟩
  · exact ⟨2, by omega, by omega, h⟩
  · exact ⟨3, by omega, by omega, h⟩
  · exact ⟨4, by omega, by omega, h⟩
set_option maxHeartbeats 4000000 in
set_option maxRecDepth 100000 in
theorem law_pure {L : Nat} {xs : Nat → Int32} (hL : L ≤ 2562) : f_L_law L (((70 : Int32) * (zclS (if 1 < L then xs 1 else 0) * zclS (if 1 < L then xs 1 else 0))).toNatClampNeg) ((zclS (if 1 < L then xs 1 else 0) * zclS (if 1 < L then xs 1 else 0)).toNatClampNeg) xs (0 : Int32) (0 : Int32) (zclP (if 0 < L then xs 0 else 0)) (zclS (if 1 < L then xs 1 else 0)) (zclS (if 1 < L then xs 1 else 0) * zclS (if 1 < L then xs 1 else 0)) (fun _ => 0) (fun _ => 0) (fun _ => 0) (0 : Int32) (fun _ => 0) (0 : Int32) (fun _ => 0) (zclP (if 0 < L then xs 0 else 0)) (fun _ => 0) (fun _ => 0) (fun _ => 0) (fun _ => 0) (0 : Int32) (zclP (if 0 < L then xs 0 else 0)) (zclS (if 1 < L then xs 1 else 0)) (0 : Int32) (fun _ => 0) (fun _ => 0) (fun _ => 0) (0 : Int32) (0 : Int32) (0 : Int32) (fun _ => 0) (fun _ => 0) (fun _ => 0) (fun _ => 0) (0 : Int32) (0 : Int32) (fun _ => 0) (0 : Int32) (fun _ => 0) (fun _ => 0) (fun _ => 0) (fun _ => 0) (fun _ => 0) (fun _ => 0) (fun _ => 0) = some 1 := by
  obtain ⟨P, hP, hP2, eP⟩ := zclP_ok (if 0 < L then xs 0 else 0)
  obtain ⟨n, hn, hn4, en⟩ := zclS_nat (if 1 < L then xs 1 else 0)
  have hs : n * n ≤ 4 * 4 := Nat.mul_le_mul hn4 hn4
  rw [eP, en, pk_mul, show (70 : Int32) = nI 70 from rfl, pk_mul, nI_clamp (by omega), nI_clamp (by omega), f_L_law]
  refine law_ok (xs := xs) hn hn4 hP hP2 hL zFU 2 _ _ _ _ _ _ _ _ _ _ _ _ _ _ _ _ _ _ _ _ _ _ _ _ _ _ _ _ _ _ _ _ _ _ _ _ ?_ (by unfold zFU; omega) (by unfold zFU; omega) (by omega)
  refine ⟨0, 0, 0, fun _ => 0, fun _ => 0, fun _ => 0, fun _ => 0, fun _ => 0, fun _ => 0, fun _ => 0, fun _ => 0, fun _ => 0, fun _ => 0, fun _ => 0, ⟨by omega, rfl, rfl, rfl, rfl, rfl, rfl, rfl, rfl, rfl, rfl, rfl, rfl, rfl, rfl, rfl, rfl, rfl, rfl⟩, Or.inl ⟨rfl, rfl, rfl⟩, fun q hq => ⟨fun i j hi hj => rfl, fun i j hi hj => ?_⟩, fun q hq => absurd hq (by omega), rfl, Or.inl rfl⟩
  show (0 : Nat) < P
  omega
