/-! what the bounds say of any argument, on both sides -/
theorem neg_or (x : Int32) : x < 0 ∨ ∃ k : Nat, k < 2 ^ 31 ∧ x = nI k := by
  by_cases h : x < 0
  · exact Or.inl h
  · exact Or.inr (nI_of h)
theorem e_ev {N : Nat} (hN : N ≤ 12) : (1 : Int32) <<< (nI N &&& 31) = nI (2 ^ N) := n_one (by omega)
theorem set_dec {N : Nat} (hN2 : N ≤ 12) (x : Int32) : (FX0_hasSet (nI (2 ^ N - 1)) x = some 0 ∧ FX6_isSet (nI N) x = some 0) ∨ ∃ s : Nat, s < 2 ^ N ∧ x = nI s ∧ FX0_hasSet (nI (2 ^ N - 1)) x = some 1 ∧ FX6_isSet (nI N) x = some 1 := by
  have hp := pow_le12 hN2
  have hq := pow_pos2 N
  unfold FX0_hasSet FX6_isSet
  rw [e_ev hN2]
  rcases neg_or x with h | ⟨k, hk, rfl⟩
  · left
    rw [if_pos h, if_pos h]
    exact ⟨rfl, rfl⟩
  · rw [if_neg (nI_pos hk), if_neg (nI_pos hk)]
    by_cases h : k < 2 ^ N
    · right
      refine ⟨k, h, rfl, ?_, ?_⟩
      · rw [if_neg (fun q => absurd ((nI_ltI (by omega) hk).mp q) (by omega))]
      · rw [if_neg (fun q => absurd ((nI_leI (by omega) hk).mp q) (by omega))]
    · left
      rw [if_pos ((nI_ltI (by omega) hk).mpr (by omega)), if_pos ((nI_leI (by omega) hk).mpr (by omega))]
      exact ⟨rfl, rfl⟩
theorem step_dec {N : Nat} (hN2 : N ≤ 12) (x : Int32) : (FX0_hasStep (nI N) x = some 0 ∧ FX6_isStep (nI N) x = some 0) ∨ ∃ t : Nat, t < N ∧ x = nI t ∧ FX0_hasStep (nI N) x = some 1 ∧ FX6_isStep (nI N) x = some 1 := by
  unfold FX0_hasStep FX6_isStep
  rcases neg_or x with h | ⟨k, hk, rfl⟩
  · left
    rw [if_pos h]
    exact ⟨rfl, rfl⟩
  · rw [if_neg (nI_pos hk)]
    by_cases h : k < N
    · right
      exact ⟨k, h, rfl, by rw [if_neg (fun q => absurd ((nI_leI (by omega) hk).mp q) (by omega))], by rw [if_neg (fun q => absurd ((nI_leI (by omega) hk).mp q) (by omega))]⟩
    · left
      rw [if_pos ((nI_leI (by omega) hk).mpr (by omega))]
      exact ⟨rfl, rfl⟩
theorem in_dec {a b : Nat} (hb : b < 2 ^ 31) (ha : a < 2 ^ 31) (x : Int32) : FX6_isIn x (nI a) (nI b) = some 0 ∧ (x < nI a ∨ nI b < x) ∨ ∃ k : Nat, a ≤ k ∧ k ≤ b ∧ x = nI k ∧ FX6_isIn x (nI a) (nI b) = some 1 := by
  unfold FX6_isIn
  by_cases h : x < nI a
  · left; rw [if_pos h]; exact ⟨rfl, Or.inl h⟩
  · rw [if_neg h]
    by_cases h2 : nI b < x
    · left; rw [if_pos h2]; exact ⟨rfl, Or.inr h2⟩
    · right
      rw [if_neg h2]
      have h0 : ¬ x < 0 := by
        intro q
        apply h
        rw [Int32.lt_iff_toInt_lt] at q ⊢
        rw [nI_toInt ha]
        rw [Int32.toInt_zero] at q
        omega
      obtain ⟨k, hk, rfl⟩ := nI_of h0
      refine ⟨k, ?_, ?_, rfl, rfl⟩
      · rcases Nat.lt_or_ge k a with q | q
        · exact absurd ((nI_ltI hk ha).mpr q) h
        · exact q
      · rcases Nat.lt_or_ge b k with q | q
        · exact absurd ((nI_ltI hb hk).mpr q) h2
        · exact q
theorem kind_dec (x : Int32) : (FX5_isClassKind x = some 0 ∧ FX6_isIn x 0 2 = some 0) ∨ ∃ k : Nat, k < 3 ∧ x = nI k ∧ FX5_isClassKind x = some 1 ∧ FX6_isIn x 0 2 = some 1 := by
  rcases in_dec (a := 0) (b := 2) (by omega) (by omega) x with ⟨h1, h2⟩ | ⟨k, h1, h2, rfl, h4⟩
  · left
    refine ⟨?_, h1⟩
    unfold FX5_isClassKind
    rcases h2 with h2 | h2
    · rw [if_pos (show x < 0 from h2)]
    · by_cases h0 : x < 0
      · rw [if_pos h0]
      · rw [if_neg h0]
        have h2 : (2 : Int32) < x := h2
        first | rw [if_pos h2] | rw [if_neg (fun q => absurd q (Int32.not_le.mpr h2))]
  · right
    refine ⟨k, by omega, rfl, ?_, h4⟩
    rcases (show k = 0 ∨ k = 1 ∨ k = 2 by omega) with rfl | rfl | rfl <;> decide
theorem fkind_dec (x : Int32) : (FX5_isFormKind x = some 0 ∧ FX6_isIn x 0 3 = some 0) ∨ ∃ k : Nat, k < 4 ∧ x = nI k ∧ FX5_isFormKind x = some 1 ∧ FX6_isIn x 0 3 = some 1 := by
  rcases in_dec (a := 0) (b := 3) (by omega) (by omega) x with ⟨h1, h2⟩ | ⟨k, h1, h2, rfl, h4⟩
  · left
    refine ⟨?_, h1⟩
    unfold FX5_isFormKind
    rcases h2 with h2 | h2
    · rw [if_pos (show x < 0 from h2)]
    · by_cases h0 : x < 0
      · rw [if_pos h0]
      · rw [if_neg h0]
        have h2 : (3 : Int32) < x := h2
        first | rw [if_pos h2] | rw [if_neg (fun q => absurd q (Int32.not_le.mpr h2))]
  · right
    refine ⟨k, by omega, rfl, ?_, h4⟩
    rcases (show k = 0 ∨ k = 1 ∨ k = 2 ∨ k = 3 by omega) with rfl | rfl | rfl | rfl <;> decide
theorem size_dec {N : Nat} (hN2 : N ≤ 12) (x : Int32) : (FX5_isSetSize (nI N) x = some 0 ∧ FX6_isIn x 0 (nI N) = some 0) ∨ ∃ k : Nat, k ≤ N ∧ x = nI k ∧ FX5_isSetSize (nI N) x = some 1 ∧ FX6_isIn x 0 (nI N) = some 1 := by
  rcases in_dec (a := 0) (b := N) (by omega) (by omega) x with ⟨h1, h2⟩ | ⟨k, h1, h2, rfl, h4⟩
  · left
    refine ⟨?_, h1⟩
    unfold FX5_isSetSize
    by_cases h0 : x < 0
    · rw [if_pos h0]
    · rw [if_neg h0]
      have h2 : nI N < x := h2.resolve_left h0
      show (if nI N < x then _ else _) = _
      rw [if_pos h2]
  · right
    refine ⟨k, h2, rfl, ?_, h4⟩
    unfold FX5_isSetSize
    rw [if_neg (nI_pos (by omega))]
    show (if nI N < nI k then _ else _) = _
    rw [if_neg (fun q => absurd ((nI_ltI (by omega) (by omega)).mp q) (by omega))]
