/-! the circle: turning, mirroring, multiplying -/
theorem pow_le12 {N : Nat} (h : N ≤ 12) : 2 ^ N ≤ 4096 := by
  have := Nat.pow_le_pow_right (n := 2) (by omega) h
  exact this
theorem pow_pos2 (N : Nat) : 0 < 2 ^ N := Nat.pow_pos (by omega)
/-- turned, as a number -/
def rot (N s t : Nat) : Nat := ((s * 2 ^ t) ||| (s / 2 ^ (N - t))) &&& (2 ^ N - 1)
theorem tu_nat {N s t : Nat} (hN : 0 < N) (hN2 : N ≤ 12) (hs : s < 2 ^ N) (ht : t ≤ N) : FX0_turned (nI N) (nI (2 ^ N - 1)) (nI s) (nI t) = some (nI (rot N s t)) := by
  have hp := pow_le12 hN2
  have hs2 : s < 2 ^ 31 := by omega
  have ht2 : 2 ^ t ≤ 4096 := pow_le12 (by omega)
  have hm : s * 2 ^ t < 2 ^ 32 := by
    have : s * 2 ^ t < 4096 * 4097 := Nat.mul_lt_mul'' (by omega) (by omega)
    omega
  unfold FX0_turned rot
  rw [pk_sub ht, n_shl (by omega) hm, n_shr hs2 (by omega), nx_or, nx_and]
theorem rot_bit {N s t j : Nat} (hN : 0 < N) (hs : s < 2 ^ N) (ht : t ≤ N) : (rot N s t).testBit j = true ↔ j < N ∧ s.testBit ((j + (N - t)) % N) = true := by
  unfold rot
  rw [Nat.testBit_and, Nat.testBit_or, Nat.testBit_two_pow_sub_one, Nat.testBit_mul_two_pow, Nat.testBit_div_two_pow]
  simp only [Bool.and_eq_true, Bool.or_eq_true, decide_eq_true_eq]
  constructor
  · rintro ⟨h | h, hj⟩
    · refine ⟨hj, ?_⟩
      have e : (j + (N - t)) % N = j - t := by
        have : j + (N - t) = (j - t) + N := by omega
        rw [this, Nat.add_mod_right, Nat.mod_eq_of_lt (by omega)]
      rw [e]; exact h.2
    · refine ⟨hj, ?_⟩
      have hb := bit_lt hs h
      have e : (j + (N - t)) % N = j + (N - t) := Nat.mod_eq_of_lt (by omega)
      rw [e]; exact h
  · rintro ⟨hj, h⟩
    refine ⟨?_, hj⟩
    by_cases hjt : t ≤ j
    · left
      have e : (j + (N - t)) % N = j - t := by
        have : j + (N - t) = (j - t) + N := by omega
        rw [this, Nat.add_mod_right, Nat.mod_eq_of_lt (by omega)]
      rw [e] at h
      exact ⟨hjt, h⟩
    · right
      have e : (j + (N - t)) % N = j + (N - t) := Nat.mod_eq_of_lt (by omega)
      rw [e] at h; exact h
theorem rot_im {N s t : Nat} (hN : 0 < N) (hs : s < 2 ^ N) (ht : t ≤ N) : rot N s t = im s (fun a => (a + t) % N) N := by
  apply bit_ext
  intro j
  rw [rot_bit hN hs ht, im_bit]
  constructor
  · rintro ⟨hj, h⟩
    refine ⟨(j + (N - t)) % N, Nat.mod_lt _ hN, h, ?_⟩
    show ((j + (N - t)) % N + t) % N = j
    rw [Nat.mod_add_mod, show j + (N - t) + t = j + N by omega, Nat.add_mod_right, Nat.mod_eq_of_lt hj]
  · rintro ⟨a, h1, h2, h3⟩
    have h3 : (a + t) % N = j := h3
    refine ⟨by rw [← h3]; exact Nat.mod_lt _ hN, ?_⟩
    have e : (j + (N - t)) % N = a := by
      rw [← h3, Nat.mod_add_mod, show a + t + (N - t) = a + N by omega, Nat.add_mod_right, Nat.mod_eq_of_lt h1]
    rw [e]; exact h2
theorem rot_lt {N s t : Nat} (hN : 0 < N) (hs : s < 2 ^ N) (ht : t ≤ N) : rot N s t < 2 ^ N := by
  rw [rot_im hN hs ht]; exact im_lt (fun a _ => Nat.mod_lt _ hN)
/-- the motion: times m, then turned by t -/
def mo (N s m t : Nat) : Nat := im s (fun a => (m * a + t) % N) N
theorem mo_lt {N s m t : Nat} (hN : 0 < N) : mo N s m t < 2 ^ N := im_lt (fun a _ => Nat.mod_lt _ hN)
theorem te_mo {N s m : Nat} : im s (fun a => (a * m) % N) N = mo N s m 0 := im_congr (fun a _ => by rw [Nat.mul_comm, Nat.add_zero])
theorem rot_mo {N s m t : Nat} (hN : 0 < N) (ht : t ≤ N) : rot N (mo N s m 0) t = mo N s m t := by
  rw [rot_im hN (mo_lt hN) ht]
  unfold mo
  rw [im_im (fun a _ => Nat.mod_lt _ hN)]
  exact im_congr (fun a _ => by rw [Nat.add_zero, Nat.mod_add_mod])
/-- the reference's image -/
theorem md_nat {N s m t : Nat} (hN : 0 < N) (hN2 : N ≤ 12) (hs : s < 2 ^ N) (hm : m ≤ N) (ht : t < N) : FX6_moved (nI N) (nI s) (nI m) (nI t) = some (nI (mo N s m t)) := by
  have hs2 : s < 2 ^ 31 := Nat.lt_of_lt_of_le hs (Nat.pow_le_pow_right (by omega) (by omega))
  unfold FX6_moved X6_moved_6_l
  have h := loop_run (step := fun z => X6_moved_6_s (nI N) (nI s) (nI m) (nI t) z.1 z.2) (nI (mo N s m t)) N FU (fun i => (nI (im s (fun a => (m * a + t) % N) i), nI i)) (FU_big (by omega)) ?_ ?_
  · have h : loopN (fun z => X6_moved_6_s (nI N) (nI s) (nI m) (nI t) z.1 z.2) FU (0, 0) = _ := h
    rw [h]; rfl
  · intro i hi
    show X6_moved_6_s (nI N) (nI s) (nI m) (nI t) (nI (im s (fun a => (m * a + t) % N) i)) (nI i) = some (.inl (nI (im s (fun a => (m * a + t) % N) (i + 1)), nI (i + 1)))
    unfold X6_moved_6_s
    rw [if_neg (nI_ge hi (by omega)), im_s]
    by_cases hb : s.testBit i = true
    · have hw : m * i + t < 2 ^ 31 := by
        have : m * i < 13 * 12 := Nat.mul_lt_mul'' (by omega) (by omega)
        omega
      rw [if_pos ((n_bit hs2 (by omega)).mpr hb), if_pos hb, if_neg (nI_ne0 hN (by omega)), pk_mul, nI_add, pk_rem hw hN (by omega)]
      have hlt : (m * i + t) % N < 12 := by have := Nat.mod_lt (m * i + t) hN; omega
      rw [n_one (by omega), nx_or, nI_1]
    · rw [if_neg (fun h => hb ((n_bit hs2 (by omega)).mp h)), if_neg hb, nI_1]
  · show X6_moved_6_s (nI N) (nI s) (nI m) (nI t) _ (nI N) = _
    unfold X6_moved_6_s
    rw [if_pos (nI_le (Nat.le_refl N) (by omega))]
    rfl
