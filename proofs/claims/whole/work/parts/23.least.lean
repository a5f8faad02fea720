/-! the least of a class -/
def mn (f : Nat → Nat) : Nat → Nat
  | 0 => f 0
  | k + 1 => if f (k + 1) < mn f k then f (k + 1) else mn f k
theorem mn_s (f : Nat → Nat) (k : Nat) : mn f (k + 1) = if f (k + 1) < mn f k then f (k + 1) else mn f k := rfl
theorem mn_le (f : Nat → Nat) : ∀ k i, i ≤ k → mn f k ≤ f i := by
  intro k
  induction k with
  | zero => intro i hi; rw [show i = 0 by omega]; exact Nat.le_refl _
  | succ k ih =>
    intro i hi
    rw [mn_s]
    by_cases e : i = k + 1
    · subst e; split <;> omega
    · have := ih i (by omega)
      split <;> omega
theorem mn_at (f : Nat → Nat) : ∀ k, ∃ i, i ≤ k ∧ mn f k = f i := by
  intro k
  induction k with
  | zero => exact ⟨0, Nat.le_refl _, rfl⟩
  | succ k ih =>
    obtain ⟨i, hi, e⟩ := ih
    rw [mn_s]
    split
    · exact ⟨k + 1, Nat.le_refl _, rfl⟩
    · exact ⟨i, by omega, e⟩
theorem min_nI {a b : Nat} (ha : a < 2 ^ 31) (hb : b < 2 ^ 31) : (if nI a < nI b then nI a else nI b) = nI (if a < b then a else b) := by
  by_cases h : a < b
  · rw [if_pos ((nI_ltI ha hb).mpr h), if_pos h]
  · rw [if_neg (fun q => h ((nI_ltI ha hb).mp q)), if_neg h]
theorem rot_0 {N s : Nat} (hN : 0 < N) (hs : s < 2 ^ N) : rot N s 0 = s := by
  apply bit_ext
  intro j
  rw [rot_bit hN hs (Nat.zero_le N)]
  constructor
  · rintro ⟨hj, h⟩
    rw [Nat.sub_zero, Nat.add_mod_right, Nat.mod_eq_of_lt hj] at h
    exact h
  · intro h
    have hj := bit_lt hs h
    refine ⟨hj, ?_⟩
    rw [Nat.sub_zero, Nat.add_mod_right, Nat.mod_eq_of_lt hj]
    exact h
theorem ltu_nat {N s : Nat} (hN : 0 < N) (hN2 : N ≤ 12) (hs : s < 2 ^ N) : FX0_leastTurned (nI N) (nI (2 ^ N - 1)) (nI s) = some (nI (mn (rot N s) (N - 1))) := by
  have hp := pow_le12 hN2
  unfold FX0_leastTurned X0_leastTurned_4_l
  have hlt : ∀ k, k ≤ N → mn (rot N s) k < 2 ^ 31 := by
    intro k hk
    obtain ⟨i, hi, e⟩ := mn_at (rot N s) k
    rw [e]
    have := rot_lt (t := i) hN hs (by omega)
    omega
  have h := loop_run (step := fun z => X0_leastTurned_4_s (nI N) (nI (2 ^ N - 1)) (nI s) z.1 z.2) (nI (mn (rot N s) (N - 1))) (N - 1) FU (fun i => (nI (mn (rot N s) i), nI (i + 1))) (FU_big (by omega)) ?_ ?_
  · have e0 : mn (rot N s) 0 = s := rot_0 hN hs
    have h : loopN (fun z => X0_leastTurned_4_s (nI N) (nI (2 ^ N - 1)) (nI s) z.1 z.2) FU (nI (mn (rot N s) 0), 1) = _ := h
    rw [e0] at h
    rw [h]; rfl
  · intro i hi
    show X0_leastTurned_4_s (nI N) (nI (2 ^ N - 1)) (nI s) (nI (mn (rot N s) i)) (nI (i + 1)) = some (.inl (nI (mn (rot N s) (i + 1)), nI (i + 1 + 1)))
    unfold X0_leastTurned_4_s
    rw [if_neg (nI_ge (by omega) (by omega)), tu_nat hN hN2 hs (by omega)]
    simp only [Option.bind_some]
    rw [min_nI (by have := rot_lt (t := i + 1) hN hs (by omega); omega) (hlt i (by omega)), nI_1, mn_s]
  · show X0_leastTurned_4_s (nI N) (nI (2 ^ N - 1)) (nI s) _ (nI (N - 1 + 1)) = _
    unfold X0_leastTurned_4_s
    rw [if_pos (nI_le (by omega) (by omega))]
/-- the least so far, over the multipliers below k -/
def lo (N kd s : Nat) : Nat → Nat
  | 0 => s
  | k + 1 => if mu N kd k = true then (if mn (rot N (mo N s k 0)) (N - 1) < lo N kd s k then mn (rot N (mo N s k 0)) (N - 1) else lo N kd s k) else lo N kd s k
theorem lo_s (N kd s k : Nat) : lo N kd s (k + 1) = if mu N kd k = true then (if mn (rot N (mo N s k 0)) (N - 1) < lo N kd s k then mn (rot N (mo N s k 0)) (N - 1) else lo N kd s k) else lo N kd s k := rfl
def lst (N kd s : Nat) : Nat := lo N kd s N
theorem mnr_lt {N s : Nat} (hN : 0 < N) (hs : s < 2 ^ N) : mn (rot N s) (N - 1) < 2 ^ N := by
  obtain ⟨i, hi, e⟩ := mn_at (rot N s) (N - 1)
  rw [e]; exact rot_lt hN hs (by omega)
theorem lo_lt {N kd s : Nat} (hN : 0 < N) (hs : s < 2 ^ N) : ∀ k, lo N kd s k < 2 ^ N := by
  intro k
  induction k with
  | zero => exact hs
  | succ k ih =>
    rw [lo_s]
    have := mnr_lt (s := mo N s k 0) hN (mo_lt hN)
    split
    · split <;> omega
    · exact ih
theorem b1_ne {b : Bool} : (b1 b = 0) ↔ b = false := by cases b <;> decide
theorem lst_nat {N kd s : Nat} (hN : 0 < N) (hN2 : N ≤ 12) (hk : kd < 3) (hs : s < 2 ^ N) : FX0_leastOf (nI N) (nI (2 ^ N - 1)) (nI s) (nI kd) = some (nI (lst N kd s)) := by
  have hp := pow_le12 hN2
  unfold FX0_leastOf X0_leastOf_5_l
  have h := loop_run (step := fun z => X0_leastOf_5_s (nI N) (nI (2 ^ N - 1)) (nI s) (nI kd) z.1 z.2) (nI (lst N kd s)) N FU (fun i => (nI (lo N kd s i), nI i)) (FU_big (by omega)) ?_ ?_
  · have h : loopN (fun z => X0_leastOf_5_s (nI N) (nI (2 ^ N - 1)) (nI s) (nI kd) z.1 z.2) FU (nI s, 0) = _ := h
    rw [h]; rfl
  · intro i hi
    show X0_leastOf_5_s (nI N) (nI (2 ^ N - 1)) (nI s) (nI kd) (nI (lo N kd s i)) (nI i) = some (.inl (nI (lo N kd s (i + 1)), nI (i + 1)))
    unfold X0_leastOf_5_s
    rw [if_neg (nI_ge hi (by omega)), mu_c N (by omega) hN kd hk i hi, lo_s]
    by_cases hm : mu N kd i = true
    · show (if b1 (mu N kd i) = 0 then _ else _) = _
      rw [if_neg (by rw [b1_ne, hm]; exact fun q => by cases q), if_pos hm, te_nat hN hN2 hs hi, te_mo]
      simp only [Option.bind_some]
      rw [ltu_nat hN hN2 (mo_lt hN)]
      simp only [Option.bind_some]
      rw [min_nI (by have := mnr_lt (s := mo N s i 0) hN (mo_lt hN); omega) (by have := lo_lt (kd := kd) hN hs i; omega), nI_1]
    · show (if b1 (mu N kd i) = 0 then _ else _) = _
      have hm' : mu N kd i = false := by cases q : mu N kd i with
        | true => exact absurd q hm
        | false => rfl
      rw [if_pos (b1_ne.mpr hm'), if_neg hm, nI_1]
  · show X0_leastOf_5_s (nI N) (nI (2 ^ N - 1)) (nI s) (nI kd) _ (nI N) = _
    unfold X0_leastOf_5_s
    rw [if_pos (nI_le (Nat.le_refl N) (by omega))]
    rfl
/-! the group -/
set_option maxRecDepth 100000 in
theorem mu_mul0 : ∀ N, N < 13 → ∀ kd, kd < 3 → ∀ m, m < N → ∀ m2, m2 < N → (!mu N kd m || !mu N kd m2 || mu N kd (m2 * m % N)) = true := by decide +kernel
theorem mu_mul (N : Nat) (hN2 : N < 13) (_ : 0 < N) (kd : Nat) (hk : kd < 3) (m : Nat) (hm : m < N) (m2 : Nat) (hm2 : m2 < N) (h1 : mu N kd m = true) (h2 : mu N kd m2 = true) : mu N kd (m2 * m % N) = true := by
  have := mu_mul0 N hN2 kd hk m hm m2 hm2
  rw [h1, h2] at this
  exact this
set_option maxRecDepth 100000 in
theorem mu_inv0 : ∀ N, N < 13 → ∀ kd, kd < 3 → ∀ m, m < N → (!mu N kd m || (List.range N).any (fun m2 => mu N kd m2 && decide (m2 * m % N = 1 % N))) = true := by decide +kernel
theorem mu_inv (N : Nat) (hN2 : N < 13) (_ : 0 < N) (kd : Nat) (hk : kd < 3) (m : Nat) (hm : m < N) (h1 : mu N kd m = true) : ∃ m2, m2 < N ∧ mu N kd m2 = true ∧ m2 * m % N = 1 % N := by
  have := mu_inv0 N hN2 kd hk m hm
  rw [h1] at this
  have h2 : (List.range N).any (fun m2 => mu N kd m2 && decide (m2 * m % N = 1 % N)) = true := this
  obtain ⟨m2, q1, q2⟩ := List.any_eq_true.mp h2
  simp only [Bool.and_eq_true, decide_eq_true_eq] at q2
  exact ⟨m2, List.mem_range.mp q1, q2.1, q2.2⟩
set_option maxRecDepth 100000 in
theorem mu_one : ∀ N, N < 13 → 0 < N → ∀ kd, kd < 3 → mu N kd (1 % N) = true := by decide +kernel
theorem mo_mo {N s m t m2 t2 : Nat} (hN : 0 < N) : mo N (mo N s m t) m2 t2 = mo N s (m2 * m % N) ((m2 * t + t2) % N) := by
  unfold mo
  rw [im_im (fun a _ => Nat.mod_lt _ hN)]
  refine im_congr (fun a _ => ?_)
  show (m2 * ((m * a + t) % N) + t2) % N = (m2 * m % N * a + (m2 * t + t2) % N) % N
  rw [Nat.add_mod_mod, ← Nat.mod_add_mod (m2 * m % N * a), Nat.mod_mul_mod, Nat.mod_add_mod, ← Nat.mod_add_mod (m2 * ((m * a + t) % N)), Nat.mul_mod_mod, Nat.mod_add_mod]
  congr 1
  rw [Nat.mul_add, Nat.mul_assoc, Nat.add_assoc]
theorem mo_one {N s : Nat} (hN : 0 < N) (hs : s < 2 ^ N) : mo N s (1 % N) 0 = s := by
  apply bit_ext
  intro j
  unfold mo
  rw [im_bit]
  have e : ∀ a, a < N → (1 % N * a + 0) % N = a := by
    intro a ha
    rw [Nat.add_zero, Nat.mod_mul_mod, Nat.one_mul, Nat.mod_eq_of_lt ha]
  constructor
  · rintro ⟨a, h1, h2, h3⟩
    have h3 : (1 % N * a + 0) % N = j := h3
    rw [e a h1] at h3
    rw [← h3]; exact h2
  · intro h
    have hj := bit_lt hs h
    exact ⟨j, hj, h, e j hj⟩
/-- one class -/
def orb (N kd s s2 : Nat) : Prop := ∃ m t, m < N ∧ t < N ∧ mu N kd m = true ∧ mo N s m t = s2
theorem orb_refl {N kd s : Nat} (hN : 0 < N) (hN2 : N ≤ 12) (hk : kd < 3) (hs : s < 2 ^ N) : orb N kd s s := ⟨1 % N, 0, Nat.mod_lt _ hN, hN, mu_one N (by omega) hN kd hk, mo_one hN hs⟩
theorem orb_trans {N kd s s2 s3 : Nat} (hN : 0 < N) (hN2 : N ≤ 12) (hk : kd < 3) (h1 : orb N kd s s2) (h2 : orb N kd s2 s3) : orb N kd s s3 := by
  obtain ⟨m, t, hm, ht, hu, rfl⟩ := h1
  obtain ⟨m2, t2, hm2, ht2, hu2, rfl⟩ := h2
  exact ⟨m2 * m % N, (m2 * t + t2) % N, Nat.mod_lt _ hN, Nat.mod_lt _ hN, mu_mul N (by omega) hN kd hk m hm m2 hm2 hu hu2, (mo_mo hN).symm⟩
theorem mo_back {N kd m t : Nat} (hN : 0 < N) (hN2 : N ≤ 12) (hk : kd < 3) (hm : m < N) (ht : t < N) (hu : mu N kd m = true) : ∃ m2 t2, m2 < N ∧ t2 < N ∧ mu N kd m2 = true ∧ ∀ s, s < 2 ^ N → mo N (mo N s m t) m2 t2 = s := by
  obtain ⟨m2, h1, h2, h3⟩ := mu_inv N (by omega) hN kd hk m hm hu
  refine ⟨m2, (N - m2 * t % N) % N, h1, Nat.mod_lt _ hN, h2, fun s hs => ?_⟩
  rw [mo_mo hN, h3]
  have e : (m2 * t + (N - m2 * t % N) % N) % N = 0 := by
    have hl := Nat.mod_lt (m2 * t) hN
    rw [Nat.add_mod_mod, ← Nat.mod_add_mod, show m2 * t % N + (N - m2 * t % N) = N by omega, Nat.mod_self]
  rw [e]; exact mo_one hN hs
theorem orb_symm {N kd s s2 : Nat} (hN : 0 < N) (hN2 : N ≤ 12) (hk : kd < 3) (hs : s < 2 ^ N) (h : orb N kd s s2) : orb N kd s2 s := by
  obtain ⟨m, t, hm, ht, hu, rfl⟩ := h
  obtain ⟨m2, t2, h1, h2, h3, h4⟩ := mo_back hN hN2 hk hm ht hu
  exact ⟨m2, t2, h1, h2, h3, h4 s hs⟩
theorem lo_le {N kd s m t : Nat} (hN : 0 < N) (ht : t < N) (hu : mu N kd m = true) : ∀ k, m < k → lo N kd s k ≤ mo N s m t := by
  intro k
  induction k with
  | zero => intro h; omega
  | succ k ih =>
    intro h
    rw [lo_s]
    by_cases e : m = k
    · subst e
      have h1 : mn (rot N (mo N s m 0)) (N - 1) ≤ mo N s m t := by
        have h9 := mn_le (rot N (mo N s m 0)) (N - 1) t (by omega)
        rw [rot_mo (s := s) (m := m) (t := t) hN (by omega)] at h9
        exact h9
      rw [if_pos hu]
      split <;> omega
    · have := ih (by omega)
      split
      · split <;> omega
      · exact this
theorem lo_at {N kd s : Nat} (hN : 0 < N) (hN2 : N ≤ 12) (hk : kd < 3) (hs : s < 2 ^ N) : ∀ k, k ≤ N → orb N kd s (lo N kd s k) := by
  intro k
  induction k with
  | zero => intro _; exact orb_refl hN hN2 hk hs
  | succ k ih =>
    intro h
    rw [lo_s]
    split
    · rename_i hu
      split
      · obtain ⟨i, hi, e⟩ := mn_at (rot N (mo N s k 0)) (N - 1)
        rw [e, rot_mo hN (by omega)]
        exact ⟨k, i, by omega, by omega, hu, rfl⟩
      · exact ih (by omega)
    · exact ih (by omega)
theorem lst_le {N kd s s2 : Nat} (hN : 0 < N) (h : orb N kd s s2) : lst N kd s ≤ s2 := by
  obtain ⟨m, t, hm, ht, hu, rfl⟩ := h
  exact lo_le hN ht hu N hm
theorem lst_orb {N kd s : Nat} (hN : 0 < N) (hN2 : N ≤ 12) (hk : kd < 3) (hs : s < 2 ^ N) : orb N kd s (lst N kd s) := lo_at hN hN2 hk hs N (Nat.le_refl N)
theorem lst_lt {N kd s : Nat} (hN : 0 < N) (hs : s < 2 ^ N) : lst N kd s < 2 ^ N := lo_lt hN hs N
theorem orb_lt {N kd s s2 : Nat} (hN : 0 < N) (h : orb N kd s s2) : s2 < 2 ^ N := by
  obtain ⟨m, t, _, _, _, rfl⟩ := h
  exact mo_lt hN
theorem lst_eq {N kd s s2 : Nat} (hN : 0 < N) (hN2 : N ≤ 12) (hk : kd < 3) (hs : s < 2 ^ N) (h : orb N kd s s2) : lst N kd s = lst N kd s2 := by
  have hs2 := orb_lt hN h
  apply Nat.le_antisymm
  · exact lst_le hN (orb_trans hN hN2 hk h (lst_orb hN hN2 hk hs2))
  · exact lst_le hN (orb_trans hN hN2 hk (orb_symm hN hN2 hk hs h) (lst_orb hN hN2 hk hs))
theorem lst_iff {N kd s s2 : Nat} (hN : 0 < N) (hN2 : N ≤ 12) (hk : kd < 3) (hs : s < 2 ^ N) (hs2 : s2 < 2 ^ N) : lst N kd s = lst N kd s2 ↔ orb N kd s s2 := by
  constructor
  · intro h
    have h1 := lst_orb hN hN2 hk hs
    have h2 := orb_symm hN hN2 hk hs2 (lst_orb hN hN2 hk hs2)
    rw [← h] at h2
    exact orb_trans hN hN2 hk h1 h2
  · exact lst_eq hN hN2 hk hs
