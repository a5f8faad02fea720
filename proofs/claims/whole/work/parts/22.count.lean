/-! counting bits; greatest common divisors; which multipliers a kind has -/
def bc (x : Nat) : Nat → Nat
  | 0 => 0
  | k + 1 => bc x k + (if x.testBit k then 1 else 0)
theorem bc_s (x k : Nat) : bc x (k + 1) = bc x k + (if x.testBit k then 1 else 0) := rfl
theorem bc_le (x : Nat) : ∀ k, bc x k ≤ k := by
  intro k
  induction k with
  | zero => exact Nat.le_refl 0
  | succ k ih => rw [bc_s]; split <;> omega
set_option maxRecDepth 100000 in
theorem bcount0 : ∀ a, a < 64 → ∀ b, b < 64 → FJ6_bitCount_0f7a4 (nI (64 * a + b)) = some (nI (bc (64 * a + b) 12)) := by decide +kernel
theorem bcount {x : Nat} (h : x < 4096) : FJ6_bitCount_0f7a4 (nI x) = some (nI (bc x 12)) := by
  have := bcount0 (x / 64) (by omega) (x % 64) (Nat.mod_lt _ (by omega))
  rw [Nat.div_add_mod] at this
  exact this
theorem mcount {x : Nat} (h : x < 4096) : FX6_count (nI x) = some (nI (bc x 12)) := by
  have hs2 : x < 2 ^ 31 := by omega
  unfold FX6_count X6_count_4_l
  have h := loop_run (step := fun z => X6_count_4_s (nI x) z.1 z.2) (nI (bc x 12)) 12 FU (fun i => (nI (bc x i), nI i)) (FU_big (by omega)) ?_ ?_
  · have h : loopN (fun z => X6_count_4_s (nI x) z.1 z.2) FU (0, 0) = _ := h
    rw [h]; rfl
  · intro i hi
    show X6_count_4_s (nI x) (nI (bc x i)) (nI i) = some (.inl (nI (bc x (i + 1)), nI (i + 1)))
    unfold X6_count_4_s
    rw [if_neg (by rw [show (12 : Int32) = nI 12 from rfl]; exact nI_ge hi (by omega)), bc_s, n_shr hs2 (by omega), show (1 : Int32) = nI 1 from rfl, nx_and, Nat.and_one_is_mod, nI_add, nI_add, Nat.testBit_eq_decide_div_mod_eq]
    have : (x / 2 ^ i) % 2 = if decide (x / 2 ^ i % 2 = 1) = true then 1 else 0 := by
      by_cases q : x / 2 ^ i % 2 = 1
      · rw [if_pos (by simpa using q), q]
      · rw [if_neg (by simpa using q)]; omega
    rw [← this]
  · show X6_count_4_s (nI x) _ (nI 12) = _
    unfold X6_count_4_s
    rw [if_pos (by rw [show (12 : Int32) = nI 12 from rfl]; exact nI_le (Nat.le_refl 12) (by omega))]
set_option maxRecDepth 100000 in
theorem gcd_c : ∀ N, N < 13 → 0 < N → ∀ m, m < N → FX5_commonDivisor (nI m) (nI N) = some (nI (Nat.gcd m N)) := by decide +kernel
set_option maxRecDepth 100000 in
theorem gcd_m : ∀ N, N < 13 → 0 < N → ∀ m, m < N → FX6_common (nI m) (nI N) = some (nI (Nat.gcd m N)) := by decide +kernel
/-- is m among the multipliers of a kind -/
def mu (N kd m : Nat) : Bool := if kd = 2 then decide (Nat.gcd m N = 1) else (decide (m = 1 % N) || (decide (kd = 1) && decide (m = N - 1)))
def b1 (b : Bool) : Int32 := if b = true then 1 else 0
set_option maxRecDepth 100000 in
theorem mu_c : ∀ N, N < 13 → 0 < N → ∀ kd, kd < 3 → ∀ m, m < N → FX0_isMultiplier (nI N) (nI m) (nI kd) = some (b1 (mu N kd m)) := by decide +kernel
set_option maxRecDepth 100000 in
theorem mu_m : ∀ N, N < 13 → 0 < N → ∀ kd, kd < 3 → ∀ m, m < N → FX6_isMultiplier (nI N) (nI kd) (nI m) = some (b1 (mu N kd m)) := by decide +kernel
