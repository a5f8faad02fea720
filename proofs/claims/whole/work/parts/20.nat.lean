/-! numbers: ints that are naturals; bits; loops by their course -/
theorem nx_and (a b : Nat) : nI a &&& nI b = nI (a &&& b) := by
  apply Int32.toBitVec_inj.1
  show BitVec.ofNat 32 a &&& BitVec.ofNat 32 b = BitVec.ofNat 32 (a &&& b)
  apply BitVec.eq_of_getLsbD_eq
  intro i hi
  simp [hi]
theorem nx_or (a b : Nat) : nI a ||| nI b = nI (a ||| b) := by
  apply Int32.toBitVec_inj.1
  show BitVec.ofNat 32 a ||| BitVec.ofNat 32 b = BitVec.ofNat 32 (a ||| b)
  apply BitVec.eq_of_getLsbD_eq
  intro i hi
  simp [hi]
theorem nx_xor (a b : Nat) : nI a ^^^ nI b = nI (a ^^^ b) := by
  apply Int32.toBitVec_inj.1
  show BitVec.ofNat 32 a ^^^ BitVec.ofNat 32 b = BitVec.ofNat 32 (a ^^^ b)
  apply BitVec.eq_of_getLsbD_eq
  intro i hi
  simp [hi]
theorem s_l : ∀ n, n < 32 → ((nI n &&& 31).toBitVec.smod 32).toNat = n := by decide +kernel
theorem n_shl {a k : Nat} (hk : k < 32) (h : a * 2 ^ k < 2 ^ 32) : nI a <<< (nI k &&& 31) = nI (a * 2 ^ k) := pk_shlN (nI k &&& 31) k (s_l k hk) h
theorem n_shr {a k : Nat} (ha : a < 2 ^ 31) (hk : k < 32) : nI a >>> (nI k &&& 31) = nI (a / 2 ^ k) := pk_shrN ha (nI k &&& 31) k (s_l k hk)
theorem n_one {k : Nat} (hk : k < 32) : (1 : Int32) <<< (nI k &&& 31) = nI (2 ^ k) := by
  have h : 2 ^ k < 2 ^ 32 := Nat.pow_lt_pow_right (by omega) hk
  have e := n_shl (a := 1) hk (by rw [Nat.one_mul]; exact h)
  rw [Nat.one_mul] at e
  exact e
theorem n_bit {a k : Nat} (ha : a < 2 ^ 31) (hk : k < 32) : ((nI a >>> (nI k &&& 31)) &&& (1 : Int32)) = (1 : Int32) ↔ a.testBit k = true := by
  rw [n_shr ha hk, show (1 : Int32) = nI 1 from rfl, nx_and, Nat.and_one_is_mod, nI_eq (by omega) (by omega), Nat.testBit_eq_decide_div_mod_eq, decide_eq_true_eq]
theorem loop_run {σ ρ : Type} {step : σ → Option (σ ⊕ ρ)} (r : ρ) : ∀ (n N : Nat) (g : Nat → σ), n < N → (∀ i, i < n → step (g i) = some (.inl (g (i + 1)))) → step (g n) = some (.inr r) → loopN step N (g 0) = some r := by
  intro n
  induction n with
  | zero =>
    intro N g hN _ he
    cases N with
    | zero => omega
    | succ N =>
      show (step (g 0)).bind _ = _
      rw [he]
      rfl
  | succ n ih =>
    intro N g hN hs he
    cases N with
    | zero => omega
    | succ N =>
      show (step (g 0)).bind _ = _
      rw [hs 0 (by omega)]
      exact ih N (fun i => g (i + 1)) (by omega) (fun i hi => hs (i + 1) (by omega)) he
theorem FU_big {n : Nat} (h : n < 1099511627776) : n < FU := h
theorem w_nat {N x : Nat} (hN : 0 < N) (hN2 : N < 2 ^ 31) (hx : x < 2 ^ 31) : FX0_wrapped (nI N) (nI x) = some (nI (x % N)) := by
  unfold FX0_wrapped X0_wrapped_18
  have h1 : (1 : Int32) ≤ nI N := by rw [show (1 : Int32) = nI 1 from rfl]; exact nI_le (by omega) hN2
  rw [if_pos h1, if_neg (nI_ne0 hN hN2), pk_rem hx hN hN2, if_pos (nI_pos' (by have := Nat.mod_lt x hN; omega))]
/-- the image of the bits of s below k under f -/
def im (s : Nat) (f : Nat → Nat) : Nat → Nat
  | 0 => 0
  | k + 1 => if s.testBit k then im s f k ||| 2 ^ f k else im s f k
theorem im_s (s : Nat) (f : Nat → Nat) (k : Nat) : im s f (k + 1) = if s.testBit k = true then im s f k ||| 2 ^ f k else im s f k := rfl
theorem im_bit (s : Nat) (f : Nat → Nat) (j : Nat) : ∀ k, (im s f k).testBit j = true ↔ ∃ a, a < k ∧ s.testBit a = true ∧ f a = j := by
  intro k
  induction k with
  | zero => simp [im]
  | succ k ih =>
    unfold im
    by_cases h : s.testBit k = true
    · rw [if_pos h, Nat.testBit_or, Bool.or_eq_true, ih, Nat.testBit_two_pow]
      constructor
      · rintro (⟨a, h1, h2, h3⟩ | h1)
        · exact ⟨a, by omega, h2, h3⟩
        · exact ⟨k, by omega, h, by simpa using h1⟩
      · rintro ⟨a, h1, h2, h3⟩
        by_cases ha : a = k
        · right; rw [← h3, ha]; simp
        · left; exact ⟨a, by omega, h2, h3⟩
    · rw [if_neg h, ih]
      constructor
      · rintro ⟨a, h1, h2, h3⟩; exact ⟨a, by omega, h2, h3⟩
      · rintro ⟨a, h1, h2, h3⟩
        have ha : a ≠ k := fun e => h (by rw [← e]; exact h2)
        exact ⟨a, by omega, h2, h3⟩
theorem lt_of_bits {x N : Nat} (h : ∀ j, x.testBit j = true → j < N) : x < 2 ^ N := by
  apply Nat.lt_pow_two_of_testBit
  intro i hi
  cases hb : x.testBit i with
  | false => rfl
  | true => exact absurd (h i hb) (by omega)
theorem im_lt {s k N : Nat} {f : Nat → Nat} (hf : ∀ a, a < k → f a < N) : im s f k < 2 ^ N := by
  apply lt_of_bits
  intro j hj
  obtain ⟨a, h1, _, h3⟩ := (im_bit s f j k).mp hj
  rw [← h3]; exact hf a h1
theorem bit_lt {s N j : Nat} (hs : s < 2 ^ N) (h : s.testBit j = true) : j < N := by
  rcases Nat.lt_or_ge j N with q | q
  · exact q
  · have := Nat.testBit_lt_two_pow (x := s) (i := j) (Nat.lt_of_lt_of_le hs (Nat.pow_le_pow_right (by omega) q))
    rw [this] at h; cases h
theorem bit_ext {x y : Nat} (h : ∀ j, x.testBit j = true ↔ y.testBit j = true) : x = y := by
  apply Nat.eq_of_testBit_eq
  intro i
  have := h i
  cases hx : x.testBit i <;> cases hy : y.testBit i <;> simp_all
theorem im_im {s N : Nat} {f g : Nat → Nat} (hf : ∀ a, a < N → f a < N) : im (im s f N) g N = im s (fun a => g (f a)) N := by
  apply bit_ext
  intro j
  rw [im_bit, im_bit]
  constructor
  · rintro ⟨a, h1, h2, h3⟩
    obtain ⟨b, q1, q2, q3⟩ := (im_bit s f a N).mp h2
    exact ⟨b, q1, q2, by rw [q3]; exact h3⟩
  · rintro ⟨b, q1, q2, q3⟩
    exact ⟨f b, hf b q1, (im_bit s f (f b) N).mpr ⟨b, q1, q2, rfl⟩, q3⟩
theorem im_congr {s N : Nat} {f g : Nat → Nat} (h : ∀ a, a < N → f a = g a) : im s f N = im s g N := by
  apply bit_ext
  intro j
  rw [im_bit, im_bit]
  constructor <;> rintro ⟨a, h1, h2, h3⟩
  · exact ⟨a, h1, h2, by rw [← h a h1]; exact h3⟩
  · exact ⟨a, h1, h2, by rw [h a h1]; exact h3⟩
/-- times each -/
theorem te_nat {N s m : Nat} (hN : 0 < N) (hN2 : N ≤ 12) (hs : s < 2 ^ N) (hm : m < N) : FX0_timesEach (nI N) (nI s) (nI m) = some (nI (im s (fun a => (a * m) % N) N)) := by
  have hs2 : s < 2 ^ 31 := Nat.lt_of_lt_of_le hs (Nat.pow_le_pow_right (by omega) (by omega))
  unfold FX0_timesEach X0_timesEach_5_l
  have h := loop_run (step := fun z => X0_timesEach_5_s (nI N) (nI s) (nI m) z.1 z.2) (nI (im s (fun a => (a * m) % N) N)) N FU (fun i => (nI (im s (fun a => (a * m) % N) i), nI i)) (FU_big (by omega)) ?_ ?_
  · have h : loopN (fun z => X0_timesEach_5_s (nI N) (nI s) (nI m) z.1 z.2) FU (0, 0) = _ := h
    rw [h]; rfl
  · intro i hi
    show X0_timesEach_5_s (nI N) (nI s) (nI m) (nI (im s (fun a => (a * m) % N) i)) (nI i) = some (.inl (nI (im s (fun a => (a * m) % N) (i + 1)), nI (i + 1)))
    unfold X0_timesEach_5_s
    rw [if_neg (nI_ge hi (by omega)), im_s]
    by_cases hb : s.testBit i = true
    · have hw : i * m < 2 ^ 31 := by
        have : i * m < 12 * 12 := Nat.mul_lt_mul'' (by omega) (by omega)
        omega
      rw [if_pos ((n_bit hs2 (by omega)).mpr hb), if_pos hb, pk_mul, w_nat hN (by omega) hw]
      have hlt : (i * m) % N < 12 := by have := Nat.mod_lt (i * m) hN; omega
      show some (Sum.inl (_ ||| _, nI i + 1)) = _
      rw [n_one (by omega), nx_or, nI_1]
    · rw [if_neg (fun h => hb ((n_bit hs2 (by omega)).mp h)), if_neg hb, nI_1]
  · show X0_timesEach_5_s (nI N) (nI s) (nI m) _ (nI N) = _
    unfold X0_timesEach_5_s
    rw [if_pos (nI_le (Nat.le_refl N) (by omega))]
