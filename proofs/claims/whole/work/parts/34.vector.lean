/-! vector -/
theorem nfa (b : Bool) : ¬ (false && b) = true := by cases b <;> decide
def pq (N s d a b : Nat) : Bool := decide ((if N - b + a ≤ b - a then N - b + a else b - a) = d) && (s.testBit a && s.testBit b)
def prs (N s d : Nat) : Nat := sm (fun a => cb (fun j => pq N s d a (a + 1 + j)) (N - 1 - a)) N
theorem sm_add2 (f g : Nat → Nat) : ∀ n, sm (fun i => f i + g i) n = sm f n + sm g n := by
  intro n
  induction n with
  | zero => rfl
  | succ n ih => rw [sm_s, sm_s, sm_s, ih]; omega
theorem sm_ind (p : Nat → Bool) : ∀ n, sm (fun i => if p i = true then 1 else 0) n = cb p n := by
  intro n
  induction n with
  | zero => rfl
  | succ n ih => rw [sm_s, cb_s, ih]
theorem cb_tr (p : Nat → Bool) (M : Nat) : ∀ n, M ≤ n → cb (fun a => decide (a < M) && p a) n = cb p M := by
  intro n
  induction n with
  | zero =>
    intro h
    have : M = 0 := by omega
    subst this
    rfl
  | succ n ih =>
    intro h
    by_cases hc : M = n + 1
    · subst hc
      exact cb_congr (fun i hi => by rw [decide_eq_true hi]; rfl)
    · rw [cb_s, ih (by omega), if_neg (by rw [decide_eq_false (by omega)]; exact nfa _)]
      rfl
theorem cb_pt (q : Nat → Bool) (p : Nat) : ∀ n, cb (fun j => decide (j = p) && q j) n = if (decide (p < n) && q p) = true then 1 else 0 := by
  intro n
  induction n with
  | zero => rw [if_neg (by rw [decide_eq_false (by omega)]; exact nfa _)]; rfl
  | succ n ih =>
    rw [cb_s, ih]
    by_cases hc : n = p
    · subst hc
      rw [decide_eq_true (rfl : n = n), decide_eq_false (Nat.lt_irrefl n), decide_eq_true (Nat.lt_succ_self n)]
      cases q n <;> rfl
    · rw [decide_eq_false hc]
      have e : decide (p < n + 1) = decide (p < n) := by
        by_cases h : p < n
        · rw [decide_eq_true h, decide_eq_true (by omega)]
        · rw [decide_eq_false h, decide_eq_false (by omega)]
      rw [e, Bool.false_and]
      rfl
theorem cb_or {x y : Nat → Bool} (h : ∀ i, ¬ (x i = true ∧ y i = true)) : ∀ n, cb (fun i => x i || y i) n = cb x n + cb y n := by
  intro n
  induction n with
  | zero => rfl
  | succ n ih =>
    rw [cb_s, cb_s, cb_s, ih]
    have q := h n
    cases hx : x n <;> cases hy : y n
    · rfl
    · show _ + 1 = _ + 0 + (_ + 1); omega
    · show _ + 1 = _ + 1 + (_ + 0); omega
    · exact absurd ⟨hx, hy⟩ q
theorem pq_in {N s d a : Nat} (hd : 1 ≤ d) (hd2 : d ≤ N / 2) (ha : a < N) : cb (fun j => pq N s d a (a + 1 + j)) (N - 1 - a) = (if (decide (a < N - d) && (s.testBit a && s.testBit (a + d))) = true then 1 else 0) + (if (!decide (d * 2 = N) && (decide (a < d) && (s.testBit a && s.testBit (a + (N - d))))) = true then 1 else 0) := by
  have e1 : cb (fun j => pq N s d a (a + 1 + j)) (N - 1 - a) = cb (fun j => (decide (j = d - 1) && (s.testBit a && s.testBit (a + 1 + j))) || (decide (j = N - 1 - d) && (!decide (d * 2 = N) && (s.testBit a && s.testBit (a + 1 + j))))) (N - 1 - a) := by
    apply cb_congr
    intro j hj
    unfold pq
    generalize (s.testBit a && s.testBit (a + 1 + j)) = z
    have e0 : decide ((if N - (a + 1 + j) + a ≤ a + 1 + j - a then N - (a + 1 + j) + a else a + 1 + j - a) = d) = (decide (j = d - 1) || decide (j = N - 1 - d)) := by
      by_cases h1 : j = d - 1
      · rw [decide_eq_true h1, decide_eq_true]
        · rfl
        · split <;> omega
      · by_cases h2 : j = N - 1 - d
        · rw [decide_eq_true h2, decide_eq_true, Bool.or_true]
          split <;> omega
        · rw [decide_eq_false h1, decide_eq_false h2, decide_eq_false]
          · rfl
          · split <;> omega
    rw [e0]
    by_cases h1 : j = d - 1
    · rw [decide_eq_true h1]
      cases z <;> simp
    · rw [decide_eq_false h1]
      by_cases h2 : j = N - 1 - d
      · rw [decide_eq_true h2, decide_eq_false (show ¬ d * 2 = N by omega)]
        cases z <;> rfl
      · rw [decide_eq_false h2]
        cases z <;> rfl
  rw [e1, cb_or (x := fun j => decide (j = d - 1) && (s.testBit a && s.testBit (a + 1 + j))) (y := fun j => decide (j = N - 1 - d) && (!decide (d * 2 = N) && (s.testBit a && s.testBit (a + 1 + j)))), cb_pt (fun j => s.testBit a && s.testBit (a + 1 + j)), cb_pt (fun j => !decide (d * 2 = N) && (s.testBit a && s.testBit (a + 1 + j)))]
  · have q1 : decide (d - 1 < N - 1 - a) = decide (a < N - d) := by
      by_cases h : a < N - d
      · rw [decide_eq_true h, decide_eq_true (by omega)]
      · rw [decide_eq_false h, decide_eq_false (by omega)]
    have q2 : decide (N - 1 - d < N - 1 - a) = decide (a < d) := by
      by_cases h : a < d
      · rw [decide_eq_true h, decide_eq_true (by omega)]
      · rw [decide_eq_false h, decide_eq_false (by omega)]
    rw [q1, q2, show a + 1 + (d - 1) = a + d by omega, show a + 1 + (N - 1 - d) = a + (N - d) by omega]
    cases decide (a < d) <;> cases decide (d * 2 = N) <;> rfl
  · intro i ⟨h1, h2⟩
    rw [Bool.and_eq_true] at h1 h2
    have h3 := of_decide_eq_true h1.1
    have h4 := of_decide_eq_true h2.1
    have h5 := h2.2
    rw [Bool.and_eq_true] at h5
    have h6 := h5.1
    rw [decide_eq_true (show d * 2 = N by omega)] at h6
    cases h6
theorem prs_eq {N s d : Nat} (hd : 1 ≤ d) (hd2 : d ≤ N / 2) : prs N s d = cb (fun a => s.testBit a && s.testBit (a + d)) (N - d) + (if d * 2 = N then 0 else cb (fun a => s.testBit a && s.testBit (a + (N - d))) d) := by
  unfold prs
  rw [sm_congr (fun a ha => pq_in (s := s) hd hd2 ha), sm_add2, sm_ind (fun a => decide (a < N - d) && (s.testBit a && s.testBit (a + d))), sm_ind (fun a => !decide (d * 2 = N) && (decide (a < d) && (s.testBit a && s.testBit (a + (N - d))))), cb_tr (fun a => s.testBit a && s.testBit (a + d)) _ _ (by omega)]
  by_cases hc : d * 2 = N
  · rw [if_pos hc, cb_0 (p := fun a => !decide (d * 2 = N) && (decide (a < d) && (s.testBit a && s.testBit (a + (N - d))))) (fun i hi => by rw [decide_eq_true hc]; rfl)]
  · rw [if_neg hc]
    have e : cb (fun a => !decide (d * 2 = N) && (decide (a < d) && (s.testBit a && s.testBit (a + (N - d))))) N = cb (fun a => decide (a < d) && (s.testBit a && s.testBit (a + (N - d)))) N := cb_congr (fun i hi => by rw [decide_eq_false hc]; rfl)
    rw [e, cb_tr (fun a => s.testBit a && s.testBit (a + (N - d))) _ _ (by omega)]
theorem bc_N {x N : Nat} (hN2 : N ≤ 12) (hx : x < 2 ^ N) : bc x 12 = cb (fun i => x.testBit i) N := by
  rw [bc_cb, ← cb_tr (fun i => x.testBit i) N 12 hN2]
  apply cb_congr
  intro i hi
  by_cases h : i < N
  · rw [decide_eq_true h]; rfl
  · rw [decide_eq_false h]
    cases hq : x.testBit i
    · rfl
    · exact absurd (bit_lt hx hq) h
theorem bool_ext {a b : Bool} (h : a = true ↔ b = true) : a = b := by
  cases a <;> cases b
  · rfl
  · exact absurd (h.mpr rfl) (by decide)
  · exact absurd (h.mp rfl) (by decide)
  · rfl
theorem pa_eq {N s d : Nat} (hN : 0 < N) (hN2 : N ≤ 12) (hs : s < 2 ^ N) (hd : d ≤ N) : bc (s &&& rot N s d) 12 = cb (fun a => s.testBit a && s.testBit (a + (N - d))) d + cb (fun a => s.testBit a && s.testBit (a + d)) (N - d) := by
  rw [bc_N hN2 (bit_and_lt hs)]
  have e : ∀ j, j < N → (s &&& rot N s d).testBit j = (s.testBit j && s.testBit ((j + (N - d)) % N)) := by
    intro j hj
    rw [Nat.testBit_and]
    congr 1
    apply bool_ext
    rw [rot_bit hN hs hd]
    exact ⟨fun h => h.2, fun h => ⟨hj, h⟩⟩
  rw [cb_congr e]
  have e2 := cb_add (fun j => s.testBit j && s.testBit ((j + (N - d)) % N)) d (N - d)
  rw [show d + (N - d) = N by omega] at e2
  rw [e2]
  congr 1
  · exact cb_congr (fun i hi => by rw [Nat.mod_eq_of_lt (by omega)])
  · apply cb_congr
    intro i hi
    rw [show d + i + (N - d) = i + N by omega, Nat.add_mod_right, Nat.mod_eq_of_lt (by omega), Nat.add_comm d i, Bool.and_comm]
theorem vec_eq {N d s : Nat} (hN2 : N ≤ 12) (hd : 1 ≤ d) (hd2 : d ≤ N / 2) (hs : s < 2 ^ N) : (if d * 2 = N then bc (s &&& rot N s d) 12 / 2 else bc (s &&& rot N s d) 12) = prs N s d := by
  rw [prs_eq hd hd2, pa_eq (by omega) hN2 hs (by omega)]
  by_cases hc : d * 2 = N
  · rw [if_pos hc, if_pos hc, show N - d = d by omega]
    omega
  · rw [if_neg hc, if_neg hc, Nat.add_comm]
theorem pr_65 {s d c a b D : Nat} (hs : s < 4096) (ha : a < 12) (hb : b < 12) (hd : d < 100) (hD : D < 100) : X6_pairs_65 (nI s) (nI d) (nI c) (nI a) (nI b) (nI D) = some (.inl (nI (c + (if (decide (D = d) && (s.testBit a && s.testBit b)) = true then 1 else 0)), nI (b + 1))) := by
  unfold X6_pairs_65
  have z1 : nI c + 1 = nI (c + 1) := nI_1 c
  have z0 : nI c + 0 = nI (c + 0) := nI_add c 0
  have w1 := n_bit (a := s) (k := a) (by omega) (by omega)
  have w2 := n_bit (a := s) (k := b) (by omega) (by omega)
  have w3 := nI_eq (a := D) (b := d) (by omega) (by omega)
  have z3 : nI b + 1 = nI (b + 1) := nI_1 b
  rw [z1, z0, z3]
  by_cases h1 : s.testBit a = true
  · rw [if_pos (w1.mpr h1)]
    by_cases h2 : s.testBit b = true
    · rw [if_pos (w2.mpr h2)]
      by_cases h3 : D = d
      · rw [if_pos (w3.mpr h3), h1, h2, if_pos (by rw [decide_eq_true h3]; rfl)]
      · rw [if_neg (fun q => h3 (w3.mp q)), if_neg (by rw [decide_eq_false h3]; exact nfa _)]
    · rw [if_neg (fun q => h2 (w2.mp q)), if_neg]
      rw [Bool.and_eq_true, Bool.and_eq_true]
      exact fun q => h2 q.2.2
  · rw [if_neg (fun q => h1 (w1.mp q)), if_neg]
    rw [Bool.and_eq_true, Bool.and_eq_true]
    exact fun q => h1 q.2.1
theorem pr_in {N s d a f : Nat} (hN2 : N ≤ 12) (hs : s < 2 ^ N) (hd : d < 100) (ha : a < N) : X6_pairs_20_l (nI N) (nI s) (nI d) (nI a) (nI f) (nI (a + 1)) = some (nI (f + cb (fun j => pq N s d a (a + 1 + j)) (N - 1 - a))) := by
  have hp := pow_le12 hN2
  unfold X6_pairs_20_l
  refine loop_at _ (N - 1 - a) FU (fun i => (nI (f + cb (fun j => pq N s d a (a + 1 + j)) i), nI (a + 1 + i))) _ rfl (FU_big (by omega)) ?_ ?_
  · intro i hi
    show X6_pairs_20_s (nI N) (nI s) (nI d) (nI a) (nI (f + cb (fun j => pq N s d a (a + 1 + j)) i)) (nI (a + 1 + i)) = some (.inl (nI (f + cb (fun j => pq N s d a (a + 1 + j)) (i + 1)), nI (a + 1 + i + 1)))
    unfold X6_pairs_20_s
    rw [if_neg (nI_ge (by omega) (by omega)), pk_sub (by omega), nI_add, pk_sub (by omega), cb_s, ← Nat.add_assoc]
    by_cases hc : N - (a + 1 + i) + a ≤ a + 1 + i - a
    · rw [if_pos (nI_le hc (by omega)), pr_65 (by omega) (by omega) (by omega) hd (by omega)]
      unfold pq
      rw [if_pos hc]
    · rw [if_neg (nI_ge (by omega) (by omega)), pr_65 (by omega) (by omega) (by omega) hd (by omega)]
      unfold pq
      rw [if_neg hc]
  · show X6_pairs_20_s (nI N) (nI s) (nI d) (nI a) (nI (f + cb (fun j => pq N s d a (a + 1 + j)) (N - 1 - a))) (nI (a + 1 + (N - 1 - a))) = _
    unfold X6_pairs_20_s
    rw [if_pos (nI_le (by omega) (by omega))]
theorem pr_nat {N s d : Nat} (hN2 : N ≤ 12) (hs : s < 2 ^ N) (hd : d < 100) : FX6_pairs (nI N) (nI s) (nI d) = some (nI (prs N s d)) := by
  unfold FX6_pairs X6_pairs_113
  have h : X6_pairs_5_l (nI N) (nI s) (nI d) 0 0 = some (nI (prs N s d)) := by
    unfold X6_pairs_5_l
    refine loop_at _ N FU (fun i => (nI (sm (fun a => cb (fun j => pq N s d a (a + 1 + j)) (N - 1 - a)) i), nI i)) _ rfl (FU_big (by omega)) ?_ ?_
    · intro i hi
      show X6_pairs_5_s (nI N) (nI s) (nI d) (nI (sm (fun a => cb (fun j => pq N s d a (a + 1 + j)) (N - 1 - a)) i)) (nI i) = some (.inl (nI (sm (fun a => cb (fun j => pq N s d a (a + 1 + j)) (N - 1 - a)) (i + 1)), nI (i + 1)))
      unfold X6_pairs_5_s X6_pairs_107
      have z1 : nI i + (1 : Int32) = nI (i + 1) := nI_1 i
      rw [if_neg (nI_ge hi (by omega)), z1, pr_in hN2 hs hd hi, bso, sm_s]
    · show X6_pairs_5_s (nI N) (nI s) (nI d) (nI (sm (fun a => cb (fun j => pq N s d a (a + 1 + j)) (N - 1 - a)) N)) (nI N) = _
      unfold X6_pairs_5_s
      rw [if_pos (nI_le (Nat.le_refl _) (by omega))]
      rfl
  rw [h, bso]
theorem pa_nat {N s d : Nat} (hN : 0 < N) (hN2 : N ≤ 12) (hs : s < 2 ^ N) (hd : d ≤ N) : FX0_pairsApart (nI N) (nI (2 ^ N - 1)) (nI s) (nI d) = some (nI (bc (s &&& rot N s d) 12)) := by
  have hp := pow_le12 hN2
  unfold FX0_pairsApart
  rw [tu_nat hN hN2 hs hd, bso, nx_and, bcount (Nat.lt_of_lt_of_le (bit_and_lt hs) hp), bso]
theorem op_vector : Op_vector InvC := by
  intro n ev ld0 ld1 ld2 tk mb f0 f1 f2 fr fu m_code m_n m_built m_length m_begin m_many m_leastOf m_sizeOf m_own m_bestRow m_tryRow m_keptRow m_otherRow m_row m_formRow m_allForms m_rowsOf m_intervals m_places m_whole a1 a2 ⟨N, hN, hN2, h1, h2, h3, l0, l1, l2, hR, hC, hT⟩
  subst h1; subst h2; subst h3
  have hp := pow_le12 hN2
  unfold FX5_vector FX6_vector FX0_count
  rcases set_dec hN2 a1 with ⟨e1, e2⟩ | ⟨s, hs, rfl, e1, e2⟩
  · rw [e1, e2]
    exact ⟨-2, 0, rfl, rfl, N, hN, hN2, rfl, rfl, rfl, l0, l1, l2, hR, hC, hT⟩
  · have hd2 : nI N / (2 : Int32) = nI (N / 2) := pk_div (d := 2) (by omega) (by omega) (by omega)
    rw [e1, e2, bso, if_neg n10, bso, bso, if_neg n10, hd2]
    rcases in_dec (a := 1) (b := N / 2) (by omega) (by omega) a2 with ⟨q1, q2⟩ | ⟨d, g1, g2, rfl, q1⟩
    · have q1 : FX6_isIn a2 1 (nI (N / 2)) = some 0 := q1
      rw [q1, bso, if_pos rfl]
      refine ⟨-2, 0, ?_, rfl, N, hN, hN2, rfl, rfl, rfl, l0, l1, l2, hR, hC, hT⟩
      by_cases hc : a2 < 1
      · rw [if_pos hc]
      · rw [if_neg hc, if_neg]
        intro hq
        have hz : nI (N / 2) < a2 := q2.resolve_left hc
        exact Int32.lt_irrefl (Int32.lt_of_lt_of_le hz hq)
    · have q1 : FX6_isIn (nI d) 1 (nI (N / 2)) = some 1 := q1
      have q2 : ¬ nI d < (1 : Int32) := nI_nlt (b := 1) g1 (by omega)
      have q3 : nI d * (2 : Int32) = nI (d * 2) := pk_mul d 2
      have hb := bc_le (s &&& rot N s d) 12
      rw [q1, bso, if_neg n10, pr_nat hN2 hs (by omega), bso, if_neg q2, if_pos (nI_le g2 (by omega)), pa_nat hN hN2 hs (by omega), bso, bso, q3, ← vec_eq hN2 g1 g2 hs]
      by_cases hc : d * 2 = N
      · rw [if_pos ((nI_eq (by omega) (by omega)).mpr hc), if_pos hc]
        have q4 : nI (bc (s &&& rot N s d) 12) / (2 : Int32) = nI (bc (s &&& rot N s d) 12 / 2) := pk_div (d := 2) (by omega) (by omega) (by omega)
        rw [q4]
        exact ⟨_, 0, rfl, rfl, N, hN, hN2, rfl, rfl, rfl, l0, l1, l2, hR, hC, hT⟩
      · rw [if_neg (fun q => hc ((nI_eq (by omega) (by omega)).mp q)), if_neg hc]
        exact ⟨_, 0, rfl, rfl, N, hN, hN2, rfl, rfl, rfl, l0, l1, l2, hR, hC, hT⟩
