/-! what holds between the class and the reference -/
def LL (N kd : Nat) : List Nat := (List.range (2 ^ N)).filter (fun x => decide (lst N kd x = x))
def listOK (N kd : Nat) (ld : Int32) (f : Nat → Int32) : Prop := ld = 0 ∨ (ld = nI (LL N kd).length ∧ (LL N kd).length ≤ 352 ∧ ∀ i, i < (LL N kd).length → f i = nI ((LL N kd).getD i 0))
def rowOK (N : Nat) (tk mb : Int32) (fr : Nat → Int32) (mm : Int32) (mr : Nat → Int32) : Prop := ∃ (T : Nat) (w : Nat → Nat) (B : Nat), T ≤ N ∧ tk = nI T ∧ mm = nI T ∧ mb = nI B ∧ B < 2 ^ N ∧ (∀ i, i < T → w i < N ∧ fr i = nI (w i) ∧ mr i = nI (w i)) ∧ (∀ i j, i < T → j < T → w i = w j → i = j) ∧ (∀ v, B.testBit v = true ↔ ∃ i, i < T ∧ w i = v)
def frq (n p U I i : Nat) : Bool := !I.testBit i && !U.testBit ((p + i) % n)
def gk (n : Nat) : Nat → Nat → Nat → Nat → Nat
  | 0, _, _, _ => 1
  | d + 1, p, U, I => sm (fun i => if frq n p U I i = true then gk n d ((p + i) % n) (U ||| 2 ^ ((p + i) % n)) (I ||| 2 ^ i) else 0) n
def arc (n : Nat) : Nat := gk n (n - 1) 0 1 0
def cntOK (fu ro : Nat → Int32) : Prop := ∀ k, k ≤ 12 → (fu k = 0 ∨ fu k = nI (arc k)) ∧ (ro k = 0 ∨ ro k = nI (arc k + 1))
def InvC : Int32 → Int32 → Int32 → Int32 → Int32 → Int32 → Int32 → (Nat → Int32) → (Nat → Int32) → (Nat → Int32) → (Nat → Int32) → (Nat → Int32) → Int32 → Int32 → Int32 → Int32 → Int32 → Int32 → (Nat → Int32) → (Nat → Int32) → (Nat → Int32) → (Nat → Int32) → (Nat → Int32) → (Nat → Int32) → (Nat → Int32) → (Nat → Int32) → (Nat → Int32) → (Nat → Int32) → (Nat → Int32) → (Nat → Int32) → (Nat → Int32) → (Nat → Int64) → Prop := fun n ev ld0 ld1 ld2 tk mb f0 f1 f2 fr fu m_code m_n m_built m_length m_begin m_many m_leastOf m_sizeOf m_own m_bestRow m_tryRow m_keptRow m_otherRow m_row m_formRow m_allForms m_rowsOf m_intervals m_places m_whole => ∃ N : Nat, 0 < N ∧ N ≤ 12 ∧ n = nI N ∧ ev = nI (2 ^ N - 1) ∧ m_n = nI N ∧ listOK N 0 ld0 f0 ∧ listOK N 1 ld1 f1 ∧ listOK N 2 ld2 f2 ∧ rowOK N tk mb fr m_many m_row ∧ cntOK fu m_rowsOf ∧ tabOK N m_built m_leastOf m_sizeOf
theorem row0 (N : Nat) (fr mr : Nat → Int32) : rowOK N 0 0 fr 0 mr := ⟨0, fun _ => 0, 0, Nat.zero_le _, rfl, rfl, rfl, Nat.pow_pos (by omega), fun i h => by omega, fun i j h => by omega, fun v => ⟨fun h => (by rw [Nat.zero_testBit] at h; cases h), fun ⟨i, h, _⟩ => (by omega)⟩⟩
theorem inv_start : InvC 12 4095 0 0 0 0 0 (fun _ => 0) (fun _ => 0) (fun _ => 0) (fun _ => 0) (fun _ => 0) 0 12 0 0 0 0 (fun _ => 0) (fun _ => 0) (fun _ => 0) (fun _ => 0) (fun _ => 0) (fun _ => 0) (fun _ => 0) (fun _ => 0) (fun _ => 0) (fun _ => 0) (fun _ => 0) (fun _ => 0) (fun _ => 0) (fun _ => 0) := ⟨12, by omega, by omega, rfl, rfl, rfl, Or.inl rfl, Or.inl rfl, Or.inl rfl, row0 12 _ _, fun k _ => ⟨Or.inl rfl, Or.inl rfl⟩, Or.inl rfl⟩
theorem op_clear : Op_clear InvC := by
  intro n ev ld0 ld1 ld2 tk mb f0 f1 f2 fr fu m_code m_n m_built m_length m_begin m_many m_leastOf m_sizeOf m_own m_bestRow m_tryRow m_keptRow m_otherRow m_row m_formRow m_allForms m_rowsOf m_intervals m_places m_whole ⟨N, hN, hN2, h1, h2, h3, l0, l1, l2, hR, hC, hT⟩
  obtain ⟨T, w, B, r1, r2, r3, r4⟩ := hR
  refine ⟨nI T, 0, 0, 0, 0, ?_, ?_, N, hN, hN2, h1, h2, h3, l0, l1, l2, row0 N _ _, hC, hT⟩
  · rw [r2]; rfl
  · rw [r3]; rfl
theorem op_steps : Op_steps InvC := by
  intro n ev ld0 ld1 ld2 tk mb f0 f1 f2 fr fu m_code m_n m_built m_length m_begin m_many m_leastOf m_sizeOf m_own m_bestRow m_tryRow m_keptRow m_otherRow m_row m_formRow m_allForms m_rowsOf m_intervals m_places m_whole a1 ⟨N, hN, hN2, h1, h2, h3, l0, l1, l2, hR, hC, hT⟩
  constructor
  · intro ha
    subst ha
    exact ⟨0, 1, m_n, m_built, m_many, rfl, rfl, N, hN, hN2, h1, h2, h3, l0, l1, l2, hR, hC, hT⟩
  · intro ha
    have e2 : (-2 : Int32) = -2 := rfl
    by_cases hneg : a1 < 0
    · refine ⟨-2, n, ev, ld0, ld1, ld2, tk, mb, 0, m_n, m_built, m_many, ?_, ?_, rfl, N, hN, hN2, h1, h2, h3, l0, l1, l2, hR, hC, hT⟩
      · unfold FX5_steps; rw [if_neg ha, if_pos hneg]
      · unfold FX6_steps; rw [if_neg ha, if_pos hneg]
    · obtain ⟨k, hk, rfl⟩ := nI_of hneg
      by_cases hbig : 12 < k
      · have hb : (12 : Int32) < nI k := nI_lt (a := 12) hbig hk
        have hb2 : ¬ nI k ≤ (12 : Int32) := nI_ge (a := 12) hbig hk
        refine ⟨-2, n, ev, ld0, ld1, ld2, tk, mb, 0, m_n, m_built, m_many, ?_, ?_, rfl, N, hN, hN2, h1, h2, h3, l0, l1, l2, hR, hC, hT⟩
        · unfold FX5_steps; rw [if_neg ha, if_neg hneg]; first | rw [if_neg hb2] | rw [if_pos hb]
        · unfold FX6_steps; rw [if_neg ha, if_neg hneg]; first | rw [if_neg hb2] | rw [if_pos hb]
      · have hk0 : 0 < k := by
          rcases Nat.eq_zero_or_pos k with q | q
          · exact absurd (by rw [q]; rfl) ha
          · exact q
        have hb : ¬ (12 : Int32) < nI k := nI_nlt (a := 12) (by omega) (by omega)
        have hb2 : nI k ≤ (12 : Int32) := nI_le (b := 12) (by omega) (by omega)
        refine ⟨nI (N % k), nI k, nI (2 ^ k - 1), 0, 0, 0, 0, 0, 0, nI k, 0, 0, ?_, ?_, rfl, k, hk0, by omega, rfl, rfl, rfl, Or.inl rfl, Or.inl rfl, Or.inl rfl, row0 k _ _, hC, Or.inl rfl⟩
        · unfold FX5_steps FX0_count FX0_become FX1_forget FX3_empty
          rw [if_neg ha, if_neg hneg]
          first | rw [if_pos hb2] | rw [if_neg hb]
          simp only [Option.bind_some, bind2_some]
          rw [if_neg ha, h1, pk_rem (by omega) hk0 hk, e_ev (by omega)]
          have : nI (2 ^ k) - 1 = nI (2 ^ k - 1) := pk_sub (b := 1) (Nat.pow_pos (by omega))
          rw [this]
        · unfold FX6_steps
          rw [if_neg ha, if_neg hneg]
          first | rw [if_pos hb2, if_neg ha] | rw [if_neg hb, if_neg ha]
          rw [h3, pk_rem (by omega) hk0 hk]
theorem op_others : Op_others InvC := by
  intro n ev ld0 ld1 ld2 tk mb f0 f1 f2 fr fu m_code m_n m_built m_length m_begin m_many m_leastOf m_sizeOf m_own m_bestRow m_tryRow m_keptRow m_otherRow m_row m_formRow m_allForms m_rowsOf m_intervals m_places m_whole a1 ⟨N, hN, hN2, h1, h2, h3, l0, l1, l2, hR, hC, hT⟩
  subst h1; subst h2; subst h3
  have hp := pow_le12 hN2
  unfold FX5_others FX6_others FX0_all
  rcases set_dec hN2 a1 with ⟨e1, e2⟩ | ⟨s, hs, rfl, e1, e2⟩
  · rw [e1, e2]
    exact ⟨-2, 0, rfl, rfl, N, hN, hN2, rfl, rfl, rfl, l0, l1, l2, hR, hC, hT⟩
  · rw [e1, e2]
    refine ⟨nI (2 ^ N - 1 - s), 0, ?_, ?_, N, hN, hN2, rfl, rfl, rfl, l0, l1, l2, hR, hC, hT⟩
    · simp only [Option.bind_some]
      rw [if_neg (by decide), show (-1 : Int32) = nI (2 ^ 32 - 1) from rfl, nx_xor, nx_and]
      congr 2
      apply bit_ext
      intro j
      rw [Nat.testBit_and, Nat.testBit_xor, Nat.testBit_two_pow_sub_one, Nat.testBit_two_pow_sub_one, show 2 ^ N - 1 - s = 2 ^ N - (s + 1) by omega, Nat.testBit_two_pow_sub_succ hs]
      by_cases hj : j < N
      · rw [decide_eq_true hj, decide_eq_true (show j < 32 by omega)]; simp
      · rw [decide_eq_false hj]; simp
    · simp only [Option.bind_some]
      rw [if_neg (by decide), e_ev hN2]
      have q1 : nI (2 ^ N) - 1 = nI (2 ^ N - 1) := pk_sub (b := 1) (Nat.pow_pos (by omega))
      rw [q1, pk_sub (by omega)]
theorem op_multiplied : Op_multiplied InvC := by
  intro n ev ld0 ld1 ld2 tk mb f0 f1 f2 fr fu m_code m_n m_built m_length m_begin m_many m_leastOf m_sizeOf m_own m_bestRow m_tryRow m_keptRow m_otherRow m_row m_formRow m_allForms m_rowsOf m_intervals m_places m_whole a1 a2 ⟨N, hN, hN2, h1, h2, h3, l0, l1, l2, hR, hC, hT⟩
  subst h1; subst h2; subst h3
  unfold FX5_multiplied FX6_multiplied
  rcases set_dec hN2 a1 with ⟨e1, e2⟩ | ⟨s, hs, rfl, e1, e2⟩
  · rw [e1, e2]
    exact ⟨-2, 0, rfl, rfl, N, hN, hN2, rfl, rfl, rfl, l0, l1, l2, hR, hC, hT⟩
  · rw [e1, e2]
    simp only [Option.bind_some]
    rw [if_neg (by decide), if_neg (by decide)]
    rcases step_dec hN2 a2 with ⟨e3, e4⟩ | ⟨m, hm, rfl, e3, e4⟩
    · rw [e3, e4]
      exact ⟨-2, 0, rfl, rfl, N, hN, hN2, rfl, rfl, rfl, l0, l1, l2, hR, hC, hT⟩
    · rw [e3, e4]
      simp only [Option.bind_some]
      rw [if_neg (by decide), if_neg (by decide), te_nat hN hN2 hs hm, te_mo, show (0 : Int32) = nI 0 from rfl, md_nat hN hN2 hs (by omega) hN]
      exact ⟨nI (mo N s m 0), nI 0, rfl, rfl, N, hN, hN2, rfl, rfl, rfl, l0, l1, l2, hR, hC, hT⟩
theorem op_least : Op_least InvC := by
  intro n ev ld0 ld1 ld2 tk mb f0 f1 f2 fr fu m_code m_n m_built m_length m_begin m_many m_leastOf m_sizeOf m_own m_bestRow m_tryRow m_keptRow m_otherRow m_row m_formRow m_allForms m_rowsOf m_intervals m_places m_whole a1 a2 ⟨N, hN, hN2, h1, h2, h3, l0, l1, l2, hR, hC, hT⟩
  subst h1; subst h2; subst h3
  unfold FX5_least FX6_least
  rcases set_dec hN2 a1 with ⟨e1, e2⟩ | ⟨s, hs, rfl, e1, e2⟩
  · rw [e1, e2]
    exact ⟨-2, 0, _, _, _, rfl, rfl, N, hN, hN2, rfl, rfl, rfl, l0, l1, l2, hR, hC, hT⟩
  · rw [e1, e2]
    simp only [Option.bind_some]
    rw [if_neg (by decide), if_neg (by decide)]
    rcases kind_dec a2 with ⟨e3, e4⟩ | ⟨k, hk, rfl, e3, e4⟩
    · rw [e3, e4]
      exact ⟨-2, 0, _, _, _, rfl, rfl, N, hN, hN2, rfl, rfl, rfl, l0, l1, l2, hR, hC, hT⟩
    · rw [e3, e4]
      simp only [Option.bind_some]
      obtain ⟨lo2, so2, e5, h5⟩ := li_nat hN hN2 hk hs hT
      rw [if_neg (by decide), if_neg (by decide), lst_nat hN hN2 hk hs, e5]
      exact ⟨nI (lst N k s), 0, 1, lo2, so2, rfl, rfl, N, hN, hN2, rfl, rfl, rfl, l0, l1, l2, hR, hC, h5⟩
