/-! more on loops; generator, vector -/
theorem loop_ex {σ ρ : Type} {step : σ → Option (σ ⊕ ρ)} (R : ρ → Prop) : ∀ (n F : Nat) (P : Nat → σ → Prop) (s : σ), n < F → (∀ i s, i < n → P i s → (∃ r, step s = some (.inr r) ∧ R r) ∨ (∃ t, step s = some (.inl t) ∧ P (i + 1) t)) → (∀ s, P n s → ∃ r, step s = some (.inr r) ∧ R r) → P 0 s → ∃ r, loopN step F s = some r ∧ R r := by
  intro n
  induction n with
  | zero =>
    intro F P s hF _ he h0
    cases F with
    | zero => omega
    | succ F =>
      obtain ⟨r, e, hr⟩ := he s h0
      refine ⟨r, ?_, hr⟩
      show (step s).bind _ = _
      rw [e]
      rfl
  | succ n ih =>
    intro F P s hF hs he h0
    cases F with
    | zero => omega
    | succ F =>
      rcases hs 0 s (by omega) h0 with ⟨r, e, hr⟩ | ⟨t, e, h1⟩
      · refine ⟨r, ?_, hr⟩
        show (step s).bind _ = _
        rw [e]
        rfl
      · obtain ⟨r, e2, hr⟩ := ih F (fun i => P (i + 1)) t (by omega) (fun i s hi hp => hs (i + 1) s (by omega) hp) he h1
        refine ⟨r, ?_, hr⟩
        show (step s).bind _ = _
        rw [e]
        exact e2
theorem loop_same {σ ρ : Type} {s1 s2 : σ → Option (σ ⊕ ρ)} (P : σ → Prop) (h : ∀ z, P z → s1 z = s2 z ∧ ∀ t, s1 z = some (.inl t) → P t) : ∀ F z, P z → loopN s1 F z = loopN s2 F z := by
  intro F
  induction F with
  | zero => intro z _; rfl
  | succ F ih =>
    intro z hz
    obtain ⟨e, q⟩ := h z hz
    show (s1 z).bind _ = (s2 z).bind _
    rw [← e]
    cases hx : s1 z with
    | none => rfl
    | some o =>
      cases o with
      | inl t => exact ih t (q t hx)
      | inr r => rfl
def allB (p : Nat → Bool) : Nat → Bool
  | 0 => true
  | k + 1 => p k && allB p k
theorem allB_at {p : Nat → Bool} : ∀ {n : Nat}, allB p n = true → ∀ i, i < n → p i = true := by
  intro n
  induction n with
  | zero => intro _ i hi; omega
  | succ n ih =>
    intro h i hi
    have h : (p n && allB p n) = true := h
    rw [Bool.and_eq_true] at h
    by_cases hc : i = n
    · rw [hc]; exact h.1
    · exact ih h.2 i (by omega)
theorem n10 : ¬ (1 : Int32) = 0 := by decide
/-- the chain from s0 by g, c steps of it -/
def chn (N g s0 : Nat) : Nat → Nat
  | 0 => 0
  | k + 1 => chn N g s0 k ||| 2 ^ ((s0 + k * g) % N)
theorem chn_lt {N g s0 : Nat} (hN : 0 < N) : ∀ k, chn N g s0 k < 2 ^ N := by
  intro k
  induction k with
  | zero => exact pow_pos2 N
  | succ k ih => exact Nat.or_lt_two_pow ih (Nat.pow_lt_pow_right (by omega) (Nat.mod_lt _ hN))
theorem ch_c {N g s0 c : Nat} (hN : 0 < N) (hN2 : N ≤ 12) (hg : g < N) (h0 : s0 < N) (hc : c ≤ 12) : X5_isChain_26_l (nI N) (nI g) (nI c) (nI s0) 0 0 = some (nI (chn N g s0 c)) := by
  unfold X5_isChain_26_l
  refine loop_at (nI (chn N g s0 c)) c FU (fun i => (nI (chn N g s0 i), nI i)) (0, 0) rfl (FU_big (by omega)) ?_ ?_
  · intro i hi
    show X5_isChain_26_s (nI N) (nI g) (nI c) (nI s0) (nI (chn N g s0 i)) (nI i) = some (.inl (nI (chn N g s0 i ||| 2 ^ ((s0 + i * g) % N)), nI (i + 1)))
    have hm := Nat.mod_lt (s0 + i * g) hN
    have hq : i * g ≤ 12 * 12 := Nat.mul_le_mul (by omega) (by omega)
    unfold X5_isChain_26_s
    rw [if_neg (nI_ge hi (by omega)), pk_mul, nI_add, w_nat hN (by omega) (by omega), bso, n_one (by omega), nx_or, nI_1]
  · show X5_isChain_26_s (nI N) (nI g) (nI c) (nI s0) (nI (chn N g s0 c)) (nI c) = _
    unfold X5_isChain_26_s
    rw [if_pos (nI_le (Nat.le_refl _) (by omega))]
theorem ch_m {N g s0 c : Nat} (hN : 0 < N) (hN2 : N ≤ 12) (hg : g < N) (h0 : s0 < N) (hc : c ≤ 12) : X6_generator_53_l (nI N) 0 (nI c) (nI g) (nI s0) 0 0 = some (nI (chn N g s0 c)) := by
  unfold X6_generator_53_l
  refine loop_at (nI (chn N g s0 c)) c FU (fun i => (nI (chn N g s0 i), nI i)) (0, 0) rfl (FU_big (by omega)) ?_ ?_
  · intro i hi
    show X6_generator_53_s (nI N) 0 (nI c) (nI g) (nI s0) (nI (chn N g s0 i)) (nI i) = some (.inl (nI (chn N g s0 i ||| 2 ^ ((s0 + i * g) % N)), nI (i + 1)))
    have hm := Nat.mod_lt (s0 + i * g) hN
    have hq : i * g ≤ 12 * 12 := Nat.mul_le_mul (by omega) (by omega)
    unfold X6_generator_53_s
    rw [if_neg (nI_ge hi (by omega)), if_neg (nI_ne0 hN (by omega)), pk_mul, nI_add, pk_rem (by omega) hN (by omega), n_one (by omega), nx_or, nI_1]
  · show X6_generator_53_s (nI N) 0 (nI c) (nI g) (nI s0) (nI (chn N g s0 c)) (nI c) = _
    unfold X6_generator_53_s
    rw [if_pos (nI_le (Nat.le_refl _) (by omega))]
theorem ch_l {N g s c : Nat} (hN : 0 < N) (hN2 : N ≤ 12) (hg : g < N) (hc : c ≤ 12) : ∃ u, X5_isChain_8_l (nI N) (nI s) (nI g) (nI c) 0 = some u ∧ X6_generator_38_l (nI N) (nI s) 0 (nI c) (nI g) 0 = some u := by
  have key : ∀ i, i < N → X5_isChain_8_s (nI N) (nI s) (nI g) (nI c) (nI i) = (if nI (chn N g i c) = nI s then some (.inr (.inl ())) else some (.inl (nI (i + 1)))) ∧ X6_generator_38_s (nI N) (nI s) 0 (nI c) (nI g) (nI i) = (if nI (chn N g i c) = nI s then some (.inr (.inl ())) else some (.inl (nI (i + 1)))) := by
    intro i hi
    unfold X5_isChain_8_s FX0_count X6_generator_38_s X5_isChain_59 X6_generator_84
    rw [bso, if_neg (nI_ge hi (by omega)), if_neg (nI_ge hi (by omega)), ch_c hN hN2 hg hi hc, ch_m hN hN2 hg hi hc, bso, nI_1]
    exact ⟨rfl, rfl⟩
  have last : X5_isChain_8_s (nI N) (nI s) (nI g) (nI c) (nI N) = some (.inr (.inr ())) ∧ X6_generator_38_s (nI N) (nI s) 0 (nI c) (nI g) (nI N) = some (.inr (.inr ())) := by
    unfold X5_isChain_8_s FX0_count X6_generator_38_s
    rw [bso, if_pos (nI_le (Nat.le_refl _) (by omega)), if_pos (nI_le (Nat.le_refl _) (by omega))]
    exact ⟨rfl, rfl⟩
  have hs : X5_isChain_8_l (nI N) (nI s) (nI g) (nI c) 0 = X6_generator_38_l (nI N) (nI s) 0 (nI c) (nI g) 0 := by
    unfold X5_isChain_8_l X6_generator_38_l
    refine loop_same (fun z => ∃ i, i ≤ N ∧ z = nI i) ?_ FU 0 ⟨0, by omega, rfl⟩
    rintro z ⟨i, hi, rfl⟩
    by_cases hc2 : i = N
    · subst hc2
      rw [last.1, last.2]
      exact ⟨rfl, fun t ht => by cases ht⟩
    · have k := key i (by omega)
      rw [k.1, k.2]
      refine ⟨rfl, fun t ht => ?_⟩
      split at ht
      · cases ht
      · cases ht; exact ⟨i + 1, by omega, rfl⟩
  have he : ∃ u, X5_isChain_8_l (nI N) (nI s) (nI g) (nI c) 0 = some u ∧ True := by
    unfold X5_isChain_8_l
    refine loop_ex (fun _ => True) N FU (fun i z => z = nI i) 0 (FU_big (by omega)) ?_ ?_ rfl
    · intro i z hi hz
      have hz : z = nI i := hz
      subst hz
      rw [(key i hi).1]
      split
      · exact Or.inl ⟨_, rfl, trivial⟩
      · exact Or.inr ⟨_, rfl, rfl⟩
    · intro z hz
      have hz : z = nI N := hz
      subst hz
      rw [last.1]
      exact ⟨_, rfl, trivial⟩
  obtain ⟨u, e, _⟩ := he
  exact ⟨u, e, hs ▸ e⟩
theorem op_generator : Op_generator InvC := by
  intro n ev ld0 ld1 ld2 tk mb f0 f1 f2 fr fu m_code m_n m_built m_length m_begin m_many m_leastOf m_sizeOf m_own m_bestRow m_tryRow m_keptRow m_otherRow m_row m_formRow m_allForms m_rowsOf m_intervals m_places m_whole a1 ⟨N, hN, hN2, h1, h2, h3, l0, l1, l2, hR, hC, hT⟩
  subst h1; subst h2; subst h3
  have hp := pow_le12 hN2
  unfold FX5_generator FX6_generator
  rcases set_dec hN2 a1 with ⟨e1, e2⟩ | ⟨s, hs, rfl, e1, e2⟩
  · rw [e1, e2]
    exact ⟨-2, 0, rfl, rfl, N, hN, hN2, rfl, rfl, rfl, l0, l1, l2, hR, hC, hT⟩
  · rw [e1, e2, bso, bso, if_neg n10, if_neg n10, mcount (Nat.lt_of_lt_of_le hs hp), bso]
    by_cases hs0 : s = 0
    · subst hs0
      refine ⟨-3, 0, if_pos rfl, ?_, N, hN, hN2, rfl, rfl, rfl, l0, l1, l2, hR, hC, hT⟩
      have e : X6_generator_23_l (nI N) (nI 0) 0 (nI (bc 0 12)) 0 = some (.inr ()) := by
        unfold X6_generator_23_l
        refine loop_at (Sum.inr ()) 0 FU (fun _ => 0) 0 rfl (FU_big (by omega)) (fun i hi => by omega) ?_
        show X6_generator_23_s (nI N) (nI 0) 0 (nI (bc 0 12)) 0 = _
        unfold X6_generator_23_s
        rw [if_neg (nI_nle hN (by omega)), if_pos (by decide)]
      rw [e]
      rfl
    · rw [if_neg (nI_ne0 (by omega) (by omega))]
      have hb : 0 < bc s 12 := by
        rcases Nat.eq_zero_or_pos (bc s 12) with q | q
        · exfalso
          apply hs0
          apply bit_ext
          intro j
          rw [Nat.zero_testBit]
          constructor
          · intro hj
            have hj2 := bit_lt hs hj
            rw [bc_cb] at q
            have hl := cb_lt (p := fun _ => false) (q := fun i => s.testBit i) (n := 12) (j := j) (fun i _ h => by cases h) (by omega) rfl hj
            rw [q] at hl
            omega
          · intro h; cases h
        · exact q
      have hb2 := bc_le s 12
      have key : ∀ g, g < N → (X5_generator_23_s (nI N) (nI s) (nI g) = some (.inr (.inl (nI g))) ∧ X6_generator_23_s (nI N) (nI s) 0 (nI (bc s 12)) (nI g) = some (.inr (.inl (nI g)))) ∨ (X5_generator_23_s (nI N) (nI s) (nI g) = some (.inl (nI (g + 1))) ∧ X6_generator_23_s (nI N) (nI s) 0 (nI (bc s 12)) (nI g) = some (.inl (nI (g + 1)))) := by
        intro g hg
        obtain ⟨u, q1, q2⟩ := ch_l (s := s) hN hN2 hg hb2
        unfold X5_generator_23_s FX0_count X6_generator_23_s FX5_isChain X6_generator_98
        rw [bso, if_neg (nI_ge hg (by omega)), if_neg (nI_ge hg (by omega)), if_neg (nI_nle hb (by omega)), bcount (Nat.lt_of_lt_of_le hs hp), bso, q1, q2, bso, bso, nI_1]
        cases u with
        | inl u => exact Or.inl ⟨rfl, rfl⟩
        | inr u => exact Or.inr ⟨rfl, rfl⟩
      have last : X5_generator_23_s (nI N) (nI s) (nI N) = some (.inr (.inr ())) ∧ X6_generator_23_s (nI N) (nI s) 0 (nI (bc s 12)) (nI N) = some (.inr (.inr ())) := by
        unfold X5_generator_23_s FX0_count X6_generator_23_s
        rw [bso, if_pos (nI_le (Nat.le_refl _) (by omega)), if_pos (nI_le (Nat.le_refl _) (by omega))]
        exact ⟨rfl, rfl⟩
      have hsame : X5_generator_23_l (nI N) (nI s) 0 = X6_generator_23_l (nI N) (nI s) 0 (nI (bc s 12)) 0 := by
        unfold X5_generator_23_l X6_generator_23_l
        refine loop_same (fun z => ∃ i, i ≤ N ∧ z = nI i) ?_ FU 0 ⟨0, by omega, rfl⟩
        rintro z ⟨i, hi, rfl⟩
        by_cases hc2 : i = N
        · subst hc2
          rw [last.1, last.2]
          exact ⟨rfl, fun t ht => by cases ht⟩
        · rcases key i (by omega) with k | k
          · rw [k.1, k.2]
            exact ⟨rfl, fun t ht => by cases ht⟩
          · rw [k.1, k.2]
            exact ⟨rfl, fun t ht => by cases ht; exact ⟨i + 1, by omega, rfl⟩⟩
      have he : ∃ u, X5_generator_23_l (nI N) (nI s) 0 = some u ∧ True := by
        unfold X5_generator_23_l
        refine loop_ex (fun _ => True) N FU (fun i z => z = nI i) 0 (FU_big (by omega)) ?_ ?_ rfl
        · intro i z hi hz
          have hz : z = nI i := hz
          subst hz
          rcases key i hi with k | k
          · rw [k.1]; exact Or.inl ⟨_, rfl, trivial⟩
          · rw [k.1]; exact Or.inr ⟨_, rfl, rfl⟩
        · intro z hz
          have hz : z = nI N := hz
          subst hz
          rw [last.1]
          exact ⟨_, rfl, trivial⟩
      obtain ⟨u, e, _⟩ := he
      rw [← hsame, e, bso, bso]
      cases u with
      | inl u => exact ⟨u, 0, rfl, rfl, N, hN, hN2, rfl, rfl, rfl, l0, l1, l2, hR, hC, hT⟩
      | inr u => exact ⟨-3, 0, rfl, rfl, N, hN, hN2, rfl, rfl, rfl, l0, l1, l2, hR, hC, hT⟩
