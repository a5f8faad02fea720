/-! the steps of a set by their number; even -/
def rk (s t : Nat) : Nat := cb (fun j => s.testBit j) t
theorem rk_s (s t : Nat) : rk s (t + 1) = rk s t + (if s.testBit t = true then 1 else 0) := rfl
theorem rk_mono {s t u : Nat} (h : t ≤ u) : rk s t ≤ rk s u := by
  induction h with
  | refl => exact Nat.le_refl _
  | step _ ih => exact Nat.le_trans ih (by rw [rk_s]; omega)
theorem rk_le (s t : Nat) : rk s t ≤ t := cb_le _ t
theorem rk_lt {s t u : Nat} (h : t < u) (hb : s.testBit t = true) : rk s t < rk s u := by
  have := rk_mono (s := s) (show t + 1 ≤ u from h)
  rw [rk_s, if_pos hb] at this
  omega
def el (s : Nat) : Nat → Nat → Nat
  | 0, _ => 0
  | n + 1, i => if (s.testBit n && decide (rk s n = i)) = true then n else el s n i
theorem el_at {s t : Nat} (hb : s.testBit t = true) : ∀ {n : Nat}, t < n → el s n (rk s t) = t := by
  intro n
  induction n with
  | zero => intro h; omega
  | succ n ih =>
    intro h
    show (if (s.testBit n && decide (rk s n = rk s t)) = true then n else el s n (rk s t)) = t
    by_cases hc : t = n
    · subst hc
      rw [if_pos (by rw [hb, decide_eq_true (rfl : rk s t = rk s t)]; rfl)]
    · rw [if_neg, ih (by omega)]
      rw [Bool.and_eq_true]
      rintro ⟨_, q⟩
      have q := of_decide_eq_true q
      have := rk_lt (s := s) (show t < n by omega) hb
      omega
theorem el_ex {s i : Nat} : ∀ {n : Nat}, i < rk s n → ∃ t, t < n ∧ s.testBit t = true ∧ rk s t = i := by
  intro n
  induction n with
  | zero => intro h; exact absurd h (Nat.not_lt_zero i)
  | succ n ih =>
    intro h
    by_cases hc : i < rk s n
    · obtain ⟨t, h1, h2, h3⟩ := ih hc
      exact ⟨t, by omega, h2, h3⟩
    · rw [rk_s] at h
      by_cases hb : s.testBit n = true
      · rw [if_pos hb] at h
        exact ⟨n, by omega, hb, by omega⟩
      · rw [if_neg hb] at h
        omega
theorem el_sp {s n i : Nat} (h : i < rk s n) : el s n i < n ∧ s.testBit (el s n i) = true ∧ rk s (el s n i) = i := by
  obtain ⟨t, h1, h2, rfl⟩ := el_ex h
  rw [el_at h2 h1]
  exact ⟨h1, h2, rfl⟩
theorem st_nat {N s i : Nat} (hN2 : N ≤ 12) (hs : s < 4096) (hi : i < rk s N) : FX0_stepAt (nI N) (nI s) (nI i) = some (nI (el s N i)) := by
  have hiN := Nat.lt_of_lt_of_le hi (rk_le s N)
  have hl : ∃ r, X0_stepAt_5_l (nI N) (nI s) (nI i) 0 0 = some r ∧ r = .inl (nI (el s N i)) := by
    unfold X0_stepAt_5_l
    refine loop_ex (fun r : Int32 ⊕ Unit => r = .inl (nI (el s N i))) N FU (fun t (z : Int32 × Int32) => z.1 = nI (rk s t) ∧ z.2 = nI t ∧ rk s t ≤ i) _ (FU_big (by omega)) ?_ ?_ ⟨rfl, rfl, Nat.zero_le _⟩
    · rintro t ⟨x, y⟩ ht ⟨q1, q2, q3⟩
      have q1 : x = nI (rk s t) := q1
      have q2 : y = nI t := q2
      subst q1; subst q2
      have hb := n_bit (a := s) (k := t) (by omega) (by omega)
      show (∃ r, X0_stepAt_5_s (nI N) (nI s) (nI i) (nI (rk s t)) (nI t) = some (.inr r) ∧ _) ∨ (∃ r, X0_stepAt_5_s (nI N) (nI s) (nI i) (nI (rk s t)) (nI t) = some (.inl r) ∧ _)
      unfold X0_stepAt_5_s
      rw [if_neg (nI_ge ht (by omega)), nI_1, nI_1]
      by_cases hx : s.testBit t = true
      · rw [if_pos (hb.mpr hx)]
        by_cases hc : rk s t = i
        · rw [if_pos (by rw [hc])]
          refine Or.inl ⟨_, rfl, ?_⟩
          rw [← hc, el_at hx ht]
        · rw [if_neg (fun q => hc ((nI_eq (by omega) (by omega)).mp q))]
          refine Or.inr ⟨_, rfl, ?_, rfl, ?_⟩
          · show nI (rk s t + 1) = _
            rw [rk_s, if_pos hx]
          · rw [rk_s, if_pos hx]; omega
      · rw [if_neg (fun q => hx (hb.mp q))]
        refine Or.inr ⟨_, rfl, ?_, rfl, ?_⟩
        · show nI (rk s t) = _
          rw [rk_s, if_neg hx]; rfl
        · rw [rk_s, if_neg hx]; omega
    · rintro ⟨x, y⟩ ⟨q1, q2, q3⟩
      omega
  obtain ⟨r, e, rfl⟩ := hl
  unfold FX0_stepAt
  rw [e, bso]
  rfl
/-- the array of a set's steps -/
def ownOK (N s : Nat) (f : Nat → Int32) : Prop := ∀ u, u < N → s.testBit u = true → f (rk s u) = nI u
theorem own_at {N s c : Nat} {f : Nat → Int32} (h : ownOK N s f) (hc : c < rk s N) : f c = nI (el s N c) := by
  obtain ⟨h1, h2, h3⟩ := el_sp hc
  have := h _ h1 h2
  rw [h3] at this
  exact this
theorem own_step {N s t : Nat} {f : Nat → Int32} (h : ownOK t s f) : ownOK (t + 1) s (if s.testBit t = true then upd f (rk s t) (nI t) else f) := by
  intro u hu hb
  by_cases hc : u = t
  · subst hc
    rw [if_pos hb]
    exact upd_s _ _ _
  · have h1 := rk_lt (s := s) (show u < t by omega) hb
    have h2 := h u (by omega) hb
    split
    · exact (upd_n _ _ (by omega)).trans h2
    · exact h2
theorem ev_own {N s : Nat} {mc : Int32} {f : Nat → Int32} (hN2 : N ≤ 12) (hs : s < 4096) : ∃ f2, X6_even_23_l (nI N) (nI s) mc 0 f 0 = some (nI (rk s N), f2) ∧ ownOK N s f2 := by
  have hl : ∃ r, X6_even_23_l (nI N) (nI s) mc 0 f 0 = some r ∧ (r.1 = nI (rk s N) ∧ ownOK N s r.2) := by
    unfold X6_even_23_l
    refine loop_inv (fun r : Int32 × (Nat → Int32) => r.1 = nI (rk s N) ∧ ownOK N s r.2) N FU (fun t (z : Int32 × (Nat → Int32) × Int32) => z.1 = nI (rk s t) ∧ z.2.2 = nI t ∧ ownOK t s z.2.1) _ (FU_big (by omega)) ?_ ?_ ⟨rfl, rfl, fun u hu => by omega⟩
    · rintro t ⟨x, g, y⟩ ht ⟨q1, q2, q3⟩
      have q1 : x = nI (rk s t) := q1
      have q2 : y = nI t := q2
      subst q1; subst q2
      have q3 : ownOK t s g := q3
      have hb := n_bit (a := s) (k := t) (by omega) (by omega)
      have hk := rk_le s t
      have hst := own_step (N := N) q3
      have z1 : nI (rk s t) + (1 : Int32) = nI (rk s t + 1) := nI_1 _
      show ∃ r, X6_even_23_s (nI N) (nI s) mc (nI (rk s t)) g (nI t) = some (.inl r) ∧ _
      unfold X6_even_23_s
      rw [if_neg (nI_ge ht (by omega)), z1, if_neg (nI_in (by omega) (by omega)), nI_clamp (by omega), nI_1]
      by_cases hx : s.testBit t = true
      · rw [if_pos hx] at hst
        rw [if_pos (hb.mpr hx)]
        refine ⟨_, rfl, ?_, rfl, hst⟩
        show nI (rk s t + 1) = _
        rw [rk_s, if_pos hx]
      · rw [if_neg hx] at hst
        rw [if_neg (fun q => hx (hb.mp q))]
        refine ⟨_, rfl, ?_, rfl, hst⟩
        show nI (rk s t) = _
        rw [rk_s, if_neg hx]; rfl
    · rintro ⟨x, g, y⟩ ⟨q1, q2, q3⟩
      have q2 : y = nI N := q2
      subst q2
      show ∃ r, X6_even_23_s (nI N) (nI s) mc x g (nI N) = some (.inr r) ∧ _
      unfold X6_even_23_s
      rw [if_pos (nI_le (Nat.le_refl _) (by omega))]
      exact ⟨_, rfl, q1, q3⟩
  obtain ⟨⟨x, f2⟩, e, h1, h2⟩ := hl
  have h1 : x = nI (rk s N) := h1
  subst h1
  exact ⟨f2, e, h2⟩
def wy (N s j a : Nat) : Nat := (el s N ((a + j) % rk s N) + N - el s N a) % N
def lwm (N : Nat) (f : Nat → Nat) : Nat → Int32 × Int32
  | 0 => (nI N, 0)
  | k + 1 => (if nI (f k) < (lwm N f k).1 then nI (f k) else (lwm N f k).1, if (lwm N f k).2 < nI (f k) then nI (f k) else (lwm N f k).2)
theorem mod_two {a j K : Nat} (ha : a < K) (hj : j < K) : (a + j) % K = if K ≤ a + j then a + j - K else a + j := by
  split
  · rw [Nat.mod_eq_sub_mod (by assumption), Nat.mod_eq_of_lt (by omega)]
  · exact Nat.mod_eq_of_lt (by omega)
theorem hw_c {N s j : Nat} (hN : 0 < N) (hN2 : N ≤ 12) (hs : s < 2 ^ N) (hj2 : j < rk s N) : FX0_hasLikeWays (nI N) (nI s) (nI j) = X0_hasLikeWays_92 (lwm N (wy N s j) (rk s N)).1 (lwm N (wy N s j) (rk s N)).2 := by
  have hp := pow_le12 hN2
  have hK := rk_le s N
  unfold FX0_hasLikeWays
  have hb : bc s 12 = rk s N := bc_N hN2 hs
  rw [bcount (by omega), bso, hb]
  have hl : X0_hasLikeWays_17_l (nI N) (nI s) (nI j) (nI (rk s N)) (nI N) 0 0 = some (lwm N (wy N s j) (rk s N)) := by
    unfold X0_hasLikeWays_17_l
    refine loop_at _ (rk s N) FU (fun i => ((lwm N (wy N s j) i).1, (lwm N (wy N s j) i).2, nI i)) _ rfl (FU_big (by omega)) ?_ ?_
    · intro i hi
      have h47 : ∀ c, c = (i + j) % rk s N → X0_hasLikeWays_47 (nI N) (nI s) (lwm N (wy N s j) i).1 (lwm N (wy N s j) i).2 (nI (rk s N)) (nI i) (nI c) = some (.inl ((lwm N (wy N s j) (i + 1)).1, (lwm N (wy N s j) (i + 1)).2, nI (i + 1))) := by
        intro c hc
        have hcl : c < rk s N := by rw [hc]; exact Nat.mod_lt _ (by omega)
        have g1 := el_sp hcl
        have g2 := el_sp hi
        unfold X0_hasLikeWays_47
        rw [st_nat hN2 (by omega) hcl, bso, st_nat hN2 (by omega) hi, bso, wr_nat hN hN2 (by omega) g2.1, bso, bso, bso, nI_1, hc]
        rfl
      show X0_hasLikeWays_17_s (nI N) (nI s) (nI j) (nI (rk s N)) (lwm N (wy N s j) i).1 (lwm N (wy N s j) i).2 (nI i) = some (.inl ((lwm N (wy N s j) (i + 1)).1, (lwm N (wy N s j) (i + 1)).2, nI (i + 1)))
      unfold X0_hasLikeWays_17_s
      rw [if_neg (nI_ge hi (by omega)), nI_add]
      have hm := mod_two hi hj2
      by_cases hc : rk s N ≤ i + j
      · rw [if_pos hc] at hm
        rw [if_pos (nI_le hc (by omega)), pk_sub hc, h47 _ hm.symm]
      · rw [if_neg hc] at hm
        rw [if_neg (nI_ge (by omega) (by omega)), h47 _ hm.symm]
    · show X0_hasLikeWays_17_s (nI N) (nI s) (nI j) (nI (rk s N)) _ _ (nI (rk s N)) = _
      unfold X0_hasLikeWays_17_s
      rw [if_pos (nI_le (Nat.le_refl _) (by omega))]
  rw [hl, bso]
theorem hw_m {N s j : Nat} {mc : Int32} {f : Nat → Int32} (hN : 0 < N) (hN2 : N ≤ 12) (hj2 : j < rk s N) (hf : ownOK N s f) : X6_even_87_l (nI N) mc (nI (rk s N)) f (nI j) (nI N) 0 0 = some (lwm N (wy N s j) (rk s N)) := by
  have hK := rk_le s N
  unfold X6_even_87_l
  refine loop_at _ (rk s N) FU (fun i => ((lwm N (wy N s j) i).1, (lwm N (wy N s j) i).2, nI i)) _ rfl (FU_big (by omega)) ?_ ?_
  · intro i hi
    have hcl : (i + j) % rk s N < rk s N := Nat.mod_lt _ (by omega)
    have g1 := el_sp hcl
    have g2 := el_sp hi
    show X6_even_87_s (nI N) mc (nI (rk s N)) f (nI j) (lwm N (wy N s j) i).1 (lwm N (wy N s j) i).2 (nI i) = some (.inl ((if nI (wy N s j i) < (lwm N (wy N s j) i).1 then nI (wy N s j i) else (lwm N (wy N s j) i).1), (if (lwm N (wy N s j) i).2 < nI (wy N s j i) then nI (wy N s j i) else (lwm N (wy N s j) i).2), nI (i + 1)))
    unfold X6_even_87_s X6_even_142
    rw [if_neg (nI_ge hi (by omega)), if_neg (nI_ne0 (by omega) (by omega)), nI_add, pk_rem (by omega) (by omega) (by omega), if_neg (nI_in (by omega) (by omega)), if_neg (nI_in (by omega) (by omega)), if_neg (nI_ne0 hN (by omega)), nI_clamp (by omega), nI_clamp (by omega), own_at hf hcl, own_at hf hi, sa_nI (by omega), pk_rem (by omega) hN (by omega), bso, nI_1]
    show (if (lwm N (wy N s j) i).1 ≤ nI (wy N s j i) then (if nI (wy N s j i) ≤ (lwm N (wy N s j) i).2 then some (Sum.inl ((lwm N (wy N s j) i).1, (lwm N (wy N s j) i).2, nI (i + 1))) else some (Sum.inl ((lwm N (wy N s j) i).1, nI (wy N s j i), nI (i + 1)))) else (if nI (wy N s j i) ≤ (lwm N (wy N s j) i).2 then some (Sum.inl (nI (wy N s j i), (lwm N (wy N s j) i).2, nI (i + 1))) else some (Sum.inl (nI (wy N s j i), nI (wy N s j i), nI (i + 1))))) = _
    generalize nI (wy N s j i) = y
    generalize (lwm N (wy N s j) i).1 = m
    generalize (lwm N (wy N s j) i).2 = x
    by_cases h1 : m ≤ y
    · rw [if_pos h1, if_neg (Int32.not_lt.mpr h1)]
      by_cases h2 : y ≤ x
      · rw [if_pos h2, if_neg (Int32.not_lt.mpr h2)]
      · rw [if_neg h2, if_pos (Int32.not_le.mp h2)]
    · rw [if_neg h1, if_pos (Int32.not_le.mp h1)]
      by_cases h2 : y ≤ x
      · rw [if_pos h2, if_neg (Int32.not_lt.mpr h2)]
      · rw [if_neg h2, if_pos (Int32.not_le.mp h2)]
  · show X6_even_87_s (nI N) mc (nI (rk s N)) f (nI j) _ _ (nI (rk s N)) = _
    unfold X6_even_87_s
    rw [if_pos (nI_le (Nat.le_refl _) (by omega))]
theorem ev_loop {N s : Nat} {f : Nat → Int32} (hN : 0 < N) (hN2 : N ≤ 12) (hs : s < 2 ^ N) (h0 : 0 < rk s N) (hf : ownOK N s f) : ∃ r q, X5_even_27_l (nI N) (nI s) (nI (rk s N)) 1 = some r ∧ X6_even_68_l (nI N) 0 (nI (rk s N)) f 1 = some q ∧ r = q := by
  have hK := rk_le s N
  unfold X5_even_27_l X6_even_68_l
  refine loop_two (fun (r q : Unit ⊕ Unit) => r = q) (rk s N - 1) FU (fun i a b => a = nI (i + 1) ∧ b = nI (i + 1)) 1 1 (FU_big (by omega)) ?_ ?_ ⟨rfl, rfl⟩
  · rintro i a b hi ⟨rfl, rfl⟩
    unfold X5_even_27_s X6_even_68_s X6_even_165
    rw [if_neg (nI_ge (by omega) (by omega)), if_neg (nI_ge (by omega) (by omega)), hw_c hN hN2 hs (by omega), hw_m hN hN2 (by omega) hf, bso, nI_1]
    unfold X0_hasLikeWays_92
    by_cases hc : (lwm N (wy N s (i + 1)) (rk s N)).2 - (lwm N (wy N s (i + 1)) (rk s N)).1 ≤ 1
    · rw [if_pos hc, if_neg (Int32.not_lt.mpr hc), bso, if_neg n10]
      exact Or.inr ⟨_, _, rfl, rfl, rfl, rfl⟩
    · rw [if_neg hc, if_pos (Int32.not_le.mp hc), bso, if_pos rfl]
      exact Or.inl ⟨_, _, rfl, rfl, rfl⟩
  · rintro a b ⟨rfl, rfl⟩
    unfold X5_even_27_s X6_even_68_s
    rw [if_pos (nI_le (by omega) (by omega)), if_pos (nI_le (by omega) (by omega))]
    exact ⟨_, _, rfl, rfl, rfl⟩
theorem rk_pos {N s : Nat} (hs : s < 2 ^ N) (h : s ≠ 0) : 0 < rk s N := by
  rcases Nat.eq_zero_or_pos (rk s N) with q | q
  · exfalso
    apply h
    apply bit_ext
    intro j
    rw [Nat.zero_testBit]
    constructor
    · intro hj
      have := rk_lt (s := s) (bit_lt hs hj) hj
      omega
    · intro h; cases h
  · exact q
theorem op_even : Op_even InvC := by
  intro n ev ld0 ld1 ld2 tk mb f0 f1 f2 fr fu m_code m_n m_built m_length m_begin m_many m_leastOf m_sizeOf m_own m_bestRow m_tryRow m_keptRow m_otherRow m_row m_formRow m_allForms m_rowsOf m_intervals m_places m_whole a1 ⟨N, hN, hN2, h1, h2, h3, l0, l1, l2, hR, hC, hT⟩
  subst h1; subst h2; subst h3
  have hp := pow_le12 hN2
  unfold FX5_even FX6_even
  rcases set_dec hN2 a1 with ⟨e1, e2⟩ | ⟨s, hs, rfl, e1, e2⟩
  · rw [e1, e2]
    exact ⟨-2, 0, m_length, m_own, rfl, rfl, N, hN, hN2, rfl, rfl, rfl, l0, l1, l2, hR, hC, hT⟩
  · obtain ⟨f2, e3, hf⟩ := ev_own (N := N) (s := s) (mc := 0) (f := m_own) hN2 (by omega)
    rw [e1, e2, bso, bso, if_neg n10, if_neg n10, e3, bso]
    unfold X6_even_66
    by_cases h0 : s = 0
    · subst h0
      refine ⟨0, 0, nI (rk 0 N), f2, if_pos rfl, ?_, N, hN, hN2, rfl, rfl, rfl, l0, l1, l2, hR, hC, hT⟩
      have hz : rk 0 N = 0 := cb_0 (fun i _ => Nat.zero_testBit i)
      have e4 : X6_even_68_l (nI N) 0 (nI (rk 0 N)) f2 1 = some (.inr ()) := by
        unfold X6_even_68_l
        refine loop_at _ 0 FU (fun _ => 1) 1 rfl (FU_big (by omega)) (fun i hi => by omega) ?_
        show X6_even_68_s (nI N) 0 (nI (rk 0 N)) f2 1 = _
        unfold X6_even_68_s
        rw [hz, if_pos (by decide)]
      show (X6_even_68_l (nI N) 0 (nI (rk 0 N)) f2 1).bind _ = _
      rw [e4, bso]
      show X6_even_181 0 (nI (rk 0 N)) f2 = _
      unfold X6_even_181
      rw [hz, if_pos (by decide)]
    · have hk := rk_pos hs h0
      have hK := rk_le s N
      have hb : bc s 12 = rk s N := bc_N hN2 hs
      obtain ⟨r, q, e4, e5, rfl⟩ := ev_loop hN hN2 hs hk hf
      have e5 : X6_even_68_l (nI N) 0 (nI (rk s N), f2).1 (nI (rk s N), f2).2 1 = some r := e5
      rw [if_neg (nI_ne0 (by omega) (by omega)), bcount (by omega), bso, hb, e4, bso, e5, bso]
      cases r with
      | inl u => exact ⟨0, 0, nI (rk s N), f2, rfl, rfl, N, hN, hN2, rfl, rfl, rfl, l0, l1, l2, hR, hC, hT⟩
      | inr u =>
        refine ⟨1, 0, nI (rk s N), f2, rfl, ?_, N, hN, hN2, rfl, rfl, rfl, l0, l1, l2, hR, hC, hT⟩
        show X6_even_181 0 (nI (rk s N)) f2 = _
        unfold X6_even_181
        rw [if_neg (nI_nle hk (by omega))]
