/-! prime -/
def mir (N s : Nat) : Nat := mo N s (N - 1) 0
theorem mir_lt {N s : Nat} (hN : 0 < N) : mir N s < 2 ^ N := mo_lt hN
theorem mir_rk {N s : Nat} (hN : 0 < N) (hN2 : N ≤ 12) (hs : s < 2 ^ N) : rk (mir N s) N = rk s N := by
  have hmu : mu N 1 (N - 1) = true := by
    unfold mu
    rw [if_neg (by omega), decide_eq_true (rfl : (1 : Nat) = 1), decide_eq_true (rfl : N - 1 = N - 1)]
    cases decide (N - 1 = 1 % N) <;> rfl
  have h := mo_size (N := N) (kd := 1) (s := s) (m := N - 1) (t := 0) hN hN2 (by omega) hs (by omega) hN hmu
  rw [bc_cb, bc_cb] at h
  exact h
theorem mir_c {N s : Nat} (hN : 0 < N) (hN2 : N ≤ 12) (hs : s < 2 ^ N) : FX0_mirroredIf (nI N) (nI s) 1 = some (nI (mir N s)) := by
  obtain ⟨s2, h2, e, h⟩ := mif_nat hN hN2 hs (b := 1) (Or.inr rfl)
  have h0 := h 0 (by omega)
  rw [rot_0 hN h2] at h0
  rw [e, h0]
  rfl
def prA (N s rule : Nat) : Nat := dst N s (stt N s rule)
def prD (N s rule : Nat) : Nat := if lsr N rule (prA N (mir N s) rule) (prA N s rule) = true then prA N (mir N s) rule else prA N s rule
theorem prA_lt {N s rule : Nat} (hN : 0 < N) (hs : s < 2 ^ N) : prA N s rule < 2 ^ N := dst_lt hN hs
theorem prA_rk {N s rule : Nat} (hN : 0 < N) (hs : s < 2 ^ N) (h0 : 0 < rk s N) : rk (prA N s rule) N = rk s N := dst_rk hN hs (stt_lt h0)
theorem prA_0 {N s rule : Nat} (hN : 0 < N) (hs : s < 2 ^ N) (h0 : 0 < rk s N) : el (prA N s rule) N 0 = 0 := by
  have := bs_le N s rule (rk s N - 1)
  exact dst_0 hN hs (by omega)
theorem prD_lt {N s rule : Nat} (hN : 0 < N) (hs : s < 2 ^ N) : prD N s rule < 2 ^ N := by
  unfold prD
  split
  · exact prA_lt hN (mir_lt hN)
  · exact prA_lt hN hs
theorem prD_rk {N s rule : Nat} (hN : 0 < N) (hN2 : N ≤ 12) (hs : s < 2 ^ N) (h0 : 0 < rk s N) : rk (prD N s rule) N = rk s N := by
  have hm := mir_rk hN hN2 hs
  unfold prD
  split
  · rw [prA_rk hN (mir_lt hN) (by omega), hm]
  · exact prA_rk hN hs h0
theorem pd_nat {N s rule : Nat} (hN : 0 < N) (hN2 : N ≤ 12) (hs : s < 2 ^ N) (h0 : 0 < rk s N) (hr : rule < 2) : FX2_primeDistances (nI N) (nI (2 ^ N - 1)) (nI s) (nI rule) = some (nI (prD N s rule)) := by
  have hm := mir_rk hN hN2 hs
  have hml := mir_lt (s := s) hN
  have hm0 : 0 < rk (mir N s) N := by omega
  have i1 := il_c (N := N) (rule := rule) (X := prA N (mir N s) rule) (Y := prA N s rule) hN2 (prA_lt hN hml) (prA_lt hN hs) (by rw [prA_rk hN hml hm0, prA_rk hN hs h0, hm]) (by rw [prA_rk hN hml hm0]; exact hm0) hr
  have d1 : FX2_distances (nI N) (nI (2 ^ N - 1)) (nI s) (nI (stt N s rule)) = some (nI (prA N s rule)) := di_nat hN hN2 hs (stt_lt h0)
  have d2 : FX2_distances (nI N) (nI (2 ^ N - 1)) (nI (mir N s)) (nI (stt N (mir N s) rule)) = some (nI (prA N (mir N s) rule)) := di_nat hN hN2 hml (stt_lt hm0)
  unfold FX2_primeDistances
  rw [mir_c hN hN2 hs, bso, ns_nat hN hN2 hs h0 hr, bso, d1, bso, ns_nat hN hN2 hml hm0 hr, bso, d2, bso, i1, bso]
  unfold prD
  cases lsr N rule (prA N (mir N s) rule) (prA N s rule) with
  | false => rw [if_pos (show b1 false = 0 from rfl), if_neg (by decide)]
  | true => rw [if_neg (show ¬ b1 true = 0 from n10), if_pos rfl]
theorem fp_19 {K : Nat} {bg : Int32} {o b t k : Nat → Int32} (hK : K ≤ 12) : ∃ r, X6_findPrime_19_l (nI K) bg o b t k 0 = some r ∧ ∀ j, j < K → r j = b j := by
  unfold X6_findPrime_19_l
  apply cpy hK
  · intro u i hi
    show X6_findPrime_19_s (nI K) bg o b t u (nI i) = _
    unfold X6_findPrime_19_s
    rw [if_neg (nI_ge hi (by omega)), if_neg (nI_in (by omega) (by omega)), if_neg (nI_in (by omega) (by omega)), nI_clamp (by omega), nI_1]
  · intro u
    show X6_findPrime_19_s (nI K) bg o b t u (nI K) = _
    unfold X6_findPrime_19_s
    rw [if_pos (nI_le (Nat.le_refl _) (by omega))]
theorem fp_53 {K : Nat} {bg : Int32} {o b t k : Nat → Int32} (hK : K ≤ 12) : ∃ r, X6_findPrime_53_l (nI K) bg o b k t 0 = some r ∧ ∀ j, j < K → r j = k j := by
  unfold X6_findPrime_53_l
  apply cpy hK
  · intro u i hi
    show X6_findPrime_53_s (nI K) bg o b k u (nI i) = _
    unfold X6_findPrime_53_s
    rw [if_neg (nI_ge hi (by omega)), if_neg (nI_in (by omega) (by omega)), if_neg (nI_in (by omega) (by omega)), nI_clamp (by omega), nI_1]
  · intro u
    show X6_findPrime_53_s (nI K) bg o b k u (nI K) = _
    unfold X6_findPrime_53_s
    rw [if_pos (nI_le (Nat.le_refl _) (by omega))]
theorem fp_89 {K : Nat} {bg : Int32} {o b t k : Nat → Int32} (hK : K ≤ 12) : ∃ r, X6_findPrime_89_l (nI K) bg o t k b 0 = some r ∧ ∀ j, j < K → r j = t j := by
  unfold X6_findPrime_89_l
  apply cpy hK
  · intro u i hi
    show X6_findPrime_89_s (nI K) bg o t k u (nI i) = _
    unfold X6_findPrime_89_s
    rw [if_neg (nI_ge hi (by omega)), if_neg (nI_in (by omega) (by omega)), if_neg (nI_in (by omega) (by omega)), nI_clamp (by omega), nI_1]
  · intro u
    show X6_findPrime_89_s (nI K) bg o t k u (nI K) = _
    unfold X6_findPrime_89_s
    rw [if_pos (nI_le (Nat.le_refl _) (by omega))]
theorem fp_nat {N s rule : Nat} {ln bg : Int32} {o b t k : Nat → Int32} (hN : 0 < N) (hN2 : N ≤ 12) (hs : s < 2 ^ N) (h0 : 0 < rk s N) (hr : rule < 2) : ∃ bg2 o2 b2 t2 k2, FX6_findPrime (nI N) ln bg o b t k (nI s) (nI rule) = some (nI (rk s N), bg2, o2, b2, t2, k2) ∧ ∀ j, j < rk s N → b2 j = nI (el (prD N s rule) N j) := by
  have hm := mir_rk hN hN2 hs
  have hml := mir_lt (s := s) hN
  have hm0 : 0 < rk (mir N s) N := by omega
  have hK := rk_le s N
  have z1 : nI N - (1 : Int32) = nI (N - 1) := pk_sub (b := 1) hN
  have z2 : FX6_moved (nI N) (nI s) (nI (N - 1)) 0 = some (nI (mir N s)) := md_nat (t := 0) hN hN2 hs (by omega) hN
  obtain ⟨o1, b1', t1, e1, h1⟩ := fo_nat (rule := rule) (ln := ln) (bg := bg) (o := o) (b := b) (t := t) hN hN2 hml hm0 hr
  rw [hm] at e1 h1
  obtain ⟨k1, e2, h2⟩ := fp_19 (K := rk s N) (bg := nI (stt N (mir N s) rule)) (o := o1) (b := b1') (t := t1) (k := k) (by omega)
  obtain ⟨o2, b2, t2, e3, h3⟩ := fo_nat (rule := rule) (ln := nI (rk s N)) (bg := nI (stt N (mir N s) rule)) (o := o1) (b := b1') (t := t1) hN hN2 hs h0 hr
  obtain ⟨t3, e4, h4⟩ := fp_53 (K := rk s N) (bg := nI (stt N s rule)) (o := o2) (b := b2) (t := t2) (k := k1) (by omega)
  obtain ⟨b4, e5, h5⟩ := fp_89 (K := rk s N) (bg := nI (stt N s rule)) (o := o2) (b := b2) (t := t3) (k := k1) (by omega)
  have ra := prA_rk (rule := rule) hN hml hm0
  have rb := prA_rk (rule := rule) hN hs h0
  have hg : ∀ j, j < rk s N → t3 j = nI (el (prA N (mir N s) rule) N j) := fun j hj => (h4 j hj).trans ((h2 j hj).trans (h1 j hj))
  have il := il_m (N := N) (rule := rule) (X := prA N (mir N s) rule) (Y := prA N s rule) (f := b2) (g := t3) hN2 (prA_lt hN hml) (prA_lt hN hs) (by rw [ra, rb, hm]) (by rw [ra]; exact hm0) hr (by rw [prA_0 hN hml hm0, prA_0 hN hs h0]) (by rw [ra, hm]; exact h3) (by rw [ra, hm]; exact hg)
  rw [ra, hm] at il
  unfold FX6_findPrime
  rw [z1, z2, bso, e1, bind5_some, e2, bso]
  unfold X6_findPrime_45
  rw [e3, bind5_some, e4, bso]
  unfold X6_findPrime_79
  rw [il, bso, e5, bso]
  unfold X6_findPrime_115 prD
  cases lsr N rule (prA N (mir N s) rule) (prA N s rule) with
  | false =>
    rw [if_pos (show b1 false = 0 from rfl), if_neg (by decide)]
    exact ⟨_, _, _, _, _, rfl, h3⟩
  | true =>
    rw [if_neg (show ¬ b1 true = 0 from n10), if_pos rfl]
    exact ⟨_, _, _, _, _, rfl, fun j hj => (h5 j hj).trans (hg j hj)⟩
theorem op_prime : Op_prime InvC := by
  intro n ev ld0 ld1 ld2 tk mb f0 f1 f2 fr fu m_code m_n m_built m_length m_begin m_many m_leastOf m_sizeOf m_own m_bestRow m_tryRow m_keptRow m_otherRow m_row m_formRow m_allForms m_rowsOf m_intervals m_places m_whole a1 a2 a3 ⟨N, hN, hN2, h1, h2, h3, l0, l1, l2, hR, hC, hT⟩
  subst h1; subst h2; subst h3
  have hp := pow_le12 hN2
  unfold FX5_prime FX6_prime
  rcases set_dec hN2 a1 with ⟨e1, e2⟩ | ⟨s, hs, rfl, e1, e2⟩
  · rw [e2]
    refine ⟨-2, 0, m_length, m_begin, m_own, m_bestRow, m_tryRow, m_keptRow, ?_, rfl, N, hN, hN2, rfl, rfl, rfl, l0, l1, l2, hR, hC, hT⟩
    unfold FX5_orderRefusal
    rw [e1]; rfl
  · rw [e2, bso, if_neg n10]
    rcases rule_dec a2 with ⟨hr, e3⟩ | ⟨rule, hr, rfl, e3⟩
    · rw [e3]
      refine ⟨-2, 0, m_length, m_begin, m_own, m_bestRow, m_tryRow, m_keptRow, ?_, rfl, N, hN, hN2, rfl, rfl, rfl, l0, l1, l2, hR, hC, hT⟩
      unfold FX5_orderRefusal
      rw [e1, bso, if_neg n10]
      by_cases hc : a2 < 0
      · rw [if_pos hc]; rfl
      · rw [if_neg hc, if_neg (hr.resolve_left hc)]; rfl
    · rw [e3, bso, if_neg n10]
      by_cases h0 : s = 0
      · subst h0
        rw [if_pos (show nI 0 = 0 from rfl)]
        refine ⟨-3, 0, m_length, m_begin, m_own, m_bestRow, m_tryRow, m_keptRow, ?_, rfl, N, hN, hN2, rfl, rfl, rfl, l0, l1, l2, hR, hC, hT⟩
        have r1 : nI rule ≤ (1 : Int32) := nI_le (b := 1) (by omega) (by omega)
        unfold FX5_orderRefusal
        rw [e1, bso, if_neg n10, if_neg (nI_pos (by omega)), if_pos r1, if_pos (show nI 0 = 0 from rfl)]
        rfl
      · have hk := rk_pos hs h0
        obtain ⟨bg2, o2, b2, t2, k2, e4, hb⟩ := fp_nat (rule := rule) (ln := m_length) (bg := m_begin) (o := m_own) (b := m_bestRow) (t := m_tryRow) (k := m_keptRow) hN hN2 hs hk hr
        rw [if_neg (nI_ne0 (by omega) (by omega)), e4, bind6_some]
        rcases or_ref hN2 hs hr e1 h0 a3 with ⟨e5, e6⟩ | ⟨i, hi, rfl, e5, e6⟩
        · rw [e5, e6]
          exact ⟨-1, 0, nI (rk s N), bg2, o2, b2, t2, k2, rfl, rfl, N, hN, hN2, rfl, rfl, rfl, l0, l1, l2, hR, hC, hT⟩
        · have hK := rk_le s N
          have hdr := prD_rk (rule := rule) hN hN2 hs hk
          have hdl := prD_lt (rule := rule) hN hs
          rw [e5, e6, bso, if_pos (show (0 : Int32) ≤ 0 by decide), pd_nat hN hN2 hs hk hr, bso, st_nat hN2 (by omega) (by omega), bso, bso, if_neg n10, if_neg (nI_in (by omega) (by omega)), nI_clamp (by omega), hb i hi]
          exact ⟨_, 0, nI (rk s N), bg2, o2, b2, t2, k2, rfl, rfl, N, hN, hN2, rfl, rfl, rfl, l0, l1, l2, hR, hC, hT⟩
