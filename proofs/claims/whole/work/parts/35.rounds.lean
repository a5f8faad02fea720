/-! rounds -/
def WT : List (List Nat) := [[], [0, 1, 0, 0, 0, 0, 0, 0, 0, 0, 0, 0, 0, 0, 0, 0, 0, 0, 0, 0, 0, 0, 0, 0, 0], [0, 2, 2, 6, 12, 30, 54, 126, 240, 504, 990, 2046, 4020, 8190, 16254, 32730, 65280, 131070, 261576, 524286, 1047540, 2097018, 4192254, 8388606, 16772880], [0, 3, 6, 24, 72, 240, 696, 2184, 6480, 19656, 58800, 177144, 530640, 1594320, 4780776, 14348640, 43040160, 129140160, 387400104, 1162261464, 3486725280, 10460350992, 31380882456, 94143178824, 282428998560], [0, 4, 12, 60, 240, 1020, 4020, 16380, 65280, 262080, 1047540, 4194300, 16772880, 67108860, 268419060, 1073740740, 4294901760, 17179869180, 68719210560, 274877906940, 1099510578960, 4398046494660, 17592181850100, 70368744177660, 281474959868160], [0, 5, 20, 120, 600, 3120, 15480, 78120, 390000, 1953000, 9762480, 48828120, 244124400, 1220703120, 6103437480, 30517574880, 152587500000, 762939453120, 3814695297000, 19073486328120, 95367421874400, 476837158124880, 2384185742187480, 11920928955078120, 59604644530860000], [0, 6, 30, 210, 1260, 7770, 46410, 279930, 1678320, 10077480, 60458370, 362797050, 2176734420, 13060694010, 78363884130, 470184976590, 2821108227840, 16926659444730, 101559946544280, 609359740010490, 3656158379595540, 21936950640097710, 131621703479470050, 789730223053602810, 4738381336143156240]]
def Wv (c d : Nat) : Nat := (WT.getD c []).getD d 0
def wdv (c d e : Nat) : Nat := if d % (e + 1) = 0 then Wv c (e + 1) else 0
def wq (c b d : Nat) : Nat := if b % (d + 1) = 0 then Wv c (d + 1) / (d + 1) else 0
def gp (c b t : Nat) : Nat := c ^ Nat.gcd (t + 1) b
theorem W_one : allB (fun c => allB (fun d => decide (sm (wdv (c + 1) (d + 1)) (d + 1) = (c + 1) ^ (d + 1))) 24) 6 = true := by decide +kernel
theorem W_two : allB (fun c => allB (fun b => decide (sm (wq (c + 1) (b + 1)) (b + 1) = sm (gp (c + 1) (b + 1)) (b + 1) / (b + 1)) && decide (sm (gp (c + 1) (b + 1)) (b + 1) < 2 ^ 63)) 24) 6 = true := by decide +kernel
theorem gcd_b : allB (fun b => allB (fun t => decide (FX5_commonDivisor (nI (t + 1)) (nI (b + 1)) = some (nI (Nat.gcd (t + 1) (b + 1))))) (b + 1)) 24 = true := by decide +kernel
theorem W1 {c d : Nat} (hc : 1 ≤ c) (hc2 : c ≤ 6) (hd : 1 ≤ d) (hd2 : d ≤ 24) : sm (wdv c d) d = c ^ d := by
  have h := of_decide_eq_true (allB_at (allB_at W_one (c - 1) (by omega)) (d - 1) (by omega))
  rw [show c - 1 + 1 = c by omega, show d - 1 + 1 = d by omega] at h
  exact h
theorem W2 {c b : Nat} (hc : 1 ≤ c) (hc2 : c ≤ 6) (hb : 1 ≤ b) (hb2 : b ≤ 24) : sm (wq c b) b = sm (gp c b) b / b ∧ sm (gp c b) b < 2 ^ 63 := by
  have h := allB_at (allB_at W_two (c - 1) (by omega)) (b - 1) (by omega)
  rw [Bool.and_eq_true, show c - 1 + 1 = c by omega, show b - 1 + 1 = b by omega] at h
  exact ⟨of_decide_eq_true h.1, of_decide_eq_true h.2⟩
theorem gcdb {t b : Nat} (ht : 1 ≤ t) (ht2 : t ≤ b) (hb2 : b ≤ 24) : FX5_commonDivisor (nI t) (nI b) = some (nI (Nat.gcd t b)) := by
  have h := of_decide_eq_true (allB_at (allB_at gcd_b (b - 1) (by omega)) (t - 1) (by omega))
  rw [show t - 1 + 1 = t by omega, show b - 1 + 1 = b by omega] at h
  exact h
theorem pw_c {c e : Nat} (hc : c ≤ 6) (he : e ≤ 24) : FX5_power (nI c) (nI e) = some (lN (c ^ e)) := by
  unfold FX5_power X5_power_22
  have h : X5_power_5_l (nI c) (nI e) 1 0 = some (lN (c ^ e)) := by
    unfold X5_power_5_l
    refine loop_at _ e FU (fun i => (lN (c ^ i), nI i)) _ rfl (FU_big (by omega)) ?_ ?_
    · intro i hi
      show X5_power_5_s (nI c) (nI e) (lN (c ^ i)) (nI i) = some (.inl (lN (c ^ (i + 1)), nI (i + 1)))
      unfold X5_power_5_s
      rw [if_neg (nI_ge hi (by omega)), nI_l (by omega), lN_mul, Nat.pow_succ, nI_1]
    · show X5_power_5_s (nI c) (nI e) (lN (c ^ e)) (nI e) = _
      unfold X5_power_5_s
      rw [if_pos (nI_le (Nat.le_refl _) (by omega))]
  rw [h, bso]
theorem pw_m {c e : Nat} (he : e ≤ 24) : FX6_power (lN c) (nI e) = some (lN (c ^ e)) := by
  unfold FX6_power X6_power_21
  have h : X6_power_5_l (lN c) (nI e) 1 0 = some (lN (c ^ e)) := by
    unfold X6_power_5_l
    refine loop_at _ e FU (fun i => (lN (c ^ i), nI i)) _ rfl (FU_big (by omega)) ?_ ?_
    · intro i hi
      show X6_power_5_s (lN c) (nI e) (lN (c ^ i)) (nI i) = some (.inl (lN (c ^ (i + 1)), nI (i + 1)))
      unfold X6_power_5_s
      rw [if_neg (nI_ge hi (by omega)), lN_mul, Nat.pow_succ, nI_1]
    · show X6_power_5_s (lN c) (nI e) (lN (c ^ e)) (nI e) = _
      unfold X6_power_5_s
      rw [if_pos (nI_le (Nat.le_refl _) (by omega))]
  rw [h, bso]
theorem mk_nat {c b : Nat} (hc : 1 ≤ c) (hc2 : c ≤ 6) (hb : 1 ≤ b) (hb2 : b ≤ 24) : FX5_meanKeptByTurning (nI b) (nI c) = some (lN (sm (wq c b) b)) := by
  unfold FX5_meanKeptByTurning
  have h : X5_meanKeptByTurning_5_l (nI b) (nI c) 0 1 = some (lN (sm (gp c b) b)) := by
    unfold X5_meanKeptByTurning_5_l
    refine loop_at _ b FU (fun i => (lN (sm (gp c b) i), nI (i + 1))) _ rfl (FU_big (by omega)) ?_ ?_
    · intro i hi
      show X5_meanKeptByTurning_5_s (nI b) (nI c) (lN (sm (gp c b) i)) (nI (i + 1)) = some (.inl (lN (sm (gp c b) (i + 1)), nI (i + 1 + 1)))
      unfold X5_meanKeptByTurning_5_s
      have hg : Nat.gcd (i + 1) b ≤ 24 := Nat.le_trans (Nat.gcd_le_left _ (by omega)) (by omega)
      rw [if_neg (nI_nlt (by omega) (by omega)), gcdb (by omega) (by omega) hb2, bso, pw_c hc2 hg, bso, lN_add, nI_1, sm_s]
      rfl
    · show X5_meanKeptByTurning_5_s (nI b) (nI c) (lN (sm (gp c b) b)) (nI (b + 1)) = _
      unfold X5_meanKeptByTurning_5_s
      rw [if_pos (nI_lt (by omega) (by omega))]
  obtain ⟨w2, w3⟩ := W2 hc hc2 hb hb2
  have h1 : (1 : Int32) ≤ nI b := nI_le (a := 1) hb (by omega)
  have h2 : ¬ lN b = 0 := fun q => by
    have := (lN_eq (a := b) (b := 0) (by omega) (by omega)).mp q
    omega
  rw [h, bso]
  unfold X5_meanKeptByTurning_30
  rw [if_pos h1, nI_l (by omega), if_neg h2, pk_lDiv w3 hb (by omega), w2]
theorem sm_mono {f : Nat → Nat} : ∀ {n m : Nat}, n ≤ m → sm f n ≤ sm f m := by
  intro n m h
  induction h with
  | refl => exact Nat.le_refl _
  | step _ ih => exact Nat.le_trans ih (by rw [sm_s]; omega)
theorem ro_in {c d : Nat} {mc : Int32} {v : Int64} {w : Nat → Int64} (hc : 1 ≤ c) (hc2 : c ≤ 6) (hd : 1 ≤ d) (hd2 : d ≤ 24) (hw : ∀ e, 1 ≤ e → e < d → w e = lN (Wv c e)) (hwd : w d = lN (c ^ d)) : ∃ w2, X6_rounds_58_l mc v (nI d) w 1 = some w2 ∧ ∀ e, 1 ≤ e → e ≤ d → w2 e = lN (Wv c e) := by
  have e1 := W1 hc hc2 hd hd2
  unfold X6_rounds_58_l
  refine loop_inv (fun w2 : Nat → Int64 => ∀ e, 1 ≤ e → e ≤ d → w2 e = lN (Wv c e)) (d - 1) FU (fun i (z : (Nat → Int64) × Int32) => z.2 = nI (i + 1) ∧ (∀ e, 1 ≤ e → e < d → z.1 e = lN (Wv c e)) ∧ z.1 d = lN (c ^ d - sm (wdv c d) i)) (w, 1) (FU_big (by omega)) ?_ ?_ ⟨rfl, hw, hwd⟩
  · rintro i ⟨u, x⟩ hi ⟨q1, q2, q3⟩
    have q1 : x = nI (i + 1) := q1
    subst q1
    have q2 : ∀ e, 1 ≤ e → e < d → u e = lN (Wv c e) := q2
    have q3 : u d = lN (c ^ d - sm (wdv c d) i) := q3
    have hle : sm (wdv c d) (i + 1) ≤ c ^ d := by rw [← e1]; exact sm_mono (by omega)
    rw [sm_s] at hle
    show ∃ t, X6_rounds_58_s mc v (nI d) u (nI (i + 1)) = some (.inl t) ∧ _
    unfold X6_rounds_58_s X6_rounds_92
    rw [if_neg (nI_ge (by omega) (by omega)), if_neg (nI_in (by omega) (by omega)), if_neg (nI_ne0 (by omega) (by omega)), pk_rem (by omega) (by omega) (by omega), if_neg (nI_in (by omega) (by omega)), if_neg (nI_in (by omega) (by omega)), if_neg (nI_in (by omega) (by omega)), nI_clamp (by omega), nI_clamp (by omega), q3, q2 (i + 1) (by omega) (by omega), nI_1]
    by_cases hm : d % (i + 1) = 0
    · have hv : wdv c d i = Wv c (i + 1) := if_pos hm
      rw [hm, if_pos (show nI 0 = 0 from rfl), lN_sub (by omega)]
      refine ⟨_, rfl, rfl, ?_, ?_⟩
      · intro e g1 g2
        exact (pk_uLn (by omega)).trans (q2 e g1 g2)
      · refine pk_uLs.trans ?_
        rw [sm_s, hv, Nat.sub_sub]
    · have hv : wdv c d i = 0 := if_neg hm
      have hz : lN (c ^ d - sm (wdv c d) i) - 0 = lN (c ^ d - sm (wdv c d) i) := lN_sub (b := 0) (by omega)
      have hlt := Nat.mod_lt d (show 0 < i + 1 by omega)
      rw [if_neg (nI_ne0 (by omega) (by omega)), hz]
      refine ⟨_, rfl, rfl, ?_, ?_⟩
      · intro e g1 g2
        exact (pk_uLn (by omega)).trans (q2 e g1 g2)
      · refine pk_uLs.trans ?_
        rw [sm_s, hv]
        rfl
  · rintro ⟨u, x⟩ ⟨q1, q2, q3⟩
    have q1 : x = nI (d - 1 + 1) := q1
    subst q1
    have q2 : ∀ e, 1 ≤ e → e < d → u e = lN (Wv c e) := q2
    have q3 : u d = lN (c ^ d - sm (wdv c d) (d - 1)) := q3
    show ∃ r, X6_rounds_58_s mc v (nI d) u (nI (d - 1 + 1)) = some (.inr r) ∧ _
    unfold X6_rounds_58_s
    rw [if_pos (nI_le (by omega) (by omega))]
    refine ⟨u, rfl, ?_⟩
    intro e g1 g2
    by_cases h : e = d
    · subst h
      rw [q3]
      obtain ⟨k, rfl⟩ : ∃ k, e = k + 1 := ⟨e - 1, by omega⟩
      rw [sm_s] at e1
      have hv : wdv c (k + 1) k = Wv c (k + 1) := if_pos (Nat.mod_self _)
      rw [hv] at e1
      rw [← e1, show k + 1 - 1 = k by omega, Nat.add_sub_cancel_left]
    · exact q2 e g1 (by omega)
theorem ro_out {c b : Nat} {w : Nat → Int64} (hc : 1 ≤ c) (hc2 : c ≤ 6) (hb : 1 ≤ b) (hb2 : b ≤ 24) : ∃ w2, X6_rounds_35_l (nI b) (nI c) 0 w 0 1 = some (w2, lN (sm (wq c b) b)) := by
  unfold X6_rounds_35_l
  have hl := loop_inv (step := fun z : (Nat → Int64) × Int64 × Int32 => X6_rounds_35_s (nI b) (nI c) 0 z.1 z.2.1 z.2.2) (fun r : (Nat → Int64) × Int64 => r.2 = lN (sm (wq c b) b)) b FU (fun i (z : (Nat → Int64) × Int64 × Int32) => z.2.2 = nI (i + 1) ∧ z.2.1 = lN (sm (wq c b) i) ∧ ∀ e, 1 ≤ e → e < i + 1 → z.1 e = lN (Wv c e)) (w, 0, 1) (FU_big (by omega)) ?_ ?_ ⟨rfl, rfl, fun e g1 g2 => by omega⟩
  · obtain ⟨⟨w2, x⟩, e, h⟩ := hl
    have h : x = lN (sm (wq c b) b) := h
    rw [e, h]
    exact ⟨w2, rfl⟩
  · rintro i ⟨u, x, y⟩ hi ⟨q1, q2, q3⟩
    have q1 : y = nI (i + 1) := q1
    have q2 : x = lN (sm (wq c b) i) := q2
    subst q1; subst q2
    have q3 : ∀ e, 1 ≤ e → e < i + 1 → u e = lN (Wv c e) := q3
    show ∃ t, X6_rounds_35_s (nI b) (nI c) 0 u _ (nI (i + 1)) = some (.inl t) ∧ _
    unfold X6_rounds_35_s
    rw [if_neg (nI_nlt (by omega) (by omega)), nI_l (by omega), pw_m (by omega), bso, if_neg (nI_in (by omega) (by omega)), nI_clamp (by omega)]
    obtain ⟨w2, e, hw⟩ := ro_in (mc := 0) (v := lN (sm (wq c b) i)) (w := vp_updL u (i + 1) (lN (c ^ (i + 1)))) hc hc2 (show 1 ≤ i + 1 by omega) (by omega) (fun e g1 g2 => (pk_uLn (by omega)).trans (q3 e g1 g2)) pk_uLs
    rw [e, bso]
    unfold X6_rounds_100
    have h2 : ¬ lN (i + 1) = 0 := fun q => by
      have := (lN_eq (a := i + 1) (b := 0) (by omega) (by omega)).mp q
      omega
    have hWl : Wv c (i + 1) < 2 ^ 63 := by
      have hk := W1 hc hc2 (show 1 ≤ i + 1 by omega) (show i + 1 ≤ 24 by omega)
      rw [sm_s] at hk
      have hv : wdv c (i + 1) i = Wv c (i + 1) := if_pos (Nat.mod_self _)
      rw [hv] at hk
      have h6 : c ^ (i + 1) ≤ 6 ^ 24 := Nat.le_trans (Nat.pow_le_pow_left hc2 _) (Nat.pow_le_pow_right (by omega) (by omega))
      have h7 : (6 : Nat) ^ 24 < 2 ^ 63 := by decide
      omega
    rw [if_neg (nI_ne0 (by omega) (by omega)), pk_rem (by omega) (by omega) (by omega), if_neg (nI_in (by omega) (by omega)), nI_clamp (by omega), nI_l (by omega), if_neg h2, hw (i + 1) (by omega) (by omega), pk_lDiv hWl (by omega) (by omega), lN_add, nI_1]
    by_cases hm : b % (i + 1) = 0
    · have hv : wq c b i = Wv c (i + 1) / (i + 1) := if_pos hm
      rw [hm, if_pos (show nI 0 = 0 from rfl)]
      refine ⟨_, rfl, rfl, ?_, fun e g1 g2 => hw e g1 (by omega)⟩
      show lN _ = lN _
      rw [sm_s, hv]
    · have hv : wq c b i = 0 := if_neg hm
      have hlt := Nat.mod_lt b (show 0 < i + 1 by omega)
      have hz : lN (sm (wq c b) i) + 0 = lN (sm (wq c b) i) := lN_add _ 0
      rw [if_neg (nI_ne0 (by omega) (by omega)), hz]
      refine ⟨_, rfl, rfl, ?_, fun e g1 g2 => hw e g1 (by omega)⟩
      show lN _ = lN _
      rw [sm_s, hv]
      rfl
  · rintro ⟨u, x, y⟩ ⟨q1, q2, q3⟩
    have q1 : y = nI (b + 1) := q1
    have q2 : x = lN (sm (wq c b) b) := q2
    subst q1; subst q2
    show ∃ r, X6_rounds_35_s (nI b) (nI c) 0 u _ (nI (b + 1)) = some (.inr r) ∧ _
    unfold X6_rounds_35_s
    rw [if_pos (nI_lt (by omega) (by omega))]
    exact ⟨_, rfl, rfl⟩
theorem op_rounds : Op_rounds InvC := by
  intro n ev ld0 ld1 ld2 tk mb f0 f1 f2 fr fu m_code m_n m_built m_length m_begin m_many m_leastOf m_sizeOf m_own m_bestRow m_tryRow m_keptRow m_otherRow m_row m_formRow m_allForms m_rowsOf m_intervals m_places m_whole a1 a2 a3 hb3 ⟨N, hN, hN2, h1, h2, h3, l0, l1, l2, hR, hC, hT⟩
  unfold FX5_rounds FX6_rounds
  rcases in_dec (a := 1) (b := 24) (by omega) (by omega) a1 with ⟨q1, q2⟩ | ⟨b, hb, hb2, rfl, q1⟩
  · have q1 : FX6_isIn a1 1 24 = some 0 := q1
    rw [q1, bso, if_pos rfl]
    refine ⟨-2, 0, m_whole, ?_, rfl, N, hN, hN2, h1, h2, h3, l0, l1, l2, hR, hC, hT⟩
    by_cases hc : a1 < 1
    · rw [if_pos hc]; rfl
    · have hz : (24 : Int32) < a1 := q2.resolve_left hc
      rw [if_neg hc, if_pos hz]; rfl
  · have q1 : FX6_isIn (nI b) 1 24 = some 1 := q1
    have g1 : ¬ nI b < (1 : Int32) := nI_nlt (b := 1) hb (by omega)
    have g2 : ¬ (24 : Int32) < nI b := nI_nlt (a := 24) hb2 (by omega)
    rw [q1, bso, if_neg n10, if_neg g1, if_neg g2]
    rcases in_dec (a := 1) (b := 6) (by omega) (by omega) a2 with ⟨q3, q4⟩ | ⟨c, hc, hc2, rfl, q3⟩
    · have q3 : FX6_isIn a2 1 6 = some 0 := q3
      rw [q3, bso, if_pos rfl]
      refine ⟨-2, 0, m_whole, ?_, rfl, N, hN, hN2, h1, h2, h3, l0, l1, l2, hR, hC, hT⟩
      by_cases hc : a2 < 1
      · rw [if_pos hc]; rfl
      · have hz : (6 : Int32) < a2 := q4.resolve_left hc
        rw [if_neg hc, if_neg (fun q => Int32.lt_irrefl (Int32.lt_of_lt_of_le hz q))]; rfl
    · have q3 : FX6_isIn (nI c) 1 6 = some 1 := q3
      have g3 : ¬ nI c < (1 : Int32) := nI_nlt (b := 1) hc (by omega)
      have g4 : nI c ≤ (6 : Int32) := nI_le (b := 6) hc2 (by omega)
      obtain ⟨w2, e⟩ := ro_out (w := m_whole) hc hc2 hb hb2
      rw [q3, bso, if_neg n10, if_neg g3, if_pos g4, e, bso, mk_nat hc hc2 hb hb2, bso]
      unfold X6_rounds_133 FX5_meanKeptByTurningOver X6_rounds_183
      have hd2 : nI b / (2 : Int32) = nI (b / 2) := pk_div (d := 2) (by omega) (by omega) (by omega)
      have ha1 : nI b + (1 : Int32) = nI (b + 1) := nI_1 b
      have hd3 : nI (b + 1) / (2 : Int32) = nI ((b + 1) / 2) := pk_div (d := 2) (by omega) (by omega) (by omega)
      have ha2 : nI (b / 2) + (1 : Int32) = nI (b / 2 + 1) := nI_1 _
      have hr2 : nI b - nI (b / 2) * (2 : Int32) = nI (b % 2) := by
        rw [← hd2]; exact pk_rem (d := 2) (by omega) (by omega) (by omega)
      rw [hd2, ha1, hd3, ha2, hr2]
      rcases hb3 with rfl | rfl
      · rw [if_pos rfl, if_pos rfl]
        exact ⟨_, 0, w2, rfl, rfl, N, hN, hN2, h1, h2, h3, l0, l1, l2, hR, hC, hT⟩
      · rw [if_neg n10, if_neg n10, pw_c hc2 (by omega), bso, pw_c hc2 (by omega), bso, bso, nI_l (by omega), pw_m (by omega), pw_m (by omega), pw_m (by omega), bso, bso, bso]
        by_cases hm : b % 2 = 1
        · rw [hm, if_pos (show nI 1 = 1 from rfl)]
          have he : b / 2 + 1 = (b + 1) / 2 := by omega
          rw [he]
          have h6 : c ^ ((b + 1) / 2) ≤ 6 ^ 12 := Nat.le_trans (Nat.pow_le_pow_left hc2 _) (Nat.pow_le_pow_right (by omega) (by omega))
          have h7 : (6 : Nat) ^ 12 < 2 ^ 32 := by decide
          have h8 : (lN (c ^ ((b + 1) / 2)) + lN (c ^ ((b + 1) / 2))) / 2 = lN (c ^ ((b + 1) / 2)) := by
            rw [lN_add]
            refine (pk_lDiv (b := 2) (by omega) (by omega) (by omega)).trans ?_
            rw [show (c ^ ((b + 1) / 2) + c ^ ((b + 1) / 2)) / 2 = c ^ ((b + 1) / 2) by omega]
          rw [h8]
          exact ⟨_, 0, w2, rfl, rfl, N, hN, hN2, h1, h2, h3, l0, l1, l2, hR, hC, hT⟩
        · have hm0 : b % 2 = 0 := by omega
          rw [hm0, if_neg (by decide)]
          have he : (b + 1) / 2 = b / 2 := by omega
          rw [he]
          exact ⟨_, 0, w2, rfl, rfl, N, hN, hN2, h1, h2, h3, l0, l1, l2, hR, hC, hT⟩
