/-! derived, kept -/
def ldP (N kd d : Nat) (w : Nat → Nat) (j : Nat) : Nat := lst N kd (pcs w (j * d) d)
theorem pcs_ltw {N a d : Nat} {w : Nat → Nat} {f : Nat → Int32} (had : a + d ≤ N) (hw : ∀ i, i < N → w i < N ∧ f i = nI (w i)) : pcs w a d < 2 ^ N := pcs_lt d (fun i hi => (hw (a + i) (by omega)).1)
theorem dv_c {N kd d M : Nat} {f : Nat → Int32} {w : Nat → Nat} (hN : 0 < N) (hN2 : N ≤ 12) (hk : kd < 3) (hd : 1 ≤ d) (hM : M * d = N) (hw : ∀ i, i < N → w i < N ∧ f i = nI (w i)) : ∃ r, X5_derived_72_l (nI N) (nI (2 ^ N - 1)) (nI N) f (nI d) (nI kd) (nI (ldP N kd d w 0)) (nI d) = some r ∧ r = (if allB (fun j => decide (ldP N kd d w j = ldP N kd d w 0)) M = true then .inr () else .inl ()) := by
  have hp := pow_le12 hN2
  have hM1 : 1 ≤ M := by
    rcases Nat.eq_zero_or_pos M with h | h
    · subst h; omega
    · exact h
  have hMN : M ≤ N := by
    have := Nat.mul_le_mul_left M hd
    omega
  unfold X5_derived_72_l
  refine loop_ex (fun r : Unit ⊕ Unit => r = (if allB (fun j => decide (ldP N kd d w j = ldP N kd d w 0)) M = true then .inr () else .inl ())) (M - 1) FU (fun i z => z = nI ((i + 1) * d) ∧ ∀ j, j ≤ i → ldP N kd d w j = ldP N kd d w 0) (nI d) (FU_big (by omega)) ?_ ?_ ⟨by rw [Nat.zero_add, Nat.one_mul], fun j hj => by rw [show j = 0 by omega]⟩
  · rintro i z hi ⟨rfl, q⟩
    have h1 : (i + 2) * d ≤ M * d := Nat.mul_le_mul_right d (by omega)
    have h2 : (i + 2) * d = (i + 1) * d + d := Nat.succ_mul (i + 1) d
    have hl := pcs_ltw (a := (i + 1) * d) (d := d) (by omega) hw
    have hl0 := lst_lt (kd := kd) hN hl
    have hl1 : ldP N kd d w 0 < 2 ^ N := lst_lt hN (pcs_ltw (by omega) hw)
    unfold X5_derived_72_s FX0_count
    rw [bso, if_neg (nI_ge (by omega) (by omega)), pc_c hN2 (by omega) hw, bso, lst_nat hN hN2 hk hl, bso, nI_add, ← h2]
    by_cases hc : ldP N kd d w (i + 1) = ldP N kd d w 0
    · rw [if_pos (show nI (lst N kd (pcs w ((i + 1) * d) d)) = nI (ldP N kd d w 0) by rw [← hc]; rfl)]
      refine Or.inr ⟨_, rfl, rfl, ?_⟩
      intro j hj
      by_cases h : j = i + 1
      · subst h; exact hc
      · exact q j (by omega)
    · have hc2 : ¬ nI (lst N kd (pcs w ((i + 1) * d) d)) = nI (ldP N kd d w 0) := fun e => hc (nI_inj (a := lst N kd (pcs w ((i + 1) * d) d)) (by omega) (by omega) e)
      rw [if_neg hc2]
      refine Or.inl ⟨_, rfl, ?_⟩
      rw [if_neg]
      intro h
      exact hc (of_decide_eq_true (allB_iff.mp h (i + 1) (by omega)))
  · rintro z ⟨rfl, q⟩
    unfold X5_derived_72_s FX0_count
    rw [show M - 1 + 1 = M by omega, hM, bso, if_pos (nI_le (Nat.le_refl _) (by omega))]
    refine ⟨_, rfl, ?_⟩
    rw [if_pos]
    exact allB_iff.mpr (fun i hi => decide_eq_true (q i (by omega)))
theorem dv_m {N kd d M : Nat} {f : Nat → Int32} {w : Nat → Nat} {bl : Int32} {lo so : Nat → Int32} (hN : 0 < N) (hN2 : N ≤ 12) (hk : kd < 3) (hd : 1 ≤ d) (hM : M * d = N) (hw : ∀ i, i < N → w i < N ∧ f i = nI (w i)) (hT : tabOK N bl lo so) : ∃ r, X6_derived_57_l (nI N) f (nI d) (nI kd) 0 bl lo so 1 0 = some r ∧ r.2.2.2 = b1 (allB (fun j => decide (ldP N kd d w j = ldP N kd d w 0)) M) ∧ tabOK N r.1 r.2.1 r.2.2.1 := by
  have hp := pow_le12 hN2
  have hMN : M ≤ N := by
    have := Nat.mul_le_mul_left M hd
    omega
  have hM1 : 1 ≤ M := by
    rcases Nat.eq_zero_or_pos M with h | h
    · subst h; omega
    · exact h
  unfold X6_derived_57_l
  refine loop_inv (fun r : Int32 × (Nat → Int32) × (Nat → Int32) × Int32 => r.2.2.2 = b1 (allB (fun j => decide (ldP N kd d w j = ldP N kd d w 0)) M) ∧ tabOK N r.1 r.2.1 r.2.2.1) M FU (fun i (z : Int32 × (Nat → Int32) × (Nat → Int32) × Int32 × Int32) => z.2.2.2.2 = nI (i * d) ∧ z.2.2.2.1 = b1 (allB (fun j => decide (ldP N kd d w j = ldP N kd d w 0)) i) ∧ tabOK N z.1 z.2.1 z.2.2.1) _ (FU_big (by omega)) ?_ ?_ ⟨by rw [Nat.zero_mul]; rfl, rfl, hT⟩
  · rintro i ⟨x1, x2, x3, x4, x5⟩ hi ⟨q1, q2, q3⟩
    have q1 : x5 = nI (i * d) := q1
    have q2 : x4 = b1 (allB (fun j => decide (ldP N kd d w j = ldP N kd d w 0)) i) := q2
    have q3 : tabOK N x1 x2 x3 := q3
    subst q1; subst q2
    have h1 : (i + 1) * d ≤ M * d := Nat.mul_le_mul_right d (by omega)
    have h2 : (i + 1) * d = i * d + d := Nat.succ_mul i d
    have hl := pcs_ltw (a := i * d) (d := d) (by omega) hw
    have hl0 : ldP N kd d w i < 2 ^ N := lst_lt hN hl
    have hz := pcs_ltw (a := 0 * d) (d := d) (by omega) hw
    have hl1 : ldP N kd d w 0 < 2 ^ N := lst_lt hN hz
    show ∃ t, X6_derived_57_s (nI N) f (nI d) (nI kd) 0 x1 x2 x3 (b1 (allB (fun j => decide (ldP N kd d w j = ldP N kd d w 0)) i)) (nI (i * d)) = some (.inl t) ∧ t.2.2.2.2 = nI ((i + 1) * d) ∧ t.2.2.2.1 = b1 (decide (ldP N kd d w i = ldP N kd d w 0) && allB (fun j => decide (ldP N kd d w j = ldP N kd d w 0)) i) ∧ _
    unfold X6_derived_57_s
    rw [if_neg (nI_ge (by omega) (by omega)), nI_add, ← h2]
    cases allB (fun j => decide (ldP N kd d w j = ldP N kd d w 0)) i with
    | false =>
      rw [if_pos (show b1 false = 0 from rfl), Bool.and_false]
      exact ⟨_, rfl, rfl, rfl, q3⟩
    | true =>
      have p0 := pc_m (a := 0 * d) (d := d) hN2 (by omega) hw
      have p0 : FX6_piece f 0 (nI d) = some (nI (pcs w (0 * d) d)) := by
        rw [Nat.zero_mul] at p0 ⊢
        exact p0
      obtain ⟨y2, y3, e1, g1⟩ := li_nat hN hN2 hk hl q3
      obtain ⟨y4, y5, e2, g2⟩ := li_nat hN hN2 hk hz g1
      rw [if_neg (show ¬ b1 true = 0 from n10), Bool.and_true, pc_m hN2 (by omega) hw, bso, e1, bind4_some, p0, bso, e2, bind4_some]
      by_cases hc : ldP N kd d w i = ldP N kd d w 0
      · have hc2 : nI (lst N kd (pcs w (i * d) d)) = nI (lst N kd (pcs w (0 * d) d)) := congrArg nI hc
        rw [if_pos hc2, decide_eq_true hc]
        exact ⟨_, rfl, rfl, rfl, g2⟩
      · have hc2 : ¬ nI (lst N kd (pcs w (i * d) d)) = nI (lst N kd (pcs w (0 * d) d)) := fun e => hc (nI_inj (a := ldP N kd d w i) (b := ldP N kd d w 0) (by omega) (by omega) e)
        rw [if_neg hc2, decide_eq_false hc]
        exact ⟨_, rfl, rfl, rfl, g2⟩
  · rintro ⟨x1, x2, x3, x4, x5⟩ ⟨q1, q2, q3⟩
    have q1 : x5 = nI (M * d) := q1
    subst q1
    show ∃ r, X6_derived_57_s (nI N) f (nI d) (nI kd) 0 x1 x2 x3 x4 (nI (M * d)) = some (.inr r) ∧ _
    unfold X6_derived_57_s
    rw [hM, if_pos (nI_le (Nat.le_refl _) (by omega))]
    exact ⟨_, rfl, q2, q3⟩
theorem op_derived : Op_derived InvC := by
  intro n ev ld0 ld1 ld2 tk mb f0 f1 f2 fr fu m_code m_n m_built m_length m_begin m_many m_leastOf m_sizeOf m_own m_bestRow m_tryRow m_keptRow m_otherRow m_row m_formRow m_allForms m_rowsOf m_intervals m_places m_whole a1 a2 ⟨N, hN, hN2, h1, h2, h3, l0, l1, l2, hR, hC, hT⟩
  subst h1; subst h2; subst h3
  have hR0 := hR
  obtain ⟨T, w, B, r1, r2, r3, r4, r5, r6, r7, r8⟩ := hR
  subst r2; subst r3
  unfold FX5_derived FX6_derived FX0_count
  rcases kind_dec a2 with ⟨e1, e2⟩ | ⟨k, hk, rfl, e1, e2⟩
  · rw [e1, e2]
    exact ⟨-2, 0, m_built, m_leastOf, m_sizeOf, rfl, rfl, N, hN, hN2, rfl, rfl, rfl, l0, l1, l2, hR0, hC, hT⟩
  · rw [e1, e2]
    simp only [bso]
    rw [if_neg n10, if_neg n10]
    rcases in_dec (a := 1) (b := N) (by omega) (by omega) a1 with ⟨q1, q2⟩ | ⟨d, g1, g2, rfl, q1⟩
    · have q1 : FX6_isIn a1 1 (nI N) = some 0 := q1
      rw [q1, bso, if_pos rfl]
      refine ⟨-2, 0, m_built, m_leastOf, m_sizeOf, ?_, rfl, N, hN, hN2, rfl, rfl, rfl, l0, l1, l2, hR0, hC, hT⟩
      by_cases hc : a1 < 1
      · rw [if_pos hc]
      · rw [if_neg hc, if_pos (q2.resolve_left hc)]
    · have q1 : FX6_isIn (nI d) 1 (nI N) = some 1 := q1
      have q2 : ¬ nI d < (1 : Int32) := nI_nlt (b := 1) g1 (by omega)
      rw [q1, bso, if_neg n10, if_neg q2, if_neg (nI_nlt g2 (by omega)), if_neg (nI_ne0 (by omega) (by omega)), if_neg (nI_ne0 (by omega) (by omega)), pk_rem (by omega) (by omega) (by omega)]
      by_cases hm : N % d = 0
      · rw [hm, if_pos (show nI 0 = 0 from rfl), if_pos (show nI 0 = 0 from rfl)]
        rcases wh_nat r1 hN2 with ⟨rfl, e1, e2⟩ | ⟨_, e1, e2⟩
        · have hwc : ∀ i, i < T → w i < T ∧ fr i = nI (w i) := fun i hi => ⟨(r6 i hi).1, (r6 i hi).2.1⟩
          have hwm : ∀ i, i < T → w i < T ∧ m_row i = nI (w i) := fun i hi => ⟨(r6 i hi).1, (r6 i hi).2.2⟩
          have hM : T / d * d = T := Nat.div_mul_cancel (Nat.dvd_of_mod_eq_zero hm)
          obtain ⟨r, e3, hr⟩ := dv_c hN hN2 hk g1 hM hwc
          obtain ⟨⟨x1, x2, x3, x4⟩, e4, hr4, hr5⟩ := dv_m hN hN2 hk g1 hM hwm hT
          have hr4 : x4 = b1 (allB (fun j => decide (ldP T k d w j = ldP T k d w 0)) (T / d)) := hr4
          have hr5 : tabOK T x1 x2 x3 := hr5
          have p0 := pc_c (a := 0) (d := d) hN2 (by omega) hwc
          have p0 : FX3_piece (nI T) fr 0 (nI d) = some (nI (pcs w 0 d)) := p0
          have hl := lst_nat (kd := k) hN hN2 hk (pcs_ltw (a := 0) (d := d) (by omega) hwc)
          have hl : FX0_leastOf (nI T) (nI (2 ^ T - 1)) (nI (pcs w 0 d)) (nI k) = some (nI (ldP T k d w 0)) := by
            rw [hl]
            unfold ldP
            rw [Nat.zero_mul]
          rw [e1, if_pos e2, bso, if_neg n10, p0, bso, hl, bso, e3, e4, bso, bso, hr, hr4]
          cases allB (fun j => decide (ldP T k d w j = ldP T k d w 0)) (T / d) with
          | true => exact ⟨1, 0, x1, x2, x3, rfl, rfl, T, hN, hN2, rfl, rfl, rfl, l0, l1, l2, hR0, hC, hr5⟩
          | false => exact ⟨0, 0, x1, x2, x3, rfl, rfl, T, hN, hN2, rfl, rfl, rfl, l0, l1, l2, hR0, hC, hr5⟩
        · rw [e1, if_neg e2]
          exact ⟨-3, 0, m_built, m_leastOf, m_sizeOf, rfl, rfl, N, hN, hN2, rfl, rfl, rfl, l0, l1, l2, hR0, hC, hT⟩
      · have hlt := Nat.mod_lt N (show 0 < d by omega)
        have hne := nI_ne0 (n := N % d) (by omega) (by omega)
        rw [if_neg hne, if_neg hne]
        exact ⟨-2, 0, m_built, m_leastOf, m_sizeOf, rfl, rfl, N, hN, hN2, rfl, rfl, rfl, l0, l1, l2, hR0, hC, hT⟩
theorem pcs_bc {w : Nat → Nat} {a : Nat} : ∀ d, (∀ i, i < d → w (a + i) < 12) → (∀ i j, i < d → j < d → w (a + i) = w (a + j) → i = j) → bc (pcs w a d) 12 = d := by
  intro d
  induction d with
  | zero => intro _ _; show bc 0 12 = 0; decide
  | succ d ih =>
    intro h1 h2
    have ih := ih (fun i hi => h1 i (by omega)) (fun i j hi hj => h2 i j (by omega) (by omega))
    rw [bc_cb] at ih ⊢
    rw [pcs_s, cb_up (p := fun i => (pcs w a d).testBit i) (j := w (a + d)) ?_ ?_ ?_ (h1 d (by omega)), ih]
    · cases hb : (pcs w a d).testBit (w (a + d))
      · rfl
      · obtain ⟨i, hi, q⟩ := (pcs_bit d).mp hb
        have := h2 i d (by omega) (by omega) q
        omega
    · exact or_bit.mpr (Or.inr rfl)
    · intro i hi
      apply bool_ext
      rw [or_bit]
      exact ⟨fun h => h.elim id (fun q => absurd q.symm hi), Or.inl⟩
def kh (N : Nat) (w : Nat → Nat) (k t d a : Nat) : Bool := !allB (fun b => !decide (pcs (fm N w k t) b d = pcs w a d)) (N - d + 1)
theorem kh_c {N a d k t : Nat} {f : Nat → Int32} {w : Nat → Nat} (hN : 0 < N) (hN2 : N ≤ 12) (hk : k < 4) (ht : t < N) (had : a + d ≤ N) (hw : ∀ i, i < N → w i < N ∧ f i = nI (w i)) (hi : ∀ i j, i < N → j < N → w i = w j → i = j) : FX3_formHasPiece (nI N) (nI N) f (nI k) (nI t) (nI (pcs w a d)) = some (b1 (kh N w k t d a)) := by
  have hp := pow_le12 hN2
  have hl := pcs_ltw (a := a) (d := d) had hw
  unfold FX3_formHasPiece
  have hb : bc (pcs w a d) 12 = d := pcs_bc d (fun i h => by have := (hw (a + i) (by omega)).1; omega) (fun i j h1 h2 e => by have := hi (a + i) (a + j) (by omega) (by omega) e; omega)
  rw [bcount (by omega), bso, hb]
  have hx : ∃ r, X3_formHasPiece_9_l (nI N) (nI N) f (nI k) (nI t) (nI (pcs w a d)) (nI d) 0 = some r ∧ r = (if allB (fun b => !decide (pcs (fm N w k t) b d = pcs w a d)) (N - d + 1) = true then .inr () else .inl ()) := by
    unfold X3_formHasPiece_9_l
    refine loop_ex (fun r : Unit ⊕ Unit => r = (if allB (fun b => !decide (pcs (fm N w k t) b d = pcs w a d)) (N - d + 1) = true then .inr () else .inl ())) (N - d + 1) FU (fun i z => z = nI i ∧ allB (fun b => !decide (pcs (fm N w k t) b d = pcs w a d)) i = true) 0 (FU_big (by omega)) ?_ ?_ ⟨rfl, rfl⟩
    · rintro b z hbn ⟨rfl, q⟩
      have hl2 : pcs (fm N w k t) b d < 2 ^ N := pcs_lt d (fun i _ => fm_lt hN)
      unfold X3_formHasPiece_9_s
      rw [nI_add, if_neg (nI_nlt (by omega) (by omega)), fp_c hN hN2 hk ht (by omega) hw, bso, nI_1]
      by_cases hc : pcs (fm N w k t) b d = pcs w a d
      · rw [if_pos (by rw [hc])]
        refine Or.inl ⟨_, rfl, ?_⟩
        rw [if_neg]
        intro h
        have := allB_iff.mp h b hbn
        rw [decide_eq_true hc] at this
        cases this
      · rw [if_neg (fun e => hc ((nI_eq (by omega) (by omega)).mp e))]
        refine Or.inr ⟨_, rfl, rfl, ?_⟩
        rw [allB_s, q, decide_eq_false hc]
        rfl
    · rintro z ⟨rfl, q⟩
      unfold X3_formHasPiece_9_s
      rw [nI_add, if_pos (nI_lt (by omega) (by omega))]
      exact ⟨_, rfl, by rw [if_pos q]⟩
  obtain ⟨r, e, hr⟩ := hx
  rw [e, bso, hr]
  unfold kh
  cases allB (fun b => !decide (pcs (fm N w k t) b d = pcs w a d)) (N - d + 1) with
  | true => rfl
  | false => rfl
theorem kp_97 {N b d : Nat} {g : Nat → Int32} {v : Nat → Nat} {mc y4 y5 y6 : Int32} (hN2 : N ≤ 12) (hbd : b + d ≤ N) (hg : ∀ i, i < N → v i < N ∧ g i = nI (v i)) : X6_kept_97_l (nI d) mc g y4 y5 y6 (nI b) 0 0 = some (nI (pcs v b d)) := by
  unfold X6_kept_97_l
  refine loop_at _ d FU (fun i => (nI (pcs v b i), nI i)) _ rfl (FU_big (by omega)) ?_ ?_
  · intro i hi
    have p := hg (b + i) (by omega)
    show X6_kept_97_s (nI d) mc g y4 y5 y6 (nI b) (nI (pcs v b i)) (nI i) = some (.inl (nI (pcs v b i ||| 2 ^ v (b + i)), nI (i + 1)))
    unfold X6_kept_97_s
    rw [nI_add, if_neg (nI_ge (by omega) (by omega)), if_neg (nI_in (by omega) (by omega)), nI_clamp (by omega), p.2, n_one (by omega), nx_or, nI_1]
  · show X6_kept_97_s (nI d) mc g y4 y5 y6 (nI b) (nI (pcs v b d)) (nI d) = _
    unfold X6_kept_97_s
    rw [if_pos (nI_le (Nat.le_refl _) (by omega))]
theorem kp_80 {N a d k t : Nat} {f g : Nat → Int32} {w : Nat → Nat} {mc y4 : Int32} (hN : 0 < N) (hN2 : N ≤ 12) (had : a + d ≤ N) (hw : ∀ i, i < N → w i < N ∧ f i = nI (w i)) (hg : ∀ i, i < N → fm N w k t i < N ∧ g i = nI (fm N w k t i)) : X6_kept_80_l (nI N) f (nI d) mc g y4 (nI a) 0 0 = some (b1 (kh N w k t d a)) := by
  have hp := pow_le12 hN2
  unfold X6_kept_80_l kh
  refine loop_at _ (N - d + 1) FU (fun i => (b1 (!allB (fun b => !decide (pcs (fm N w k t) b d = pcs w a d)) i), nI i)) _ rfl (FU_big (by omega)) ?_ ?_
  · intro b hb
    have hl := pcs_ltw (a := a) (d := d) had hw
    have hl2 : pcs (fm N w k t) b d < 2 ^ N := pcs_lt d (fun i _ => fm_lt hN)
    show X6_kept_80_s (nI N) f (nI d) mc g y4 (nI a) (b1 (!allB (fun b => !decide (pcs (fm N w k t) b d = pcs w a d)) b)) (nI b) = some (.inl (b1 (!(!decide (pcs (fm N w k t) b d = pcs w a d) && allB (fun b => !decide (pcs (fm N w k t) b d = pcs w a d)) b)), nI (b + 1)))
    unfold X6_kept_80_s X6_kept_126
    rw [nI_add, if_neg (nI_nlt (by omega) (by omega)), kp_97 hN2 (by omega) hg, bso, pc_m hN2 had hw, bso, nI_1]
    cases allB (fun b => !decide (pcs (fm N w k t) b d = pcs w a d)) b with
    | false => rw [if_neg (show ¬ b1 (!false) = 0 from n10), Bool.and_false]; rfl
    | true =>
      rw [if_pos (show b1 (!true) = 0 from rfl), Bool.and_true]
      by_cases hc : pcs (fm N w k t) b d = pcs w a d
      · rw [if_pos (by rw [hc]), decide_eq_true hc]; rfl
      · rw [if_neg (fun e => hc ((nI_eq (by omega) (by omega)).mp e)), decide_eq_false hc]; rfl
  · show X6_kept_80_s (nI N) f (nI d) mc g y4 (nI a) (b1 (!allB (fun b => !decide (pcs (fm N w k t) b d = pcs w a d)) (N - d + 1))) (nI (N - d + 1)) = _
    unfold X6_kept_80_s
    rw [nI_add, if_pos (nI_lt (by omega) (by omega))]
theorem op_kept : Op_kept InvC := by
  intro n ev ld0 ld1 ld2 tk mb f0 f1 f2 fr fu m_code m_n m_built m_length m_begin m_many m_leastOf m_sizeOf m_own m_bestRow m_tryRow m_keptRow m_otherRow m_row m_formRow m_allForms m_rowsOf m_intervals m_places m_whole a1 a2 a3 ⟨N, hN, hN2, h1, h2, h3, l0, l1, l2, hR, hC, hT⟩
  subst h1; subst h2; subst h3
  have hR0 := hR
  obtain ⟨T, w, B, r1, r2, r3, r4, r5, r6, r7, r8⟩ := hR
  subst r2; subst r3
  unfold FX5_kept FX6_kept FX0_count
  rcases fkind_dec a1 with ⟨e1, e2⟩ | ⟨k, hk, rfl, e1, e2⟩
  · rw [e1, e2]
    exact ⟨-2, 0, m_formRow, rfl, rfl, N, hN, hN2, rfl, rfl, rfl, l0, l1, l2, hR0, hC, hT⟩
  · rw [e1, e2]
    simp only [bso]
    rw [if_neg n10, if_neg n10]
    rcases step_dec hN2 a2 with ⟨e1, e2⟩ | ⟨t, ht, rfl, e1, e2⟩
    · rw [e1, e2]
      exact ⟨-2, 0, m_formRow, rfl, rfl, N, hN, hN2, rfl, rfl, rfl, l0, l1, l2, hR0, hC, hT⟩
    · rw [e1, e2, bso, bso, if_neg n10, if_neg n10]
      rcases in_dec (a := 1) (b := N) (by omega) (by omega) a3 with ⟨q1, q2⟩ | ⟨d, g1, g2, rfl, q1⟩
      · have q1 : FX6_isIn a3 1 (nI N) = some 0 := q1
        rw [q1, bso, if_pos rfl]
        refine ⟨-2, 0, m_formRow, ?_, rfl, N, hN, hN2, rfl, rfl, rfl, l0, l1, l2, hR0, hC, hT⟩
        by_cases hc : a3 < 1
        · rw [if_pos hc]
        · rw [if_neg hc, if_neg (fun q => Int32.lt_irrefl (Int32.lt_of_lt_of_le (q2.resolve_left hc) q))]
      · have q1 : FX6_isIn (nI d) 1 (nI N) = some 1 := q1
        have q2 : ¬ nI d < (1 : Int32) := nI_nlt (b := 1) g1 (by omega)
        rw [q1, bso, if_neg n10, if_neg q2, if_pos (nI_le g2 (by omega))]
        rcases wh_nat r1 hN2 with ⟨rfl, e1, e2⟩ | ⟨_, e1, e2⟩
        · have hwc : ∀ i, i < T → w i < T ∧ fr i = nI (w i) := fun i hi => ⟨(r6 i hi).1, (r6 i hi).2.1⟩
          have hwm : ∀ i, i < T → w i < T ∧ m_row i = nI (w i) := fun i hi => ⟨(r6 i hi).1, (r6 i hi).2.2⟩
          obtain ⟨g, e3, hg⟩ := lf_nat (g := m_formRow) hN hN2 hk ht hwm
          have L1 : X5_kept_56_l (nI T) (nI T) fr (nI k) (nI t) (nI d) 0 0 = some (nI (cb (kh T w k t d) (T - d + 1))) := by
            unfold X5_kept_56_l
            refine loop_at _ (T - d + 1) FU (fun i => (nI (cb (kh T w k t d) i), nI i)) _ rfl (FU_big (by omega)) ?_ ?_
            · intro a ha
              show X5_kept_56_s (nI T) (nI T) fr (nI k) (nI t) (nI d) (nI (cb (kh T w k t d) a)) (nI a) = some (.inl (nI (cb (kh T w k t d) a + (if kh T w k t d a = true then 1 else 0)), nI (a + 1)))
              unfold X5_kept_56_s FX0_count
              rw [bso, nI_add, if_neg (nI_nlt (by omega) (by omega)), pc_c hN2 (by omega) hwc, bso, kh_c hN hN2 hk ht (by omega) hwc r7, bso, nI_1, nI_1]
              cases kh T w k t d a with
              | false => rfl
              | true => rfl
            · show X5_kept_56_s (nI T) (nI T) fr (nI k) (nI t) (nI d) (nI (cb (kh T w k t d) (T - d + 1))) (nI (T - d + 1)) = _
              unfold X5_kept_56_s FX0_count
              rw [bso, nI_add, if_pos (nI_lt (by omega) (by omega))]
          have L2 : X6_kept_63_l (nI T) m_row (nI d) 0 g 0 0 = some (nI (cb (kh T w k t d) (T - d + 1))) := by
            unfold X6_kept_63_l
            refine loop_at _ (T - d + 1) FU (fun i => (nI (cb (kh T w k t d) i), nI i)) _ rfl (FU_big (by omega)) ?_ ?_
            · intro a ha
              show X6_kept_63_s (nI T) m_row (nI d) 0 g (nI (cb (kh T w k t d) a)) (nI a) = some (.inl (nI (cb (kh T w k t d) a + (if kh T w k t d a = true then 1 else 0)), nI (a + 1)))
              unfold X6_kept_63_s X6_kept_156
              have z1 : nI (cb (kh T w k t d) a) + (1 : Int32) = nI (cb (kh T w k t d) a + 1) := nI_1 _
              have z0 : nI (cb (kh T w k t d) a) + (0 : Int32) = nI (cb (kh T w k t d) a + 0) := nI_add _ 0
              have z2 : nI a + (1 : Int32) = nI (a + 1) := nI_1 _
              rw [nI_add, if_neg (nI_nlt (by omega) (by omega)), kp_80 hN hN2 (by omega) hwm (fun i hi => ⟨fm_lt hN, hg i hi⟩), bso, z1, z0, z2]
              cases kh T w k t d a with
              | false => rfl
              | true => rfl
            · show X6_kept_63_s (nI T) m_row (nI d) 0 g (nI (cb (kh T w k t d) (T - d + 1))) (nI (T - d + 1)) = _
              unfold X6_kept_63_s
              rw [nI_add, if_pos (nI_lt (by omega) (by omega))]
          rw [e1, if_pos e2, bso, if_neg n10, L1, bso, e3, bso, L2, bso]
          exact ⟨_, 0, g, rfl, rfl, T, hN, hN2, rfl, rfl, rfl, l0, l1, l2, hR0, hC, hT⟩
        · rw [e1, if_neg e2]
          exact ⟨-3, 0, m_formRow, rfl, rfl, N, hN, hN2, rfl, rfl, rfl, l0, l1, l2, hR0, hC, hT⟩
