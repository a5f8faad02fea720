/-! the row: add, form, table -/
theorem wrap_s : allB (fun N => allB (fun a => allB (fun b => decide (FX0_wrapped (nI (N + 1)) (nI a - nI b) = some (nI ((a + (N + 1) - b) % (N + 1))))) (N + 1)) 24) 12 = true := by decide +kernel
theorem wr_nat {N a b : Nat} (hN : 0 < N) (hN2 : N ≤ 12) (ha : a < 24) (hb : b < N) : FX0_wrapped (nI N) (nI a - nI b) = some (nI ((a + N - b) % N)) := by
  have h := of_decide_eq_true (allB_at (allB_at (allB_at wrap_s (N - 1) (by omega)) a ha) b (by omega))
  rw [show N - 1 + 1 = N by omega] at h
  exact h
theorem i_sa (a b c : Int32) : a - b + c = a + c - b := by
  rw [Int32.sub_eq_add_neg, Int32.sub_eq_add_neg, Int32.add_assoc, Int32.add_comm (-b) c, ← Int32.add_assoc]
theorem i_as (a b c : Int32) : a + (b - c) = a + b - c := by
  rw [Int32.sub_eq_add_neg, Int32.sub_eq_add_neg, Int32.add_assoc]
theorem i_ss (a b c : Int32) : a - (b - c) = a + c - b := by
  rw [Int32.sub_eq_add_neg, Int32.sub_eq_add_neg b c, Int32.sub_eq_add_neg, Int32.neg_add, Int32.sub_eq_add_neg, Int32.neg_neg, Int32.add_assoc, Int32.add_comm (-b) c]
theorem sa_nI {a b c : Nat} (h : b ≤ a + c) : nI a - nI b + nI c = nI (a + c - b) := by
  rw [i_sa, nI_add, pk_sub h]
def fa (N k i : Nat) : Nat := if k < 2 then i else N - 1 - i
def fm (N : Nat) (w : Nat → Nat) (k t i : Nat) : Nat := if k % 2 = 0 then (t + w (fa N k i) + N - w 0) % N else (t + w 0 + N - w (fa N k i)) % N
theorem fa_lt {N k i : Nat} (hi : i < N) : fa N k i < N := by unfold fa; split <;> omega
theorem fm_lt {N k t i : Nat} {w : Nat → Nat} (hN : 0 < N) : fm N w k t i < N := by
  unfold fm; split <;> exact Nat.mod_lt _ hN
theorem at_nat {T i : Nat} {f : Nat → Int32} {w : Nat → Nat} (hT : T ≤ 12) (hi : i < T) (hw : f i = nI (w i)) : FX3_at (nI T) f (nI i) = some (nI (w i)) := by
  unfold FX3_at FX3_hasPlace
  have h12 : ¬ (12 : Int32) ≤ nI i := nI_ge (b := 12) (by omega) (by omega)
  rw [if_neg (nI_pos (by omega)), if_neg (nI_ge hi (by omega)), bso, if_neg n10, if_neg h12, if_neg (nI_in (by omega) (by omega)), nI_clamp (by omega), hw]
theorem fs_nat {N k t i : Nat} {f : Nat → Int32} {w : Nat → Nat} (hN : 0 < N) (hN2 : N ≤ 12) (hk : k < 4) (ht : t < N) (hi : i < N) (hw : ∀ i, i < N → w i < N ∧ f i = nI (w i)) : FX3_formStep (nI N) (nI N) f (nI k) (nI t) (nI i) = some (nI (fm N w k t i)) := by
  have q0 := hw 0 hN
  have q1 := hw i hi
  have q2 := hw (N - 1 - i) (by omega)
  have z0 : FX3_at (nI N) f 0 = some (nI (w 0)) := at_nat (i := 0) hN2 hN q0.2
  have z1 := at_nat (i := i) hN2 hi q1.2
  have z2 := at_nat (i := N - 1 - i) hN2 (by omega) q2.2
  have z3 : nI N - (1 : Int32) - nI i = nI (N - 1 - i) := by
    have : nI N - (1 : Int32) = nI (N - 1) := pk_sub (b := 1) (by omega)
    rw [this, pk_sub (by omega)]
  unfold FX3_formStep X3_formStep_10 X3_formStep_24 X3_formStep_44 X3_formStep_75
  rcases (show k = 0 ∨ k = 1 ∨ k = 2 ∨ k = 3 by omega) with rfl | rfl | rfl | rfl
  · rw [if_pos (by decide), if_neg (by decide), if_pos rfl, z1, bso, z0, bso, if_pos rfl, i_as, nI_add, wr_nat hN hN2 (by omega) (by omega), bso]
    rfl
  · rw [if_pos (by decide), if_pos (by decide), if_pos rfl, z1, bso, z0, bso, if_neg n10, i_ss, nI_add, wr_nat hN hN2 (by omega) (by omega), bso]
    rfl
  · rw [if_neg (by decide), if_neg (by decide), if_neg n10, z3, z2, bso, z0, bso, if_pos rfl, i_as, nI_add, wr_nat hN hN2 (by omega) (by omega), bso]
    rfl
  · rw [if_neg (by decide), if_pos (by decide), if_neg n10, z3, z2, bso, z0, bso, if_neg n10, i_ss, nI_add, wr_nat hN hN2 (by omega) (by omega), bso]
    rfl
theorem fmod_e {N t a b : Nat} (hN : 0 < N) (hb : b < N) : (t + (a + N - b) % N) % N = (t + a + N - b) % N := by
  rw [Nat.add_mod, Nat.mod_mod, ← Nat.add_mod]
  congr 1
  omega
theorem fmod_o {N t a b : Nat} (hN : 0 < N) (ha : a < N) (hb : b < N) (ht : t < N) : (t + N - (a + N - b) % N) % N = (t + b + N - a) % N := by
  by_cases h : b ≤ a
  · rw [show a + N - b = (a - b) + N by omega, Nat.add_mod_right, Nat.mod_eq_of_lt (show a - b < N by omega)]
    congr 1
    omega
  · rw [Nat.mod_eq_of_lt (show a + N - b < N by omega), show t + b + N - a = (t + N - (a + N - b)) + N by omega, Nat.add_mod_right]
theorem lf27 {N k t i j : Nat} {f u : Nat → Int32} {w : Nat → Nat} (hN : 0 < N) (hN2 : N ≤ 12) (hk : k < 4) (ht : t < N) (hi : i < N) (hj : j < N) (hw : ∀ i, i < N → w i < N ∧ f i = nI (w i)) : X6_layForm_27 (nI N) f (nI k) (nI t) u (nI i) (nI j) = some (.inl (upd u i (nI (if k % 2 = 0 then (t + w j + N - w 0) % N else (t + w 0 + N - w j) % N)), nI (i + 1))) := by
  have p0 := hw 0 hN
  have p1 := hw j hj
  have p0z : f (0 : Int32).toNatClampNeg = nI (w 0) := p0.2
  have hn0 := nI_ne0 hN (show N < 2 ^ 31 by omega)
  have hm := Nat.mod_lt (w j + N - w 0) hN
  unfold X6_layForm_27 X6_layForm_82
  rw [if_neg (nI_in (c := j) (by omega) (by omega)), if_neg hn0, nI_clamp (n := j) (by omega), p0z, p1.2, sa_nI (by omega), pk_rem (by omega) hN (by omega)]
  by_cases hc : k % 2 = 0
  · have hk2 : nI k - nI k / (2 : Int32) * 2 = 0 := by
      rw [show (0 : Int32) = nI (k % 2) by rw [hc]; rfl]
      exact pk_rem (d := 2) (by omega) (by omega) (by omega)
    rw [if_pos hk2, if_neg hn0, if_neg (nI_in (c := i) (by omega) (by omega)), nI_add, pk_rem (by omega) hN (by omega), fmod_e hN p0.1, nI_clamp (by omega), nI_1, if_pos hc]
  · have hk2 : ¬ nI k - nI k / (2 : Int32) * 2 = 0 := by
      have : nI k - nI k / (2 : Int32) * 2 = nI (k % 2) := pk_rem (d := 2) (by omega) (by omega) (by omega)
      rw [this]
      exact nI_ne0 (by omega) (by omega)
    rw [if_neg hk2, if_neg hn0, if_neg (nI_in (c := i) (by omega) (by omega)), nI_add, pk_sub (by omega), pk_rem (by omega) hN (by omega), fmod_o hN p1.1 p0.1 ht, nI_clamp (by omega), nI_1, if_neg hc]
theorem lf_nat {N k t : Nat} {f g : Nat → Int32} {w : Nat → Nat} (hN : 0 < N) (hN2 : N ≤ 12) (hk : k < 4) (ht : t < N) (hw : ∀ i, i < N → w i < N ∧ f i = nI (w i)) : ∃ g2, FX6_layForm (nI N) f g (nI k) (nI t) = some g2 ∧ ∀ i, i < N → g2 i = nI (fm N w k t i) := by
  unfold FX6_layForm X6_layForm_94 X6_layForm_2_l
  have hl := loop_inv (step := fun z : (Nat → Int32) × Int32 => X6_layForm_2_s (nI N) f (nI k) (nI t) z.1 z.2) (fun r : Nat → Int32 => ∀ i, i < N → r i = nI (fm N w k t i)) N FU (fun i (z : (Nat → Int32) × Int32) => z.2 = nI i ∧ ∀ j, j < i → z.1 j = nI (fm N w k t j)) (g, 0) (FU_big (by omega)) ?_ ?_ ⟨rfl, fun j hj => by omega⟩
  · obtain ⟨r, e, h⟩ := hl
    rw [e, bso]
    exact ⟨r, rfl, h⟩
  · rintro i ⟨u, x⟩ hi ⟨q1, q2⟩
    have q1 : x = nI i := q1
    subst q1
    have q2 : ∀ j, j < i → u j = nI (fm N w k t j) := q2
    have e : X6_layForm_2_s (nI N) f (nI k) (nI t) u (nI i) = some (.inl (upd u i (nI (fm N w k t i)), nI (i + 1))) := by
      unfold X6_layForm_2_s fm fa
      have z3 : nI N - (1 : Int32) - nI i = nI (N - 1 - i) := by
        have : nI N - (1 : Int32) = nI (N - 1) := pk_sub (b := 1) (by omega)
        rw [this, pk_sub (by omega)]
      rw [if_neg (nI_ge hi (by omega)), z3, lf27 hN hN2 hk ht hi hi hw, lf27 hN hN2 hk ht hi (by omega) hw]
      by_cases hc : k < 2
      · have : ¬ (2 : Int32) ≤ nI k := nI_ge (b := 2) hc (by omega)
        rw [if_neg this, if_pos hc]
      · have : (2 : Int32) ≤ nI k := nI_le (a := 2) (by omega) (by omega)
        rw [if_pos this, if_neg hc]
    show ∃ t', X6_layForm_2_s (nI N) f (nI k) (nI t) u (nI i) = some (.inl t') ∧ _
    rw [e]
    refine ⟨_, rfl, rfl, ?_⟩
    intro j hj
    by_cases h : j = i
    · subst h; exact upd_s _ _ _
    · exact (upd_n _ _ h).trans (q2 j (by omega))
  · rintro ⟨u, x⟩ ⟨q1, q2⟩
    have q1 : x = nI N := q1
    subst q1
    have q2 : ∀ j, j < N → u j = nI (fm N w k t j) := q2
    show ∃ r, X6_layForm_2_s (nI N) f (nI k) (nI t) u (nI N) = some (.inr r) ∧ _
    unfold X6_layForm_2_s
    rw [if_pos (nI_le (Nat.le_refl _) (by omega))]
    exact ⟨u, rfl, q2⟩
theorem wh_nat {N T : Nat} (hT : T ≤ N) (hN2 : N ≤ 12) : (T = N ∧ FX3_isWhole (nI T) (nI N) = some 1 ∧ nI N ≤ nI T) ∨ (T < N ∧ FX3_isWhole (nI T) (nI N) = some 0 ∧ ¬ nI N ≤ nI T) := by
  unfold FX3_isWhole FX0_count
  rw [bso]
  by_cases h : T = N
  · subst h
    exact Or.inl ⟨rfl, if_pos rfl, nI_le (Nat.le_refl _) (by omega)⟩
  · exact Or.inr ⟨by omega, if_neg (fun q => h ((nI_eq (by omega) (by omega)).mp q)), nI_ge (by omega) (by omega)⟩
theorem pl_dec {N : Nat} (hN2 : N ≤ 12) (x : Int32) : (FX3_hasPlace (nI N) x = some 0 ∧ FX6_isStep (nI N) x = some 0) ∨ ∃ t : Nat, t < N ∧ x = nI t ∧ FX3_hasPlace (nI N) x = some 1 ∧ FX6_isStep (nI N) x = some 1 := by
  rcases step_dec hN2 x with ⟨e1, e2⟩ | ⟨t, ht, rfl, e1, e2⟩
  · refine Or.inl ⟨?_, e2⟩
    rw [← e1]
    unfold FX3_hasPlace FX0_hasStep
    rfl
  · refine Or.inr ⟨t, ht, rfl, ?_, e2⟩
    rw [← e1]
    unfold FX3_hasPlace FX0_hasStep
    rfl
theorem op_form : Op_form InvC := by
  intro n ev ld0 ld1 ld2 tk mb f0 f1 f2 fr fu m_code m_n m_built m_length m_begin m_many m_leastOf m_sizeOf m_own m_bestRow m_tryRow m_keptRow m_otherRow m_row m_formRow m_allForms m_rowsOf m_intervals m_places m_whole a1 a2 a3 ⟨N, hN, hN2, h1, h2, h3, l0, l1, l2, hR, hC, hT⟩
  subst h1; subst h2; subst h3
  have hR0 := hR
  obtain ⟨T, w, B, r1, r2, r3, r4, r5, r6, r7, r8⟩ := hR
  subst r2; subst r3
  unfold FX5_form FX6_form
  rcases fkind_dec a1 with ⟨e1, e2⟩ | ⟨k, hk, rfl, e1, e2⟩
  · rw [e1, e2]
    exact ⟨-2, 0, m_formRow, rfl, rfl, N, hN, hN2, rfl, rfl, rfl, l0, l1, l2, hR0, hC, hT⟩
  · rw [e1, e2, bso, bso, if_neg n10, if_neg n10]
    rcases step_dec hN2 a2 with ⟨e1, e2⟩ | ⟨t, ht, rfl, e1, e2⟩
    · rw [e1, e2]
      exact ⟨-2, 0, m_formRow, rfl, rfl, N, hN, hN2, rfl, rfl, rfl, l0, l1, l2, hR0, hC, hT⟩
    · rw [e1, e2, bso, bso, if_neg n10, if_neg n10]
      rcases wh_nat r1 hN2 with ⟨rfl, e1, e2⟩ | ⟨_, e1, e2⟩
      · rw [e1, if_pos e2, bso, if_neg n10]
        rcases pl_dec hN2 a3 with ⟨e1, e2⟩ | ⟨i, hi, rfl, e1, e2⟩
        · rw [e1, e2]
          exact ⟨-1, 0, m_formRow, rfl, rfl, T, hN, hN2, rfl, rfl, rfl, l0, l1, l2, hR0, hC, hT⟩
        · rw [e1, e2, bso, bso, if_neg n10, if_neg n10]
          obtain ⟨g2, e3, hg⟩ := lf_nat (g := m_formRow) hN hN2 hk ht (fun i hi => ⟨(r6 i hi).1, (r6 i hi).2.2⟩)
          rw [fs_nat hN hN2 hk ht hi (fun i hi => ⟨(r6 i hi).1, (r6 i hi).2.1⟩), bso, e3, bso, if_neg (nI_in (by omega) (by omega)), nI_clamp (by omega), hg i hi]
          exact ⟨_, 0, g2, rfl, rfl, T, hN, hN2, rfl, rfl, rfl, l0, l1, l2, hR0, hC, hT⟩
      · rw [e1, if_neg e2]
        exact ⟨-3, 0, m_formRow, rfl, rfl, N, hN, hN2, rfl, rfl, rfl, l0, l1, l2, hR0, hC, hT⟩
theorem op_table : Op_table InvC := by
  intro n ev ld0 ld1 ld2 tk mb f0 f1 f2 fr fu m_code m_n m_built m_length m_begin m_many m_leastOf m_sizeOf m_own m_bestRow m_tryRow m_keptRow m_otherRow m_row m_formRow m_allForms m_rowsOf m_intervals m_places m_whole a1 a2 ⟨N, hN, hN2, h1, h2, h3, l0, l1, l2, hR, hC, hT⟩
  subst h1; subst h2; subst h3
  have hR0 := hR
  obtain ⟨T, w, B, r1, r2, r3, r4, r5, r6, r7, r8⟩ := hR
  subst r2; subst r3
  unfold FX5_table FX6_table
  rcases wh_nat r1 hN2 with ⟨rfl, e1, e2⟩ | ⟨_, e1, e2⟩
  · rw [e1, if_pos e2, bso, if_neg n10]
    rcases pl_dec hN2 a1 with ⟨e1, e2⟩ | ⟨i, hi, rfl, e1, e2⟩
    · rw [e1, e2]
      exact ⟨-1, 0, m_formRow, rfl, rfl, T, hN, hN2, rfl, rfl, rfl, l0, l1, l2, hR0, hC, hT⟩
    · rw [e1, e2, bso, bso, if_neg n10, if_neg n10]
      rcases pl_dec hN2 a2 with ⟨e1, e2⟩ | ⟨j, hj, rfl, e1, e2⟩
      · rw [e1, e2]
        exact ⟨-1, 0, m_formRow, rfl, rfl, T, hN, hN2, rfl, rfl, rfl, l0, l1, l2, hR0, hC, hT⟩
      · rw [e1, e2, bso, bso, if_neg n10, if_neg n10]
        have hwc : ∀ i, i < T → w i < T ∧ fr i = nI (w i) := fun i hi => ⟨(r6 i hi).1, (r6 i hi).2.1⟩
        have hwm : ∀ i, i < T → w i < T ∧ m_row i = nI (w i) := fun i hi => ⟨(r6 i hi).1, (r6 i hi).2.2⟩
        obtain ⟨g2, e3, hg⟩ := lf_nat (g := m_formRow) hN hN2 (show 1 < 4 by omega) (hwm 0 hN).1 hwm
        obtain ⟨g3, e4, hg3⟩ := lf_nat (g := g2) hN hN2 (show 0 < 4 by omega) (fm_lt (w := w) (k := 1) (t := w 0) (i := i) hN) hwm
        have z0 : FX3_at (nI T) fr 0 = some (nI (w 0)) := at_nat (i := 0) hN2 hN (hwc 0 hN).2
        have z1 := fs_nat hN hN2 (show 1 < 4 by omega) (hwm 0 hN).1 hi hwc
        have z2 := fs_nat hN hN2 (show 0 < 4 by omega) (fm_lt (w := w) (k := 1) (t := w 0) (i := i) hN) hj hwc
        have z1 : FX3_formStep (nI T) (nI T) fr 1 (nI (w 0)) (nI i) = some (nI (fm T w 1 (w 0) i)) := z1
        have z2 : FX3_formStep (nI T) (nI T) fr 0 (nI (fm T w 1 (w 0) i)) (nI j) = some (nI (fm T w 0 (fm T w 1 (w 0) i) j)) := z2
        have p0z : m_row (0 : Int32).toNatClampNeg = nI (w 0) := (hwm 0 hN).2
        have e3 : FX6_layForm (nI T) m_row m_formRow 1 (nI (w 0)) = some g2 := e3
        have e4 : FX6_layForm (nI T) m_row g2 0 (nI (fm T w 1 (w 0) i)) = some g3 := e4
        rw [z0, bso, z1, bso, z2, bso, p0z, e3, bso, if_neg (nI_in (by omega) (by omega)), nI_clamp (by omega), hg i hi, e4, bso, if_neg (nI_in (by omega) (by omega)), nI_clamp (by omega), hg3 j hj]
        exact ⟨_, 0, g3, rfl, rfl, T, hN, hN2, rfl, rfl, rfl, l0, l1, l2, hR0, hC, hT⟩
  · rw [e1, if_neg e2]
    exact ⟨-3, 0, m_formRow, rfl, rfl, N, hN, hN2, rfl, rfl, rfl, l0, l1, l2, hR0, hC, hT⟩
