/-! size, within, common, keeps, best, spread -/
theorem bit_and_lt {a b N : Nat} (ha : a < 2 ^ N) : a &&& b < 2 ^ N := Nat.lt_of_le_of_lt Nat.and_le_left ha
theorem sb_all {N x : Nat} (hx : x < 2 ^ N) : sb x (2 ^ N - 1) = true := by
  rw [sb_iff]
  intro j hj
  rw [Nat.testBit_two_pow_sub_one]
  simp [bit_lt hx hj]
theorem cw_all {N kd s : Nat} : cw N kd s (2 ^ N - 1) = cz N kd (lst N kd s) := by
  unfold cw cz
  refine cb_congr (fun x hx => ?_)
  rw [sb_all hx, Bool.and_true]
theorem op_size : Op_size InvC := by
  intro n ev ld0 ld1 ld2 tk mb f0 f1 f2 fr fu m_code m_n m_built m_length m_begin m_many m_leastOf m_sizeOf m_own m_bestRow m_tryRow m_keptRow m_otherRow m_row m_formRow m_allForms m_rowsOf m_intervals m_places m_whole a1 a2 ⟨N, hN, hN2, h1, h2, h3, l0, l1, l2, hR, hC, hT⟩
  subst h1; subst h2; subst h3
  have hp := pow_le12 hN2
  unfold FX5_size FX6_size
  rcases set_dec hN2 a1 with ⟨e1, e2⟩ | ⟨s, hs, rfl, e1, e2⟩
  · rw [e1, e2]
    exact ⟨-2, 0, _, _, _, rfl, rfl, N, hN, hN2, rfl, rfl, rfl, l0, l1, l2, hR, hC, hT⟩
  · rw [e1, e2]
    simp only [Option.bind_some]
    rw [if_neg (by decide), if_neg (by decide)]
    rcases kind_dec a2 with ⟨e3, e4⟩ | ⟨k, hk, rfl, e3, e4⟩
    · rw [e3, e4]
      exact ⟨-2, 0, _, _, _, rfl, rfl, N, hN, hN2, rfl, rfl, rfl, l0, l1, l2, hR, hC, hT⟩
    · rw [e3, e4]
      simp only [Option.bind_some]
      obtain ⟨lo2, so2, e5, h5⟩ := li_nat hN hN2 hk hs hT
      have hl := lst_lt (kd := k) hN hs
      have hq := pow_pos2 N
      rw [if_neg (by decide), if_neg (by decide), e5]
      have h6 := h5
      rcases h5 with h5 | ⟨_, h5⟩
      · exact absurd h5 (by decide)
      · refine ⟨nI (cz N k (lst N k s)), 0, 1, lo2, so2, ?_, ?_, N, hN, hN2, rfl, rfl, rfl, l0, l1, l2, hR, hC, h6⟩
        · show (FX0_membersInside (nI N) (nI (2 ^ N - 1)) (nI s) (nI k) (nI (2 ^ N - 1))).bind _ = _
          rw [mem_nat hN hN2 hk hs (by omega), cw_all]
          rfl
        · rw [bind4_some, ixI, if_neg (ixG hk (by omega)), ixC hk (by omega), (h5 k hk _ hl).2 (lst_lst hN hN2 hk hs)]
theorem op_within : Op_within InvC := by
  intro n ev ld0 ld1 ld2 tk mb f0 f1 f2 fr fu m_code m_n m_built m_length m_begin m_many m_leastOf m_sizeOf m_own m_bestRow m_tryRow m_keptRow m_otherRow m_row m_formRow m_allForms m_rowsOf m_intervals m_places m_whole a1 a2 a3 ⟨N, hN, hN2, h1, h2, h3, l0, l1, l2, hR, hC, hT⟩
  subst h1; subst h2; subst h3
  have hp := pow_le12 hN2
  unfold FX5_within FX6_within
  rcases set_dec hN2 a1 with ⟨e1, e2⟩ | ⟨s, hs, rfl, e1, e2⟩
  · rw [e1, e2]
    exact ⟨-2, 0, _, _, _, rfl, rfl, N, hN, hN2, rfl, rfl, rfl, l0, l1, l2, hR, hC, hT⟩
  · rw [e1, e2]
    simp only [Option.bind_some]
    rw [if_neg (by decide), if_neg (by decide)]
    rcases set_dec hN2 a2 with ⟨e1, e2⟩ | ⟨o, ho, rfl, e1, e2⟩
    · rw [e1, e2]
      exact ⟨-2, 0, _, _, _, rfl, rfl, N, hN, hN2, rfl, rfl, rfl, l0, l1, l2, hR, hC, hT⟩
    · rw [e1, e2]
      simp only [Option.bind_some]
      rw [if_neg (by decide), if_neg (by decide)]
      rcases kind_dec a3 with ⟨e3, e4⟩ | ⟨k, hk, rfl, e3, e4⟩
      · rw [e3, e4]
        exact ⟨-2, 0, _, _, _, rfl, rfl, N, hN, hN2, rfl, rfl, rfl, l0, l1, l2, hR, hC, hT⟩
      · rw [e3, e4]
        simp only [Option.bind_some]
        rw [if_neg (by decide), if_neg (by decide), mem_nat hN hN2 hk ho hs]
        have hl := loop_inv (step := fun z => X6_within_39_s (nI N) (nI s) (nI o) (nI k) 0 z.1 z.2.1 z.2.2.1 z.2.2.2.1 z.2.2.2.2) (fun r : Int32 × (Nat → Int32) × (Nat → Int32) × Int32 => r.2.2.2 = nI (cw N k o s) ∧ tabOK N r.1 r.2.1 r.2.2.1) (2 ^ N) FU (fun i (z : Int32 × (Nat → Int32) × (Nat → Int32) × Int32 × Int32) => z.2.2.2.2 = nI i ∧ z.2.2.2.1 = nI (cb (fun x => decide (lst N k x = lst N k o) && sb x s) i) ∧ tabOK N z.1 z.2.1 z.2.2.1) (m_built, m_leastOf, m_sizeOf, 0, 0) (FU_big (by omega)) ?_ ?_ ⟨rfl, rfl, hT⟩
        · obtain ⟨⟨b2, lo2, so2, c2⟩, e5, h5, h6⟩ := hl
          have h5 : c2 = nI (cw N k o s) := h5
          subst h5
          unfold X6_within_39_l
          rw [e5]
          exact ⟨nI (cw N k o s), 0, b2, lo2, so2, rfl, rfl, N, hN, hN2, rfl, rfl, rfl, l0, l1, l2, hR, hC, h6⟩
        · rintro i ⟨b1, lo1, so1, c1, i1⟩ hi ⟨q1, q2, q3⟩
          have q1 : i1 = nI i := q1
          have q2 : c1 = nI (cb (fun x => decide (lst N k x = lst N k o) && sb x s) i) := q2
          subst q1; subst q2
          show ∃ t, X6_within_39_s (nI N) (nI s) (nI o) (nI k) 0 b1 lo1 so1 _ (nI i) = some (.inl t) ∧ _
          unfold X6_within_39_s
          rw [e_ev hN2, if_neg (nI_ge hi (by omega))]
          obtain ⟨lo2, so2, e5, h5⟩ := li_nat hN hN2 hk hi q3
          rw [e5, bind4_some]
          obtain ⟨lo3, so3, e6, h6⟩ := li_nat hN hN2 hk ho h5
          rw [e6, bind4_some]
          have b1 := lst_lt (kd := k) hN hi
          have b2 := lst_lt (kd := k) hN ho
          by_cases hc : lst N k i = lst N k o
          · rw [if_pos (by rw [hc])]
            by_cases hs2 : sb i s = true
            · rw [if_pos ((sb_int (by omega) (by omega)).mpr hs2)]
              refine ⟨_, rfl, nI_1 i, ?_, h6⟩
              show nI _ + 1 = _
              rw [cb_s, nI_1, hs2, decide_eq_true hc]; rfl
            · rw [if_neg (fun q => hs2 ((sb_int (by omega) (by omega)).mp q))]
              refine ⟨_, rfl, nI_1 i, ?_, h6⟩
              show nI _ + nI 0 = _
              rw [cb_s, nI_add]; simp [hs2]
          · rw [if_neg (fun q => hc (nI_inj (by omega) (by omega) q))]
            refine ⟨_, rfl, nI_1 i, ?_, h6⟩
            show nI _ + nI 0 = _
            rw [cb_s, nI_add]; simp [hc]
        · rintro ⟨b1, lo1, so1, c1, i1⟩ ⟨q1, q2, q3⟩
          have q1 : i1 = nI (2 ^ N) := q1
          subst q1
          refine ⟨(b1, lo1, so1, c1), ?_, q2, q3⟩
          show X6_within_39_s (nI N) (nI s) (nI o) (nI k) 0 b1 lo1 so1 c1 (nI (2 ^ N)) = _
          unfold X6_within_39_s
          rw [e_ev hN2, if_pos (nI_le (Nat.le_refl _) (by omega))]
/-- the multiplier of mirrored or not -/
def mm (N : Nat) (b : Int32) : Nat := if b = 0 then 1 else N - 1
theorem rot_mo1 {N s t : Nat} (hN : 0 < N) (hs : s < 2 ^ N) (ht : t ≤ N) : rot N s t = mo N s 1 t := by
  rw [rot_im hN hs ht]
  exact im_congr (fun a _ => by rw [Nat.one_mul])
theorem mif_nat {N s : Nat} (hN : 0 < N) (hN2 : N ≤ 12) (hs : s < 2 ^ N) {b : Int32} (hb : b = 0 ∨ b = 1) : ∃ s2, s2 < 2 ^ N ∧ FX0_mirroredIf (nI N) (nI s) b = some (nI s2) ∧ ∀ t, t ≤ N → rot N s2 t = mo N s (mm N b) t := by
  unfold FX0_mirroredIf mm
  rcases hb with rfl | rfl
  · exact ⟨s, hs, rfl, fun t ht => rot_mo1 hN hs ht⟩
  · refine ⟨mo N s (N - 1) 0, mo_lt hN, ?_, fun t ht => rot_mo hN ht⟩
    rw [if_neg (by decide)]
    have : nI N - 1 = nI (N - 1) := pk_sub (b := 1) hN
    rw [this, te_nat hN hN2 hs (by omega), te_mo]
    rfl
theorem mm_le {N : Nat} (hN : 0 < N) (b : Int32) : mm N b ≤ N := by unfold mm; split <;> omega
theorem sh_nat {N s o t : Nat} (hN : 0 < N) (hN2 : N ≤ 12) (hs : s < 2 ^ N) (ho : o < 2 ^ N) (ht : t < N) (b : Int32) : FX6_shares (nI N) (nI s) (nI o) (nI t) b = some (nI (bc (s &&& mo N o (mm N b) t) 12)) := by
  have hp := pow_le12 hN2
  have hm := mm_le hN b
  have h : X6_shares_18 (nI N) (nI t) (nI s) (nI o) (nI (mm N b)) = some (nI (bc (s &&& mo N o (mm N b) t) 12)) := by
    unfold X6_shares_18
    rw [md_nat hN hN2 ho hm ht]
    simp only [Option.bind_some]
    have := bit_and_lt (b := mo N o (mm N b) t) hs
    rw [nx_and, mcount (by omega)]
    rfl
  unfold FX6_shares
  by_cases hb : b = 0
  · rw [if_pos hb]
    unfold mm at h ⊢
    rw [if_pos hb] at h ⊢
    exact h
  · rw [if_neg hb]
    have e : nI N - 1 = nI (N - 1) := pk_sub (b := 1) hN
    unfold mm at h ⊢
    rw [if_neg hb] at h ⊢
    rw [e]
    exact h
theorem op_common : Op_common InvC := by
  intro n ev ld0 ld1 ld2 tk mb f0 f1 f2 fr fu m_code m_n m_built m_length m_begin m_many m_leastOf m_sizeOf m_own m_bestRow m_tryRow m_keptRow m_otherRow m_row m_formRow m_allForms m_rowsOf m_intervals m_places m_whole a1 a2 a3 a4 hb ⟨N, hN, hN2, h1, h2, h3, l0, l1, l2, hR, hC, hT⟩
  subst h1; subst h2; subst h3
  have hp := pow_le12 hN2
  unfold FX5_common FX6_common_
  rcases set_dec hN2 a1 with ⟨e1, e2⟩ | ⟨s, hs, rfl, e1, e2⟩
  · rw [e1, e2]
    exact ⟨-2, 0, rfl, rfl, N, hN, hN2, rfl, rfl, rfl, l0, l1, l2, hR, hC, hT⟩
  · rw [e1, e2]
    simp only [Option.bind_some]
    rw [if_neg (by decide), if_neg (by decide)]
    rcases set_dec hN2 a2 with ⟨e1, e2⟩ | ⟨o, ho, rfl, e1, e2⟩
    · rw [e1, e2]
      exact ⟨-2, 0, rfl, rfl, N, hN, hN2, rfl, rfl, rfl, l0, l1, l2, hR, hC, hT⟩
    · rw [e1, e2]
      simp only [Option.bind_some]
      rw [if_neg (by decide), if_neg (by decide)]
      rcases step_dec hN2 a3 with ⟨e3, e4⟩ | ⟨t, ht, rfl, e3, e4⟩
      · rw [e3, e4]
        exact ⟨-2, 0, rfl, rfl, N, hN, hN2, rfl, rfl, rfl, l0, l1, l2, hR, hC, hT⟩
      · rw [e3, e4]
        simp only [Option.bind_some]
        obtain ⟨o2, ho2, e5, h5⟩ := mif_nat hN hN2 ho hb
        have hl := bit_and_lt (b := mo N o (mm N a4) t) hs
        refine ⟨nI (bc (s &&& mo N o (mm N a4) t) 12), 0, ?_, ?_, N, hN, hN2, rfl, rfl, rfl, l0, l1, l2, hR, hC, hT⟩
        · rw [if_neg (by decide), e5]
          simp only [Option.bind_some]
          rw [tu_nat hN hN2 ho2 (by omega)]
          simp only [Option.bind_some]
          rw [h5 t (by omega), nx_and, bcount (by omega)]
          rfl
        · rw [if_neg (by decide), sh_nat hN hN2 hs ho ht]
          rfl
theorem op_keeps : Op_keeps InvC := by
  intro n ev ld0 ld1 ld2 tk mb f0 f1 f2 fr fu m_code m_n m_built m_length m_begin m_many m_leastOf m_sizeOf m_own m_bestRow m_tryRow m_keptRow m_otherRow m_row m_formRow m_allForms m_rowsOf m_intervals m_places m_whole a1 a2 hb ⟨N, hN, hN2, h1, h2, h3, l0, l1, l2, hR, hC, hT⟩
  subst h1; subst h2; subst h3
  have hp := pow_le12 hN2
  unfold FX5_keeps FX6_keeps
  rcases set_dec hN2 a1 with ⟨e1, e2⟩ | ⟨s, hs, rfl, e1, e2⟩
  · rw [e1, e2]
    exact ⟨-2, 0, rfl, rfl, N, hN, hN2, rfl, rfl, rfl, l0, l1, l2, hR, hC, hT⟩
  · rw [e1, e2]
    simp only [Option.bind_some]
    obtain ⟨o2, ho2, e5, h5⟩ := mif_nat hN hN2 hs hb
    refine ⟨nI (cb (fun t => decide (mo N s (mm N a2) t = s)) N), 0, ?_, ?_, N, hN, hN2, rfl, rfl, rfl, l0, l1, l2, hR, hC, hT⟩
    · rw [if_neg (by decide), e5]
      simp only [Option.bind_some]
      unfold X5_keeps_30_l
      have h := loop_run (step := fun z => X5_keeps_30_s (nI N) (nI (2 ^ N - 1)) (nI s) (nI o2) z.1 z.2) (nI (cb (fun t => decide (mo N s (mm N a2) t = s)) N)) N FU (fun i => (nI (cb (fun t => decide (mo N s (mm N a2) t = s)) i), nI i)) (FU_big (by omega)) ?_ ?_
      · have h : loopN (fun z => X5_keeps_30_s (nI N) (nI (2 ^ N - 1)) (nI s) (nI o2) z.1 z.2) FU (0, 0) = _ := h
        rw [h]; rfl
      · intro i hi
        show X5_keeps_30_s (nI N) (nI (2 ^ N - 1)) (nI s) (nI o2) (nI (cb (fun t => decide (mo N s (mm N a2) t = s)) i)) (nI i) = some (.inl (nI (cb (fun t => decide (mo N s (mm N a2) t = s)) (i + 1)), nI (i + 1)))
        unfold X5_keeps_30_s FX0_count
        simp only [Option.bind_some]
        rw [if_neg (nI_ge hi (by omega)), tu_nat hN hN2 ho2 (by omega)]
        simp only [Option.bind_some]
        rw [h5 i (by omega), cb_s]
        have hm := mo_lt (s := s) (m := mm N a2) (t := i) hN
        by_cases hc : mo N s (mm N a2) i = s
        · rw [if_pos (by rw [hc]), if_pos (decide_eq_true hc), nI_1, nI_1]
        · rw [if_neg (fun q => hc (nI_inj (by omega) (by omega) q)), if_neg (by simpa using hc), nI_1]; rfl
      · show X5_keeps_30_s (nI N) (nI (2 ^ N - 1)) (nI s) (nI o2) _ (nI N) = _
        unfold X5_keeps_30_s FX0_count
        simp only [Option.bind_some]
        rw [if_pos (nI_le (Nat.le_refl N) (by omega))]
    · rw [if_neg (by decide)]
      unfold X6_keeps_21_l
      have h := loop_run (step := fun z => X6_keeps_21_s (nI N) (nI s) a2 0 z.1 z.2) (nI (cb (fun t => decide (mo N s (mm N a2) t = s)) N)) N FU (fun i => (nI (cb (fun t => decide (mo N s (mm N a2) t = s)) i), nI i)) (FU_big (by omega)) ?_ ?_
      · have h : loopN (fun z => X6_keeps_21_s (nI N) (nI s) a2 0 z.1 z.2) FU (0, 0) = _ := h
        rw [h]; rfl
      · intro i hi
        show X6_keeps_21_s (nI N) (nI s) a2 0 (nI (cb (fun t => decide (mo N s (mm N a2) t = s)) i)) (nI i) = some (.inl (nI (cb (fun t => decide (mo N s (mm N a2) t = s)) (i + 1)), nI (i + 1)))
        have key : X6_keeps_47 (nI N) (nI s) 0 (nI i) (nI (cb (fun t => decide (mo N s (mm N a2) t = s)) i)) (nI s) (nI (mm N a2)) = some (.inl (nI (cb (fun t => decide (mo N s (mm N a2) t = s)) (i + 1)), nI (i + 1))) := by
          unfold X6_keeps_47
          rw [md_nat hN hN2 hs (mm_le hN a2) hi]
          simp only [Option.bind_some]
          rw [cb_s]
          have hm := mo_lt (s := s) (m := mm N a2) (t := i) hN
          by_cases hc : mo N s (mm N a2) i = s
          · rw [if_pos (by rw [hc]), if_pos (decide_eq_true hc), nI_1, nI_1]
          · rw [if_neg (fun q => hc (nI_inj (by omega) (by omega) q)), if_neg (by simpa using hc), nI_1, show (0 : Int32) = nI 0 from rfl, nI_add]
        unfold X6_keeps_21_s
        rw [if_neg (nI_ge hi (by omega))]
        by_cases hb2 : a2 = 0
        · rw [if_pos hb2]
          have e : mm N a2 = 1 := by unfold mm; rw [if_pos hb2]
          rw [e] at key ⊢
          exact key
        · rw [if_neg hb2]
          have e : mm N a2 = N - 1 := by unfold mm; rw [if_neg hb2]
          have e1 : nI N - 1 = nI (N - 1) := pk_sub (b := 1) hN
          rw [e] at key ⊢
          rw [e1]
          exact key
      · show X6_keeps_21_s (nI N) (nI s) a2 0 _ (nI N) = _
        unfold X6_keeps_21_s
        rw [if_pos (nI_le (Nat.le_refl N) (by omega))]
