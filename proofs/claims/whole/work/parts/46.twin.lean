/-! twin, differ -/
def xp (N s D : Nat) : Nat := cb (fun a => s.testBit a && s.testBit ((a + D) % N)) N
theorem add_mod_inj {N a b D : Nat} (ha : a < N) (hb : b < N) (h : (a + D) % N = (b + D) % N) : a = b := by
  rw [← Nat.add_mod_mod a, ← Nat.add_mod_mod b, mod_two ha (Nat.mod_lt _ (by omega)), mod_two hb (Nat.mod_lt _ (by omega))] at h
  split at h <;> split at h <;> omega
theorem mo_bit {N s m t a : Nat} (ha : a < N) (h : s.testBit a = true) : (mo N s m t).testBit ((m * a + t) % N) = true := by
  unfold mo
  exact (im_bit s _ _ N).mpr ⟨a, ha, h, rfl⟩
theorem xp_le {N s y D : Nat} (hN : 0 < N) (hN2 : N ≤ 12) (h : orb N 1 s y) : xp N s D ≤ xp N y D := by
  obtain ⟨m, t, hm, ht, hu, rfl⟩ := h
  have hb := st_back (t := t) hN hN2 (by omega : 1 < 3) hm hu
  unfold xp
  have hcase : m = 1 % N ∨ m = N - 1 := by
    unfold mu at hu
    rw [if_neg (by decide), Bool.or_eq_true, Bool.and_eq_true, decide_eq_true_iff, decide_eq_true_iff, decide_eq_true_iff] at hu
    rcases hu with q | ⟨_, q⟩
    · exact Or.inl q
    · exact Or.inr q
  rcases hcase with q | q
  · apply cb_inj N N _ _ (fun a => (m * a + t) % N)
    · intro a ha hp
      rw [Bool.and_eq_true] at hp
      refine ⟨Nat.mod_lt _ hN, ?_⟩
      rw [mo_bit ha hp.1, Bool.true_and]
      have e : ((m * a + t) % N + D) % N = (m * ((a + D) % N) + t) % N := by
        by_cases h1 : N = 1
        · subst h1; rw [Nat.mod_one, Nat.mod_one]
        · have : m = 1 := by rw [q, Nat.mod_eq_of_lt (by omega)]
          rw [this, Nat.one_mul, Nat.one_mul, Nat.mod_add_mod, Nat.mod_add_mod]
          congr 1; omega
      rw [e]
      exact mo_bit (Nat.mod_lt _ hN) hp.2
    · intro a b ha hb2 _ _ e
      exact hb a b ha hb2 e
  · apply cb_inj N N _ _ (fun a => (m * ((a + D) % N) + t) % N)
    · intro a ha hp
      rw [Bool.and_eq_true] at hp
      refine ⟨Nat.mod_lt _ hN, ?_⟩
      rw [mo_bit (Nat.mod_lt _ hN) hp.2, Bool.true_and]
      have e : ((m * ((a + D) % N) + t) % N + D) % N = (m * a + t) % N := by
        rw [Nat.mod_add_mod, Nat.add_assoc, Nat.add_mod, Nat.mul_mod, Nat.mod_mod, ← Nat.mul_mod, ← Nat.add_mod]
        obtain ⟨M, rfl⟩ : ∃ M, N = M + 1 := ⟨N - 1, by omega⟩
        have : m = M := by omega
        subst this
        rw [show m * (a + D) + (t + D) = m * a + t + (m + 1) * D by rw [Nat.mul_add, Nat.succ_mul]; omega, Nat.add_mul_mod_self_left]
      rw [e]
      exact mo_bit ha hp.1
    · intro a b ha hb2 _ _ e
      exact add_mod_inj ha hb2 (hb _ _ (Nat.mod_lt _ hN) (Nat.mod_lt _ hN) e)
theorem xp_eq {N s y D : Nat} (hN : 0 < N) (hN2 : N ≤ 12) (hs : s < 2 ^ N) (h : orb N 1 s y) : xp N s D = xp N y D :=
  Nat.le_antisymm (xp_le hN hN2 h) (xp_le hN hN2 (orb_symm hN hN2 (by omega) hs h))
theorem xp_pa {N s d : Nat} (hN : 0 < N) (hN2 : N ≤ 12) (hs : s < 2 ^ N) (hd : d ≤ N) : bc (s &&& rot N s d) 12 = xp N s (N - d) := by
  rw [bc_N hN2 (bit_and_lt hs)]
  unfold xp
  apply cb_congr
  intro j hj
  rw [Nat.testBit_and]
  congr 1
  apply bool_ext
  rw [rot_bit hN hs hd]
  exact ⟨fun q => q.2, fun q => ⟨hj, q⟩⟩
theorem pa_prs {N s x d : Nat} (hN : 0 < N) (hN2 : N ≤ 12) (hs : s < 2 ^ N) (hx : x < 2 ^ N) (hd : 1 ≤ d) (hd2 : d ≤ N / 2) : bc (s &&& rot N s d) 12 = bc (x &&& rot N x d) 12 ↔ prs N s d = prs N x d := by
  rw [← vec_eq hN2 hd hd2 hs, ← vec_eq hN2 hd hd2 hx]
  by_cases h : d * 2 = N
  · rw [if_pos h, if_pos h, pa_eq hN hN2 hs (by omega), pa_eq hN hN2 hx (by omega), show N - d = d by omega]
    omega
  · rw [if_neg h, if_neg h]
def alk (N s x : Nat) : Bool := decide (bc s 12 = bc x 12) && allB (fun d => decide (prs N s (d + 1) = prs N x (d + 1))) (N / 2)
theorem alk_orb {N s x y : Nat} (hN : 0 < N) (hN2 : N ≤ 12) (hx : x < 2 ^ N) (h : orb N 1 x y) : alk N s x = alk N s y := by
  have hy := orb_lt hN h
  unfold alk
  have e1 : bc x 12 = bc y 12 := by
    rw [bc_N hN2 hx, bc_N hN2 hy, ← bc_cb, ← bc_cb, orb_size hN hN2 (by omega) hx h]
  rw [e1]
  congr 1
  have e2 : ∀ d, d < N / 2 → prs N x (d + 1) = prs N y (d + 1) := by
    intro d hd
    apply (pa_prs hN hN2 hx hy (by omega) (by omega)).mp
    rw [xp_pa hN hN2 hx (by omega), xp_pa hN hN2 hy (by omega), xp_eq hN hN2 hx h]
  apply bool_ext
  rw [allB_iff, allB_iff]
  constructor
  · intro q d hd
    have := q d hd
    rw [e2 d hd] at this
    exact this
  · intro q d hd
    have := q d hd
    rw [← e2 d hd] at this
    exact this
theorem sv_nat {N s x : Nat} (hN : 0 < N) (hN2 : N ≤ 12) (hs : s < 2 ^ N) (hx : x < 2 ^ N) : FX5_sameVector (nI N) (nI (2 ^ N - 1)) (nI s) (nI x) = some (b1 (alk N s x)) := by
  have hp := pow_le12 hN2
  unfold FX5_sameVector alk
  rw [bcount (by omega), bso, bcount (by omega), bso, nI_dec (bc12 _) (bc12 _)]
  cases decide (bc s 12 = bc x 12) with
  | false => rfl
  | true =>
    rw [if_pos rfl, Bool.true_and]
    have : ∃ r, X5_sameVector_15_l (nI N) (nI (2 ^ N - 1)) (nI s) (nI x) 1 = some r ∧ r = (if allB (fun d => decide (prs N s (d + 1) = prs N x (d + 1))) (N / 2) = true then Sum.inr () else Sum.inl ()) := by
      unfold X5_sameVector_15_l
      refine loop_ex (fun r : Unit ⊕ Unit => r = (if allB (fun d => decide (prs N s (d + 1) = prs N x (d + 1))) (N / 2) = true then Sum.inr () else Sum.inl ())) (N / 2) FU (fun i z => z = nI (i + 1) ∧ allB (fun d => decide (prs N s (d + 1) = prs N x (d + 1))) i = true) _ (FU_big (by omega)) ?_ ?_ ⟨rfl, rfl⟩
      · rintro i z hi ⟨rfl, q⟩
        show (∃ r, X5_sameVector_15_s (nI N) (nI (2 ^ N - 1)) (nI s) (nI x) (nI (i + 1)) = some (.inr r) ∧ _) ∨ (∃ t, X5_sameVector_15_s (nI N) (nI (2 ^ N - 1)) (nI s) (nI x) (nI (i + 1)) = some (.inl t) ∧ _)
        unfold X5_sameVector_15_s FX0_count
        have hb : ∀ y, bc y 12 < 2 ^ 31 := bc12
        have e2 : nI N / 2 = nI (N / 2) := pk_div (d := 2) (by omega) (by omega) (by omega)
        rw [bso, e2, if_neg (nI_nlt (by omega) (by omega)), pa_nat hN hN2 hs (by omega), bso, pa_nat hN hN2 hx (by omega), bso, nI_dec (hb _) (hb _), nI_1]
        cases hc : decide (bc (s &&& rot N s (i + 1)) 12 = bc (x &&& rot N x (i + 1)) 12) with
        | true =>
          have hc := (pa_prs hN hN2 hs hx (by omega) (by omega)).mp (of_decide_eq_true hc)
          rw [if_pos rfl]
          refine Or.inr ⟨_, rfl, rfl, ?_⟩
          rw [allB_s, decide_eq_true hc, q]; rfl
        | false =>
          rw [if_neg (by decide)]
          refine Or.inl ⟨_, rfl, ?_⟩
          rw [if_neg]
          intro q2
          have := of_decide_eq_true (allB_iff.mp q2 i hi)
          exact of_decide_eq_false hc ((pa_prs hN hN2 hs hx (by omega) (by omega)).mpr this)
      · rintro z ⟨rfl, q⟩
        show ∃ r, X5_sameVector_15_s (nI N) (nI (2 ^ N - 1)) (nI s) (nI x) (nI (N / 2 + 1)) = some (.inr r) ∧ _
        unfold X5_sameVector_15_s FX0_count
        have e2 : nI N / 2 = nI (N / 2) := pk_div (d := 2) (by omega) (by omega) (by omega)
        rw [bso, e2, if_pos (nI_lt (by omega) (by omega)), if_pos q]
        exact ⟨_, rfl, rfl⟩
    obtain ⟨r, e, h⟩ := this
    rw [e, bso, h]
    cases allB (fun d => decide (prs N s (d + 1) = prs N x (d + 1))) (N / 2) with
    | true => rfl
    | false => rfl
theorem ia_l {N s x : Nat} (hN2 : N ≤ 12) (hs : s < 2 ^ N) (hx : x < 2 ^ N) (b : Bool) : X6_isAlike_20_l (nI N) (nI s) (nI x) (b1 b) 1 = some (b1 (b && allB (fun d => decide (prs N s (d + 1) = prs N x (d + 1))) (N / 2))) := by
  have e2 : nI N / 2 = nI (N / 2) := pk_div (d := 2) (by omega) (by omega) (by omega)
  have : ∃ r, X6_isAlike_20_l (nI N) (nI s) (nI x) (b1 b) 1 = some r ∧ r = b1 (b && allB (fun d => decide (prs N s (d + 1) = prs N x (d + 1))) (N / 2)) := by
    unfold X6_isAlike_20_l
    refine loop_ex (fun r : Int32 => r = b1 (b && allB (fun d => decide (prs N s (d + 1) = prs N x (d + 1))) (N / 2))) (N / 2) FU (fun i (z : Int32 × Int32) => z.2 = nI (i + 1) ∧ z.1 = b1 (b && allB (fun d => decide (prs N s (d + 1) = prs N x (d + 1))) i)) _ (FU_big (by omega)) ?_ ?_ ⟨rfl, by rw [show allB (fun d => decide (prs N s (d + 1) = prs N x (d + 1))) 0 = true from rfl, Bool.and_true]⟩
    · rintro i ⟨v, w⟩ hi ⟨q1, q2⟩
      have q1 : w = nI (i + 1) := q1
      have q2 : v = b1 (b && allB (fun d => decide (prs N s (d + 1) = prs N x (d + 1))) i) := q2
      subst q1; subst q2
      show (∃ r, X6_isAlike_20_s (nI N) (nI s) (nI x) (b1 (b && allB (fun d => decide (prs N s (d + 1) = prs N x (d + 1))) i)) (nI (i + 1)) = some (.inr r) ∧ _) ∨ (∃ t, X6_isAlike_20_s (nI N) (nI s) (nI x) (b1 (b && allB (fun d => decide (prs N s (d + 1) = prs N x (d + 1))) i)) (nI (i + 1)) = some (.inl t) ∧ _)
      unfold X6_isAlike_20_s
      rw [e2, if_neg (nI_nlt (by omega) (by omega))]
      cases hc : (b && allB (fun d => decide (prs N s (d + 1) = prs N x (d + 1))) i) with
      | false =>
        rw [if_pos (show b1 false = 0 from rfl)]
        refine Or.inl ⟨_, rfl, ?_⟩
        congr 1
        cases hd : (b && allB (fun d => decide (prs N s (d + 1) = prs N x (d + 1))) (N / 2)) with
        | false => rfl
        | true =>
          rw [Bool.and_eq_true] at hd
          have : allB (fun d => decide (prs N s (d + 1) = prs N x (d + 1))) i = true := allB_iff.mpr (fun j hj => allB_iff.mp hd.2 j (by omega))
          rw [this, hd.1] at hc
          cases hc
      | true =>
        have hpr : ∀ y, y < 2 ^ N → prs N y (i + 1) < 2 ^ 31 := by
          intro y hy
          have e := vec_eq hN2 (show 1 ≤ i + 1 by omega) (by omega) hy
          have := bc_le (y &&& rot N y (i + 1)) 12
          have h3 : bc (y &&& rot N y (i + 1)) 12 / 2 ≤ bc (y &&& rot N y (i + 1)) 12 := Nat.div_le_self _ _
          rw [← e]
          split <;> omega
        rw [if_neg (show ¬ b1 true = 0 from n10), pr_nat hN2 hs (by omega), bso, pr_nat hN2 hx (by omega), bso, nI_dec (hpr s hs) (hpr x hx), nI_1]
        rw [Bool.and_eq_true] at hc
        refine Or.inr ?_
        cases hq : decide (prs N s (i + 1) = prs N x (i + 1)) with
        | true =>
          refine ⟨_, rfl, rfl, ?_⟩
          show (1 : Int32) = b1 (b && allB (fun d => decide (prs N s (d + 1) = prs N x (d + 1))) (i + 1))
          rw [allB_s, hc.1, hc.2, hq]; rfl
        | false =>
          refine ⟨_, rfl, rfl, ?_⟩
          show (0 : Int32) = b1 (b && allB (fun d => decide (prs N s (d + 1) = prs N x (d + 1))) (i + 1))
          rw [allB_s, hc.1, hc.2, hq]; rfl
    · rintro ⟨v, w⟩ ⟨q1, q2⟩
      have q1 : w = nI (N / 2 + 1) := q1
      subst q1
      show ∃ r, X6_isAlike_20_s (nI N) (nI s) (nI x) v (nI (N / 2 + 1)) = some (.inr r) ∧ _
      unfold X6_isAlike_20_s
      rw [e2, if_pos (nI_lt (by omega) (by omega))]
      exact ⟨_, rfl, q2⟩
  obtain ⟨r, e, rfl⟩ := this
  exact e
theorem b1_01 (b : Bool) : b1 b = 0 ∨ b1 b = 1 := by cases b <;> decide
theorem ia_nat {N s x : Nat} (hN2 : N ≤ 12) (hs : s < 2 ^ N) (hx : x < 2 ^ N) : FX6_isAlike (nI N) (nI s) (nI x) = some (b1 (alk N s x)) := by
  have hp := pow_le12 hN2
  unfold FX6_isAlike alk
  rw [mcount (by omega), bso, mcount (by omega), bso, nI_dec (bc12 _) (bc12 _)]
  have e1 := ia_l hN2 hs hx true
  have e0 := ia_l hN2 hs hx false
  have e1 : X6_isAlike_20_l (nI N) (nI s) (nI x) 1 1 = _ := e1
  have e0 : X6_isAlike_20_l (nI N) (nI s) (nI x) 0 1 = _ := e0
  cases decide (bc s 12 = bc x 12) with
  | true =>
    rw [if_pos rfl, e1, bso]
    unfold X6_isAlike_64
    rw [if_pos (b1_01 _)]
  | false =>
    rw [if_neg (by decide), e0, bso]
    unfold X6_isAlike_64
    rw [if_pos (b1_01 _)]
def twP (N s x : Nat) : Bool := ldr N 1 x && (!decide (x = lst N 1 s) && alk N s x)
def twQ (N s x : Nat) : Bool := decide (bc x 12 = bc s 12) && (!decide (lst N 1 x = lst N 1 s) && alk N s x)
def FS (P : Nat → Bool) (M : Nat) (r : Int32) : Prop := (∃ x, x < M ∧ P x = true ∧ cb P x = 0 ∧ r = nI x) ∨ (r = -3 ∧ cb P M = 0)
theorem cb_z {P : Nat → Bool} {n i : Nat} (h : cb P n = 0) (hi : i < n) : P i = false := by
  cases q : P i with
  | false => rfl
  | true => have := cb_rm hi q; omega
theorem FS_eq {P : Nat → Bool} {M : Nat} {r r2 : Int32} (h : FS P M r) (h2 : FS P M r2) : r = r2 := by
  rcases h with ⟨x, x1, x2, x3, x4⟩ | ⟨x1, x2⟩
  · rcases h2 with ⟨y, y1, y2, y3, y4⟩ | ⟨y1, y2⟩
    · rcases Nat.lt_trichotomy x y with q | q | q
      · rw [cb_z y3 q] at x2; cases x2
      · rw [x4, y4, q]
      · rw [cb_z x3 q] at y2; cases y2
    · rw [cb_z y2 x1] at x2; cases x2
  · rcases h2 with ⟨y, y1, y2, y3, y4⟩ | ⟨y1, y2⟩
    · rw [cb_z x2 y1] at y2; cases y2
    · rw [x1, y1]
theorem tw_PQ {N s x : Nat} (h : twP N s x = true) : twQ N s x = true := by
  unfold twP at h
  rw [Bool.and_eq_true, Bool.and_eq_true] at h
  obtain ⟨h1, h2, h3⟩ := h
  unfold twQ
  rw [(ldr_iff.mp h1).2, h2, h3]
  unfold alk at h3
  rw [Bool.and_eq_true] at h3
  rw [decide_eq_true (of_decide_eq_true h3.1).symm]; rfl
theorem tw_QP {N s x : Nat} (hN : 0 < N) (hN2 : N ≤ 12) (hx : x < 2 ^ N) (h : twQ N s x = true) : twP N s (lst N 1 x) = true := by
  unfold twQ at h
  rw [Bool.and_eq_true, Bool.and_eq_true] at h
  obtain ⟨h1, h2, h3⟩ := h
  unfold twP
  rw [ldr_iff.mpr ⟨lst_lt hN hx, lst_lst hN hN2 (by omega) hx⟩, h2, ← alk_orb hN hN2 hx (lst_orb hN hN2 (by omega) hx), h3]; rfl
theorem FS_QP {N s : Nat} {r : Int32} (hN : 0 < N) (hN2 : N ≤ 12) (h : FS (twQ N s) (2 ^ N) r) : FS (twP N s) (2 ^ N) r := by
  rcases h with ⟨x, x1, x2, x3, x4⟩ | ⟨x1, x2⟩
  · have h1 := tw_QP hN hN2 x1 x2
    have h2 := tw_PQ h1
    have h3 := lst_self hN hN2 (by omega : 1 < 3) x1
    have e : lst N 1 x = x := by
      rcases Nat.lt_or_ge (lst N 1 x) x with q | q
      · rw [cb_z x3 q] at h2; cases h2
      · omega
    rw [e] at h1
    refine Or.inl ⟨x, x1, h1, ?_, x4⟩
    have := cb_mono (p := twP N s) (q := twQ N s) (n := x) (fun i _ q => tw_PQ q)
    omega
  · refine Or.inr ⟨x1, ?_⟩
    have := cb_mono (p := twP N s) (q := twQ N s) (n := 2 ^ N) (fun i _ q => tw_PQ q)
    omega
theorem tc_nat {N s : Nat} (hN : 0 < N) (hN2 : N ≤ 12) (hs : s < 2 ^ N) {ld : Int32} {f : Nat → Int32} (h : listOK N 1 ld f) : ∃ r ld2 f2, bind3 (FX1_count 1 ld (nI N) (nI (2 ^ N - 1)) f) (fun r28 ld1_28 f1_28 => (X5_twin_35_l (nI N) (nI (2 ^ N - 1)) (nI s) ld1_28 f1_28 (nI (lst N 1 s)) r28 0).bind (fun ex => Sum.elim (fun xy => X5_twin_68 ld1_28 f1_28 xy) (fun xy => X5_twin_77 ld1_28 f1_28) ex)) = some (r, ld2, f2) ∧ listOK N 1 ld2 f2 ∧ FS (twP N s) (2 ^ N) r := by
  have hp := pow_le12 hN2
  have hl := LL_len hN hN2 (show 1 < 3 by omega)
  obtain ⟨l2, f2, e, h2, h3, h4⟩ := count_nat hN hN2 (show 1 < 3 by omega) h
  have e : FX1_count 1 ld (nI N) (nI (2 ^ N - 1)) f = _ := e
  let p : Nat → Bool := fun x => !decide (x = lst N 1 s) && alk N s x
  let c : Nat → Nat := fun i => cb (fun i => p ((LL N 1).getD i 0)) i
  have hc : ∀ i, c (i + 1) = c i + if p ((LL N 1).getD i 0) = true then 1 else 0 := fun i => rfl
  have hls := lst_lt (kd := 1) hN hs
  rw [e, bind3_some]
  have : ∃ r, X5_twin_35_l (nI N) (nI (2 ^ N - 1)) (nI s) l2 f2 (nI (lst N 1 s)) (nI (LL N 1).length) 0 = some r ∧ ((∃ i, i < (LL N 1).length ∧ p ((LL N 1).getD i 0) = true ∧ c i = 0 ∧ r = Sum.inl (nI ((LL N 1).getD i 0))) ∨ (r = Sum.inr () ∧ c (LL N 1).length = 0)) := by
    unfold X5_twin_35_l
    refine loop_ex (fun r : Int32 ⊕ Unit => (∃ i, i < (LL N 1).length ∧ p ((LL N 1).getD i 0) = true ∧ c i = 0 ∧ r = Sum.inl (nI ((LL N 1).getD i 0))) ∨ (r = Sum.inr () ∧ c (LL N 1).length = 0)) (LL N 1).length FU (fun i (z : Int32) => z = nI i ∧ c i = 0) _ (FU_big (by omega)) ?_ ?_ ⟨rfl, rfl⟩
    · rintro i z hi ⟨rfl, q2⟩
      have hx := (LL_at (fun _ => true) hi).2.1
      show (∃ r, X5_twin_35_s (nI N) (nI (2 ^ N - 1)) (nI s) l2 f2 (nI (lst N 1 s)) (nI (LL N 1).length) (nI i) = some (.inr r) ∧ _) ∨ (∃ t, X5_twin_35_s (nI N) (nI (2 ^ N - 1)) (nI s) l2 f2 (nI (lst N 1 s)) (nI (LL N 1).length) (nI i) = some (.inl t) ∧ _)
      unfold X5_twin_35_s
      rw [if_neg (nI_ge hi (by omega)), h4 i hi, bso, nI_dec (by omega) (by omega), nI_1, sv_nat hN hN2 hs hx]
      have hpp : p ((LL N 1).getD i 0) = (!decide ((LL N 1).getD i 0 = lst N 1 s) && alk N s ((LL N 1).getD i 0)) := rfl
      cases hq : decide ((LL N 1).getD i 0 = lst N 1 s) with
      | true =>
        rw [if_pos rfl]
        refine Or.inr ⟨_, rfl, rfl, ?_⟩
        rw [hc, hpp, hq, q2]; rfl
      | false =>
        rw [if_neg (by decide), bso]
        cases ha : alk N s ((LL N 1).getD i 0) with
        | false =>
          rw [if_pos (show b1 false = 0 from rfl)]
          refine Or.inr ⟨_, rfl, rfl, ?_⟩
          rw [hc, hpp, hq, ha, q2]; rfl
        | true =>
          rw [if_neg (show ¬ b1 true = 0 from n10)]
          exact Or.inl ⟨_, rfl, Or.inl ⟨i, hi, by rw [hpp, hq, ha]; rfl, q2, rfl⟩⟩
    · rintro z ⟨rfl, q2⟩
      show ∃ r, X5_twin_35_s (nI N) (nI (2 ^ N - 1)) (nI s) l2 f2 (nI (lst N 1 s)) (nI (LL N 1).length) (nI (LL N 1).length) = some (.inr r) ∧ _
      unfold X5_twin_35_s
      rw [if_pos (nI_le (Nat.le_refl _) (by omega))]
      exact ⟨_, rfl, Or.inr ⟨rfl, q2⟩⟩
  obtain ⟨r, e5, h5⟩ := this
  rw [e5, bso]
  rcases h5 with ⟨i, hi, hpi, ha, rfl⟩ | ⟨rfl, hn⟩
  · obtain ⟨y1, y2, y3⟩ := LL_at p hi
    refine ⟨_, _, _, rfl, h2, Or.inl ⟨(LL N 1).getD i 0, y2, ?_, ?_, rfl⟩⟩
    · unfold twP; rw [y1, Bool.true_and]; exact hpi
    · exact y3.symm.trans ha
  · refine ⟨_, _, _, rfl, h2, Or.inr ⟨rfl, ?_⟩⟩
    exact (LL_cb N 1 p).symm.trans hn
theorem tm_nat {N s : Nat} (hN : 0 < N) (hN2 : N ≤ 12) (hs : s < 2 ^ N) {bl : Int32} {lo so : Nat → Int32} (h : tabOK N bl lo so) : ∃ r, (X6_twin_18_l (nI N) (nI s) 0 bl lo so 0).bind (fun ex => Sum.elim (fun xy => X6_twin_63 0 xy.1 xy.2.1 xy.2.2.1 xy.2.2.2) (fun xy => X6_twin_71 0 xy.1 xy.2.1 xy.2.2) ex) = some r ∧ (r.2.1 = 0 ∧ FS (twQ N s) (2 ^ N) r.1 ∧ tabOK N r.2.2.1 r.2.2.2.1 r.2.2.2.2) := by
  have hp := pow_le12 hN2
  have : ∃ r, X6_twin_18_l (nI N) (nI s) 0 bl lo so 0 = some r ∧ ((∃ x b l t, x < 2 ^ N ∧ twQ N s x = true ∧ cb (twQ N s) x = 0 ∧ r = Sum.inl (b, l, t, nI x) ∧ tabOK N b l t) ∨ (∃ b l t, r = Sum.inr (b, l, t) ∧ tabOK N b l t ∧ cb (twQ N s) (2 ^ N) = 0)) := by
    unfold X6_twin_18_l
    refine loop_ex (fun r : (Int32 × (Nat → Int32) × (Nat → Int32) × Int32) ⊕ (Int32 × (Nat → Int32) × (Nat → Int32)) => (∃ x b l t, x < 2 ^ N ∧ twQ N s x = true ∧ cb (twQ N s) x = 0 ∧ r = Sum.inl (b, l, t, nI x) ∧ tabOK N b l t) ∨ (∃ b l t, r = Sum.inr (b, l, t) ∧ tabOK N b l t ∧ cb (twQ N s) (2 ^ N) = 0)) (2 ^ N) FU (fun i (z : Int32 × (Nat → Int32) × (Nat → Int32) × Int32) => z.2.2.2 = nI i ∧ tabOK N z.1 z.2.1 z.2.2.1 ∧ cb (twQ N s) i = 0) _ (FU_big (by omega)) ?_ ?_ ⟨rfl, h, rfl⟩
    · rintro i ⟨b, l, t, w⟩ hi ⟨q1, q2, q3⟩
      have q1 : w = nI i := q1
      subst q1
      have q2 : tabOK N b l t := q2
      show (∃ r, X6_twin_18_s (nI N) (nI s) 0 b l t (nI i) = some (.inr r) ∧ _) ∨ (∃ z, X6_twin_18_s (nI N) (nI s) 0 b l t (nI i) = some (.inl z) ∧ _)
      obtain ⟨lo2, so2, e4, h4⟩ := li_nat hN hN2 (show 1 < 3 by omega) hi q2
      obtain ⟨lo3, so3, e5, h5⟩ := li_nat hN hN2 (show 1 < 3 by omega) hs h4
      have e4 : FX6_leastIn (nI N) b l t 1 (nI i) = _ := e4
      have e5 : FX6_leastIn (nI N) 1 lo2 so2 1 (nI s) = _ := e5
      have hl1 := lst_lt (kd := 1) hN hi
      have hl2 := lst_lt (kd := 1) hN hs
      have hcb : cb (twQ N s) (i + 1) = cb (twQ N s) i + (if twQ N s i = true then 1 else 0) := rfl
      have hqq : twQ N s i = (decide (bc i 12 = bc s 12) && (!decide (lst N 1 i = lst N 1 s) && alk N s i)) := rfl
      unfold X6_twin_18_s
      rw [e_ev hN2, if_neg (nI_ge hi (by omega)), mcount (by omega), bso, mcount (by omega), bso, nI_dec (bc12 _) (bc12 _), e4, bind4_some, e5, bind4_some, nI_dec (by omega) (by omega), ia_nat hN2 hs hi, bso, nI_1]
      cases hc : decide (bc i 12 = bc s 12) with
      | false =>
        rw [if_neg (by decide)]
        refine Or.inr ⟨_, rfl, rfl, q2, ?_⟩
        rw [hcb, hqq, hc, q3]; rfl
      | true =>
        rw [if_pos rfl]
        cases hd : decide (lst N 1 i = lst N 1 s) with
        | true =>
          rw [if_pos rfl]
          refine Or.inr ⟨_, rfl, rfl, h5, ?_⟩
          rw [hcb, hqq, hc, hd, q3]; rfl
        | false =>
          rw [if_neg (by decide)]
          cases ha : alk N s i with
          | false =>
            rw [if_pos (show b1 false = 0 from rfl)]
            refine Or.inr ⟨_, rfl, rfl, h5, ?_⟩
            rw [hcb, hqq, hc, hd, ha, q3]; rfl
          | true =>
            rw [if_neg (show ¬ b1 true = 0 from n10)]
            exact Or.inl ⟨_, rfl, Or.inl ⟨i, _, _, _, hi, by rw [hqq, hc, hd, ha]; rfl, q3, rfl, h5⟩⟩
    · rintro ⟨b, l, t, w⟩ ⟨q1, q2, q3⟩
      have q1 : w = nI (2 ^ N) := q1
      subst q1
      show ∃ r, X6_twin_18_s (nI N) (nI s) 0 b l t (nI (2 ^ N)) = some (.inr r) ∧ _
      unfold X6_twin_18_s
      rw [e_ev hN2, if_pos (nI_le (Nat.le_refl _) (by omega))]
      exact ⟨_, rfl, Or.inr ⟨_, _, _, rfl, q2, q3⟩⟩
  obtain ⟨r, e, h5⟩ := this
  rw [e, bso]
  rcases h5 with ⟨x, b, l, t, x1, x2, x3, rfl, x5⟩ | ⟨b, l, t, rfl, x5, x6⟩
  · exact ⟨_, rfl, rfl, Or.inl ⟨x, x1, x2, x3, rfl⟩, x5⟩
  · exact ⟨_, rfl, rfl, Or.inr ⟨rfl, x6⟩, x5⟩
theorem op_twin : Op_twin InvC := by
  intro n ev ld0 ld1 ld2 tk mb f0 f1 f2 fr fu m_code m_n m_built m_length m_begin m_many m_leastOf m_sizeOf m_own m_bestRow m_tryRow m_keptRow m_otherRow m_row m_formRow m_allForms m_rowsOf m_intervals m_places m_whole a1 ⟨N, hN, hN2, h1, h2, h3, l0, l1, l2, hR, hC, hT⟩
  subst h1; subst h2; subst h3
  unfold FX5_twin FX6_twin
  rcases set_dec hN2 a1 with ⟨e1, e2⟩ | ⟨s, hs, rfl, e1, e2⟩
  · rw [e1, e2]
    exact ⟨-2, _, _, 0, _, _, _, rfl, rfl, N, hN, hN2, rfl, rfl, rfl, l0, l1, l2, hR, hC, hT⟩
  · have e3 : FX0_leastOf (nI N) (nI (2 ^ N - 1)) (nI s) 1 = _ := lst_nat (kd := 1) hN hN2 (by omega) hs
    rw [e1, e2, bso, bso, if_neg n10, if_neg n10, e3, bso]
    obtain ⟨⟨r0, r1, r2, r3, r4⟩, e5, k1, k2, k3⟩ := tm_nat hN hN2 hs hT
    have k1 : r1 = 0 := k1
    subst k1
    obtain ⟨r, x, y, e6, h6, h7⟩ := tc_nat hN hN2 hs l1
    rw [e5, e6, FS_eq h7 (FS_QP hN hN2 k2)]
    exact ⟨_, _, _, _, _, _, _, rfl, rfl, N, hN, hN2, rfl, rfl, rfl, l0, h6, l2, hR, hC, k3⟩
