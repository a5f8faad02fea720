/-! differ -/
def pdf (N x : Nat) : Bool := !decide (x = 0) && !decide (prD N x 0 = prD N x 1)
def dfP (N k x : Nat) : Bool := ldr N 1 x && (decide (bc x 12 = k) && pdf N x)
theorem pdf_nat {N x : Nat} (hN : 0 < N) (hN2 : N ≤ 12) (hx : x < 2 ^ N) : FX2_primesDiffer (nI N) (nI (2 ^ N - 1)) (nI x) = some (b1 (pdf N x)) := by
  have hp := pow_le12 hN2
  unfold FX2_primesDiffer pdf
  by_cases h : x = 0
  · rw [if_pos (by rw [h]; rfl), decide_eq_true h]; rfl
  · have hr := rk_pos hx h
    have d0 := prD_lt (rule := 0) hN hx
    have d1 := prD_lt (rule := 1) hN hx
    have e0 : FX2_primeDistances (nI N) (nI (2 ^ N - 1)) (nI x) 0 = _ := pd_nat (rule := 0) hN hN2 hx hr (by omega)
    have e1 : FX2_primeDistances (nI N) (nI (2 ^ N - 1)) (nI x) 1 = _ := pd_nat (rule := 1) hN hN2 hx hr (by omega)
    rw [if_neg (nI_ne0 (by omega) (by omega)), e0, bso, e1, bso, nI_dec (by omega) (by omega), decide_eq_false h]
    cases decide (prD N x 0 = prD N x 1) with
    | true => rfl
    | false => rfl
theorem dc_nat {N k : Nat} (hN : 0 < N) (hN2 : N ≤ 12) (hk2 : k ≤ N) {ld : Int32} {f : Nat → Int32} (h : listOK N 1 ld f) : ∃ ld2 f2, bind3 (FX1_count 1 ld (nI N) (nI (2 ^ N - 1)) f) (fun r17 ld1_17 f1_17 => (X5_differ_24_l (nI N) (nI (2 ^ N - 1)) (nI k) ld1_17 f1_17 r17 0 0).bind (fun ex => X5_differ_71 ld1_17 f1_17 ex)) = some (nI (cb (dfP N k) (2 ^ N)), ld2, f2) ∧ listOK N 1 ld2 f2 := by
  have hp := pow_le12 hN2
  have hl := LL_len hN hN2 (show 1 < 3 by omega)
  obtain ⟨l2, f2, e, h2, h3, h4⟩ := count_nat hN hN2 (show 1 < 3 by omega) h
  have e : FX1_count 1 ld (nI N) (nI (2 ^ N - 1)) f = _ := e
  rw [e, bind3_some]
  have : X5_differ_24_l (nI N) (nI (2 ^ N - 1)) (nI k) l2 f2 (nI (LL N 1).length) 0 0 = some (nI (cb (fun i => decide (bc ((LL N 1).getD i 0) 12 = k) && pdf N ((LL N 1).getD i 0)) (LL N 1).length)) := by
    unfold X5_differ_24_l
    refine loop_at _ (LL N 1).length FU (fun i => (nI (cb (fun i => decide (bc ((LL N 1).getD i 0) 12 = k) && pdf N ((LL N 1).getD i 0)) i), nI i)) _ rfl (FU_big (by omega)) ?_ ?_
    · intro i hi
      have hx := (LL_at (fun _ => true) hi).2.1
      show X5_differ_24_s (nI N) (nI (2 ^ N - 1)) (nI k) l2 f2 (nI (LL N 1).length) _ (nI i) = _
      unfold X5_differ_24_s
      rw [if_neg (nI_ge hi (by omega)), h4 i hi, bso, bcount (by omega), bso, nI_dec (bc12 _) (by omega), pdf_nat hN hN2 hx, bso, cb_b, nI_1, nI_1]
      cases decide (bc ((LL N 1).getD i 0) 12 = k) with
      | false => rfl
      | true =>
        rw [Bool.true_and]
        cases pdf N ((LL N 1).getD i 0) with
        | false => rfl
        | true => rfl
    · show X5_differ_24_s (nI N) (nI (2 ^ N - 1)) (nI k) l2 f2 (nI (LL N 1).length) _ (nI (LL N 1).length) = _
      unfold X5_differ_24_s
      rw [if_pos (nI_le (Nat.le_refl _) (by omega))]
  rw [this, bso, LL_cb N 1 (fun x => decide (bc x 12 = k) && pdf N x)]
  exact ⟨_, _, rfl, h2⟩
theorem df_97 {K : Nat} {a1 a2 a4 v2 v3 : Int32} {b1' b2 b3 b4 b5 b6 best oth : Nat → Int32} {X Y : Nat → Nat} (hK : K ≤ 12) (hX : ∀ j, j < K → X j < 12 ∧ oth j = nI (X j)) (hY : ∀ j, j < K → Y j < 12 ∧ best j = nI (Y j)) : X6_differ_97_l a1 a2 (nI K) a4 b1' b2 b3 best b4 b5 oth v2 v3 1 0 = some (b1 (allB (fun j => decide (X j = Y j)) K)) := by
  unfold X6_differ_97_l
  refine loop_at _ K FU (fun i => (b1 (allB (fun j => decide (X j = Y j)) i), nI i)) _ rfl (FU_big (by omega)) ?_ ?_
  · intro i hi
    obtain ⟨x1, x2⟩ := hX i hi
    obtain ⟨y1, y2⟩ := hY i hi
    show X6_differ_97_s a1 a2 (nI K) a4 b1' b2 b3 best b4 b5 oth v2 v3 (b1 (allB (fun j => decide (X j = Y j)) i)) (nI i) = _
    unfold X6_differ_97_s
    rw [if_neg (nI_ge hi (by omega)), if_neg (nI_in (by omega) (by omega)), if_neg (nI_in (by omega) (by omega)), nI_clamp (by omega), x2, y2, nI_dec (by omega) (by omega), nI_1, allB_s]
    cases allB (fun j => decide (X j = Y j)) i with
    | false => rw [if_pos (show b1 false = 0 from rfl), Bool.and_false]; rfl
    | true =>
      rw [if_neg (show ¬ b1 true = 0 from n10), Bool.and_true]
      cases decide (X i = Y i) with
      | true => rfl
      | false => rfl
  · show X6_differ_97_s a1 a2 (nI K) a4 b1' b2 b3 best b4 b5 oth v2 v3 _ (nI K) = _
    unfold X6_differ_97_s
    rw [if_pos (nI_le (Nat.le_refl _) (by omega))]
theorem df_56 {K : Nat} {a1 a2 a4 v2 v3 : Int32} {b1' b2 b3 b4 b5 best oth : Nat → Int32} (hK : K ≤ 12) : ∃ r, X6_differ_56_l a1 a2 (nI K) a4 b1' b2 b3 best b4 b5 v2 v3 oth 0 = some r ∧ ∀ j, j < K → r j = best j := by
  unfold X6_differ_56_l
  apply cpy hK
  · intro u i hi
    show X6_differ_56_s a1 a2 (nI K) a4 b1' b2 b3 best b4 b5 v2 v3 u (nI i) = _
    unfold X6_differ_56_s
    rw [if_neg (nI_ge hi (by omega)), if_neg (nI_in (by omega) (by omega)), if_neg (nI_in (by omega) (by omega)), nI_clamp (by omega), nI_1]
  · intro u
    show X6_differ_56_s a1 a2 (nI K) a4 b1' b2 b3 best b4 b5 v2 v3 u (nI K) = _
    unfold X6_differ_56_s
    rw [if_pos (nI_le (Nat.le_refl _) (by omega))]
abbrev DT : Type := Int32 × Int32 × Int32 × (Nat → Int32) × (Nat → Int32) × (Nat → Int32) × (Nat → Int32) × (Nat → Int32) × (Nat → Int32) × (Nat → Int32) × Int32 × Int32
abbrev DR : Type := Int32 × Int32 × Int32 × (Nat → Int32) × (Nat → Int32) × (Nat → Int32) × (Nat → Int32) × (Nat → Int32) × (Nat → Int32) × (Nat → Int32) × Int32
theorem dm_nat {N k : Nat} (hN : 0 < N) (hN2 : N ≤ 12) (hk2 : k ≤ N) {bl ln bg : Int32} {lo so ow bs tr kp ot : Nat → Int32} (h : tabOK N bl lo so) : ∃ r, X6_differ_24_l (nI N) (nI k) 0 bl ln bg lo so ow bs tr kp ot 0 1 = some r ∧ (r.2.2.2.2.2.2.2.2.2.2 = nI (cb (dfP N k) (2 ^ N)) ∧ tabOK N r.1 r.2.2.2.1 r.2.2.2.2.1) := by
  have hp := pow_le12 hN2
  have hp2 := pow_pos2 N
  have hd0 : dfP N k 0 = false := by unfold dfP pdf; rw [decide_eq_true rfl]; simp
  unfold X6_differ_24_l
  refine loop_inv (fun r : DR => r.2.2.2.2.2.2.2.2.2.2 = nI (cb (dfP N k) (2 ^ N)) ∧ tabOK N r.1 r.2.2.2.1 r.2.2.2.2.1) (2 ^ N - 1) FU (fun i (z : DT) => z.2.2.2.2.2.2.2.2.2.2.2 = nI (i + 1) ∧ z.2.2.2.2.2.2.2.2.2.2.1 = nI (cb (dfP N k) (i + 1)) ∧ tabOK N z.1 z.2.2.2.1 z.2.2.2.2.1) _ (FU_big (by omega)) ?_ ?_ ⟨rfl, by rw [cb_s, hd0]; rfl, h⟩
  · rintro i ⟨b, ln, bg, l, s, ow, bs, tr, kp, ot, v2, v3⟩ hi ⟨q1, q2, q3⟩
    have q1 : v3 = nI (i + 1) := q1
    have q2 : v2 = nI (cb (dfP N k) (i + 1)) := q2
    subst q1; subst q2
    have q3 : tabOK N b l s := q3
    have hx : i + 1 < 2 ^ N := by omega
    obtain ⟨b2, l2, s2, e, h2⟩ := leads_nat hN hN2 (show 1 < 3 by omega) hx hk2 q3
    have e : FX6_leads (nI N) b l s 1 (nI (i + 1)) (nI k) = some (b1 (szP N 1 k (i + 1)), b2, l2, s2) := e
    have hcs : cb (dfP N k) (i + 1 + 1) = cb (dfP N k) (i + 1) + (if dfP N k (i + 1) = true then 1 else 0) := rfl
    have hdd : dfP N k (i + 1) = (szP N 1 k (i + 1) && pdf N (i + 1)) := by unfold dfP szP; rw [Bool.and_assoc]
    show ∃ t, X6_differ_24_s (nI N) (nI k) 0 b ln bg l s ow bs tr kp ot (nI (cb (dfP N k) (i + 1))) (nI (i + 1)) = some (.inl t) ∧ _
    unfold X6_differ_24_s
    rw [e_ev hN2, if_neg (nI_ge hx (by omega)), e, bind4_some]
    cases hz : szP N 1 k (i + 1) with
    | false =>
      rw [if_pos (show b1 false = 0 from rfl), nI_1]
      refine ⟨_, rfl, rfl, ?_, h2⟩
      rw [hcs, hdd, hz]; rfl
    | true =>
      have hr := rk_pos hx (by omega)
      have hK := rk_le (i + 1) N
      obtain ⟨bg2, o2, bb2, t2, k2, e4, hb⟩ := fp_nat (rule := 0) (ln := ln) (bg := bg) (o := ow) (b := bs) (t := tr) (k := kp) hN hN2 hx hr (by omega)
      have e4 : FX6_findPrime (nI N) ln bg ow bs tr kp (nI (i + 1)) 0 = _ := e4
      obtain ⟨oo, e5, h5⟩ := df_56 (K := rk (i + 1) N) (a1 := 0) (a2 := b2) (a4 := bg2) (v2 := nI (cb (dfP N k) (i + 1))) (v3 := nI (i + 1)) (b1' := l2) (b2 := s2) (b3 := o2) (best := bb2) (b4 := t2) (b5 := k2) (oth := ot) (by omega)
      obtain ⟨bg3, o3, bb3, t3, k3, e6, hb3⟩ := fp_nat (rule := 1) (ln := nI (rk (i + 1) N)) (bg := bg2) (o := o2) (b := bb2) (t := t2) (k := k2) hN hN2 hx hr (by omega)
      have e6 : FX6_findPrime (nI N) (nI (rk (i + 1) N)) bg2 o2 bb2 t2 k2 (nI (i + 1)) 1 = _ := e6
      have hd1 := prD_rk (rule := 0) hN hN2 hx hr
      have hd2 := prD_rk (rule := 1) hN hN2 hx hr
      have hel : ∀ rule j, rk (prD N (i + 1) rule) N = rk (i + 1) N → j < rk (i + 1) N → el (prD N (i + 1) rule) N j < 12 := by
        intro rule j hq hj
        have := (el_sp (s := prD N (i + 1) rule) (n := N) (i := j) (by omega)).1
        omega
      have e7 := df_97 (a1 := 0) (a2 := b2) (a4 := bg3) (v2 := nI (cb (dfP N k) (i + 1))) (v3 := nI (i + 1)) (b1' := l2) (b2 := s2) (b3 := o3) (best := bb3) (b4 := t3) (b5 := k3) (b6 := k3) (oth := oo) (K := rk (i + 1) N) (X := el (prD N (i + 1) 0) N) (Y := el (prD N (i + 1) 1) N) (by omega) (fun j hj => ⟨hel 0 j hd1 hj, (h5 j hj).trans (hb j hj)⟩) (fun j hj => ⟨hel 1 j hd2 hj, hb3 j hj⟩)
      have hall : allB (fun j => decide (el (prD N (i + 1) 0) N j = el (prD N (i + 1) 1) N j)) (rk (i + 1) N) = !pdf N (i + 1) := by
        unfold pdf
        rw [decide_eq_false (show ¬ i + 1 = 0 by omega), Bool.not_false, Bool.true_and, Bool.not_not]
        apply bool_ext
        rw [allB_iff, decide_eq_true_iff]
        constructor
        · intro q
          exact set_eq (prD_lt hN hx) (prD_lt hN hx) (by rw [hd1, hd2]) (fun j hj => of_decide_eq_true (q j (by omega)))
        · intro q j hj
          rw [q]; exact decide_eq_true rfl
      rw [if_neg (show ¬ b1 true = 0 from n10), e4, bind6_some, e5, bso]
      unfold X6_differ_85
      rw [e6, bind6_some, e7, bso, hall]
      unfold X6_differ_141
      rw [nI_1, nI_1]
      rw [hz, Bool.true_and] at hdd
      cases hq : pdf N (i + 1) with
      | true =>
        refine ⟨_, rfl, rfl, ?_, h2⟩
        rw [hcs, hdd, hq]; rfl
      | false =>
        refine ⟨_, rfl, rfl, ?_, h2⟩
        rw [hcs, hdd, hq]
        exact Int32.add_zero _
  · rintro ⟨b, ln, bg, l, s, ow, bs, tr, kp, ot, v2, v3⟩ ⟨q1, q2, q3⟩
    have q1 : v3 = nI (2 ^ N - 1 + 1) := q1
    subst q1
    have q2 : v2 = nI (cb (dfP N k) (2 ^ N - 1 + 1)) := q2
    rw [show 2 ^ N - 1 + 1 = 2 ^ N by omega] at q2
    show ∃ r, X6_differ_24_s (nI N) (nI k) 0 b ln bg l s ow bs tr kp ot v2 (nI (2 ^ N - 1 + 1)) = some (.inr r) ∧ _
    unfold X6_differ_24_s
    rw [e_ev hN2, if_pos (nI_le (by omega) (by omega))]
    exact ⟨_, rfl, q2, q3⟩
theorem op_differ : Op_differ InvC := by
  intro n ev ld0 ld1 ld2 tk mb f0 f1 f2 fr fu m_code m_n m_built m_length m_begin m_many m_leastOf m_sizeOf m_own m_bestRow m_tryRow m_keptRow m_otherRow m_row m_formRow m_allForms m_rowsOf m_intervals m_places m_whole a1 ⟨N, hN, hN2, h1, h2, h3, l0, l1, l2, hR, hC, hT⟩
  subst h1; subst h2; subst h3
  unfold FX5_differ FX6_differ
  rcases size_dec hN2 a1 with ⟨e1, e2⟩ | ⟨k, hk, rfl, e1, e2⟩
  · rw [e1, e2]
    exact ⟨-2, _, _, 0, _, _, _, _, _, _, _, _, _, _, rfl, rfl, N, hN, hN2, rfl, rfl, rfl, l0, l1, l2, hR, hC, hT⟩
  · rw [e1, e2, bso, bso, if_neg n10, if_neg n10]
    obtain ⟨x, y, e3, h3⟩ := dc_nat hN hN2 hk l1
    obtain ⟨⟨z1, z2, z3, z4, z5, z6, z7, z8, z9, z10, z11⟩, e4, k1, k2⟩ := dm_nat (ln := m_length) (bg := m_begin) (ow := m_own) (bs := m_bestRow) (tr := m_tryRow) (kp := m_keptRow) (ot := m_otherRow) hN hN2 hk hT
    have k1 : z11 = nI (cb (dfP N k) (2 ^ N)) := k1
    subst k1
    rw [e3, e4, bso]
    exact ⟨_, _, _, _, _, _, _, _, _, _, _, _, _, _, rfl, rfl, N, hN, hN2, rfl, rfl, rfl, l0, h3, l2, hR, hC, k2⟩
