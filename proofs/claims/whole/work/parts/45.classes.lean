/-! classes, nth -/
theorem PL_sur (N kd : Nat) : ∀ n x, x < n → ldr N kd x = true → ∃ i, i < (PL N kd n).length ∧ (PL N kd n).getD i 0 = x
  | 0, x, h, _ => by omega
  | n + 1, x, h, hx => by
    by_cases q : x = n
    · subst q
      rw [PL_t hx, List.length_append, show [x].length = 1 from rfl]
      exact ⟨(PL N kd x).length, by omega, gd_e _ _⟩
    · obtain ⟨i, hi, e⟩ := PL_sur N kd n x (by omega) hx
      cases hn : ldr N kd n with
      | true =>
        rw [PL_t hn, List.length_append]
        exact ⟨i, by omega, (gd_l hi).trans e⟩
      | false => rw [PL_f hn]; exact ⟨i, hi, e⟩
theorem LL_cb (N kd : Nat) (p : Nat → Bool) : cb (fun i => p ((LL N kd).getD i 0)) (LL N kd).length = cb (fun x => ldr N kd x && p x) (2 ^ N) := by
  rw [PL_LL]; exact PL_cb N kd p _
theorem LL_at {N kd v : Nat} (p : Nat → Bool) (h : v < (LL N kd).length) : ldr N kd ((LL N kd).getD v 0) = true ∧ (LL N kd).getD v 0 < 2 ^ N ∧ cb (fun i => p ((LL N kd).getD i 0)) v = cb (fun x => ldr N kd x && p x) ((LL N kd).getD v 0) := by
  rw [PL_LL] at h ⊢; exact PL_at N kd p _ v h
theorem LL_sur {N kd x : Nat} (h : ldr N kd x = true) : ∃ i, i < (LL N kd).length ∧ (LL N kd).getD i 0 = x := by
  rw [PL_LL]; exact PL_sur N kd _ x (ldr_iff.mp h).1 h
theorem nI_dec {a b : Nat} (ha : a < 2 ^ 31) (hb : b < 2 ^ 31) {α : Type} (x y : α) : (if nI a = nI b then x else y) = if decide (a = b) = true then x else y := by
  by_cases h : a = b
  · rw [if_pos (by rw [h]), if_pos (decide_eq_true h)]
  · rw [if_neg (fun q => h (nI_inj ha hb q)), if_neg (by rw [decide_eq_false h]; decide)]
theorem cb_b {p : Nat → Bool} {k : Nat} : cb p (k + 1) = cb p k + (if p k = true then 1 else 0) := rfl
theorem bc12 (x : Nat) : bc x 12 < 2 ^ 31 := by have := bc_le x 12; omega
theorem leads_nat {N kd x k : Nat} (hN : 0 < N) (hN2 : N ≤ 12) (hk : kd < 3) (hx : x < 2 ^ N) (hk2 : k ≤ N) {bl : Int32} {lo so : Nat → Int32} (h : tabOK N bl lo so) : ∃ bl2 lo2 so2, FX6_leads (nI N) bl lo so (nI kd) (nI x) (nI k) = some (b1 (ldr N kd x && decide (bc x 12 = k)), bl2, lo2, so2) ∧ tabOK N bl2 lo2 so2 := by
  have hp := pow_le12 hN2
  unfold FX6_leads
  rw [mcount (by omega), bso, nI_dec (bc12 x) (by omega)]
  cases hc : decide (bc x 12 = k) with
  | false =>
    rw [if_neg (by decide), Bool.and_false]
    exact ⟨_, _, _, rfl, h⟩
  | true =>
    obtain ⟨lo2, so2, e, h2⟩ := li_nat hN hN2 hk hx h
    have := lst_lt (kd := kd) hN hx
    rw [if_pos rfl, e, bind4_some, nI_dec (by omega) (by omega), Bool.and_true]
    unfold ldr
    rw [decide_eq_true hx, Bool.true_and]
    cases decide (lst N kd x = x) with
    | false => exact ⟨_, _, _, rfl, h2⟩
    | true => exact ⟨_, _, _, rfl, h2⟩
def szP (N kd k x : Nat) : Bool := ldr N kd x && decide (bc x 12 = k)
theorem cs_nat {N kd k : Nat} (hN : 0 < N) (hN2 : N ≤ 12) (hk : kd < 3) (hk2 : k ≤ N) {ld : Int32} {f : Nat → Int32} (h : listOK N kd ld f) : ∃ ld2 f2, FX1_countOfSize (nI kd) ld (nI N) (nI (2 ^ N - 1)) f (nI k) = some (nI (cb (szP N kd k) (2 ^ N)), ld2, f2) ∧ listOK N kd ld2 f2 := by
  have hp := pow_le12 hN2
  have hl := LL_len hN hN2 hk
  obtain ⟨l2, f2, e, h2, h3, h4⟩ := count_nat hN hN2 hk h
  unfold FX1_countOfSize
  rw [e, bind3_some]
  have : X1_countOfSize_10_l (nI k) l2 f2 (nI (LL N kd).length) 0 0 = some (nI (cb (fun i => decide (bc ((LL N kd).getD i 0) 12 = k)) (LL N kd).length)) := by
    unfold X1_countOfSize_10_l
    refine loop_at _ (LL N kd).length FU (fun i => (nI (cb (fun i => decide (bc ((LL N kd).getD i 0) 12 = k)) i), nI i)) _ rfl (FU_big (by omega)) ?_ ?_
    · intro i hi
      have hx := (LL_at (fun _ => true) hi).2.1
      show X1_countOfSize_10_s (nI k) l2 f2 (nI (LL N kd).length) _ (nI i) = _
      unfold X1_countOfSize_10_s
      rw [if_neg (nI_ge hi (by omega)), h4 i hi, bso, bcount (by omega), bso, nI_dec (bc12 _) (by omega), cb_b, nI_1, nI_1]
      cases decide (bc ((LL N kd).getD i 0) 12 = k) with
      | false => rfl
      | true => rfl
    · show X1_countOfSize_10_s (nI k) l2 f2 (nI (LL N kd).length) _ (nI (LL N kd).length) = _
      unfold X1_countOfSize_10_s
      rw [if_pos (nI_le (Nat.le_refl _) (by omega))]
  rw [this, bso, LL_cb N kd (fun x => decide (bc x 12 = k))]
  exact ⟨_, _, rfl, h2⟩
theorem cm_nat {N kd k : Nat} (hN : 0 < N) (hN2 : N ≤ 12) (hk : kd < 3) (hk2 : k ≤ N) {bl : Int32} {lo so : Nat → Int32} (h : tabOK N bl lo so) : ∃ r, X6_classes_34_l (nI N) (nI k) (nI kd) 0 bl lo so 0 0 = some r ∧ (r.2.2.2 = nI (cb (szP N kd k) (2 ^ N)) ∧ tabOK N r.1 r.2.1 r.2.2.1) := by
  have hp := pow_le12 hN2
  unfold X6_classes_34_l
  refine loop_inv (fun r : Int32 × (Nat → Int32) × (Nat → Int32) × Int32 => r.2.2.2 = nI (cb (szP N kd k) (2 ^ N)) ∧ tabOK N r.1 r.2.1 r.2.2.1) (2 ^ N) FU (fun i (z : Int32 × (Nat → Int32) × (Nat → Int32) × Int32 × Int32) => z.2.2.2.2 = nI i ∧ z.2.2.2.1 = nI (cb (szP N kd k) i) ∧ tabOK N z.1 z.2.1 z.2.2.1) _ (FU_big (by omega)) ?_ ?_ ⟨rfl, rfl, h⟩
  · rintro i ⟨b, l, s, v, w⟩ hi ⟨q1, q2, q3⟩
    have q1 : w = nI i := q1
    have q2 : v = nI (cb (szP N kd k) i) := q2
    subst q1; subst q2
    have q3 : tabOK N b l s := q3
    obtain ⟨b2, l2, s2, e, h2⟩ := leads_nat hN hN2 hk hi hk2 q3
    have e : FX6_leads (nI N) b l s (nI kd) (nI i) (nI k) = some (b1 (szP N kd k i), b2, l2, s2) := e
    show ∃ t, X6_classes_34_s (nI N) (nI k) (nI kd) 0 b l s _ (nI i) = some (.inl t) ∧ _
    unfold X6_classes_34_s
    rw [e_ev hN2, if_neg (nI_ge hi (by omega)), e, bind4_some, nI_1]
    have e2 : cb (szP N kd k) (i + 1) = cb (szP N kd k) i + (if szP N kd k i = true then 1 else 0) := rfl
    rw [e2]
    cases szP N kd k i with
    | false => exact ⟨_, rfl, rfl, Int32.add_zero _, h2⟩
    | true => exact ⟨_, rfl, rfl, nI_1 _, h2⟩
  · rintro ⟨b, l, s, v, w⟩ ⟨q1, q2, q3⟩
    have q1 : w = nI (2 ^ N) := q1
    subst q1
    show ∃ r, X6_classes_34_s (nI N) (nI k) (nI kd) 0 b l s _ (nI (2 ^ N)) = some (.inr r) ∧ _
    unfold X6_classes_34_s
    rw [e_ev hN2, if_pos (nI_le (Nat.le_refl _) (by omega))]
    exact ⟨_, rfl, q2, q3⟩
theorem op_classes : Op_classes InvC := by
  intro n ev ld0 ld1 ld2 tk mb f0 f1 f2 fr fu m_code m_n m_built m_length m_begin m_many m_leastOf m_sizeOf m_own m_bestRow m_tryRow m_keptRow m_otherRow m_row m_formRow m_allForms m_rowsOf m_intervals m_places m_whole a1 a2 ⟨N, hN, hN2, h1, h2, h3, l0, l1, l2, hR, hC, hT⟩
  subst h1; subst h2; subst h3
  unfold FX5_classes FX6_classes
  rcases size_dec hN2 a1 with ⟨e1, e2⟩ | ⟨k, hk, rfl, e1, e2⟩
  · rw [e1, e2]
    exact ⟨-2, _, _, _, _, _, _, 0, _, _, _, rfl, rfl, N, hN, hN2, rfl, rfl, rfl, l0, l1, l2, hR, hC, hT⟩
  · rw [e1, e2, bso, bso, if_neg n10, if_neg n10]
    rcases kind_dec a2 with ⟨e3, e4⟩ | ⟨c, hc, rfl, e3, e4⟩
    · rw [e3, e4]
      exact ⟨-2, _, _, _, _, _, _, 0, _, _, _, rfl, rfl, N, hN, hN2, rfl, rfl, rfl, l0, l1, l2, hR, hC, hT⟩
    · rw [e3, e4, bso, bso, if_neg n10, if_neg n10]
      obtain ⟨r, e5, k1, k2⟩ := cm_nat (kd := c) hN hN2 hc hk hT
      rw [e5, bso, k1]
      rcases (by omega : c = 0 ∨ c = 1 ∨ c = 2) with rfl | rfl | rfl
      · obtain ⟨x, y, e6, h6⟩ := cs_nat (kd := 0) hN hN2 (by omega) hk l0
        have e6 : FX1_countOfSize 0 ld0 (nI N) (nI (2 ^ N - 1)) f0 (nI k) = _ := e6
        rw [if_pos (show nI 0 = 0 from rfl), e6, bind3_some]
        exact ⟨_, _, _, _, _, _, _, _, _, _, _, rfl, rfl, N, hN, hN2, rfl, rfl, rfl, h6, l1, l2, hR, hC, k2⟩
      · obtain ⟨x, y, e6, h6⟩ := cs_nat (kd := 1) hN hN2 (by omega) hk l1
        have e6 : FX1_countOfSize 1 ld1 (nI N) (nI (2 ^ N - 1)) f1 (nI k) = _ := e6
        rw [if_neg (show ¬ nI 1 = 0 by decide), if_pos (show nI 1 = 1 from rfl), e6, bind3_some]
        exact ⟨_, _, _, _, _, _, _, _, _, _, _, rfl, rfl, N, hN, hN2, rfl, rfl, rfl, l0, h6, l2, hR, hC, k2⟩
      · obtain ⟨x, y, e6, h6⟩ := cs_nat (kd := 2) hN hN2 (by omega) hk l2
        have e6 : FX1_countOfSize 2 ld2 (nI N) (nI (2 ^ N - 1)) f2 (nI k) = _ := e6
        rw [if_neg (show ¬ nI 2 = 0 by decide), if_neg (show ¬ nI 2 = 1 by decide), e6, bind3_some]
        exact ⟨_, _, _, _, _, _, _, _, _, _, _, rfl, rfl, N, hN, hN2, rfl, rfl, rfl, l0, l1, h6, hR, hC, k2⟩
/- nth -/
def NS (P : Nat → Bool) (M : Nat) (a r : Int32) : Prop := (∃ x, x < M ∧ P x = true ∧ a = nI (cb P x) ∧ r = nI x) ∨ (r = -1 ∧ ∀ x, x < M → P x = true → a ≠ nI (cb P x))
theorem NS_eq {P : Nat → Bool} {M : Nat} (hM : M ≤ 4096) {a r r2 : Int32} (h : NS P M a r) (h2 : NS P M a r2) : r = r2 := by
  rcases h with ⟨x, x1, x2, x3, x4⟩ | ⟨x1, x2⟩
  · rcases h2 with ⟨y, y1, y2, y3, y4⟩ | ⟨y1, y2⟩
    · have e : cb P x = cb P y := nI_inj (by have := cb_le P x; omega) (by have := cb_le P y; omega) (x3.symm.trans y3)
      have key : ∀ u v, u < v → P u = true → cb P u < cb P v := by
        intro u v huv hu
        refine Nat.lt_of_lt_of_le ?_ (cb_upto (show u + 1 ≤ v from huv))
        rw [cb_s, hu, if_pos rfl]; omega
      rcases Nat.lt_trichotomy x y with q | q | q
      · have := key x y q x2; omega
      · rw [x4, y4, q]
      · have := key y x q y2; omega
    · exact absurd x3 (y2 x x1 x2)
  · rcases h2 with ⟨y, y1, y2, y3, y4⟩ | ⟨y1, y2⟩
    · exact absurd y3 (x2 y y1 y2)
    · rw [x1, y1]
theorem os_nat {N kd k : Nat} (hN : 0 < N) (hN2 : N ≤ 12) (hk : kd < 3) (hk2 : k ≤ N) {ld a : Int32} {f : Nat → Int32} (h : listOK N kd ld f) : ∃ r ld2 f2, FX1_ofSize (nI kd) ld (nI N) (nI (2 ^ N - 1)) f (nI k) a = some (r, ld2, f2) ∧ listOK N kd ld2 f2 ∧ NS (szP N kd k) (2 ^ N) a r := by
  have hp := pow_le12 hN2
  have hl := LL_len hN hN2 hk
  obtain ⟨l2, f2, e, h2, h3, h4⟩ := count_nat hN hN2 hk h
  let p : Nat → Bool := fun x => decide (bc x 12 = k)
  let c : Nat → Nat := fun i => cb (fun i => p ((LL N kd).getD i 0)) i
  have hc : ∀ i, c (i + 1) = c i + if p ((LL N kd).getD i 0) = true then 1 else 0 := fun i => rfl
  unfold FX1_ofSize
  rw [e, bind3_some]
  have : ∃ r, X1_ofSize_11_l (nI k) a l2 f2 (nI (LL N kd).length) 0 0 = some r ∧ ((∃ i, i < (LL N kd).length ∧ p ((LL N kd).getD i 0) = true ∧ a = nI (c i) ∧ r = Sum.inl (nI i)) ∨ (r = Sum.inr () ∧ ∀ i, i < (LL N kd).length → p ((LL N kd).getD i 0) = true → a ≠ nI (c i))) := by
    unfold X1_ofSize_11_l
    refine loop_ex (fun r : Int32 ⊕ Unit => (∃ i, i < (LL N kd).length ∧ p ((LL N kd).getD i 0) = true ∧ a = nI (c i) ∧ r = Sum.inl (nI i)) ∨ (r = Sum.inr () ∧ ∀ i, i < (LL N kd).length → p ((LL N kd).getD i 0) = true → a ≠ nI (c i))) (LL N kd).length FU (fun i (z : Int32 × Int32) => z.2 = nI i ∧ z.1 = nI (c i) ∧ ∀ j, j < i → p ((LL N kd).getD j 0) = true → a ≠ nI (c j)) _ (FU_big (by omega)) ?_ ?_ ⟨rfl, rfl, fun j hj => by omega⟩
    · rintro i ⟨v, w⟩ hi ⟨q1, q2, q3⟩
      have q1 : w = nI i := q1
      have q2 : v = nI (c i) := q2
      subst q1; subst q2
      have hx := (LL_at (fun _ => true) hi).2.1
      show (∃ r, X1_ofSize_11_s (nI k) a l2 f2 (nI (LL N kd).length) (nI (c i)) (nI i) = some (.inr r) ∧ _) ∨ (∃ t, X1_ofSize_11_s (nI k) a l2 f2 (nI (LL N kd).length) (nI (c i)) (nI i) = some (.inl t) ∧ _)
      unfold X1_ofSize_11_s
      rw [if_neg (nI_ge hi (by omega)), h4 i hi, bso, bcount (by omega), bso, nI_dec (bc12 _) (by omega), nI_1, nI_1]
      cases hq : decide (bc ((LL N kd).getD i 0) 12 = k) with
      | false =>
        have hq : p ((LL N kd).getD i 0) = false := hq
        rw [if_neg (by decide)]
        refine Or.inr ⟨_, rfl, rfl, ?_, ?_⟩
        · show nI (c i) = nI (c (i + 1))
          rw [hc, hq]; rfl
        · intro j hj hpj
          by_cases hji : j = i
          · subst hji; rw [hq] at hpj; cases hpj
          · exact q3 j (by omega) hpj
      | true =>
        have hq : p ((LL N kd).getD i 0) = true := hq
        rw [if_pos rfl]
        by_cases ha : nI (c i) = a
        · rw [if_pos ha]
          exact Or.inl ⟨_, rfl, Or.inl ⟨i, hi, hq, ha.symm, rfl⟩⟩
        · rw [if_neg ha]
          refine Or.inr ⟨_, rfl, rfl, ?_, ?_⟩
          · show nI (c i + 1) = nI (c (i + 1))
            rw [hc, hq]; rfl
          · intro j hj hpj
            by_cases hji : j = i
            · subst hji; exact fun q => ha q.symm
            · exact q3 j (by omega) hpj
    · rintro ⟨v, w⟩ ⟨q1, q2, q3⟩
      have q1 : w = nI (LL N kd).length := q1
      subst q1
      show ∃ r, X1_ofSize_11_s (nI k) a l2 f2 (nI (LL N kd).length) v (nI (LL N kd).length) = some (.inr r) ∧ _
      unfold X1_ofSize_11_s
      rw [if_pos (nI_le (Nat.le_refl _) (by omega))]
      exact ⟨_, rfl, Or.inr ⟨rfl, q3⟩⟩
  obtain ⟨r, e5, h5⟩ := this
  rw [e5, bso]
  rcases h5 with ⟨i, hi, hpi, ha, rfl⟩ | ⟨rfl, hn⟩
  · show ∃ r ld2 f2', X1_ofSize_36 l2 f2 (nI i) = some (r, ld2, f2') ∧ _
    unfold X1_ofSize_36
    rw [h4 i hi, bso]
    obtain ⟨y1, y2, y3⟩ := LL_at p hi
    refine ⟨_, _, _, rfl, h2, Or.inl ⟨(LL N kd).getD i 0, y2, ?_, ?_, rfl⟩⟩
    · unfold szP; rw [y1, Bool.true_and]; exact hpi
    · rw [ha]; exact congrArg nI y3
  · refine ⟨_, _, _, rfl, h2, Or.inr ⟨rfl, ?_⟩⟩
    intro x hx hpx
    unfold szP at hpx
    rw [Bool.and_eq_true] at hpx
    obtain ⟨i, hi, rfl⟩ := LL_sur hpx.1
    have := hn i hi hpx.2
    rw [show c i = _ from (LL_at p hi).2.2] at this
    exact this
theorem om_nat {N kd k : Nat} (hN : 0 < N) (hN2 : N ≤ 12) (hk : kd < 3) (hk2 : k ≤ N) {bl a : Int32} {lo so : Nat → Int32} (h : tabOK N bl lo so) : ∃ r, (X6_nth_35_l (nI N) (nI k) (nI kd) a 0 bl lo so 0 0).bind (fun ex => Sum.elim (fun xy => X6_nth_67 0 xy.1 xy.2.1 xy.2.2.1 xy.2.2.2) (fun xy => X6_nth_79 0 xy.1 xy.2.1 xy.2.2) ex) = some r ∧ (r.2.1 = 0 ∧ NS (szP N kd k) (2 ^ N) a r.1 ∧ tabOK N r.2.2.1 r.2.2.2.1 r.2.2.2.2) := by
  have hp := pow_le12 hN2
  have : ∃ r, X6_nth_35_l (nI N) (nI k) (nI kd) a 0 bl lo so 0 0 = some r ∧ ((∃ x b l s, x < 2 ^ N ∧ szP N kd k x = true ∧ a = nI (cb (szP N kd k) x) ∧ r = Sum.inl (b, l, s, nI x) ∧ tabOK N b l s) ∨ (∃ b l s, r = Sum.inr (b, l, s) ∧ tabOK N b l s ∧ ∀ x, x < 2 ^ N → szP N kd k x = true → a ≠ nI (cb (szP N kd k) x))) := by
    unfold X6_nth_35_l
    refine loop_ex (fun r : (Int32 × (Nat → Int32) × (Nat → Int32) × Int32) ⊕ (Int32 × (Nat → Int32) × (Nat → Int32)) => (∃ x b l s, x < 2 ^ N ∧ szP N kd k x = true ∧ a = nI (cb (szP N kd k) x) ∧ r = Sum.inl (b, l, s, nI x) ∧ tabOK N b l s) ∨ (∃ b l s, r = Sum.inr (b, l, s) ∧ tabOK N b l s ∧ ∀ x, x < 2 ^ N → szP N kd k x = true → a ≠ nI (cb (szP N kd k) x))) (2 ^ N) FU (fun i (z : Int32 × (Nat → Int32) × (Nat → Int32) × Int32 × Int32) => z.2.2.2.2 = nI i ∧ z.2.2.2.1 = nI (cb (szP N kd k) i) ∧ tabOK N z.1 z.2.1 z.2.2.1 ∧ ∀ x, x < i → szP N kd k x = true → a ≠ nI (cb (szP N kd k) x)) _ (FU_big (by omega)) ?_ ?_ ⟨rfl, rfl, h, fun j hj => by omega⟩
    · rintro i ⟨b, l, s, v, w⟩ hi ⟨q1, q2, q3, q4⟩
      have q1 : w = nI i := q1
      have q2 : v = nI (cb (szP N kd k) i) := q2
      subst q1; subst q2
      have q3 : tabOK N b l s := q3
      obtain ⟨b2, l2, s2, e, h2⟩ := leads_nat hN hN2 hk hi hk2 q3
      have e : FX6_leads (nI N) b l s (nI kd) (nI i) (nI k) = some (b1 (szP N kd k i), b2, l2, s2) := e
      show (∃ r, X6_nth_35_s (nI N) (nI k) (nI kd) a 0 b l s (nI (cb (szP N kd k) i)) (nI i) = some (.inr r) ∧ _) ∨ (∃ t, X6_nth_35_s (nI N) (nI k) (nI kd) a 0 b l s (nI (cb (szP N kd k) i)) (nI i) = some (.inl t) ∧ _)
      unfold X6_nth_35_s
      rw [e_ev hN2, if_neg (nI_ge hi (by omega))]
      have hcb : ∀ x, cb (szP N kd k) x ≤ x := cb_le _
      by_cases hneg : a < 0
      · rw [if_pos hneg]
        refine Or.inl ⟨_, rfl, Or.inr ⟨_, _, _, rfl, q3, ?_⟩⟩
        rintro x hx _ rfl
        exact nI_pos (by have := hcb x; omega) hneg
      · rw [if_neg hneg, e, bind4_some, nI_1, nI_1]
        have e2 : cb (szP N kd k) (i + 1) = cb (szP N kd k) i + (if szP N kd k i = true then 1 else 0) := rfl
        cases hq : szP N kd k i with
        | false =>
          rw [hq] at e2
          rw [if_pos (show b1 false = 0 from rfl)]
          refine Or.inr ⟨_, rfl, rfl, ?_, h2, ?_⟩
          · show nI (cb (szP N kd k) i) = nI (cb (szP N kd k) (i + 1))
            rw [e2]; rfl
          · intro j hj hpj
            by_cases hji : j = i
            · subst hji; rw [hq] at hpj; cases hpj
            · exact q4 j (by omega) hpj
        | true =>
          rw [hq] at e2
          rw [if_neg (show ¬ b1 true = 0 from n10)]
          by_cases ha : nI (cb (szP N kd k) i) = a
          · rw [if_pos ha]
            exact Or.inl ⟨_, rfl, Or.inl ⟨i, _, _, _, hi, hq, ha.symm, rfl, h2⟩⟩
          · rw [if_neg ha]
            refine Or.inr ⟨_, rfl, rfl, ?_, h2, ?_⟩
            · show nI (cb (szP N kd k) i + 1) = nI (cb (szP N kd k) (i + 1))
              rw [e2]; rfl
            · intro j hj hpj
              by_cases hji : j = i
              · subst hji; exact fun q => ha q.symm
              · exact q4 j (by omega) hpj
    · rintro ⟨b, l, s, v, w⟩ ⟨q1, q2, q3, q4⟩
      have q1 : w = nI (2 ^ N) := q1
      subst q1
      show ∃ r, X6_nth_35_s (nI N) (nI k) (nI kd) a 0 b l s v (nI (2 ^ N)) = some (.inr r) ∧ _
      unfold X6_nth_35_s
      rw [e_ev hN2, if_pos (nI_le (Nat.le_refl _) (by omega))]
      exact ⟨_, rfl, Or.inr ⟨_, _, _, rfl, q3, q4⟩⟩
  obtain ⟨r, e, h5⟩ := this
  rw [e, bso]
  rcases h5 with ⟨x, b, l, s, x1, x2, x3, rfl, x5⟩ | ⟨b, l, s, rfl, x5, x6⟩
  · exact ⟨_, rfl, rfl, Or.inl ⟨x, x1, x2, x3, rfl⟩, x5⟩
  · exact ⟨_, rfl, rfl, Or.inr ⟨rfl, x6⟩, x5⟩
theorem op_nth : Op_nth InvC := by
  intro n ev ld0 ld1 ld2 tk mb f0 f1 f2 fr fu m_code m_n m_built m_length m_begin m_many m_leastOf m_sizeOf m_own m_bestRow m_tryRow m_keptRow m_otherRow m_row m_formRow m_allForms m_rowsOf m_intervals m_places m_whole a1 a2 a3 ⟨N, hN, hN2, h1, h2, h3, l0, l1, l2, hR, hC, hT⟩
  subst h1; subst h2; subst h3
  have hp := pow_le12 hN2
  unfold FX5_nth FX6_nth
  rcases size_dec hN2 a1 with ⟨e1, e2⟩ | ⟨k, hk, rfl, e1, e2⟩
  · rw [e1, e2]
    exact ⟨-2, _, _, _, _, _, _, 0, _, _, _, rfl, rfl, N, hN, hN2, rfl, rfl, rfl, l0, l1, l2, hR, hC, hT⟩
  · rw [e1, e2, bso, bso, if_neg n10, if_neg n10]
    rcases kind_dec a2 with ⟨e3, e4⟩ | ⟨c, hc, rfl, e3, e4⟩
    · rw [e3, e4]
      exact ⟨-2, _, _, _, _, _, _, 0, _, _, _, rfl, rfl, N, hN, hN2, rfl, rfl, rfl, l0, l1, l2, hR, hC, hT⟩
    · rw [e3, e4, bso, bso, if_neg n10, if_neg n10]
      obtain ⟨⟨r0, r1, r2, r3, r4⟩, e5, k1, k2, k3⟩ := om_nat (kd := c) (a := a3) hN hN2 hc hk hT
      have k1 : r1 = 0 := k1
      subst k1
      rw [e5]
      rcases (by omega : c = 0 ∨ c = 1 ∨ c = 2) with rfl | rfl | rfl
      · obtain ⟨r, x, y, e6, h6, h7⟩ := os_nat (kd := 0) (a := a3) hN hN2 (by omega) hk l0
        have e6 : FX1_ofSize 0 ld0 (nI N) (nI (2 ^ N - 1)) f0 (nI k) a3 = _ := e6
        rw [if_pos (show nI 0 = 0 from rfl), e6, bind3_some, NS_eq hp h7 k2]
        exact ⟨_, _, _, _, _, _, _, _, _, _, _, rfl, rfl, N, hN, hN2, rfl, rfl, rfl, h6, l1, l2, hR, hC, k3⟩
      · obtain ⟨r, x, y, e6, h6, h7⟩ := os_nat (kd := 1) (a := a3) hN hN2 (by omega) hk l1
        have e6 : FX1_ofSize 1 ld1 (nI N) (nI (2 ^ N - 1)) f1 (nI k) a3 = _ := e6
        rw [if_neg (show ¬ nI 1 = 0 by decide), if_pos (show nI 1 = 1 from rfl), e6, bind3_some, NS_eq hp h7 k2]
        exact ⟨_, _, _, _, _, _, _, _, _, _, _, rfl, rfl, N, hN, hN2, rfl, rfl, rfl, l0, h6, l2, hR, hC, k3⟩
      · obtain ⟨r, x, y, e6, h6, h7⟩ := os_nat (kd := 2) (a := a3) hN hN2 (by omega) hk l2
        have e6 : FX1_ofSize 2 ld2 (nI N) (nI (2 ^ N - 1)) f2 (nI k) a3 = _ := e6
        rw [if_neg (show ¬ nI 2 = 0 by decide), if_neg (show ¬ nI 2 = 1 by decide), e6, bind3_some, NS_eq hp h7 k2]
        exact ⟨_, _, _, _, _, _, _, _, _, _, _, rfl, rfl, N, hN, hN2, rfl, rfl, rfl, l0, l1, h6, hR, hC, k3⟩
