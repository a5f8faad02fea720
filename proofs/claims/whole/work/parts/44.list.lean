/-! the lists of leaders -/
def ldr (N kd x : Nat) : Bool := decide (x < 2 ^ N) && decide (lst N kd x = x)
theorem ldr_iff {N kd x : Nat} : ldr N kd x = true ↔ x < 2 ^ N ∧ lst N kd x = x := by
  unfold ldr; rw [Bool.and_eq_true, decide_eq_true_iff, decide_eq_true_iff]
def PL (N kd n : Nat) : List Nat := (List.range n).filter (ldr N kd)
theorem PL_t {N kd n : Nat} (h : ldr N kd n = true) : PL N kd (n + 1) = PL N kd n ++ [n] := by
  unfold PL; rw [List.range_succ, List.filter_append, List.filter_cons_of_pos h, List.filter_nil]
theorem PL_f {N kd n : Nat} (h : ldr N kd n = false) : PL N kd (n + 1) = PL N kd n := by
  unfold PL; rw [List.range_succ, List.filter_append, List.filter_cons_of_neg (by rw [h]; decide), List.filter_nil, List.append_nil]
theorem PL_LL (N kd : Nat) : LL N kd = PL N kd (2 ^ N) := by
  unfold LL PL
  apply List.filter_congr
  intro x hx
  unfold ldr
  rw [decide_eq_true (List.mem_range.mp hx), Bool.true_and]
theorem gd_l {l : List Nat} {i x : Nat} (h : i < l.length) : (l ++ [x]).getD i 0 = l.getD i 0 := by
  rw [List.getD_eq_getElem?_getD, List.getD_eq_getElem?_getD, List.getElem?_append_left h]
theorem gd_e (l : List Nat) (x : Nat) : (l ++ [x]).getD l.length 0 = x := by
  rw [List.getD_eq_getElem?_getD, List.getElem?_append_right (Nat.le_refl _), Nat.sub_self]; rfl
theorem PL_len (N kd : Nat) : ∀ n, (PL N kd n).length = cb (ldr N kd) n
  | 0 => rfl
  | n + 1 => by
    rw [cb_s]
    cases h : ldr N kd n with
    | true => rw [PL_t h, List.length_append, PL_len N kd n]; rfl
    | false => rw [PL_f h, PL_len N kd n]; rfl
theorem PL_cb (N kd : Nat) (p : Nat → Bool) : ∀ n, cb (fun i => p ((PL N kd n).getD i 0)) (PL N kd n).length = cb (fun x => ldr N kd x && p x) n
  | 0 => rfl
  | n + 1 => by
    rw [cb_s (fun x => ldr N kd x && p x), ← PL_cb N kd p n]
    cases h : ldr N kd n with
    | true =>
      rw [PL_t h, List.length_append, show [n].length = 1 from rfl, cb_s, gd_e, Bool.true_and]
      congr 1
      exact cb_congr (fun i hi => by rw [gd_l hi])
    | false => rw [PL_f h, Bool.false_and]; rfl
theorem PL_at (N kd : Nat) (p : Nat → Bool) : ∀ n v, v < (PL N kd n).length → ldr N kd ((PL N kd n).getD v 0) = true ∧ (PL N kd n).getD v 0 < n ∧ cb (fun i => p ((PL N kd n).getD i 0)) v = cb (fun x => ldr N kd x && p x) ((PL N kd n).getD v 0)
  | 0, v, h => by have h : v < 0 := h; omega
  | n + 1, v, hv => by
    cases h : ldr N kd n with
    | true =>
      rw [PL_t h] at hv ⊢
      rw [List.length_append, show [n].length = 1 from rfl] at hv
      by_cases q : v < (PL N kd n).length
      · obtain ⟨a, b, c⟩ := PL_at N kd p n v q
        rw [gd_l q]
        refine ⟨a, by omega, ?_⟩
        rw [← c]
        exact cb_congr (fun i hi => by rw [gd_l (by omega)])
      · have q : v = (PL N kd n).length := by omega
        subst q
        rw [gd_e]
        refine ⟨h, by omega, ?_⟩
        rw [← PL_cb N kd p n]
        exact cb_congr (fun i hi => by rw [gd_l hi])
    | false =>
      rw [PL_f h] at hv ⊢
      obtain ⟨a, b, c⟩ := PL_at N kd p n v hv
      exact ⟨a, by omega, c⟩
/- how many -/
def ldq (N s : Nat) : Bool := decide (s < 2 ^ N) && allB (fun t => decide (s ≤ ((s * 2 ^ t) ||| (s / 2 ^ (N - t))) &&& (2 ^ N - 1))) N
theorem ldq_cnt : ∀ N, N < 13 → sm (fun a => cb (fun b => ldq N (64 * a + b)) 64) 64 ≤ 352 := by decide +kernel
theorem sm_cb (p : Nat → Bool) : ∀ k, cb p (64 * k) = sm (fun a => cb (fun b => p (64 * a + b)) 64) k
  | 0 => rfl
  | k + 1 => by rw [show 64 * (k + 1) = 64 * k + 64 by omega, cb_add, sm_cb p k, sm_s]
theorem rot_one {N s t : Nat} (hN : 0 < N) (hs : s < 2 ^ N) (ht : t < N) : rot N s t = mo N s (1 % N) t := by
  have := rot_mo (s := s) (m := 1 % N) hN (Nat.le_of_lt ht)
  rw [mo_one hN hs] at this
  exact this
theorem rot_orb {N kd s t : Nat} (hN : 0 < N) (hN2 : N ≤ 12) (hk : kd < 3) (hs : s < 2 ^ N) (ht : t < N) : orb N kd s (rot N s t) := ⟨1 % N, t, Nat.mod_lt _ hN, ht, mu_one N (by omega) hN kd hk, (rot_one hN hs ht).symm⟩
theorem ldr_ldq {N kd s : Nat} (hN : 0 < N) (hN2 : N ≤ 12) (hk : kd < 3) (h : ldr N kd s = true) : ldq N s = true := by
  obtain ⟨hs, h2⟩ := ldr_iff.mp h
  unfold ldq
  rw [decide_eq_true hs, Bool.true_and]
  apply allB_iff.mpr
  intro t ht
  apply decide_eq_true
  have := lst_le hN (rot_orb hN hN2 hk hs ht)
  rw [h2] at this
  exact this
theorem cb_upto {p : Nat → Bool} {a b : Nat} (h : a ≤ b) : cb p a ≤ cb p b := by
  obtain ⟨d, rfl⟩ := Nat.exists_eq_add_of_le h
  rw [cb_add]; omega
theorem LL_len {N kd : Nat} (hN : 0 < N) (hN2 : N ≤ 12) (hk : kd < 3) : (LL N kd).length ≤ 352 := by
  rw [PL_LL, PL_len]
  refine Nat.le_trans (cb_upto (pow_le12 hN2)) (Nat.le_trans (cb_mono (q := ldq N) (fun i _ h => ldr_ldq hN hN2 hk h)) ?_)
  have := ldq_cnt N (by omega)
  rw [← sm_cb] at this
  exact this
theorem ldr_even {N kd s : Nat} (hN : 0 < N) (hN2 : N ≤ 12) (hk : kd < 3) (h0 : 0 < s) (he : s % 2 = 0) : ldr N kd s = false := by
  cases h : ldr N kd s with
  | false => rfl
  | true =>
    obtain ⟨hs, h2⟩ := ldr_iff.mp h
    have e : rot N s (N - 1) = s / 2 := by
      apply bit_ext
      intro j
      rw [rot_bit hN hs (by omega), show N - (N - 1) = 1 by omega, Nat.testBit_div_two]
      constructor
      · rintro ⟨hj, q⟩
        by_cases hj2 : j + 1 < N
        · rw [Nat.mod_eq_of_lt hj2] at q; exact q
        · rw [show j + 1 = N by omega, Nat.mod_self, Nat.testBit_zero, he] at q
          cases q
      · intro q
        have hj := bit_lt hs q
        exact ⟨by omega, by rw [Nat.mod_eq_of_lt hj]; exact q⟩
    have := lst_le hN (rot_orb hN hN2 hk hs (t := N - 1) (by omega))
    rw [h2, e] at this
    omega
theorem ilt_nat {N s : Nat} (hN : 0 < N) (hN2 : N ≤ 12) (hs : s < 2 ^ N) : ∃ r, FX0_isLeastTurned (nI N) (nI (2 ^ N - 1)) (nI s) = some r ∧ (r = 0 → ∃ t, t < N ∧ rot N s t < s) := by
  have hp := pow_le12 hN2
  have : ∃ r, X0_isLeastTurned_2_l (nI N) (nI (2 ^ N - 1)) (nI s) 1 = some r ∧ (∀ u, r = Sum.inl u → ∃ t, t < N ∧ rot N s t < s) := by
    unfold X0_isLeastTurned_2_l
    refine loop_ex (fun r : Unit ⊕ Unit => ∀ u, r = Sum.inl u → ∃ t, t < N ∧ rot N s t < s) (N - 1) FU (fun i z => z = nI (i + 1)) _ (FU_big (by omega)) ?_ ?_ rfl
    · rintro i z hi rfl
      have hr := rot_lt hN hs (t := i + 1) (by omega)
      show (∃ r, X0_isLeastTurned_2_s (nI N) (nI (2 ^ N - 1)) (nI s) (nI (i + 1)) = some (.inr r) ∧ _) ∨ (∃ t, X0_isLeastTurned_2_s (nI N) (nI (2 ^ N - 1)) (nI s) (nI (i + 1)) = some (.inl t) ∧ _)
      unfold X0_isLeastTurned_2_s
      rw [if_neg (nI_ge (by omega) (by omega)), tu_nat hN hN2 hs (by omega), bso]
      by_cases hc : s ≤ rot N s (i + 1)
      · rw [if_pos (nI_le hc (by omega)), nI_1]
        exact Or.inr ⟨_, rfl, rfl⟩
      · rw [if_neg (nI_ge (by omega) (by omega))]
        exact Or.inl ⟨_, rfl, fun _ _ => ⟨i + 1, by omega, by omega⟩⟩
    · rintro z rfl
      show ∃ r, X0_isLeastTurned_2_s (nI N) (nI (2 ^ N - 1)) (nI s) (nI (N - 1 + 1)) = some (.inr r) ∧ _
      unfold X0_isLeastTurned_2_s
      rw [if_pos (nI_le (by omega) (by omega))]
      exact ⟨_, rfl, fun _ q => by cases q⟩
  obtain ⟨r, e, h⟩ := this
  unfold FX0_isLeastTurned
  rw [e, bso]
  cases r with
  | inl u => exact ⟨0, rfl, fun _ => h u rfl⟩
  | inr u => exact ⟨1, rfl, fun q => absurd q n10⟩
def lsOK (l : List Nat) (ld : Int32) (f : Nat → Int32) : Prop := ld = nI l.length ∧ ∀ i, i < l.length → f i = nI (l.getD i 0)
theorem keep_nat {l : List Nat} {ld : Int32} {f : Nat → Int32} {x : Nat} (hl : l.length < 352) (h : lsOK l ld f) : ∃ ld2 f2, FX1_keep ld f (nI x) = some (ld2, f2) ∧ lsOK (l ++ [x]) ld2 f2 := by
  obtain ⟨rfl, h2⟩ := h
  unfold FX1_keep
  have h12 : ¬ (352 : Int32) ≤ nI l.length := nI_ge (b := 352) hl (by omega)
  rw [if_neg h12, if_neg (nI_in (by omega) (by omega)), nI_clamp (by omega), nI_1]
  refine ⟨_, _, rfl, ?_, ?_⟩
  · rw [List.length_append]; rfl
  · intro i hi
    rw [List.length_append, show [x].length = 1 from rfl] at hi
    by_cases q : i < l.length
    · rw [gd_l q, upd_n _ _ (by omega)]; exact h2 i q
    · have q : i = l.length := by omega
      subst q
      rw [gd_e, upd_s]
theorem list_nat {N kd : Nat} (hN : 0 < N) (hN2 : N ≤ 12) (hk : kd < 3) {f : Nat → Int32} : ∃ ld2 f2, FX1_list (nI kd) 0 (nI N) (nI (2 ^ N - 1)) f = some (ld2, f2) ∧ lsOK (LL N kd) ld2 f2 := by
  have hp := pow_le12 hN2
  have hp2 := pow_pos2 N
  obtain ⟨M, rfl⟩ : ∃ M, N = M + 1 := ⟨N - 1, by omega⟩
  have hM : 2 ^ (M + 1) = 2 * 2 ^ M := by rw [Nat.pow_succ]; omega
  have h0 : ldr (M + 1) kd 0 = true := ldr_iff.mpr ⟨hp2, Nat.le_antisymm (lst_self hN hN2 hk hp2) (Nat.zero_le _)⟩
  have hlen : ∀ n, (PL (M + 1) kd n).length ≤ 352 := by
    intro n
    have hl := LL_len hN hN2 hk
    rw [PL_LL, PL_len] at hl
    rw [PL_len]
    rcases Nat.le_total n (2 ^ (M + 1)) with q | q
    · exact Nat.le_trans (cb_upto q) hl
    · obtain ⟨d, rfl⟩ := Nat.exists_eq_add_of_le q
      rw [cb_add, cb_0 (p := fun i => ldr (M + 1) kd (2 ^ (M + 1) + i))]
      · exact hl
      · intro i _
        unfold ldr
        rw [decide_eq_false (by omega), Bool.false_and]
  obtain ⟨l1, f1, e1, k1⟩ := keep_nat (l := []) (ld := 0) (f := f) (x := 0) (by decide) ⟨rfl, fun i h => absurd h (Nat.not_lt_zero _)⟩
  have e1 : FX1_keep 0 f 0 = some (l1, f1) := e1
  have eL : LL (M + 1) kd = PL (M + 1) kd (2 * 2 ^ M + 1) := by
    rw [PL_LL, ← hM, PL_f]
    unfold ldr
    rw [decide_eq_false (by omega), Bool.false_and]
  have : ∃ r, X1_list_7_l (nI kd) (nI (M + 1)) (nI (2 ^ (M + 1) - 1)) l1 f1 1 = some r ∧ lsOK (LL (M + 1) kd) r.1 r.2 := by
    unfold X1_list_7_l
    refine loop_inv (fun r : Int32 × (Nat → Int32) => lsOK (LL (M + 1) kd) r.1 r.2) (2 ^ M) FU (fun i (z : Int32 × (Nat → Int32) × Int32) => z.2.2 = nI (2 * i + 1) ∧ lsOK (PL (M + 1) kd (2 * i + 1)) z.1 z.2.1) _ (FU_big (by omega)) ?_ ?_ ⟨rfl, by rw [show 2 * 0 + 1 = 0 + 1 from rfl, PL_t h0]; exact k1⟩
    · rintro i ⟨ld, g, v⟩ hi ⟨q1, q2⟩
      have q1 : v = nI (2 * i + 1) := q1
      subst q1
      have q2 : lsOK (PL (M + 1) kd (2 * i + 1)) ld g := q2
      have hs : 2 * i + 1 < 2 ^ (M + 1) := by omega
      have he : ldr (M + 1) kd (2 * i + 1 + 1) = false := ldr_even hN hN2 hk (by omega) (by omega)
      have hv : nI (2 * i + 1) + 2 = nI (2 * (i + 1) + 1) := by rw [show (2 : Int32) = nI 2 from rfl, nI_add]; rfl
      show ∃ t, X1_list_7_s (nI kd) (nI (M + 1)) (nI (2 ^ (M + 1) - 1)) ld g (nI (2 * i + 1)) = some (.inl t) ∧ _
      unfold X1_list_7_s FX0_all
      obtain ⟨r, er, hr⟩ := ilt_nat hN hN2 hs
      rw [bso, if_neg (nI_nlt (by omega) (by omega)), er, bso, hv]
      have skip : ldr (M + 1) kd (2 * i + 1) = false → lsOK (PL (M + 1) kd (2 * (i + 1) + 1)) ld g := by
        intro h
        rw [show 2 * (i + 1) + 1 = 2 * i + 1 + 1 + 1 by omega, PL_f he, PL_f h]
        exact q2
      by_cases hz : r = 0
      · rw [if_pos hz]
        refine ⟨_, rfl, rfl, skip ?_⟩
        obtain ⟨t, ht, hl⟩ := hr hz
        have := lst_le hN (rot_orb hN hN2 hk hs ht)
        unfold ldr
        rw [decide_eq_false (show ¬ lst (M + 1) kd (2 * i + 1) = 2 * i + 1 by omega), Bool.and_false]
      · rw [if_neg hz, lst_nat hN hN2 hk hs, bso]
        have hll := lst_lt (kd := kd) hN hs
        by_cases hc : lst (M + 1) kd (2 * i + 1) = 2 * i + 1
        · have ht : ldr (M + 1) kd (2 * i + 1) = true := ldr_iff.mpr ⟨hs, hc⟩
          have hlt : (PL (M + 1) kd (2 * i + 1)).length < 352 := by
            have := hlen (2 * i + 1 + 1)
            rw [PL_t ht, List.length_append] at this
            exact this
          obtain ⟨l3, f3, e3, k3⟩ := keep_nat (x := 2 * i + 1) hlt q2
          rw [if_pos (by rw [hc]), e3, bind2_some]
          refine ⟨_, rfl, rfl, ?_⟩
          show lsOK (PL (M + 1) kd (2 * (i + 1) + 1)) l3 f3
          rw [show 2 * (i + 1) + 1 = 2 * i + 1 + 1 + 1 by omega, PL_f he, PL_t ht]
          exact k3
        · rw [if_neg (fun q => hc (nI_inj (by omega) (by omega) q))]
          refine ⟨_, rfl, rfl, skip ?_⟩
          unfold ldr
          rw [decide_eq_false hc, Bool.and_false]
    · rintro ⟨ld, g, v⟩ ⟨q1, q2⟩
      have q1 : v = nI (2 * 2 ^ M + 1) := q1
      subst q1
      have q2 : lsOK (PL (M + 1) kd (2 * 2 ^ M + 1)) ld g := q2
      show ∃ r, X1_list_7_s (nI kd) (nI (M + 1)) (nI (2 ^ (M + 1) - 1)) ld g (nI (2 * 2 ^ M + 1)) = some (.inr r) ∧ _
      unfold X1_list_7_s FX0_all
      rw [bso, if_pos (nI_lt (by omega) (by omega)), eL]
      exact ⟨_, rfl, q2⟩
  obtain ⟨r, e2, k2⟩ := this
  unfold FX1_list
  rw [e1, bind2_some, e2, bso]
  exact ⟨_, _, rfl, k2⟩
theorem LL_pos {N kd : Nat} (hN : 0 < N) (hN2 : N ≤ 12) (hk : kd < 3) : 0 < (LL N kd).length := by
  have hp2 := pow_pos2 N
  have h0 : ldr N kd 0 = true := ldr_iff.mpr ⟨hp2, Nat.le_antisymm (lst_self hN hN2 hk hp2) (Nat.zero_le _)⟩
  rw [PL_LL, PL_len]
  refine Nat.lt_of_lt_of_le ?_ (cb_upto (show 1 ≤ 2 ^ N from hp2))
  rw [cb_s, h0, if_pos rfl]; omega
theorem count_nat {N kd : Nat} (hN : 0 < N) (hN2 : N ≤ 12) (hk : kd < 3) {ld : Int32} {f : Nat → Int32} (h : listOK N kd ld f) : ∃ ld2 f2, FX1_count (nI kd) ld (nI N) (nI (2 ^ N - 1)) f = some (nI (LL N kd).length, ld2, f2) ∧ listOK N kd ld2 f2 ∧ ld2 = nI (LL N kd).length ∧ ∀ i, i < (LL N kd).length → FX1_at ld2 f2 (nI i) = some (nI ((LL N kd).getD i 0)) := by
  have hl := LL_len hN hN2 hk
  have hl0 := LL_pos hN hN2 hk
  have at' : ∀ g : Nat → Int32, (∀ i, i < (LL N kd).length → g i = nI ((LL N kd).getD i 0)) → ∀ i, i < (LL N kd).length → FX1_at (nI (LL N kd).length) g (nI i) = some (nI ((LL N kd).getD i 0)) := by
    intro g hg i hi
    unfold FX1_at
    have h12 : ¬ (352 : Int32) ≤ nI i := nI_ge (b := 352) (by omega) (by omega)
    rw [if_neg (nI_pos (by omega)), if_neg (nI_ge hi (by omega)), if_neg h12, if_neg (nI_in (by omega) (by omega)), nI_clamp (by omega), hg i hi]
  unfold FX1_count
  rcases h with h | ⟨h1, h2, h3⟩
  · subst h
    obtain ⟨l2, f2, e, k1, k2⟩ := list_nat (f := f) hN hN2 hk
    rw [if_pos rfl, e, bind2_some]
    subst k1
    exact ⟨_, _, rfl, Or.inr ⟨rfl, hl, k2⟩, rfl, at' _ k2⟩
  · subst h1
    rw [if_neg (nI_ne0 (by omega) (by omega))]
    exact ⟨_, _, rfl, Or.inr ⟨rfl, hl, h3⟩, rfl, at' _ h3⟩
