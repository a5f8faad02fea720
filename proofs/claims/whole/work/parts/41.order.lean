/-! orders: two sets of as many steps compared -/
theorem el_lt {s n i j : Nat} (hij : i < j) (hj : j < rk s n) : el s n i < el s n j := by
  obtain ⟨a1, a2, a3⟩ := el_sp (s := s) (n := n) (i := i) (by omega)
  obtain ⟨b1, b2, b3⟩ := el_sp hj
  rcases Nat.lt_or_ge (el s n i) (el s n j) with h | h
  · exact h
  · have := rk_mono (s := s) h
    omega
theorem top_lt {X Y b : Nat} (hx : X.testBit b = false) (hy : Y.testBit b = true) (h : ∀ j, b < j → X.testBit j = Y.testBit j) : X < Y := by
  have e : X / 2 ^ (b + 1) = Y / 2 ^ (b + 1) := by
    apply Nat.eq_of_testBit_eq
    intro j
    rw [Nat.testBit_div_two_pow, Nat.testBit_div_two_pow, h (j + (b + 1)) (by omega)]
  have l1 : X % 2 ^ (b + 1) < 2 ^ b := by
    apply lt_of_bits
    intro j hj
    rw [Nat.testBit_mod_two_pow, Bool.and_eq_true] at hj
    have h1 := of_decide_eq_true hj.1
    by_cases hc : j = b
    · subst hc; rw [hx] at hj; exact absurd hj.2 (by decide)
    · omega
  have l2 : 2 ^ b ≤ Y % 2 ^ (b + 1) := by
    rcases Nat.lt_or_ge (Y % 2 ^ (b + 1)) (2 ^ b) with q | q
    · have h1 := Nat.testBit_lt_two_pow q
      rw [Nat.testBit_mod_two_pow, decide_eq_true (show b < b + 1 by omega), hy] at h1
      exact absurd h1 (by decide)
    · exact q
  have d1 := Nat.div_add_mod X (2 ^ (b + 1))
  have d2 := Nat.div_add_mod Y (2 ^ (b + 1))
  rw [e] at d1
  omega
theorem set_eq {N X Y : Nat} (hX : X < 2 ^ N) (hY : Y < 2 ^ N) (hK : rk X N = rk Y N) (h : ∀ i, i < rk X N → el X N i = el Y N i) : X = Y := by
  apply bit_ext
  intro j
  constructor
  · intro hb
    have hj := bit_lt hX hb
    have hr := rk_lt (s := X) hj hb
    have e := h _ hr
    rw [el_at hb hj] at e
    have := (el_sp (s := Y) (n := N) (i := rk X j) (by omega)).2.1
    rw [← e] at this
    exact this
  · intro hb
    have hj := bit_lt hY hb
    have hr := rk_lt (s := Y) hj hb
    have e := h (rk Y j) (by omega)
    rw [el_at hb hj] at e
    have := (el_sp (s := X) (n := N) (i := rk Y j) (by omega)).2.1
    rw [e] at this
    exact this
theorem hi_less {N X Y i : Nat} (hX : X < 2 ^ N) (hY : Y < 2 ^ N) (hK : rk X N = rk Y N) (hi : i < rk X N) (h1 : el X N i < el Y N i) (h2 : ∀ j, i < j → j < rk X N → el X N j = el Y N j) : X < Y := by
  obtain ⟨a1, a2, a3⟩ := el_sp hi
  obtain ⟨b1, b2, b3⟩ := el_sp (s := Y) (n := N) (i := i) (by omega)
  have up : ∀ j, el Y N i < j → X.testBit j = true → ∃ m, i < m ∧ m < rk X N ∧ el X N m = j := by
    intro j hj hb
    have hjN := bit_lt hX hb
    have := rk_lt (s := X) (show el X N i < j by omega) a2
    exact ⟨rk X j, by omega, rk_lt hjN hb, el_at hb hjN⟩
  apply top_lt (b := el Y N i)
  · cases hb : X.testBit (el Y N i)
    · rfl
    · have hr := rk_lt (s := X) h1 a2
      have hr2 := rk_lt (s := X) b1 hb
      have e := h2 (rk X (el Y N i)) (by omega) hr2
      rw [el_at hb b1] at e
      have := (el_sp (s := Y) (n := N) (i := rk X (el Y N i)) (by omega)).2.2
      rw [← e] at this
      omega
  · exact b2
  · intro j hj
    apply bool_ext
    constructor
    · intro hb
      obtain ⟨m, m1, m2, m3⟩ := up j hj hb
      have e := h2 m m1 m2
      have := (el_sp (s := Y) (n := N) (i := m) (by omega)).2.1
      rw [← e, m3] at this
      exact this
    · intro hb
      have hjN := bit_lt hY hb
      have hr := rk_lt (s := Y) hj b2
      have hr2 := rk_lt (s := Y) hjN hb
      have e := h2 (rk Y j) (by omega) (by omega)
      rw [el_at hb hjN] at e
      have := (el_sp (s := X) (n := N) (i := rk Y j) (by omega)).2.1
      rw [e] at this
      exact this
theorem lo_diff {N X Y i : Nat} (hX : X < 2 ^ N) (hY : Y < 2 ^ N) (hK : rk X N = rk Y N) (hi : i < rk X N) (h1 : el X N i < el Y N i) (h2 : ∀ j, j < i → el X N j = el Y N j) : X.testBit (el X N i) = true ∧ Y.testBit (el X N i) = false ∧ ∀ j, j < el X N i → X.testBit j = Y.testBit j := by
  obtain ⟨a1, a2, a3⟩ := el_sp hi
  obtain ⟨b1, b2, b3⟩ := el_sp (s := Y) (n := N) (i := i) (by omega)
  refine ⟨a2, ?_, ?_⟩
  · cases hb : Y.testBit (el X N i)
    · rfl
    · have hr := rk_lt (s := Y) h1 hb
      have e := h2 (rk Y (el X N i)) (by omega)
      rw [el_at hb a1] at e
      have := (el_sp (s := X) (n := N) (i := rk Y (el X N i)) (by omega)).2.2
      rw [e] at this
      omega
  · intro j hj
    apply bool_ext
    constructor
    · intro hb
      have hr := rk_lt (s := X) hj hb
      have e := h2 (rk X j) (by omega)
      rw [el_at hb (by omega)] at e
      have := (el_sp (s := Y) (n := N) (i := rk X j) (by omega)).2.1
      rw [← e] at this
      exact this
    · intro hb
      have hr := rk_lt (s := Y) (show j < el Y N i by omega) hb
      have e := h2 (rk Y j) (by omega)
      rw [el_at hb (by omega)] at e
      have := (el_sp (s := X) (n := N) (i := rk Y j) (by omega)).2.1
      rw [e] at this
      exact this
theorem low_all : allB (fun b => allB (fun c => allB (fun a => !decide ((64 * a + c) % 2 ^ (b + 1) = 2 ^ b) || decide (nI (64 * a + c) &&& (-(nI (64 * a + c))) = nI (2 ^ b))) 64) 64) 12 = true := by decide +kernel
theorem low_nat {U b : Nat} (hU : U < 4096) (hb : b < 12) (h1 : U.testBit b = true) (h2 : ∀ j, j < b → U.testBit j = false) : nI U &&& (-(nI U)) = nI (2 ^ b) := by
  have h := allB_at (allB_at (allB_at low_all b hb) (U % 64) (Nat.mod_lt _ (by omega))) (U / 64) (by omega)
  rw [Nat.div_add_mod] at h
  have e : U % 2 ^ (b + 1) = 2 ^ b := by
    apply Nat.eq_of_testBit_eq
    intro j
    rw [Nat.testBit_mod_two_pow, Nat.testBit_two_pow]
    by_cases hc : b = j
    · subst hc
      rw [h1, decide_eq_true (show b < b + 1 by omega), decide_eq_true rfl]
      rfl
    · rw [decide_eq_false hc]
      by_cases hd : j < b + 1
      · rw [h2 j (by omega), Bool.and_false]
      · rw [decide_eq_false hd, Bool.false_and]
  rw [decide_eq_true e] at h
  exact of_decide_eq_true h
def loB (X Y : Nat) : Bool := !decide ((nI X &&& ((nI X ^^^ nI Y) &&& (-(nI X ^^^ nI Y)))) = 0)
theorem loB_b {X Y b : Nat} (hX : X < 4096) (hY : Y < 4096) (hb : b < 12) (hd : X.testBit b ≠ Y.testBit b) (h : ∀ j, j < b → X.testBit j = Y.testBit j) : loB X Y = X.testBit b := by
  unfold loB
  have hU : X ^^^ Y < 4096 := Nat.xor_lt_two_pow (n := 12) hX hY
  have u1 : (X ^^^ Y).testBit b = true := by
    rw [Nat.testBit_xor]
    revert hd
    cases X.testBit b <;> cases Y.testBit b <;> decide
  have u2 : ∀ j, j < b → (X ^^^ Y).testBit j = false := by
    intro j hj
    rw [Nat.testBit_xor, h j hj]
    cases Y.testBit j <;> rfl
  rw [nx_xor, low_nat hU hb u1 u2, nx_and]
  cases hx : X.testBit b with
  | false => rw [and_pow.mpr hx]; rfl
  | true =>
    have hlt : X &&& 2 ^ b < 4096 := Nat.lt_of_le_of_lt Nat.and_le_left hX
    have hne : X &&& 2 ^ b ≠ 0 := fun q => by rw [and_pow.mp q] at hx; cases hx
    rw [decide_eq_false (nI_ne0 (by omega) (by omega))]
    rfl
theorem loB_same (X : Nat) : loB X X = false := by
  unfold loB
  rw [nx_xor, Nat.xor_self, show nI 0 &&& (-(nI 0)) = nI 0 by decide, nx_and, Nat.and_zero]
  rfl
/-- whether distances X come before Y, by a rule -/
def lsr (N rule X Y : Nat) : Bool := if rule = 0 ∧ el X N (rk X N - 1) = el Y N (rk X N - 1) then loB X Y else decide (X < Y)
theorem il_c {N rule X Y : Nat} (hN2 : N ≤ 12) (hX : X < 2 ^ N) (hY : Y < 2 ^ N) (hK : rk X N = rk Y N) (h0 : 0 < rk X N) (hr : rule < 2) : FX2_isLesser (nI N) (nI X) (nI Y) (nI rule) = some (b1 (lsr N rule X Y)) := by
  have hp := pow_le12 hN2
  have hk := rk_le X N
  have hb : bc X 12 = rk X N := bc_N hN2 hX
  have e1 : nI (rk X N) - (1 : Int32) = nI (rk X N - 1) := pk_sub (b := 1) h0
  have x1 := el_sp (s := X) (n := N) (i := rk X N - 1) (by omega)
  have y1 := el_sp (s := Y) (n := N) (i := rk X N - 1) (by omega)
  unfold FX2_isLesser
  rw [bcount (by omega), bso, hb, e1, st_nat hN2 (by omega) (by omega), bso, st_nat hN2 (by omega) (by omega), bso]
  unfold X2_isLesser_49 FX2_isLesserFromFirst lsr
  have e49 : (if nI Y ≤ nI X then some (0 : Int32) else some 1) = some (b1 (decide (X < Y))) := by
    by_cases hc : X < Y
    · rw [if_neg (nI_ge hc (by omega)), decide_eq_true hc]; rfl
    · rw [if_pos (nI_le (by omega) (by omega)), decide_eq_false hc]; rfl
  rw [e49]
  rcases (show rule = 0 ∨ rule = 1 by omega) with rfl | rfl
  · rw [if_pos (show nI 0 = 0 from rfl)]
    by_cases hc : el X N (rk X N - 1) = el Y N (rk X N - 1)
    · have hc2 : nI (el X N (rk X N - 1)) = nI (el Y N (rk X N - 1)) := by rw [hc]
      rw [if_pos hc2, if_pos (And.intro rfl hc)]
      unfold loB
      by_cases hq : (nI X &&& ((nI X ^^^ nI Y) &&& (-(nI X ^^^ nI Y)))) = 0
      · rw [if_pos hq, bso, if_pos (Or.inl rfl), decide_eq_true hq]; rfl
      · rw [if_neg hq, bso, if_pos (Or.inr rfl), decide_eq_false hq]; rfl
    · rw [if_neg (fun q => hc ((nI_eq (by omega) (by omega)).mp q)), if_neg (fun q => hc q.2)]
  · rw [if_neg (show ¬ nI 1 = 0 from n10), if_neg (fun q => absurd q.1 (by omega))]
theorem il_up {N X Y : Nat} (hN2 : N ≤ 12) (hX : X < 2 ^ N) (hY : Y < 2 ^ N) (hK : rk X N = rk Y N) {i : Nat} (hi : i < rk X N) (hne : el X N i ≠ el Y N i) (h2 : ∀ j, j < i → el X N j = el Y N j) : loB X Y = decide (el X N i < el Y N i) := by
  have hp := pow_le12 hN2
  have hk := rk_le X N
  have a := el_sp hi
  have b := el_sp (s := Y) (n := N) (i := i) (by omega)
  rcases Nat.lt_or_gt_of_ne hne with h | h
  · obtain ⟨q1, q2, q3⟩ := lo_diff hX hY hK hi h h2
    rw [decide_eq_true h, loB_b (by omega) (by omega) (by omega) (by rw [q1, q2]; decide) q3, q1]
  · obtain ⟨q1, q2, q3⟩ := lo_diff hY hX hK.symm (by omega) h (fun j hj => (h2 j hj).symm)
    rw [decide_eq_false (by omega), loB_b (b := el Y N i) (by omega) (by omega) (by omega) (by rw [q1, q2]; decide) (fun j hj => (q3 j hj).symm), q2]
theorem il_dn {N X Y : Nat} (hX : X < 2 ^ N) (hY : Y < 2 ^ N) (hK : rk X N = rk Y N) {i : Nat} (hi : i < rk X N) (hne : el X N i ≠ el Y N i) (h2 : ∀ j, i < j → j < rk X N → el X N j = el Y N j) : decide (X < Y) = decide (el X N i < el Y N i) := by
  rcases Nat.lt_or_gt_of_ne hne with h | h
  · rw [decide_eq_true h, decide_eq_true (hi_less hX hY hK hi h h2)]
  · have := hi_less hY hX hK.symm (by omega) h (fun j h3 h4 => (h2 j h3 (by omega)).symm)
    rw [decide_eq_false (by omega), decide_eq_false (by omega)]
theorem il_m {N rule X Y : Nat} {f g : Nat → Int32} (hN2 : N ≤ 12) (hX : X < 2 ^ N) (hY : Y < 2 ^ N) (hK : rk X N = rk Y N) (h0 : 0 < rk X N) (hr : rule < 2) (hz : el X N 0 = el Y N 0) (hf : ∀ j, j < rk X N → f j = nI (el Y N j)) (hg : ∀ j, j < rk X N → g j = nI (el X N j)) : FX6_isLess (nI (rk X N)) f g (nI rule) = some (b1 (lsr N rule X Y)) := by
  have hk := rk_le X N
  have xl : ∀ j, j < rk X N → el X N j < N := fun j hj => (el_sp hj).1
  have yl : ∀ j, j < rk X N → el Y N j < N := fun j hj => (el_sp (s := Y) (n := N) (i := j) (by omega)).1
  have e1 : nI (rk X N) - (1 : Int32) = nI (rk X N - 1) := pk_sub (b := 1) h0
  have x1 := xl (rk X N - 1) (by omega)
  have y1 := yl (rk X N - 1) (by omega)
  have cmp : ∀ j, j < rk X N → (if nI (el Y N j) ≤ nI (el X N j) then some (0 : Int32) else some 1) = some (b1 (decide (el X N j < el Y N j))) := by
    intro j hj
    have := xl j hj
    have := yl j hj
    by_cases hc : el X N j < el Y N j
    · rw [if_neg (nI_ge hc (by omega)), decide_eq_true hc]; rfl
    · rw [if_pos (nI_le (by omega) (by omega)), decide_eq_false hc]; rfl
  unfold FX6_isLess
  rw [e1]
  have hin : ¬ (nI (rk X N - 1) < 0 ∨ 12 ≤ (nI (rk X N - 1)).toNatClampNeg) := nI_in (by omega) (by omega)
  rw [if_neg hin, if_neg hin, if_neg hin, if_neg hin, nI_clamp (n := rk X N - 1) (by omega), hf (rk X N - 1) (by omega), hg (rk X N - 1) (by omega), cmp (rk X N - 1) (by omega)]
  by_cases hc : el X N (rk X N - 1) = el Y N (rk X N - 1)
  · have hc2 : nI (el X N (rk X N - 1)) = nI (el Y N (rk X N - 1)) := by rw [hc]
    rw [if_pos hc2]
    have s80 : ∀ v j, j < rk X N → X6_isLess_80 f g v (nI j) = if el X N j = el Y N j then some (.inl (v + 1)) else some (.inr (.inl (nI j))) := by
      intro v j hj
      have := xl j hj
      have := yl j hj
      unfold X6_isLess_80
      rw [if_neg (nI_in (by omega) (by omega)), if_neg (nI_in (by omega) (by omega)), nI_clamp (by omega), hf j hj, hg j hj]
      by_cases hq : el X N j = el Y N j
      · have hq2 : nI (el X N j) = nI (el Y N j) := by rw [hq]
        rw [if_pos hq2, if_pos hq]
      · rw [if_neg (fun q => hq ((nI_eq (by omega) (by omega)).mp q)), if_neg hq]
    have s96 : ∀ j, j < rk X N → X6_isLess_96 f g (nI j) = some (b1 (decide (el X N j < el Y N j))) := by
      intro j hj
      unfold X6_isLess_96
      rw [if_neg (nI_in (by omega) (by omega)), if_neg (nI_in (by omega) (by omega)), nI_clamp (by omega), hf j hj, hg j hj, cmp j hj]
    rcases (show rule = 0 ∨ rule = 1 by omega) with rfl | rfl
    · have hl : ∃ r, X6_isLess_58_l (nI (rk X N)) f g (nI 0) 1 = some r ∧ Sum.elim (fun xy => X6_isLess_96 f g xy) (fun _ => X6_isLess_123) r = some (b1 (loB X Y)) := by
        unfold X6_isLess_58_l
        refine loop_ex (fun r : Int32 ⊕ Unit => Sum.elim (fun xy => X6_isLess_96 f g xy) (fun _ => X6_isLess_123) r = some (b1 (loB X Y))) (rk X N - 1) FU (fun i z => z = nI (i + 1) ∧ ∀ j, j < i + 1 → el X N j = el Y N j) 1 (FU_big (by omega)) ?_ ?_ ⟨rfl, fun j hj => by rw [show j = 0 by omega]; exact hz⟩
        · rintro i z hi ⟨rfl, q⟩
          unfold X6_isLess_58_s
          rw [if_neg (nI_ge (by omega) (by omega)), if_pos (show nI 0 = 0 from rfl), s80 _ _ (by omega), nI_1]
          by_cases hq : el X N (i + 1) = el Y N (i + 1)
          · rw [if_pos hq]
            refine Or.inr ⟨_, rfl, rfl, ?_⟩
            intro j hj
            by_cases h : j = i + 1
            · subst h; exact hq
            · exact q j (by omega)
          · rw [if_neg hq]
            refine Or.inl ⟨_, rfl, ?_⟩
            show X6_isLess_96 f g (nI (i + 1)) = _
            rw [s96 _ (by omega), il_up hN2 hX hY hK (by omega) hq q]
        · rintro z ⟨rfl, q⟩
          unfold X6_isLess_58_s
          rw [if_pos (nI_le (by omega) (by omega))]
          refine ⟨_, rfl, ?_⟩
          have hE : X = Y := set_eq hX hY hK (fun i hi => q i (by omega))
          rw [hE, loB_same]
          rfl
      obtain ⟨r, e, hr2⟩ := hl
      rw [e, bso, hr2]
      unfold lsr
      rw [if_pos (And.intro rfl hc)]
    · have hl : ∃ r, X6_isLess_58_l (nI (rk X N)) f g (nI 1) 1 = some r ∧ Sum.elim (fun xy => X6_isLess_96 f g xy) (fun _ => X6_isLess_123) r = some (b1 (decide (X < Y))) := by
        unfold X6_isLess_58_l
        refine loop_ex (fun r : Int32 ⊕ Unit => Sum.elim (fun xy => X6_isLess_96 f g xy) (fun _ => X6_isLess_123) r = some (b1 (decide (X < Y)))) (rk X N - 1) FU (fun i z => z = nI (i + 1) ∧ ∀ j, rk X N - (i + 1) < j → j < rk X N → el X N j = el Y N j) 1 (FU_big (by omega)) ?_ ?_ ⟨rfl, fun j h1 h2 => by omega⟩
        · rintro i z hi ⟨rfl, q⟩
          unfold X6_isLess_58_s
          rw [if_neg (nI_ge (by omega) (by omega)), if_neg (show ¬ nI 1 = 0 from n10), pk_sub (by omega), s80 _ _ (by omega), nI_1]
          by_cases hq : el X N (rk X N - (i + 1)) = el Y N (rk X N - (i + 1))
          · rw [if_pos hq]
            refine Or.inr ⟨_, rfl, rfl, ?_⟩
            intro j h1 h2
            by_cases h : j = rk X N - (i + 1)
            · subst h; exact hq
            · exact q j (by omega) h2
          · rw [if_neg hq]
            refine Or.inl ⟨_, rfl, ?_⟩
            show X6_isLess_96 f g (nI (rk X N - (i + 1))) = _
            rw [s96 _ (by omega), il_dn hX hY hK (by omega) hq q]
        · rintro z ⟨rfl, q⟩
          unfold X6_isLess_58_s
          rw [if_pos (nI_le (by omega) (by omega))]
          refine ⟨_, rfl, ?_⟩
          have hE : X = Y := set_eq hX hY hK (fun i hi => by
            by_cases h : i = 0
            · subst h; exact hz
            · exact q i (by omega) hi)
          rw [hE, decide_eq_false (Nat.lt_irrefl Y)]
          rfl
      obtain ⟨r, e, hr2⟩ := hl
      rw [e, bso, hr2]
      unfold lsr
      rw [if_neg (fun q => absurd q.1 (by omega))]
  · rw [if_neg (fun q => hc ((nI_eq (by omega) (by omega)).mp q))]
    unfold lsr
    rw [if_neg (fun q => hc q.2), il_dn hX hY hK (show rk X N - 1 < rk X N by omega) hc (fun j h1 h2 => by omega)]
