/-! rows: the class -/
def clr (S q : Nat) : Nat := S &&& (2 ^ q ^^^ (2 ^ 32 - 1))
theorem clr_nat {S q : Nat} (hq : q < 32) : nI S &&& (((1 : Int32) <<< (nI q &&& 31)) ^^^ (-1 : Int32)) = nI (clr S q) := by
  rw [n_one hq, show (-1 : Int32) = nI (2 ^ 32 - 1) from rfl, nx_xor, nx_and]; rfl
theorem clr_bit {S q j : Nat} (hS : S < 2 ^ 32) : (clr S q).testBit j = true ↔ S.testBit j = true ∧ q ≠ j := by
  unfold clr
  rw [Nat.testBit_and, Nat.testBit_xor, Nat.testBit_two_pow, Nat.testBit_two_pow_sub_one, Bool.and_eq_true]
  constructor
  · rintro ⟨a, b⟩
    refine ⟨a, ?_⟩
    intro e
    have := bit_lt hS a
    rw [decide_eq_true e, decide_eq_true this] at b
    cases b
  · rintro ⟨a, b⟩
    refine ⟨a, ?_⟩
    rw [decide_eq_false b, decide_eq_true (bit_lt hS a)]; rfl
theorem clr_lt {S q n : Nat} (hS : S < 2 ^ n) : clr S q < 2 ^ n := bit_and_lt hS
theorem gk_q {n d p U I : Nat} (hn : 0 < n) (hp : p < n) : gk n (d + 1) p U I = sm (fun q => if (!I.testBit ((q + (n - p)) % n) && !U.testBit q) = true then gk n d q (U ||| 2 ^ q) (I ||| 2 ^ ((q + (n - p)) % n)) else 0) n := by
  rw [gk_s]
  have e1 : ∀ i, i < n → ((p + i) % n + (n - p)) % n = i := by
    intro i hi
    rw [Nat.mod_add_mod, show p + i + (n - p) = i + n by omega, Nat.add_mod_right, Nat.mod_eq_of_lt hi]
  have e2 : ∀ q, q < n → (p + (q + (n - p)) % n) % n = q := by
    intro q hq
    rw [Nat.add_mod_mod, show p + (q + (n - p)) = q + n by omega, Nat.add_mod_right, Nat.mod_eq_of_lt hq]
  rw [sm_perm (n := n) (f := fun q => if (!I.testBit ((q + (n - p)) % n) && !U.testBit q) = true then gk n d q (U ||| 2 ^ q) (I ||| 2 ^ ((q + (n - p)) % n)) else 0) (φ := fun i => (p + i) % n) (ψ := fun q => (q + (n - p)) % n) (fun _ _ => Nat.mod_lt _ hn) (fun _ _ => Nat.mod_lt _ hn) e2 e1]
  apply sm_congr
  intro i hi
  show _ = if (!I.testBit (((p + i) % n + (n - p)) % n) && !U.testBit ((p + i) % n)) = true then gk n d ((p + i) % n) (U ||| 2 ^ ((p + i) % n)) (I ||| 2 ^ (((p + i) % n + (n - p)) % n)) else 0
  rw [e1 i hi]
  rfl
theorem e33 {n p S J l R : Nat} {v5 : Int32} {rec : Int32 → Int32 → Int32 → Int32 → Int32 → Option Int32} {G : Nat → Nat} (hn : 0 < n) (hn2 : n ≤ 12) (hp : p < n) (hR : R < 2 ^ n) (hv : v5 = nI R) (h0 : R.testBit 0 = false) (hrec : ∀ q, q < n → R.testBit q = true → q ≠ p ∧ rec (nI n) (nI q) (nI (clr S q)) (nI (clr J ((q + (n - p)) % n))) (nI l) = some (nI (G q))) : X4_endings_33_l (nI n) (nI p) (nI S) (nI J) (nI (l + 1)) rec v5 0 1 = some (nI (sm (fun q => if R.testBit q = true then G q else 0) n)) := by
  have hp12 := pow_le12 hn2
  subst hv
  unfold X4_endings_33_l
  refine loop_at _ (n - 1) FU (fun i => (nI (sm (fun q => if R.testBit q = true then G q else 0) (i + 1)), nI (i + 1))) _ ?_ (FU_big (by omega)) ?_ ?_
  · show (nI (0 + if R.testBit 0 = true then G 0 else 0), nI (0 + 1)) = _
    rw [h0]; rfl
  · intro i hi
    show X4_endings_33_s (nI n) (nI p) (nI S) (nI J) (nI (l + 1)) rec (nI R) (nI (sm (fun q => if R.testBit q = true then G q else 0) (i + 1))) (nI (i + 1)) = _
    unfold X4_endings_33_s
    rw [if_neg (nI_ge (by omega) (by omega)), sm_s _ (i + 1)]
    by_cases hb : R.testBit (i + 1) = true
    · rw [if_pos ((n_bit (by omega) (by omega)).mpr hb), if_pos hb]
      obtain ⟨hqp, hr⟩ := hrec (i + 1) (by omega) hb
      have hl : nI (l + 1) - (1 : Int32) = nI l := pk_sub (b := 1) (by omega)
      unfold X4_endings_69
      rcases Nat.lt_or_ge p (i + 1) with q | q
      · have e : (i + 1 + (n - p)) % n = i + 1 - p := by
          rw [show i + 1 + (n - p) = (i + 1 - p) + n by omega, Nat.add_mod_right, Nat.mod_eq_of_lt (by omega)]
        rw [e] at hr
        rw [if_neg (nI_ge q (by omega)), pk_sub (by omega), clr_nat (by omega), clr_nat (by omega), hl, hr, bso, nI_add, nI_1]
      · have e : (i + 1 + (n - p)) % n = i + 1 + n - p := by
          rw [show i + 1 + (n - p) = i + 1 + n - p by omega, Nat.mod_eq_of_lt (by omega)]
        rw [e] at hr
        rw [if_pos (nI_le (by omega) (by omega)), sa_nI (by omega), clr_nat (by omega), clr_nat (by omega), hl, hr, bso, nI_add, nI_1]
    · rw [if_neg (fun z => hb ((n_bit (by omega) (by omega)).mp z)), if_neg hb, nI_1]
      rfl
  · show X4_endings_33_s (nI n) (nI p) (nI S) (nI J) (nI (l + 1)) rec (nI R) _ (nI (n - 1 + 1)) = _
    unfold X4_endings_33_s
    rw [if_pos (nI_le (by omega) (by omega)), show n - 1 + 1 = n by omega]
theorem end_nat {n h : Nat} (hn2 : n ≤ 12) (hh : h < n) : ∀ l F p U I S J, l < F → p < n → U.testBit p = true → U.testBit 0 = true → U.testBit h = false → uc n I = l + 1 → (p + un n I) % n = h → S < 2 ^ n → J < 2 ^ n → (∀ q, q < n → (S.testBit q = true ↔ U.testBit q = false ∧ q ≠ h)) → (∀ i, i < n → (J.testBit i = true ↔ I.testBit i = false ∧ i ≠ 0)) → FX4_endings F (nI n) (nI p) (nI S) (nI J) (nI l) = some (nI (gk n (l + 1) p U I))
  | 0, F, p, U, I, S, J, hF, hp, hU, hU0, hUh, hc, hs, _, _, _, _ => by
    obtain ⟨F, rfl⟩ : ∃ G, F = G + 1 := ⟨F - 1, by omega⟩
    show FX4_endings_b (FX4_endings F) (nI n) (nI p) (nI S) (nI J) (nI 0) = _
    unfold FX4_endings_b
    rw [if_neg (show ¬ (0 : Int32) < nI 0 by decide)]
    have e : gk n (0 + 1) p U I = 1 := by
      rw [gk_s]
      have : sm (fun i => if frq n p U I i = true then gk n 0 ((p + i) % n) (U ||| 2 ^ ((p + i) % n)) (I ||| 2 ^ i) else 0) n = cb (uq I) n := by
        rw [← sm_ind]
        apply sm_congr
        intro i hi
        show (if frq n p U I i = true then 1 else 0) = _
        have : frq n p U I i = uq I i := by
          apply bool_ext
          constructor
          · intro z
            have i0 := frq_0 hp hU z
            unfold uq
            rw [decide_eq_false i0, (frq_iff.mp z).1]; rfl
          · intro z
            unfold uq at z
            rw [Bool.and_eq_true, Bool.not_eq_true', Bool.not_eq_true', decide_eq_false_iff_not] at z
            refine frq_iff.mpr ⟨z.2, ?_⟩
            have c1 := uc_s hi z.1 z.2
            have s1 := un_s hi z.2
            rw [un_0 (n := n) (I := I ||| 2 ^ i) (by omega), Nat.zero_add] at s1
            rw [← s1, hs]; exact hUh
        rw [this]
      rw [this]; exact hc
    rw [e]; rfl
  | l + 1, F, p, U, I, S, J, hF, hp, hU, hU0, hUh, hc, hs, hS, hJ, hSq, hJq => by
    obtain ⟨F, rfl⟩ : ∃ G, F = G + 1 := ⟨F - 1, by omega⟩
    have hn : 0 < n := by omega
    have hp12 := pow_le12 hn2
    show FX4_endings_b (FX4_endings F) (nI n) (nI p) (nI S) (nI J) (nI (l + 1)) = _
    have hRd : ((nI J <<< (nI p &&& 31)) ||| (nI J >>> ((nI n - nI p) &&& 31))) &&& nI S = nI (rot n J p &&& S) := by
      have hb : J * 2 ^ p < 2 ^ 32 := by
        have : 2 ^ p ≤ 2 ^ 12 := Nat.pow_le_pow_right (by omega) (by omega)
        calc J * 2 ^ p ≤ 4096 * 2 ^ 12 := Nat.mul_le_mul (by omega) this
          _ < 2 ^ 32 := by decide
      rw [n_shl (by omega) hb, pk_sub (by omega), n_shr (by omega) (by omega), nx_or, nx_and]
      congr 1
      apply bit_ext
      intro j
      unfold rot
      rw [Nat.testBit_and, Nat.testBit_and, Nat.testBit_and, Nat.testBit_two_pow_sub_one, Bool.and_eq_true, Bool.and_eq_true, Bool.and_eq_true]
      constructor
      · rintro ⟨a, b⟩
        exact ⟨⟨a, decide_eq_true (bit_lt hS b)⟩, b⟩
      · rintro ⟨⟨a, _⟩, b⟩
        exact ⟨a, b⟩
    have hRl : rot n J p &&& S < 2 ^ n := by rw [Nat.and_comm]; exact bit_and_lt hS
    have hRb : ∀ q, q < n → ((rot n J p &&& S).testBit q = true ↔ (I.testBit ((q + (n - p)) % n) = false ∧ (q + (n - p)) % n ≠ 0) ∧ (U.testBit q = false ∧ q ≠ h)) := by
      intro q hq
      rw [Nat.testBit_and, Bool.and_eq_true, rot_bit hn hJ (by omega), hSq q hq, hJq _ (Nat.mod_lt _ hn)]
      exact ⟨fun z => ⟨z.1.2, z.2⟩, fun z => ⟨⟨hq, z.1⟩, z.2⟩⟩
    have hqp : ∀ q, q < n → U.testBit q = false → q ≠ p := by
      intro q hq z e
      rw [e, hU] at z; cases z
    have hi0 : ∀ q, q < n → q ≠ p → (q + (n - p)) % n ≠ 0 := by
      intro q hq hne e
      have e2 : (p + (q + (n - p)) % n) % n = q := by
        rw [Nat.add_mod_mod, show p + (q + (n - p)) = q + n by omega, Nat.add_mod_right, Nat.mod_eq_of_lt hq]
      rw [e, Nat.add_zero, Nat.mod_eq_of_lt hp] at e2
      exact hne e2.symm
    have hsum : gk n (l + 1 + 1) p U I = sm (fun q => if (rot n J p &&& S).testBit q = true then gk n (l + 1) q (U ||| 2 ^ q) (I ||| 2 ^ ((q + (n - p)) % n)) else 0) n := by
      rw [gk_q hn hp]
      apply sm_congr
      intro q hq
      by_cases hb : (rot n J p &&& S).testBit q = true
      · obtain ⟨⟨b1, b2⟩, b3, b4⟩ := (hRb q hq).mp hb
        rw [if_pos hb, b1, b3]; rfl
      · rw [if_neg hb]
        by_cases hc2 : (!I.testBit ((q + (n - p)) % n) && !U.testBit q) = true
        · rw [if_pos hc2]
          rw [Bool.and_eq_true, Bool.not_eq_true', Bool.not_eq_true'] at hc2
          have hne := hqp q hq hc2.2
          have hne0 := hi0 q hq hne
          have hqh : q = h := by
            apply Classical.byContradiction
            intro z
            exact hb ((hRb q hq).mpr ⟨⟨hc2.1, hne0⟩, hc2.2, z⟩)
          have hil : (q + (n - p)) % n < n := Nat.mod_lt _ hn
          have c1 := uc_s hil hne0 hc2.1
          have s1 := un_s hil hc2.1
          have e2 : (p + (q + (n - p)) % n) % n = q := by
            rw [Nat.add_mod_mod, show p + (q + (n - p)) = q + n by omega, Nat.add_mod_right, Nat.mod_eq_of_lt hq]
          apply gk_z (h := h) _ _ _ _ hq (orb_t _ _) (by rw [hqh]; exact orb_t _ _) (by omega) _ (by omega)
          rw [← hs, s1, show p + (un n (I ||| 2 ^ ((q + (n - p)) % n)) + (q + (n - p)) % n) = (p + (q + (n - p)) % n) + un n (I ||| 2 ^ ((q + (n - p)) % n)) by omega, ← Nat.mod_add_mod (p + (q + (n - p)) % n), e2]
        · rw [if_neg hc2]
    unfold FX4_endings_b
    rw [if_pos (show (0 : Int32) < nI (l + 1) from nI_lt (a := 0) (by omega) (by
      have := cb_le (uq I) n
      unfold uc at hc
      omega)), hRd, hsum]
    by_cases hz : rot n J p &&& S = 0
    · rw [if_pos (by rw [hz]; rfl), hz]
      have : sm (fun q => if (0 : Nat).testBit q = true then gk n (l + 1) q (U ||| 2 ^ q) (I ||| 2 ^ ((q + (n - p)) % n)) else 0) n = sm (fun _ => 0) n := by
        apply sm_congr
        intro q _
        rw [Nat.zero_testBit]; rfl
      rw [this, sm_0]; rfl
    · rw [if_neg (nI_ne0 (by omega) (by omega)), e33 (R := rot n J p &&& S) (G := fun q => gk n (l + 1) q (U ||| 2 ^ q) (I ||| 2 ^ ((q + (n - p)) % n))) hn hn2 hp hRl rfl]
      · rfl
      · cases hb : (rot n J p &&& S).testBit 0 with
        | false => rfl
        | true =>
          have := ((hRb 0 hn).mp hb).2.1
          rw [hU0] at this; cases this
      · intro q hq hb
        obtain ⟨⟨b1, b2⟩, b3, b4⟩ := (hRb q hq).mp hb
        have hil : (q + (n - p)) % n < n := Nat.mod_lt _ hn
        have c1 := uc_s hil b2 b1
        have s1 := un_s hil b1
        have e2 : (p + (q + (n - p)) % n) % n = q := by
          rw [Nat.add_mod_mod, show p + (q + (n - p)) = q + n by omega, Nat.add_mod_right, Nat.mod_eq_of_lt hq]
        refine ⟨hqp q hq b3, ?_⟩
        apply end_nat hn2 hh l F q (U ||| 2 ^ q) (I ||| 2 ^ ((q + (n - p)) % n)) (clr S q) (clr J ((q + (n - p)) % n)) (by omega) hq (orb_t _ _) (or_bit.mpr (Or.inl hU0)) (by rw [orb_f b4]; exact hUh) (by omega) _ (clr_lt hS) (clr_lt hJ)
        · intro x hx
          rw [clr_bit (by omega), hSq x hx]
          by_cases hxq : q = x
          · subst hxq
            exact ⟨fun z => absurd rfl z.2, fun z => by rw [orb_t] at z; cases z.1⟩
          · rw [orb_f hxq]
            exact ⟨fun z => z.1, fun z => ⟨z, hxq⟩⟩
        · intro x hx
          rw [clr_bit (by omega), hJq x hx]
          by_cases hxq : (q + (n - p)) % n = x
          · subst hxq
            exact ⟨fun z => absurd rfl z.2, fun z => by rw [orb_t] at z; cases z.1⟩
          · rw [orb_f hxq]
            exact ⟨fun z => z.1, fun z => ⟨z, hxq⟩⟩
        · rw [← hs, s1, show p + (un n (I ||| 2 ^ ((q + (n - p)) % n)) + (q + (n - p)) % n) = (p + (q + (n - p)) % n) + un n (I ||| 2 ^ ((q + (n - p)) % n)) by omega, ← Nat.mod_add_mod (p + (q + (n - p)) % n), e2]
/- the search -/
def sS (n : Nat) : Nat := clr (2 ^ n - 2) (n / 2)
theorem s_f1 : ∀ n, n < 13 → 4 ≤ n → n % 2 = 0 → ∀ f, f < n / 2 → 0 < f → (1 ||| 2 ^ f).testBit (n / 2) = false := by decide +kernel
theorem s_f2 : ∀ n, n < 13 → 4 ≤ n → n % 2 = 0 → ∀ f, f < n / 2 → 0 < f → uc n (0 ||| 2 ^ f) = n - 3 + 1 := by decide +kernel
theorem s_f3 : ∀ n, n < 13 → 4 ≤ n → n % 2 = 0 → ∀ f, f < n / 2 → 0 < f → (f + un n (0 ||| 2 ^ f)) % n = n / 2 := by decide +kernel
theorem s_f4 : ∀ n, n < 13 → 4 ≤ n → n % 2 = 0 → ∀ f, f < n / 2 → 0 < f → clr (sS n) f < 2 ^ n := by decide +kernel
theorem s_f5 : ∀ n, n < 13 → 4 ≤ n → n % 2 = 0 → ∀ f, f < n / 2 → 0 < f → clr (2 ^ n - 2) f < 2 ^ n := by decide +kernel
theorem s_f6 : ∀ n, n < 13 → 4 ≤ n → n % 2 = 0 → ∀ f, f < n / 2 → 0 < f → allB (fun q => decide ((clr (sS n) f).testBit q = (!(1 ||| 2 ^ f).testBit q && !decide (q = n / 2)))) n = true := by decide +kernel
theorem s_f7 : ∀ n, n < 13 → 4 ≤ n → n % 2 = 0 → ∀ f, f < n / 2 → 0 < f → allB (fun q => decide ((clr (2 ^ n - 2) f).testBit q = (!(0 ||| 2 ^ f).testBit q && !decide (q = 0)))) n = true := by decide +kernel
theorem nn_iff {a b : Bool} {P : Prop} [Decidable P] (h : a = (!b && !decide P)) : a = true ↔ b = false ∧ ¬ P := by
  rw [h, Bool.and_eq_true, Bool.not_eq_true', Bool.not_eq_true', decide_eq_false_iff_not]
theorem s_end {n f : Nat} (hn : n < 13) (h4 : 4 ≤ n) (he : n % 2 = 0) (hf : f < n / 2) (hf0 : 0 < f) : FX4_endings 12 (nI n) (nI f) (nI (clr (sS n) f)) (nI (clr (2 ^ n - 2) f)) (nI n - 3) = some (nI (FF n f)) := by
  have e : nI n - (3 : Int32) = nI (n - 3) := pk_sub (b := 3) (by omega)
  rw [e]
  have := end_nat (n := n) (h := n / 2) (by omega) (by omega) (n - 3) 12 f (1 ||| 2 ^ f) (0 ||| 2 ^ f) _ _ (by omega) (by omega) (orb_t _ _) (or_bit.mpr (Or.inl rfl)) (s_f1 n hn h4 he f hf hf0) (s_f2 n hn h4 he f hf hf0) (s_f3 n hn h4 he f hf hf0) (s_f4 n hn h4 he f hf hf0) (s_f5 n hn h4 he f hf hf0) (fun q hq => nn_iff (of_decide_eq_true (allB_iff.mp (s_f6 n hn h4 he f hf hf0) q hq))) (fun q hq => nn_iff (of_decide_eq_true (allB_iff.mp (s_f7 n hn h4 he f hf hf0) q hq)))
  rw [this]
  unfold FF
  rw [show n - 3 + 1 = n - 2 by omega]
def al (n f : Nat) : Nat := cb (fun s => !decide (s = 0) && decide (Nat.gcd s n = f)) n
theorem al_nat {n f : Nat} (hn : 0 < n) (hn2 : n < 13) (hf : f < 13) : FX4_alikeFirst (nI n) (nI f) = some (nI (al n f)) := by
  unfold FX4_alikeFirst
  have this : X4_alikeFirst_4_l (nI n) (nI f) 0 1 = some (nI (al n f)) := by
    unfold X4_alikeFirst_4_l al
    refine loop_at (nI (cb (fun s => !decide (s = 0) && decide (Nat.gcd s n = f)) n)) (n - 1) FU (fun i => (nI (cb (fun s => !decide (s = 0) && decide (Nat.gcd s n = f)) (i + 1)), nI (i + 1))) _ rfl (FU_big (by omega)) ?_ ?_
    · intro i hi
      show X4_alikeFirst_4_s (nI n) (nI f) (nI (cb (fun s => !decide (s = 0) && decide (Nat.gcd s n = f)) (i + 1))) (nI (i + 1)) = _
      unfold X4_alikeFirst_4_s
      have hg : Nat.gcd (i + 1) n ≤ n := Nat.gcd_le_right _ hn
      rw [if_neg (nI_ge (by omega) (by omega)), gcd_c n hn2 hn (i + 1) (by omega), bso, nI_dec (by omega) (by omega), nI_1, nI_1, cb_s _ (i + 1), decide_eq_false (show ¬ i + 1 = 0 by omega), Bool.not_false, Bool.true_and]
      cases decide (Nat.gcd (i + 1) n = f) with
      | true => rfl
      | false => rfl
    · show X4_alikeFirst_4_s (nI n) (nI f) _ (nI (n - 1 + 1)) = _
      unfold X4_alikeFirst_4_s
      rw [if_pos (nI_le (by omega) (by omega)), show n - 1 + 1 = n by omega]
  rw [this]; rfl
def srF (F : Nat → Nat) (n i : Nat) : Nat := if n % (i + 1) = 0 then al n (i + 1) * F (i + 1) else 0
def srt (n : Nat) : Nat → Nat := srF (FF n) n
theorem srch {n : Nat} (hn : n < 13) (h4 : 4 ≤ n) (he : n % 2 = 0) : FX4_search (nI n) = some (nI (sm (srt n) (n / 2 - 1))) := by
  have h2 : nI n / (2 : Int32) = nI (n / 2) := pk_div (d := 2) (by omega) (by omega) (by omega)
  have hp : 4 ≤ 2 ^ n := Nat.le_trans (by decide : 4 ≤ 2 ^ 2) (Nat.pow_le_pow_right (by omega) (by omega))
  have h3 : nI (2 ^ n) - (2 : Int32) = nI (2 ^ n - 2) := pk_sub (b := 2) (by omega)
  have hS : ∀ n, n < 13 → 4 ≤ n → n % 2 = 0 → ¬ nI (sS n) = 0 := by decide +kernel
  unfold FX4_search
  rw [h2, n_one (by omega), h3, clr_nat (by omega)]
  show (if nI (sS n) = 0 then _ else (X4_search_27_l (nI n) (nI (2 ^ n - 2)) (nI (sS n)) 0 1).bind _) = _
  rw [if_neg (hS n hn h4 he)]
  have this : X4_search_27_l (nI n) (nI (2 ^ n - 2)) (nI (sS n)) 0 1 = some (nI (sm (srt n) (n / 2 - 1))) := by
    unfold X4_search_27_l
    refine loop_at (nI (sm (srt n) (n / 2 - 1))) (n / 2 - 1) FU (fun i => (nI (sm (srt n) i), nI (i + 1))) _ rfl (FU_big (by omega)) ?_ ?_
    · intro i hi
      show X4_search_27_s (nI n) (nI (2 ^ n - 2)) (nI (sS n)) (nI (sm (srt n) i)) (nI (i + 1)) = _
      unfold X4_search_27_s
      rw [h2, if_neg (nI_ge (by omega) (by omega)), if_neg (nI_ne0 (by omega) (by omega)), pk_rem (by omega) (by omega) (by omega), clr_nat (by omega), clr_nat (by omega), s_end hn h4 he (by omega) (by omega), al_nat (by omega) hn (by omega), bso, bso, sm_s, nI_1]
      by_cases hz : n % (i + 1) = 0
      · have e : srt n i = al n (i + 1) * FF n (i + 1) := if_pos hz
        rw [if_pos (by rw [hz]; rfl), pk_mul, nI_add, e]
      · have e : srt n i = 0 := if_neg hz
        have := Nat.mod_lt n (show 0 < i + 1 by omega)
        rw [if_neg (nI_ne0 (by omega) (by omega)), e]; rfl
    · show X4_search_27_s (nI n) (nI (2 ^ n - 2)) (nI (sS n)) _ (nI (n / 2 - 1 + 1)) = _
      unfold X4_search_27_s
      rw [h2, if_pos (nI_le (by omega) (by omega))]
  rw [this]; rfl
theorem sm_g1 (F : Nat → Nat) : sm F 1 = F 0 := by
  show 0 + F 0 = _
  omega
theorem sm_g2 (F : Nat → Nat) : sm F 2 = F 0 + F 1 := by
  show 0 + F 0 + F 1 = _
  omega
theorem sm_g3 (F : Nat → Nat) : sm F 3 = F 0 + F 1 + F 2 := by
  show 0 + F 0 + F 1 + F 2 = _
  omega
theorem sm_g4 (F : Nat → Nat) : sm F 4 = F 0 + F 1 + F 2 + F 3 := by
  show 0 + F 0 + F 1 + F 2 + F 3 = _
  omega
theorem sm_g5 (F : Nat → Nat) : sm F 5 = F 0 + F 1 + F 2 + F 3 + F 4 := by
  show 0 + F 0 + F 1 + F 2 + F 3 + F 4 = _
  omega
theorem srF_t {F : Nat → Nat} {n i a : Nat} (h : n % (i + 1) = 0) (ha : al n (i + 1) = a) : srF F n i = a * F (i + 1) := by
  unfold srF; rw [if_pos h, ha]
theorem srF_f {F : Nat → Nat} {n i : Nat} (h : n % (i + 1) ≠ 0) : srF F n i = 0 := if_neg h
theorem srF_4 (F : Nat → Nat) : sm (srF F 4) 1 = 2 * F 1 := by
  rw [sm_g1]
  have x0 : srF F 4 0 = 2 * F 1 := srF_t (by decide) (by decide +kernel)
  omega
theorem srF_6 (F : Nat → Nat) : sm (srF F 6) 2 = 2 * F 1 + 2 * F 2 := by
  rw [sm_g2]
  have x0 : srF F 6 0 = 2 * F 1 := srF_t (by decide) (by decide +kernel)
  have x1 : srF F 6 1 = 2 * F 2 := srF_t (by decide) (by decide +kernel)
  omega
theorem srF_8 (F : Nat → Nat) : sm (srF F 8) 3 = 4 * F 1 + 2 * F 2 := by
  rw [sm_g3]
  have x0 : srF F 8 0 = 4 * F 1 := srF_t (by decide) (by decide +kernel)
  have x1 : srF F 8 1 = 2 * F 2 := srF_t (by decide) (by decide +kernel)
  have x2 : srF F 8 2 = 0 := srF_f (by decide)
  omega
theorem srF_10 (F : Nat → Nat) : sm (srF F 10) 4 = 4 * F 1 + 4 * F 2 := by
  rw [sm_g4]
  have x0 : srF F 10 0 = 4 * F 1 := srF_t (by decide) (by decide +kernel)
  have x1 : srF F 10 1 = 4 * F 2 := srF_t (by decide) (by decide +kernel)
  have x2 : srF F 10 2 = 0 := srF_f (by decide)
  have x3 : srF F 10 3 = 0 := srF_f (by decide)
  omega
theorem srF_12 (F : Nat → Nat) : sm (srF F 12) 5 = 4 * F 1 + 2 * F 2 + 2 * F 3 + 2 * F 4 := by
  rw [sm_g5]
  have x0 : srF F 12 0 = 4 * F 1 := srF_t (by decide) (by decide +kernel)
  have x1 : srF F 12 1 = 2 * F 2 := srF_t (by decide) (by decide +kernel)
  have x2 : srF F 12 2 = 2 * F 3 := srF_t (by decide) (by decide +kernel)
  have x3 : srF F 12 3 = 2 * F 4 := srF_t (by decide) (by decide +kernel)
  have x4 : srF F 12 4 = 0 := srF_f (by decide)
  omega
theorem srch_arc {n : Nat} (hn : n < 13) (h2 : 2 ≤ n) (he : n % 2 = 0) : FX4_search (nI n) = some (nI (arc n)) := by
  rcases (show n = 2 ∨ n = 4 ∨ n = 6 ∨ n = 8 ∨ n = 10 ∨ n = 12 by omega) with rfl | rfl | rfl | rfl | rfl | rfl
  · rw [arc_2]; rfl
  · have e := srch (n := 4) (by omega) (by omega) rfl
    rw [show 4 / 2 - 1 = 1 from rfl, show srt 4 = srF (FF 4) 4 from rfl, srF_4] at e
    rw [arc_4]
    exact e
  · have e := srch (n := 6) (by omega) (by omega) rfl
    rw [show 6 / 2 - 1 = 2 from rfl, show srt 6 = srF (FF 6) 6 from rfl, srF_6] at e
    rw [arc_6]
    exact e
  · have e := srch (n := 8) (by omega) (by omega) rfl
    rw [show 8 / 2 - 1 = 3 from rfl, show srt 8 = srF (FF 8) 8 from rfl, srF_8] at e
    rw [arc_8]
    exact e
  · have e := srch (n := 10) (by omega) (by omega) rfl
    rw [show 10 / 2 - 1 = 4 from rfl, show srt 10 = srF (FF 10) 10 from rfl, srF_10] at e
    rw [arc_10]
    exact e
  · have e := srch (n := 12) (by omega) (by omega) rfl
    rw [show 12 / 2 - 1 = 5 from rfl, show srt 12 = srF (FF 12) 12 from rfl, srF_12] at e
    rw [arc_12]
    exact e
