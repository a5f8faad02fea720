/-! counting: orbits and those that keep -/
theorem cb_rm {q : Nat → Bool} {j M : Nat} (hj : j < M) (h : q j = true) : cb q M = cb (fun i => q i && !decide (i = j)) M + 1 := by
  refine cb_up (j := j) ?_ h ?_ hj
  · simp
  · intro i hi; simp [hi]
theorem cb_inj : ∀ (n M : Nat) (p q : Nat → Bool) (φ : Nat → Nat), (∀ i, i < n → p i = true → φ i < M ∧ q (φ i) = true) → (∀ i j, i < n → j < n → p i = true → p j = true → φ i = φ j → i = j) → cb p n ≤ cb q M := by
  intro n
  induction n with
  | zero => intro M p q φ _ _; exact Nat.zero_le _
  | succ n ih =>
    intro M p q φ h1 h2
    rw [cb_s]
    by_cases hp : p n = true
    · rw [if_pos hp]
      obtain ⟨a1, a2⟩ := h1 n (by omega) hp
      rw [cb_rm a1 a2]
      have := ih M p (fun i => q i && !decide (i = φ n)) φ (fun i hi hpi => ?_) (fun i j hi hj => h2 i j (by omega) (by omega))
      · omega
      · obtain ⟨b1, b2⟩ := h1 i (by omega) hpi
        refine ⟨b1, ?_⟩
        have hne : φ i ≠ φ n := fun e => by
          have := h2 i n (by omega) (by omega) hpi hp e
          omega
        simp [b2, hne]
    · rw [if_neg hp]
      have := ih M p q φ (fun i hi => h1 i (by omega)) (fun i j hi hj => h2 i j (by omega) (by omega))
      omega
theorem cb_mono {p q : Nat → Bool} {n : Nat} (h : ∀ i, i < n → p i = true → q i = true) : cb p n ≤ cb q n := cb_inj n n p q id (fun i hi hp => ⟨hi, h i hi hp⟩) (fun _ _ _ _ _ _ e => e)
theorem cb_lt {p q : Nat → Bool} {n j : Nat} (h : ∀ i, i < n → p i = true → q i = true) (hj : j < n) (hp : p j = false) (hq : q j = true) : cb p n < cb q n := by
  rw [cb_rm hj hq]
  have := cb_mono (p := p) (q := fun i => q i && !decide (i = j)) (n := n) (fun i hi hpi => by
    have hne : i ≠ j := fun e => by rw [e, hp] at hpi; cases hpi
    simp [h i hi hpi, hne])
  omega
theorem cb_add (p : Nat → Bool) (a : Nat) : ∀ b, cb p (a + b) = cb p a + cb (fun i => p (a + i)) b := by
  intro b
  induction b with
  | zero => rfl
  | succ b ih => rw [show a + (b + 1) = (a + b) + 1 by omega, cb_s, cb_s, ih]; omega
def sm (f : Nat → Nat) : Nat → Nat
  | 0 => 0
  | k + 1 => sm f k + f k
theorem sm_s (f : Nat → Nat) (k : Nat) : sm f (k + 1) = sm f k + f k := rfl
theorem sm_congr {f g : Nat → Nat} : ∀ {n : Nat}, (∀ i, i < n → f i = g i) → sm f n = sm g n := by
  intro n
  induction n with
  | zero => intro _; rfl
  | succ n ih => intro h; rw [sm_s, sm_s, ih (fun i hi => h i (by omega)), h n (by omega)]
theorem sm_0 : ∀ n, sm (fun _ => 0) n = 0 := by
  intro n
  induction n with
  | zero => rfl
  | succ n ih => rw [sm_s, ih]
theorem sm_up {f g : Nat → Nat} {j : Nat} (h1 : g j = f j + 1) (h2 : ∀ i, i ≠ j → g i = f i) : ∀ {n : Nat}, j < n → sm g n = sm f n + 1 := by
  intro n
  induction n with
  | zero => intro h; omega
  | succ n ih =>
    intro h
    rw [sm_s, sm_s]
    by_cases e : j = n
    · subst e
      rw [h1, sm_congr (f := g) (g := f) (fun i hi => h2 i (by omega))]; omega
    · rw [ih (by omega), h2 n (fun q => e q.symm)]; omega
theorem sm_part {P : Nat → Bool} {f : Nat → Nat} {M : Nat} : ∀ (n : Nat), (∀ g, g < n → P g = true → f g < M) → cb P n = sm (fun x => cb (fun g => P g && decide (f g = x)) n) M := by
  intro n
  induction n with
  | zero => intro _; exact (sm_0 M).symm
  | succ n ih =>
    intro h
    have ih := ih (fun g hg => h g (by omega))
    rw [cb_s]
    by_cases hp : P n = true
    · rw [if_pos hp, ih]
      refine (sm_up (j := f n) ?_ ?_ (h n (by omega) hp)).symm
      · show cb _ (n + 1) = _
        rw [cb_s]; simp [hp]
      · intro x hx
        show cb _ (n + 1) = _
        rw [cb_s]; simp [hp, Ne.symm hx]
    · rw [if_neg hp, ih, Nat.add_zero]
      refine sm_congr (fun x _ => ?_)
      show _ = cb _ (n + 1)
      rw [cb_s]; simp [hp]
theorem sm_mul (p : Nat → Bool) (c : Nat) : ∀ n, sm (fun x => if p x = true then c else 0) n = c * cb p n := by
  intro n
  induction n with
  | zero => rfl
  | succ n ih => rw [sm_s, cb_s, ih, Nat.mul_add]; split <;> simp
/-- subset -/
def sb (a b : Nat) : Bool := decide (a &&& b = a)
theorem sb_iff {a b : Nat} : sb a b = true ↔ ∀ j, a.testBit j = true → b.testBit j = true := by
  unfold sb
  rw [decide_eq_true_eq]
  constructor
  · intro h j hj
    rw [← h, Nat.testBit_and, Bool.and_eq_true] at hj
    exact hj.2
  · intro h
    apply bit_ext
    intro j
    rw [Nat.testBit_and, Bool.and_eq_true]
    exact ⟨fun q => q.1, fun q => ⟨q, h j q⟩⟩
theorem sb_int {a b : Nat} (ha : a < 4096) (hb : b < 4096) : (nI a &&& (nI b ^^^ (-1 : Int32)) = 0) ↔ sb a b = true := by
  rw [show (-1 : Int32) = nI (2 ^ 32 - 1) from rfl, nx_xor, nx_and, show (0 : Int32) = nI 0 from rfl, nI_eq (Nat.lt_of_le_of_lt Nat.and_le_left (by omega)) (by omega), sb_iff]
  constructor
  · intro h j hj
    have h1 : (a &&& (b ^^^ (2 ^ 32 - 1))).testBit j = false := by rw [h]; exact Nat.zero_testBit j
    have hj2 : j < 12 := bit_lt (N := 12) (by omega) hj
    rw [Nat.testBit_and, Nat.testBit_xor, Nat.testBit_two_pow_sub_one, hj, decide_eq_true (show j < 32 by omega)] at h1
    simpa using h1
  · intro h
    apply Nat.eq_of_testBit_eq
    intro j
    rw [Nat.zero_testBit, Nat.testBit_and, Nat.testBit_xor, Nat.testBit_two_pow_sub_one]
    cases hj : a.testBit j with
    | false => rfl
    | true =>
      have hj2 : j < 12 := bit_lt (N := 12) (by omega) hj
      rw [h j hj, decide_eq_true (show j < 32 by omega)]
      rfl
/-- the inverse map on steps -/
theorem st_back {N kd m t : Nat} (hN : 0 < N) (hN2 : N ≤ 12) (hk : kd < 3) (hm : m < N) (hu : mu N kd m = true) : ∀ a b, a < N → b < N → (m * a + t) % N = (m * b + t) % N → a = b := by
  obtain ⟨m2, h1, h2, h3⟩ := mu_inv N (by omega) hN kd hk m hm hu
  intro a b ha hb e
  have key : ∀ c, c < N → (m2 * ((m * c + t) % N) + (N - m2 * t % N)) % N = c := by
    intro c hc
    have hl := Nat.mod_lt (m2 * t) hN
    rw [← Nat.mod_add_mod, Nat.mul_mod_mod, Nat.mod_add_mod, Nat.mul_add, ← Nat.mul_assoc, Nat.add_assoc, ← Nat.add_mod_mod, ← Nat.mod_add_mod (m2 * t) N, show m2 * t % N + (N - m2 * t % N) = N by omega, Nat.mod_self, Nat.add_zero, ← Nat.mod_mul_mod, h3, Nat.mod_mul_mod, Nat.one_mul, Nat.mod_eq_of_lt hc]
  have := key a ha
  rw [e, key b hb] at this
  exact this.symm
theorem bc_cb (x : Nat) : ∀ k, bc x k = cb (fun i => x.testBit i) k := by
  intro k
  induction k with
  | zero => rfl
  | succ k ih => rw [bc_s, cb_s, ih]
theorem mo_size1 {N kd s m t : Nat} (hN : 0 < N) (hN2 : N ≤ 12) (hk : kd < 3) (hm : m < N) (hu : mu N kd m = true) : bc s N ≤ bc (mo N s m t) N := by
  rw [bc_cb, bc_cb]
  refine cb_inj N N _ _ (fun a => (m * a + t) % N) (fun a ha hb => ⟨Nat.mod_lt _ hN, ?_⟩) (fun a b ha hb _ _ e => st_back hN hN2 hk hm hu a b ha hb e)
  exact (im_bit s _ _ N).mpr ⟨a, ha, hb, rfl⟩
theorem mo_size {N kd s m t : Nat} (hN : 0 < N) (hN2 : N ≤ 12) (hk : kd < 3) (hs : s < 2 ^ N) (hm : m < N) (ht : t < N) (hu : mu N kd m = true) : bc (mo N s m t) N = bc s N := by
  apply Nat.le_antisymm
  · obtain ⟨m2, t2, h1, h2, h3, h4⟩ := mo_back hN hN2 hk hm ht hu
    have := mo_size1 (s := mo N s m t) (t := t2) hN hN2 hk h1 h3
    rw [h4 s hs] at this
    exact this
  · exact mo_size1 hN hN2 hk hm hu
theorem sb_eq {N a b : Nat} (hb : b < 2 ^ N) (h : sb a b = true) (hc : bc a N = bc b N) : a = b := by
  rw [sb_iff] at h
  apply bit_ext
  intro j
  refine ⟨h j, fun hj => ?_⟩
  cases ha : a.testBit j with
  | true => rfl
  | false =>
    have := cb_lt (p := fun i => a.testBit i) (q := fun i => b.testBit i) (n := N) (j := j) (fun i _ hi => h i hi) (bit_lt hb hj) ha hj
    rw [← bc_cb, ← bc_cb] at this
    omega
theorem orb_size {N kd s x : Nat} (hN : 0 < N) (hN2 : N ≤ 12) (hk : kd < 3) (hs : s < 2 ^ N) (h : orb N kd s x) : bc x N = bc s N := by
  obtain ⟨m, t, hm, ht, hu, rfl⟩ := h
  exact mo_size hN hN2 hk hs hm ht hu
/-- the motions, one behind another -/
def vg (N kd g : Nat) : Bool := mu N kd (g / N)
def mg (N s g : Nat) : Nat := mo N s (g / N) (g % N)
def stb (N kd s : Nat) : Nat := cb (fun g => vg N kd g && decide (mg N s g = s)) (N * N)
theorem fib {N kd s x : Nat} (hN : 0 < N) (hN2 : N ≤ 12) (hk : kd < 3) (hs : s < 2 ^ N) (h : orb N kd s x) : cb (fun g => vg N kd g && decide (mg N s g = x)) (N * N) = stb N kd s := by
  have comp : ∀ (a b m t : Nat), m < N → t < N → mu N kd m = true → orb N kd s a → mo N a m t = b → cb (fun g => vg N kd g && decide (mg N s g = a)) (N * N) ≤ cb (fun g => vg N kd g && decide (mg N s g = b)) (N * N) := by
    intro a b m t hm ht hu ha e
    refine cb_inj _ _ _ _ (fun g => (m * (g / N) % N) * N + (m * (g % N) + t) % N) ?_ ?_
    · intro g hg hp
      simp only [Bool.and_eq_true, decide_eq_true_eq] at hp
      have hgd : g / N < N := Nat.div_lt_of_lt_mul hg
      have q1 := Nat.mod_lt (m * (g / N)) hN
      have q2 := Nat.mod_lt (m * (g % N) + t) hN
      have d1 : ((m * (g / N) % N) * N + (m * (g % N) + t) % N) / N = m * (g / N) % N := by
        rw [Nat.mul_comm, Nat.mul_add_div hN, Nat.div_eq_of_lt q2, Nat.add_zero]
      have d2 : ((m * (g / N) % N) * N + (m * (g % N) + t) % N) % N = (m * (g % N) + t) % N := by
        rw [Nat.mul_comm, Nat.mul_add_mod, Nat.mod_mod]
      refine ⟨?_, ?_⟩
      · have : (m * (g / N) % N) * N ≤ (N - 1) * N := Nat.mul_le_mul_right N (by omega)
        have h3 : (N - 1) * N + N = N * N := by
          rw [← Nat.succ_mul]; congr 1; omega
        omega
      · simp only [Bool.and_eq_true, decide_eq_true_eq]
        unfold vg mg
        rw [d1, d2]
        refine ⟨mu_mul N (by omega) hN kd hk _ hgd m hm hp.1 hu, ?_⟩
        rw [← mo_mo hN]
        have hp2 : mo N s (g / N) (g % N) = a := hp.2
        rw [hp2, e]
    · intro g g2 hg hg2 _ _ ee
      have ee : (m * (g / N) % N) * N + (m * (g % N) + t) % N = (m * (g2 / N) % N) * N + (m * (g2 % N) + t) % N := ee
      have q2 := Nat.mod_lt (m * (g % N) + t) hN
      have q3 := Nat.mod_lt (m * (g2 % N) + t) hN
      have d1 := congrArg (· / N) ee
      have d2 := congrArg (· % N) ee
      rw [Nat.mul_comm, Nat.mul_add_div hN, Nat.div_eq_of_lt q2, Nat.add_zero, Nat.mul_comm (m * (g2 / N) % N), Nat.mul_add_div hN, Nat.div_eq_of_lt q3, Nat.add_zero] at d1
      rw [Nat.mul_comm, Nat.mul_add_mod, Nat.mod_mod, Nat.mul_comm (m * (g2 / N) % N), Nat.mul_add_mod, Nat.mod_mod] at d2
      have e1 := st_back (t := 0) hN hN2 hk hm hu (g / N) (g2 / N) (Nat.div_lt_of_lt_mul hg) (Nat.div_lt_of_lt_mul hg2) d1
      have e2 := st_back (t := t) hN hN2 hk hm hu (g % N) (g2 % N) (Nat.mod_lt _ hN) (Nat.mod_lt _ hN) d2
      rw [← Nat.div_add_mod g N, ← Nat.div_add_mod g2 N, e1, e2]
  unfold stb
  apply Nat.le_antisymm
  · obtain ⟨m, t, hm, ht, hu, e⟩ := orb_symm hN hN2 hk hs h
    exact comp x s m t hm ht hu h e
  · obtain ⟨m, t, hm, ht, hu, e⟩ := h
    exact comp s x m t hm ht hu (orb_refl hN hN2 hk hs) e
def MI (N kd s p : Nat) : Nat := cb (fun g => vg N kd g && sb (mg N s g) p) (N * N)
def cw (N kd s p : Nat) : Nat := cb (fun x => decide (lst N kd x = lst N kd s) && sb x p) (2 ^ N)
theorem MI_eq {N kd s p : Nat} (hN : 0 < N) (hN2 : N ≤ 12) (hk : kd < 3) (hs : s < 2 ^ N) : MI N kd s p = stb N kd s * cw N kd s p := by
  unfold MI cw
  rw [sm_part (f := fun g => mg N s g) (M := 2 ^ N) (N * N) (fun g _ _ => mo_lt hN), ← sm_mul]
  refine sm_congr (fun x hx => ?_)
  by_cases hp : sb x p = true
  · by_cases ho : orb N kd s x
    · have e := lst_eq hN hN2 hk hs ho
      rw [hp, decide_eq_true e.symm, if_pos (show (true && true) = true from rfl), ← fib hN hN2 hk hs ho]
      refine cb_congr (fun g _ => ?_)
      by_cases h2 : mg N s g = x
      · rw [h2, hp]; simp
      · simp [h2]
    · have e : ¬ lst N kd x = lst N kd s := fun z => ho ((lst_iff hN hN2 hk hs hx).mp z.symm)
      rw [decide_eq_false e]
      simp only [Bool.false_and, Bool.false_eq_true, if_false]
      refine cb_0 (fun g hg => ?_)
      by_cases h2 : mg N s g = x
      · have : vg N kd g = false := by
          cases h3 : vg N kd g with
          | false => rfl
          | true => exact absurd ⟨g / N, g % N, Nat.div_lt_of_lt_mul hg, Nat.mod_lt _ hN, h3, h2⟩ ho
        simp [this]
      · simp [h2]
  · have hp' : sb x p = false := by cases q : sb x p with
      | true => exact absurd q hp
      | false => rfl
    rw [hp']
    simp only [Bool.and_false, Bool.false_eq_true, if_false]
    refine cb_0 (fun g hg => ?_)
    by_cases h2 : mg N s g = x
    · rw [h2, hp']; simp
    · simp [h2]
theorem stb_pos {N kd s : Nat} (hN : 0 < N) (hN2 : N ≤ 12) (hk : kd < 3) (hs : s < 2 ^ N) : 0 < stb N kd s := by
  unfold stb
  have hg : (1 % N) * N + 0 < N * N := by
    have := Nat.mod_lt 1 hN
    have h2 : (1 % N) * N < N * N := Nat.mul_lt_mul_of_pos_right this hN
    omega
  rw [cb_rm hg ?_]
  · omega
  · unfold vg mg
    rw [Nat.add_zero, Nat.mul_div_cancel _ hN, Nat.mul_mod_left, mu_one N (by omega) hN kd hk, mo_one hN hs]
    simp
theorem cw_self {N kd s : Nat} (hN : 0 < N) (hN2 : N ≤ 12) (hk : kd < 3) (hs : s < 2 ^ N) : cw N kd s s = 1 := by
  unfold cw
  rw [cb_rm (j := s) hs (by simp [sb])]
  rw [cb_0]
  intro x hx
  by_cases e : x = s
  · simp [e]
  · by_cases h1 : lst N kd x = lst N kd s
    · have ho := (lst_iff hN hN2 hk hs hx).mp h1.symm
      have h2 : sb x s = false := by
        cases q : sb x s with
        | false => rfl
        | true => exact absurd (sb_eq hs q (orb_size hN hN2 hk hs ho)) e
      simp [h2]
    · simp [h1]
theorem MI_div {N kd s p : Nat} (hN : 0 < N) (hN2 : N ≤ 12) (hk : kd < 3) (hs : s < 2 ^ N) : MI N kd s p / MI N kd s s = cw N kd s p := by
  rw [MI_eq hN hN2 hk hs, MI_eq hN hN2 hk hs, cw_self hN hN2 hk hs, Nat.mul_one, Nat.mul_div_cancel_left _ (stb_pos hN hN2 hk hs)]
