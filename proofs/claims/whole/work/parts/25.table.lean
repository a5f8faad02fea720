/-! the reference's tables of classes -/
theorem loop_inv {σ ρ : Type} {step : σ → Option (σ ⊕ ρ)} (R : ρ → Prop) : ∀ (n N : Nat) (P : Nat → σ → Prop) (s : σ), n < N → (∀ i s, i < n → P i s → ∃ t, step s = some (.inl t) ∧ P (i + 1) t) → (∀ s, P n s → ∃ r, step s = some (.inr r) ∧ R r) → P 0 s → ∃ r, loopN step N s = some r ∧ R r := by
  intro n
  induction n with
  | zero =>
    intro N P s hN _ he h0
    cases N with
    | zero => omega
    | succ N =>
      obtain ⟨r, h1, h2⟩ := he s h0
      refine ⟨r, ?_, h2⟩
      show (step s).bind _ = _
      rw [h1]; rfl
  | succ n ih =>
    intro N P s hN hs he h0
    cases N with
    | zero => omega
    | succ N =>
      obtain ⟨t, h1, h2⟩ := hs 0 s (by omega) h0
      obtain ⟨r, h3, h4⟩ := ih N (fun i => P (i + 1)) t (by omega) (fun i s hi h => hs (i + 1) s (by omega) h) he h2
      refine ⟨r, ?_, h4⟩
      show (step s).bind _ = _
      rw [h1]; exact h3
def cb (p : Nat → Bool) : Nat → Nat
  | 0 => 0
  | k + 1 => cb p k + (if p k = true then 1 else 0)
theorem cb_s (p : Nat → Bool) (k : Nat) : cb p (k + 1) = cb p k + (if p k = true then 1 else 0) := rfl
theorem cb_congr {p q : Nat → Bool} : ∀ {n : Nat}, (∀ i, i < n → p i = q i) → cb p n = cb q n := by
  intro n
  induction n with
  | zero => intro _; rfl
  | succ n ih => intro h; rw [cb_s, cb_s, ih (fun i hi => h i (by omega)), h n (by omega)]
theorem cb_le (p : Nat → Bool) : ∀ n, cb p n ≤ n := by
  intro n
  induction n with
  | zero => exact Nat.le_refl 0
  | succ n ih => rw [cb_s]; split <;> omega
theorem cb_up {p q : Nat → Bool} {j : Nat} (hp : p j = false) (hq : q j = true) (hr : ∀ i, i ≠ j → q i = p i) : ∀ {n : Nat}, j < n → cb q n = cb p n + 1 := by
  intro n
  induction n with
  | zero => intro h; omega
  | succ n ih =>
    intro h
    rw [cb_s, cb_s]
    by_cases e : j = n
    · subst e
      rw [hp, hq, cb_congr (p := q) (q := p) (fun i hi => hr i (by omega))]
      simp
    · rw [ih (by omega), hr n (fun q => e q.symm)]
      omega
theorem cb_0 {p : Nat → Bool} : ∀ {n : Nat}, (∀ i, i < n → p i = false) → cb p n = 0 := by
  intro n
  induction n with
  | zero => intro _; rfl
  | succ n ih => intro h; rw [cb_s, ih (fun i hi => h i (by omega)), h n (by omega)]; simp
def cz (N kd y : Nat) : Nat := cb (fun x => decide (lst N kd x = y)) (2 ^ N)
theorem ixI (kd x : Nat) : (4096 : Int32) * nI kd + nI x = nI (4096 * kd + x) := by
  rw [show (4096 : Int32) = nI 4096 from rfl, pk_mul, nI_add]
theorem ixC {kd x : Nat} (hk : kd < 3) (hx : x < 4096) : (nI (4096 * kd + x)).toNatClampNeg = 4096 * kd + x := nI_clamp (by omega)
theorem ixG {kd x : Nat} (hk : kd < 3) (hx : x < 4096) : ¬ (nI (4096 * kd + x) < 0 ∨ 12288 ≤ (nI (4096 * kd + x)).toNatClampNeg) := nI_in (by omega) (by omega)
theorem nI_inj {a b : Nat} (ha : a < 2 ^ 31) (hb : b < 2 ^ 31) (h : nI a = nI b) : a = b := (nI_eq ha hb).mp h
theorem upd_s (f : Nat → Int32) (k : Nat) (x : Int32) : upd f k x k = x := pk_us
theorem upd_n (f : Nat → Int32) {k j : Nat} (x : Int32) (h : j ≠ k) : upd f k x j = f j := pk_un h
/-- while the class of s is being flooded -/
def FI (N kd s : Nat) (lo0 so0 : Nat → Int32) (D : Nat → Prop) (lo so : Nat → Int32) : Prop :=
  (∀ k, (∀ x, x < 2 ^ N → k ≠ 4096 * kd + x) → lo k = lo0 k) ∧ (∀ k, k ≠ 4096 * kd + s → so k = so0 k) ∧
  (∀ x, x < 2 ^ N → lo (4096 * kd + x) = lo0 (4096 * kd + x) ∨ (orb N kd s x ∧ lo (4096 * kd + x) = nI s)) ∧
  so (4096 * kd + s) = nI (cb (fun x => decide (lo (4096 * kd + x) = nI s)) (2 ^ N)) ∧ (∀ x, D x → lo (4096 * kd + x) = nI s)
theorem fl_step {N kd s m t : Nat} (hN : 0 < N) (hN2 : N ≤ 12) (hk : kd < 3) (hs : s < 2 ^ N) (hm : m < N) (ht : t < N) (hu : mu N kd m = true) {lo0 so0 lo so : Nat → Int32} {D : Nat → Prop} (h0 : ∀ x, x < 2 ^ N → orb N kd s x → lo0 (4096 * kd + x) = -1) (hI : FI N kd s lo0 so0 D lo so) :
    ∃ lo2 so2, X6_flood_25_s (nI N) (nI kd) (nI s) (nI m) lo so (nI t) = some (.inl (lo2, so2, nI (t + 1))) ∧ FI N kd s lo0 so0 (fun x => D x ∨ x = mo N s m t) lo2 so2 := by
  have hp := pow_le12 hN2
  have hi := mo_lt (s := s) (m := m) (t := t) hN
  unfold X6_flood_25_s
  rw [if_neg (nI_ge ht (by omega)), md_nat hN hN2 hs (by omega) ht]
  simp only [Option.bind_some]
  rw [ixI, ixI, if_neg (ixG (x := mo N s m t) hk (by omega)), if_neg (ixG (x := mo N s m t) hk (by omega)), if_neg (ixG (x := s) hk (by omega)), if_neg (ixG (x := s) hk (by omega)), ixC (x := mo N s m t) hk (by omega), ixC (x := s) hk (by omega)]
  obtain ⟨a1, a2, a3, a4, a5⟩ := hI
  have ho : orb N kd s (mo N s m t) := ⟨m, t, hm, ht, hu, rfl⟩
  by_cases hc : (0 : Int32) ≤ lo (4096 * kd + mo N s m t)
  · rw [if_pos hc]
    refine ⟨lo, so, by rw [nI_1], a1, a2, a3, a4, ?_⟩
    rintro x (hx | rfl)
    · exact a5 x hx
    · rcases a3 _ hi with q | q
      · rw [h0 _ hi ho] at q
        rw [q] at hc
        exact absurd hc (by decide)
      · exact q.2
  · rw [if_neg hc]
    have hm1 : lo (4096 * kd + mo N s m t) = -1 := by
      rcases a3 _ hi with q | q
      · rw [q]; exact h0 _ hi ho
      · rw [q.2] at hc
        exact absurd (nI_pos' (by omega)) hc
    refine ⟨_, _, by rw [nI_1], ?_, ?_, ?_, ?_, ?_⟩
    · intro k hk2
      rw [upd_n _ _ (hk2 _ hi)]
      exact a1 k hk2
    · intro k hk2
      rw [upd_n _ _ hk2]
      exact a2 k hk2
    · intro x hx
      by_cases e : x = mo N s m t
      · subst e
        right
        exact ⟨ho, upd_s _ _ _⟩
      · rw [upd_n _ _ (by omega)]
        exact a3 x hx
    · rw [upd_s, a4, nI_1]
      congr 1
      refine (cb_up (j := mo N s m t) ?_ ?_ ?_ hi).symm
      · rw [hm1]
        have : (-1 : Int32) ≠ nI s := by
          intro q
          have := nI_pos' (n := s) (by omega)
          rw [← q] at this
          exact absurd this (by decide)
        simp [this]
      · rw [upd_s]; simp
      · intro i hi2
        rw [upd_n _ _ (by omega)]
    · rintro x (hx | rfl)
      · by_cases e : x = mo N s m t
        · subst e; exact upd_s _ _ _
        · rw [upd_n _ _ (by omega)]; exact a5 x hx
      · exact upd_s _ _ _
theorem fl_in {N kd s m : Nat} (hN : 0 < N) (hN2 : N ≤ 12) (hk : kd < 3) (hs : s < 2 ^ N) (hm : m < N) (hu : mu N kd m = true) {lo0 so0 lo so : Nat → Int32} {D : Nat → Prop} (h0 : ∀ x, x < 2 ^ N → orb N kd s x → lo0 (4096 * kd + x) = -1) (hI : FI N kd s lo0 so0 D lo so) :
    ∃ r, X6_flood_25_l (nI N) (nI kd) (nI s) (nI m) lo so 0 = some r ∧ FI N kd s lo0 so0 (fun x => D x ∨ ∃ t, t < N ∧ x = mo N s m t) r.1 r.2 := by
  unfold X6_flood_25_l
  refine loop_inv (fun r : (Nat → Int32) × (Nat → Int32) => FI N kd s lo0 so0 (fun x => D x ∨ ∃ t, t < N ∧ x = mo N s m t) r.1 r.2) N FU (fun i (z : (Nat → Int32) × (Nat → Int32) × Int32) => z.2.2 = nI i ∧ FI N kd s lo0 so0 (fun x => D x ∨ ∃ t, t < i ∧ x = mo N s m t) z.1 z.2.1) _ (FU_big (by omega)) ?_ ?_ ?_
  · rintro i ⟨l1, s1, c1⟩ hi ⟨hc, h⟩
    have hc : c1 = nI i := hc
    subst hc
    obtain ⟨lo2, so2, e, h2⟩ := fl_step hN hN2 hk hs hm hi hu h0 h
    refine ⟨(lo2, so2, nI (i + 1)), e, rfl, ?_⟩
    obtain ⟨a1, a2, a3, a4, a5⟩ := h2
    refine ⟨a1, a2, a3, a4, ?_⟩
    rintro x (hx | ⟨t, ht, rfl⟩)
    · exact a5 x (Or.inl (Or.inl hx))
    · by_cases q : t = i
      · subst q; exact a5 _ (Or.inr rfl)
      · exact a5 _ (Or.inl (Or.inr ⟨t, by omega, rfl⟩))
  · rintro ⟨l1, s1, c1⟩ ⟨hc, h⟩
    have hc : c1 = nI N := hc
    subst hc
    refine ⟨(l1, s1), ?_, h⟩
    show X6_flood_25_s (nI N) (nI kd) (nI s) (nI m) l1 s1 (nI N) = _
    unfold X6_flood_25_s
    rw [if_pos (nI_le (Nat.le_refl N) (by omega))]
  · refine ⟨rfl, ?_⟩
    obtain ⟨a1, a2, a3, a4, a5⟩ := hI
    refine ⟨a1, a2, a3, a4, ?_⟩
    rintro x (hx | ⟨t, ht, _⟩)
    · exact a5 x hx
    · omega
theorem fl_all {N kd s : Nat} (hN : 0 < N) (hN2 : N ≤ 12) (hk : kd < 3) (hs : s < 2 ^ N) {lo0 so0 : Nat → Int32} (h0 : ∀ x, x < 2 ^ N → orb N kd s x → lo0 (4096 * kd + x) = -1) (hI : FI N kd s lo0 so0 (fun _ => False) lo0 so0) :
    ∃ r, FX6_flood (nI N) lo0 so0 (nI kd) (nI s) = some r ∧ FI N kd s lo0 so0 (fun x => orb N kd s x) r.1 r.2 := by
  unfold FX6_flood X6_flood_2_l
  have h := loop_inv (step := fun z => X6_flood_2_s (nI N) (nI kd) (nI s) z.1 z.2.1 z.2.2) (fun r : (Nat → Int32) × (Nat → Int32) => FI N kd s lo0 so0 (fun x => ∃ m t, m < N ∧ t < N ∧ mu N kd m = true ∧ x = mo N s m t) r.1 r.2) N FU (fun i (z : (Nat → Int32) × (Nat → Int32) × Int32) => z.2.2 = nI i ∧ FI N kd s lo0 so0 (fun x => ∃ m t, m < i ∧ t < N ∧ mu N kd m = true ∧ x = mo N s m t) z.1 z.2.1) (lo0, so0, 0) (FU_big (by omega)) ?_ ?_ ?_
  · obtain ⟨r, e, h⟩ := h
    rw [e]
    refine ⟨r, rfl, ?_⟩
    obtain ⟨a1, a2, a3, a4, a5⟩ := h
    refine ⟨a1, a2, a3, a4, ?_⟩
    rintro x ⟨m, t, hm, ht, hu, rfl⟩
    exact a5 _ ⟨m, t, hm, ht, hu, rfl⟩
  · rintro i ⟨l1, s1, c1⟩ hi ⟨hc, h⟩
    have hc : c1 = nI i := hc
    subst hc
    show ∃ t, X6_flood_2_s (nI N) (nI kd) (nI s) l1 s1 (nI i) = some (.inl t) ∧ _
    unfold X6_flood_2_s X6_flood_96
    rw [if_neg (nI_ge hi (by omega)), mu_m N (by omega) hN kd hk i hi]
    simp only [Option.bind_some]
    by_cases hu : mu N kd i = true
    · rw [if_neg (by rw [b1_ne, hu]; exact fun q => by cases q)]
      obtain ⟨r, e, h2⟩ := fl_in hN hN2 hk hs hi hu h0 h
      rw [e]
      refine ⟨(r.1, r.2, nI (i + 1)), by rw [Option.bind_some, nI_1], rfl, ?_⟩
      obtain ⟨a1, a2, a3, a4, a5⟩ := h2
      refine ⟨a1, a2, a3, a4, ?_⟩
      rintro x ⟨m, t, hm, ht, hu2, rfl⟩
      by_cases q : m = i
      · subst q; exact a5 _ (Or.inr ⟨t, ht, rfl⟩)
      · exact a5 _ (Or.inl ⟨m, t, by omega, ht, hu2, rfl⟩)
    · have hu' : mu N kd i = false := by cases q : mu N kd i with
        | true => exact absurd q hu
        | false => rfl
      rw [if_pos (b1_ne.mpr hu')]
      refine ⟨(l1, s1, nI (i + 1)), by rw [nI_1], rfl, ?_⟩
      obtain ⟨a1, a2, a3, a4, a5⟩ := h
      refine ⟨a1, a2, a3, a4, ?_⟩
      rintro x ⟨m, t, hm, ht, hu2, rfl⟩
      have q : m ≠ i := fun q => hu (by rw [← q]; exact hu2)
      exact a5 _ ⟨m, t, by omega, ht, hu2, rfl⟩
  · rintro ⟨l1, s1, c1⟩ ⟨hc, h⟩
    have hc : c1 = nI N := hc
    subst hc
    refine ⟨(l1, s1), ?_, h⟩
    show X6_flood_2_s (nI N) (nI kd) (nI s) l1 s1 (nI N) = _
    unfold X6_flood_2_s
    rw [if_pos (nI_le (Nat.le_refl N) (by omega))]
  · refine ⟨rfl, ?_⟩
    obtain ⟨a1, a2, a3, a4, a5⟩ := hI
    exact ⟨a1, a2, a3, a4, fun x ⟨m, t, hm, _⟩ => by omega⟩
