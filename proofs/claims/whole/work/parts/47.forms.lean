/-! forms -/
def fi (p : Nat → Bool) : Nat → Nat
  | 0 => 0
  | k + 1 => if fi p k < k then fi p k else (if p k = true then k else k + 1)
theorem fi_s (p : Nat → Bool) (k : Nat) : fi p (k + 1) = if fi p k < k then fi p k else (if p k = true then k else k + 1) := rfl
theorem fi_sp (p : Nat → Bool) : ∀ k, fi p k ≤ k ∧ (fi p k < k → p (fi p k) = true) ∧ ∀ j, j < fi p k → p j = false
  | 0 => ⟨Nat.le_refl _, fun h => absurd h (Nat.lt_irrefl _), fun j hj => absurd hj (Nat.not_lt_zero _)⟩
  | k + 1 => by
    obtain ⟨a, b, c⟩ := fi_sp p k
    rw [fi_s]
    by_cases h : fi p k < k
    · rw [if_pos h]
      exact ⟨by omega, fun _ => b h, c⟩
    · rw [if_neg h]
      have e : fi p k = k := by omega
      rw [e] at c
      by_cases hk : p k = true
      · rw [if_pos hk]
        exact ⟨by omega, fun _ => hk, c⟩
      · rw [if_neg hk]
        refine ⟨Nat.le_refl _, fun q => absurd q (Nat.lt_irrefl _), ?_⟩
        intro j hj
        by_cases hj2 : j = k
        · subst hj2
          cases q : p j with
          | false => rfl
          | true => exact absurd q hk
        · exact c j (by omega)
def fst1 (e : Nat → Nat → Bool) (g : Nat) : Bool := decide (cb (fun j => e j g) g = 0)
theorem fst1_iff {e : Nat → Nat → Bool} {g : Nat} : fst1 e g = true ↔ ∀ j, j < g → e j g = false := by
  unfold fst1
  rw [decide_eq_true_iff]
  exact ⟨fun h j hj => cb_z (P := fun j => e j g) h hj, fun h => cb_0 h⟩
theorem parts {e : Nat → Nat → Bool} (n A : Nat) (hr : ∀ a, e a a = true) (hs : ∀ a b, e a b = true → e b a = true) (ht : ∀ a b c, e a b = true → e b c = true → e a c = true) (hA : ∀ x, x < n → cb (fun g => e x g) n = A) : n = A * cb (fst1 e) n := by
  have hf : ∀ g, g < n → fi (fun j => e j g) n < n ∧ e (fi (fun j => e j g) n) g = true := by
    intro g hg
    obtain ⟨a, b, c⟩ := fi_sp (fun j => e j g) n
    have : fi (fun j => e j g) n < n := by
      rcases Nat.lt_or_ge (fi (fun j => e j g) n) n with q | q
      · exact q
      · have h2 := c g (by omega)
        have h2 : e g g = false := h2
        rw [hr] at h2; cases h2
    exact ⟨this, b this⟩
  have h1 := sm_part (P := fun _ => true) (f := fun g => fi (fun j => e j g) n) (M := n) n (fun g hg _ => (hf g hg).1)
  rw [cb_true] at h1
  have h2 : sm (fun x => cb (fun g => true && decide (fi (fun j => e j g) n = x)) n) n = sm (fun x => if fst1 e x = true then A else 0) n := by
    apply sm_congr
    intro x hx
    have key : ∀ g, g < n → (fi (fun j => e j g) n = x ↔ fst1 e x = true ∧ e x g = true) := by
      intro g hg
      obtain ⟨a, b⟩ := hf g hg
      have c := (fi_sp (fun j => e j g) n).2.2
      constructor
      · intro q
        rw [q] at b c
        refine ⟨fst1_iff.mpr ?_, b⟩
        intro j hj
        cases h : e j x with
        | false => rfl
        | true =>
          have := c j hj
          have h3 := ht _ _ _ h b
          rw [h3] at this; cases this
      · rintro ⟨q1, q2⟩
        rcases Nat.lt_trichotomy (fi (fun j => e j g) n) x with q | q | q
        · have h3 := ht _ _ _ b (hs _ _ q2)
          rw [fst1_iff.mp q1 _ q] at h3; cases h3
        · exact q
        · have := c x q
          rw [q2] at this; cases this
    by_cases hx2 : fst1 e x = true
    · rw [if_pos hx2, ← hA x hx]
      apply cb_congr
      intro g hg
      apply bool_ext
      rw [Bool.true_and, decide_eq_true_iff, key g hg]
      exact ⟨fun q => q.2, fun q => ⟨hx2, q⟩⟩
    · rw [if_neg hx2]
      apply cb_0
      intro g hg
      rw [Bool.true_and]
      apply decide_eq_false
      intro q
      exact hx2 ((key g hg).mp q).1
  rw [h2, sm_mul] at h1
  exact h1
def eqB (N : Nat) (X Y : Nat → Nat) : Bool := allB (fun i => decide (X i = Y i)) N
theorem eqB_iff {N : Nat} {X Y : Nat → Nat} : eqB N X Y = true ↔ ∀ i, i < N → X i = Y i := by
  unfold eqB
  rw [allB_iff]
  exact ⟨fun h i hi => of_decide_eq_true (h i hi), fun h i hi => decide_eq_true (h i hi)⟩
def frm (N : Nat) (w : Nat → Nat) (g i : Nat) : Nat := fm N w (g / N) (g % N) i
def act (N k c : Nat) (X : Nat → Nat) (i : Nat) : Nat := if k % 2 = 0 then (c + X (fa N k i)) % N else (c + N - X (fa N k i)) % N
theorem fa_fa {N k l i : Nat} (hk : k < 4) (hl : l < 4) (hi : i < N) : fa N k (fa N l i) = fa N (k ^^^ l) i := by
  unfold fa
  rcases (show k = 0 ∨ k = 1 ∨ k = 2 ∨ k = 3 by omega) with rfl | rfl | rfl | rfl <;> rcases (show l = 0 ∨ l = 1 ∨ l = 2 ∨ l = 3 by omega) with rfl | rfl | rfl | rfl <;> simp <;> omega
theorem m_ee {N c t a b : Nat} (hN : 0 < N) (hb : b ≤ N) : (c + (t + a + N - b) % N) % N = ((c + t) % N + a + N - b) % N := by
  rw [Nat.add_mod_mod, show (c + t) % N + a + N - b = (c + t) % N + (a + N - b) by omega, Nat.mod_add_mod]
  congr 1; omega
theorem m_neg {N c x y : Nat} (hN : 0 < N) (hy : y < N) (h : (x + y) % N = c % N) (hx : x % N = x % N) : (c + N - y) % N = x % N := by
  have e : (c + N - y) % N = ((c % N) + (N - y)) % N := by rw [Nat.mod_add_mod]; congr 1; omega
  rw [e, ← h, Nat.mod_add_mod, show x + y + (N - y) = x + N by omega, Nat.add_mod_right]
theorem m_sub {N c t a b : Nat} (hN : 0 < N) (ht : t < N) (ha : a < N) (hb : b < N) (hc : c < N) : (c + N - (t + a + N - b) % N) % N = ((c + N - t) % N + b + N - a) % N := by
  have e1 : ((c + N - t) % N + b + N - a) % N = (c + N - t + (b + N - a)) % N := by
    rw [show (c + N - t) % N + b + N - a = (c + N - t) % N + (b + N - a) by omega, Nat.mod_add_mod]
  rw [e1]
  apply m_neg hN (Nat.mod_lt _ hN) _ rfl
  rw [Nat.add_mod_mod, show c + N - t + (b + N - a) + (t + a + N - b) = c + N + N + N by omega, Nat.add_mod_right, Nat.add_mod_right, Nat.add_mod_right]
def tt (N l c t : Nat) : Nat := if l % 2 = 0 then (c + t) % N else (c + N - t) % N
theorem par4 : ∀ k, k < 4 → ∀ l, l < 4 → (k ^^^ l) % 2 = (k + l) % 2 ∧ k ^^^ l < 4 ∧ k ^^^ l ^^^ l = k := by decide
theorem act_fm {N k l t c i : Nat} {w : Nat → Nat} (hN : 0 < N) (hk : k < 4) (hl : l < 4) (ht : t < N) (hc : c < N) (hi : i < N) (hw : ∀ i, i < N → w i < N) : act N l c (fm N w k t) i = fm N w (k ^^^ l) (tt N l c t) i := by
  have h0 := hw 0 hN
  have h1 := hw _ (fa_lt (N := N) (k := k ^^^ l) hi)
  obtain ⟨p1, p2, _⟩ := par4 k hk l hl
  unfold act fm tt
  rw [fa_fa hk hl hi, p1]
  by_cases a : l % 2 = 0
  · by_cases b : k % 2 = 0
    · rw [if_pos a, if_pos b, if_pos a, if_pos (by omega)]
      exact m_ee hN (by omega)
    · rw [if_pos a, if_neg b, if_pos a, if_neg (by omega)]
      exact m_ee hN (by omega)
  · by_cases b : k % 2 = 0
    · rw [if_neg a, if_pos b, if_neg a, if_neg (by omega)]
      exact m_sub hN ht h1 h0 hc
    · rw [if_neg a, if_neg b, if_neg a, if_pos (by omega)]
      exact m_sub hN ht h0 h1 hc
theorem act_congr {N k c i : Nat} {X Y : Nat → Nat} (hi : i < N) (h : ∀ i, i < N → X i = Y i) : act N k c X i = act N k c Y i := by
  unfold act; rw [h _ (fa_lt hi)]
/- each form is the row acted on, and back -/
theorem fm_act {N k t : Nat} {w : Nat → Nat} (hN : 0 < N) (ht : t < N) (hw : ∀ i, i < N → w i < N) : ∃ c, c < N ∧ ∀ i, i < N → act N k c w i = fm N w k t i := by
  have h0 := hw 0 hN
  by_cases a : k % 2 = 0
  · refine ⟨(t + N - w 0) % N, Nat.mod_lt _ hN, ?_⟩
    intro i hi
    unfold act fm
    rw [if_pos a, if_pos a, Nat.mod_add_mod]
    congr 1; omega
  · refine ⟨(t + w 0) % N, Nat.mod_lt _ hN, ?_⟩
    intro i hi
    have h1 := hw _ (fa_lt (N := N) (k := k) hi)
    unfold act fm
    rw [if_neg a, if_neg a, show (t + w 0) % N + N - w (fa N k i) = (t + w 0) % N + (N - w (fa N k i)) by omega, Nat.mod_add_mod]
    congr 1; omega
theorem act_back {N k c : Nat} (hN : 0 < N) (hk : k < 4) (hc : c < N) : ∃ c2, c2 < N ∧ ∀ X : Nat → Nat, (∀ i, i < N → X i < N) → ∀ i, i < N → act N k c2 (act N k c X) i = X i := by
  have hkk : k ^^^ k = 0 := Nat.xor_self k
  by_cases a : k % 2 = 0
  · refine ⟨(N - c) % N, Nat.mod_lt _ hN, ?_⟩
    intro X hX i hi
    unfold act
    rw [fa_fa hk hk hi, hkk, if_pos a, if_pos a, Nat.mod_add_mod, Nat.add_mod_mod, show fa N 0 i = i from rfl, show N - c + (c + X i) = X i + N by omega, Nat.add_mod_right, Nat.mod_eq_of_lt (hX i hi)]
  · refine ⟨c, hc, ?_⟩
    intro X hX i hi
    have h1 := hX i hi
    unfold act
    rw [fa_fa hk hk hi, hkk, if_neg a, if_neg a, show fa N 0 i = i from rfl, ← Nat.mod_eq_of_lt h1]
    apply m_neg hN (Nat.mod_lt _ hN) _ rfl
    rw [Nat.mod_eq_of_lt h1, Nat.add_mod_mod, show X i + (c + N - X i) = c + N by omega, Nat.add_mod_right]
def gx (N l c g : Nat) : Nat := (g / N ^^^ l) * N + tt N l c (g % N)
theorem tt_lt {N l c t : Nat} (hN : 0 < N) : tt N l c t < N := by unfold tt; split <;> exact Nat.mod_lt _ hN
theorem gx_div {N l c g : Nat} (hN : 0 < N) : gx N l c g / N = g / N ^^^ l := by
  unfold gx; rw [Nat.add_comm, Nat.add_mul_div_right _ _ hN, Nat.div_eq_of_lt (tt_lt hN), Nat.zero_add]
theorem gx_mod {N l c g : Nat} (hN : 0 < N) : gx N l c g % N = tt N l c (g % N) := by
  unfold gx; rw [Nat.add_comm, Nat.add_mul_mod_self_right, Nat.mod_eq_of_lt (tt_lt hN)]
theorem div4 {N g : Nat} (hN : 0 < N) (hg : g < 4 * N) : g / N < 4 := (Nat.div_lt_iff_lt_mul hN).mpr hg
theorem gx_lt {N l c g : Nat} (hN : 0 < N) (hl : l < 4) (hg : g < 4 * N) : gx N l c g < 4 * N := by
  have h := (par4 (g / N) (div4 hN hg) l hl).2.1
  have h2 := tt_lt (N := N) (l := l) (c := c) (t := g % N) hN
  unfold gx
  have : (g / N ^^^ l) * N ≤ 3 * N := Nat.mul_le_mul_right N (by omega)
  omega
theorem tt_inj {N l c t u : Nat} (hc : c < N) (ht : t < N) (hu : u < N) (h : tt N l c t = tt N l c u) : t = u := by
  unfold tt at h
  by_cases a : l % 2 = 0
  · rw [if_pos a, if_pos a, Nat.add_comm c t, Nat.add_comm c u] at h
    exact add_mod_inj ht hu h
  · rw [if_neg a, if_neg a, show c + N - t = (N - 1 - t) + (c + 1) by omega, show c + N - u = (N - 1 - u) + (c + 1) by omega] at h
    have := add_mod_inj (by omega) (by omega) h
    omega
theorem gx_inj {N l c g h : Nat} (hN : 0 < N) (hl : l < 4) (hc : c < N) (hg : g < 4 * N) (hh : h < 4 * N) (e : gx N l c g = gx N l c h) : g = h := by
  have e1 : g / N ^^^ l = h / N ^^^ l := by rw [← gx_div (c := c) hN, e, gx_div hN]
  have e2 : tt N l c (g % N) = tt N l c (h % N) := by rw [← gx_mod hN, e, gx_mod hN]
  have e3 := tt_inj hc (Nat.mod_lt _ hN) (Nat.mod_lt _ hN) e2
  have e4 : g / N = h / N := by rw [← (par4 (g / N) (div4 hN hg) l hl).2.2, e1, (par4 (h / N) (div4 hN hh) l hl).2.2]
  rw [← Nat.div_add_mod g N, ← Nat.div_add_mod h N, e3, e4]
theorem frm_gx {N l c g i : Nat} {w : Nat → Nat} (hN : 0 < N) (hl : l < 4) (hc : c < N) (hg : g < 4 * N) (hi : i < N) (hw : ∀ i, i < N → w i < N) : frm N w (gx N l c g) i = act N l c (frm N w g) i := by
  unfold frm
  rw [gx_div hN, gx_mod hN]
  exact (act_fm hN (div4 hN hg) hl (Nat.mod_lt _ hN) hc hi hw).symm
theorem fibF {N x : Nat} {w : Nat → Nat} (hN : 0 < N) (hx : x < 4 * N) (hw : ∀ i, i < N → w i < N) : cb (fun g => eqB N (frm N w x) (frm N w g)) (4 * N) = cb (fun g => eqB N (frm N w g) w) (4 * N) := by
  have hk := div4 hN hx
  obtain ⟨c, hc, h1⟩ := fm_act (k := x / N) (t := x % N) hN (Nat.mod_lt _ hN) hw
  obtain ⟨c2, hc2, h2⟩ := act_back (k := x / N) hN hk hc
  apply Nat.le_antisymm
  · apply cb_inj _ _ _ _ (gx N (x / N) c2)
    · intro g hg q
      refine ⟨gx_lt hN hk hg, ?_⟩
      apply eqB_iff.mpr
      intro i hi
      have q := eqB_iff.mp q
      rw [frm_gx hN hk hc2 hg hi hw, act_congr hi (Y := act N (x / N) c w) (fun j hj => (q j hj).symm.trans (h1 j hj).symm)]
      exact h2 w hw i hi
    · intro g h hg hh _ _ e
      exact gx_inj hN hk hc2 hg hh e
  · apply cb_inj _ _ _ _ (gx N (x / N) c)
    · intro g hg q
      refine ⟨gx_lt hN hk hg, ?_⟩
      apply eqB_iff.mpr
      intro i hi
      have q := eqB_iff.mp q
      rw [frm_gx hN hk hc hg hi hw, act_congr hi q, h1 i hi]
      rfl
    · intro g h hg hh _ _ e
      exact gx_inj hN hk hc hg hh e
def eF (N : Nat) (w : Nat → Nat) (a b : Nat) : Bool := eqB N (frm N w a) (frm N w b)
theorem forms_n {N : Nat} {w : Nat → Nat} (hN : 0 < N) (hw : ∀ i, i < N → w i < N) : 4 * N = cb (fun g => eqB N (frm N w g) w) (4 * N) * cb (fst1 (eF N w)) (4 * N) := by
  apply parts
  · intro a; exact eqB_iff.mpr (fun _ _ => rfl)
  · intro a b h; exact eqB_iff.mpr (fun i hi => (eqB_iff.mp h i hi).symm)
  · intro a b c h1 h2; exact eqB_iff.mpr (fun i hi => (eqB_iff.mp h1 i hi).trans (eqB_iff.mp h2 i hi))
  · intro x hx; exact fibF hN hx hw
/- the class -/
theorem ifi_nat {N k t : Nat} {f : Nat → Int32} {w : Nat → Nat} (hN : 0 < N) (hN2 : N ≤ 12) (hk : k < 4) (ht : t < N) (hw : ∀ i, i < N → w i < N ∧ f i = nI (w i)) : FX3_isFormItself (nI N) (nI N) f (nI k) (nI t) = some (b1 (eqB N (fm N w k t) w)) := by
  have : ∃ r, X3_isFormItself_2_l (nI N) (nI N) f (nI k) (nI t) 0 = some r ∧ r = (if eqB N (fm N w k t) w = true then Sum.inr () else Sum.inl ()) := by
    unfold X3_isFormItself_2_l
    refine loop_ex (fun r : Unit ⊕ Unit => r = (if eqB N (fm N w k t) w = true then Sum.inr () else Sum.inl ())) N FU (fun i z => z = nI i ∧ ∀ j, j < i → fm N w k t j = w j) _ (FU_big (by omega)) ?_ ?_ ⟨rfl, fun j hj => by omega⟩
    · rintro i z hi ⟨rfl, q⟩
      show (∃ r, X3_isFormItself_2_s (nI N) (nI N) f (nI k) (nI t) (nI i) = some (.inr r) ∧ _) ∨ (∃ z, X3_isFormItself_2_s (nI N) (nI N) f (nI k) (nI t) (nI i) = some (.inl z) ∧ _)
      unfold X3_isFormItself_2_s
      have h1 := (hw i hi).1
      have h2 := fm_lt (w := w) (k := k) (t := t) (i := i) hN
      rw [if_neg (nI_ge hi (by omega)), fs_nat hN hN2 hk ht hi hw, bso, at_nat hN2 hi (hw i hi).2, bso, nI_dec (by omega) (by omega), nI_1]
      cases hc : decide (fm N w k t i = w i) with
      | true =>
        rw [if_pos rfl]
        refine Or.inr ⟨_, rfl, rfl, ?_⟩
        intro j hj
        by_cases hj2 : j = i
        · subst hj2; exact of_decide_eq_true hc
        · exact q j (by omega)
      | false =>
        rw [if_neg (by decide)]
        refine Or.inl ⟨_, rfl, ?_⟩
        rw [if_neg (fun q2 => of_decide_eq_false hc (eqB_iff.mp q2 i hi))]
    · rintro z ⟨rfl, q⟩
      show ∃ r, X3_isFormItself_2_s (nI N) (nI N) f (nI k) (nI t) (nI N) = some (.inr r) ∧ _
      unfold X3_isFormItself_2_s
      rw [if_pos (nI_le (Nat.le_refl _) (by omega)), if_pos (eqB_iff.mpr q)]
      exact ⟨_, rfl, rfl⟩
  obtain ⟨r, e, h⟩ := this
  unfold FX3_isFormItself
  rw [e, bso, h]
  cases eqB N (fm N w k t) w with
  | true => rfl
  | false => rfl
theorem fc_27 {N k A B : Nat} {f : Nat → Int32} {w : Nat → Nat} (hN : 0 < N) (hN2 : N ≤ 12) (hk : k < 4) (hw : ∀ i, i < N → w i < N ∧ f i = nI (w i)) : X5_forms_27_l (nI N) (nI N) f (nI k) (nI A) (nI B) 0 = some (nI (A + N), nI (B + cb (fun t => eqB N (fm N w k t) w) N)) := by
  unfold X5_forms_27_l
  refine loop_at _ N FU (fun i => (nI (A + i), nI (B + cb (fun t => eqB N (fm N w k t) w) i), nI i)) _ rfl (FU_big (by omega)) ?_ ?_
  · intro i hi
    show X5_forms_27_s (nI N) (nI N) f (nI k) (nI (A + i)) (nI (B + cb (fun t => eqB N (fm N w k t) w) i)) (nI i) = _
    unfold X5_forms_27_s FX0_count
    rw [bso, if_neg (nI_ge hi (by omega)), ifi_nat hN hN2 hk hi hw, bso, nI_1, nI_1, nI_1, cb_s]
    cases eqB N (fm N w k i) w with
    | true => rfl
    | false => rfl
  · show X5_forms_27_s (nI N) (nI N) f (nI k) (nI (A + N)) _ (nI N) = _
    unfold X5_forms_27_s FX0_count
    rw [bso, if_pos (nI_le (Nat.le_refl _) (by omega))]
theorem cb_k {N : Nat} {w : Nat → Nat} (hN : 0 < N) (k : Nat) : cb (fun g => eqB N (frm N w g) w) ((k + 1) * N) = cb (fun g => eqB N (frm N w g) w) (k * N) + cb (fun t => eqB N (fm N w k t) w) N := by
  rw [Nat.succ_mul, cb_add]
  congr 1
  apply cb_congr
  intro t ht
  unfold frm
  rw [show (k * N + t) / N = k by rw [Nat.add_comm, Nat.add_mul_div_right _ _ hN, Nat.div_eq_of_lt ht, Nat.zero_add], show (k * N + t) % N = t by rw [Nat.add_comm, Nat.add_mul_mod_self_right, Nat.mod_eq_of_lt ht]]
theorem fc_19 {N : Nat} {f : Nat → Int32} {w : Nat → Nat} (hN : 0 < N) (hN2 : N ≤ 12) (hw : ∀ i, i < N → w i < N ∧ f i = nI (w i)) : X5_forms_19_l (nI N) (nI N) f 0 0 0 = some (nI (4 * N), nI (cb (fun g => eqB N (frm N w g) w) (4 * N))) := by
  unfold X5_forms_19_l
  refine loop_at _ 4 FU (fun k => (nI (k * N), nI (cb (fun g => eqB N (frm N w g) w) (k * N)), nI k)) _ (by rw [Nat.zero_mul]; rfl) (FU_big (by omega)) ?_ ?_
  · intro k hk
    show X5_forms_19_s (nI N) (nI N) f (nI (k * N)) (nI (cb (fun g => eqB N (frm N w g) w) (k * N))) (nI k) = _
    unfold X5_forms_19_s
    have h3 : ¬ (3 : Int32) < nI k := nI_nlt (a := 3) (by omega) (by omega)
    rw [if_neg h3, fc_27 hN hN2 hk hw, bso]
    unfold X5_forms_64
    rw [nI_1, ← cb_k hN k, Nat.succ_mul]
  · show X5_forms_19_s (nI N) (nI N) f (nI (4 * N)) (nI (cb (fun g => eqB N (frm N w g) w) (4 * N))) (nI 4) = _
    unfold X5_forms_19_s
    rw [if_pos (show (3 : Int32) < nI 4 by decide)]
/- the reference -/
theorem fr_66 {N v : Nat} {f u : Nat → Int32} {X Y : Nat → Nat} {c v1 v2 v3 : Int32} (hN2 : N ≤ 12) (hv : v < 48) (hX : ∀ i, i < N → X i < N ∧ u (12 * v + i) = nI (X i)) (hY : ∀ i, i < N → Y i < N ∧ f i = nI (Y i)) : X6_forms_66_l (nI N) c f u v1 v2 v3 (nI v) 1 0 = some (b1 (eqB N X Y)) := by
  unfold X6_forms_66_l eqB
  refine loop_at _ N FU (fun i => (b1 (allB (fun i => decide (X i = Y i)) i), nI i)) _ rfl (FU_big (by omega)) ?_ ?_
  · intro i hi
    show X6_forms_66_s (nI N) c f u v1 v2 v3 (nI v) (b1 (allB (fun i => decide (X i = Y i)) i)) (nI i) = _
    unfold X6_forms_66_s
    obtain ⟨x1, x2⟩ := hX i hi
    obtain ⟨y1, y2⟩ := hY i hi
    have e : (12 : Int32) * nI v + nI i = nI (12 * v + i) := by rw [show (12 : Int32) = nI 12 from rfl, pk_mul, nI_add]
    rw [if_neg (nI_ge hi (by omega)), e, if_neg (nI_in (by omega) (by omega)), if_neg (nI_in (by omega) (by omega)), nI_clamp (by omega), nI_clamp (by omega), x2, y2, nI_dec (by omega) (by omega), nI_1, allB_s]
    cases allB (fun i => decide (X i = Y i)) i with
    | false => rw [if_pos (show b1 false = 0 from rfl), Bool.and_false]; rfl
    | true =>
      rw [if_neg (show ¬ b1 true = 0 from n10), Bool.and_true]
      cases decide (X i = Y i) with
      | true => rfl
      | false => rfl
  · show X6_forms_66_s (nI N) c f u v1 v2 v3 (nI v) _ (nI N) = _
    unfold X6_forms_66_s
    rw [if_pos (nI_le (Nat.le_refl _) (by omega))]
theorem fr_54 {N C : Nat} {f u : Nat → Int32} {X : Nat → Nat → Nat} {Y : Nat → Nat} {c v2 : Int32} (hN2 : N ≤ 12) (hC : C ≤ 48) (hX : ∀ v, v < C → ∀ i, i < N → X v i < N ∧ u (12 * v + i) = nI (X v i)) (hY : ∀ i, i < N → Y i < N ∧ f i = nI (Y i)) : X6_forms_54_l (nI N) c f u (nI C) v2 1 0 = some (b1 (allB (fun v => !eqB N (X v) Y) C)) := by
  unfold X6_forms_54_l
  refine loop_at _ C FU (fun v => (b1 (allB (fun v => !eqB N (X v) Y) v), nI v)) _ rfl (FU_big (by omega)) ?_ ?_
  · intro v hv
    show X6_forms_54_s (nI N) c f u (nI C) v2 (b1 (allB (fun v => !eqB N (X v) Y) v)) (nI v) = _
    unfold X6_forms_54_s
    rw [if_neg (nI_ge hv (by omega)), fr_66 hN2 (by omega) (hX v hv) hY, bso, allB_s]
    unfold X6_forms_116
    rw [nI_1]
    cases allB (fun v => !eqB N (X v) Y) v with
    | false => rw [if_pos (show b1 false = 0 from rfl), Bool.and_false]; rfl
    | true =>
      rw [if_neg (show ¬ b1 true = 0 from n10), Bool.and_true]
      cases eqB N (X v) Y with
      | true => rfl
      | false => rfl
  · show X6_forms_54_s (nI N) c f u (nI C) v2 _ (nI C) = _
    unfold X6_forms_54_s
    rw [if_pos (nI_le (Nat.le_refl _) (by omega))]
theorem fr_144 {N C : Nat} {f u : Nat → Int32} {c v2 : Int32} (hN2 : N ≤ 12) (hC : C < 48) : ∃ r, X6_forms_144_l (nI N) c f (nI C) v2 u 0 = some r ∧ ((∀ i, i < N → r (12 * C + i) = f i) ∧ ∀ j, j < 12 * C → r j = u j) := by
  unfold X6_forms_144_l
  refine loop_inv (fun r : Nat → Int32 => (∀ i, i < N → r (12 * C + i) = f i) ∧ ∀ j, j < 12 * C → r j = u j) N FU (fun i (z : (Nat → Int32) × Int32) => z.2 = nI i ∧ (∀ j, j < i → z.1 (12 * C + j) = f j) ∧ ∀ j, j < 12 * C → z.1 j = u j) _ (FU_big (by omega)) ?_ ?_ ⟨rfl, fun j hj => by omega, fun _ _ => rfl⟩
  · rintro i ⟨z, x⟩ hi ⟨q1, q2, q3⟩
    have q1 : x = nI i := q1
    subst q1
    have q2 : ∀ j, j < i → z (12 * C + j) = f j := q2
    have q3 : ∀ j, j < 12 * C → z j = u j := q3
    have e : (12 : Int32) * nI C + nI i = nI (12 * C + i) := by rw [show (12 : Int32) = nI 12 from rfl, pk_mul, nI_add]
    show ∃ t, X6_forms_144_s (nI N) c f (nI C) v2 z (nI i) = some (.inl t) ∧ _
    unfold X6_forms_144_s
    rw [if_neg (nI_ge hi (by omega)), e, if_neg (nI_in (by omega) (by omega)), if_neg (nI_in (by omega) (by omega)), nI_clamp (by omega), nI_clamp (by omega), nI_1]
    refine ⟨_, rfl, rfl, ?_, ?_⟩
    · intro j hj
      by_cases h : j = i
      · subst h; exact upd_s _ _ _
      · exact (upd_n _ _ (by omega)).trans (q2 j (by omega))
    · intro j hj
      exact (upd_n _ _ (by omega)).trans (q3 j hj)
  · rintro ⟨z, x⟩ ⟨q1, q2, q3⟩
    have q1 : x = nI N := q1
    subst q1
    show ∃ r, X6_forms_144_s (nI N) c f (nI C) v2 z (nI N) = some (.inr r) ∧ _
    unfold X6_forms_144_s
    rw [if_pos (nI_le (Nat.le_refl _) (by omega))]
    exact ⟨_, rfl, q2, q3⟩
theorem fr_23 {N : Nat} {row fr u : Nat → Int32} {w : Nat → Nat} {c : Int32} (hN : 0 < N) (hN2 : N ≤ 12) (hw : ∀ i, i < N → w i < N ∧ row i = nI (w i)) : ∃ r, X6_forms_23_l (nI N) row c fr u 0 0 = some r ∧ r.2.2 = nI (cb (fst1 (eF N w)) (4 * N)) := by
  unfold X6_forms_23_l
  refine loop_inv (fun r : (Nat → Int32) × (Nat → Int32) × Int32 => r.2.2 = nI (cb (fst1 (eF N w)) (4 * N))) (4 * N) FU (fun g (z : (Nat → Int32) × (Nat → Int32) × Int32 × Int32) => z.2.2.2 = nI g ∧ z.2.2.1 = nI (cb (fst1 (eF N w)) g) ∧ ∃ st : Nat → Nat, (∀ v, v < cb (fst1 (eF N w)) g → st v < g ∧ ∀ i, i < N → z.2.1 (12 * v + i) = nI (frm N w (st v) i)) ∧ ∀ j, j < g → ∃ v, v < cb (fst1 (eF N w)) g ∧ eF N w (st v) j = true) _ (FU_big (by omega)) ?_ ?_ ⟨rfl, rfl, fun _ => 0, fun v hv => absurd hv (Nat.not_lt_zero _), fun j hj => absurd hj (Nat.not_lt_zero _)⟩
  · rintro g ⟨a, b, v1, v2⟩ hg ⟨q1, q2, st, q3, q4⟩
    have q1 : v2 = nI g := q1
    have q2 : v1 = nI (cb (fst1 (eF N w)) g) := q2
    subst q1; subst q2
    have q3 : ∀ v, v < cb (fst1 (eF N w)) g → st v < g ∧ ∀ i, i < N → b (12 * v + i) = nI (frm N w (st v) i) := q3
    have hcg := cb_le (fst1 (eF N w)) g
    have hfl : ∀ g i, frm N w g i < N := fun g i => fm_lt hN
    have hgd : g / N < 4 := div4 hN hg
    have h4 : (4 : Int32) * nI N = nI (4 * N) := by rw [show (4 : Int32) = nI 4 from rfl, pk_mul]
    have hn0 := nI_ne0 hN (show N < 2 ^ 31 by omega)
    obtain ⟨f2, e2, h2⟩ := lf_nat (g := a) (k := g / N) (t := g % N) hN hN2 hgd (Nat.mod_lt _ hN) hw
    have e54 := fr_54 (c := c) (v2 := nI g) (u := b) (f := f2) (C := cb (fst1 (eF N w)) g) (X := fun v => frm N w (st v)) (Y := frm N w g) hN2 (by omega) (fun v hv i hi => ⟨hfl _ _, (q3 v hv).2 i hi⟩) (fun i hi => ⟨hfl _ _, h2 i hi⟩)
    have hfst : allB (fun v => !eqB N (frm N w (st v)) (frm N w g)) (cb (fst1 (eF N w)) g) = fst1 (eF N w) g := by
      apply bool_ext
      rw [allB_iff, fst1_iff]
      constructor
      · intro h j hj
        obtain ⟨v, hv, hv2⟩ := q4 j hj
        cases hq : eF N w j g with
        | false => rfl
        | true =>
          have h3 := h v hv
          have h5 : eqB N (frm N w (st v)) (frm N w g) = true := eqB_iff.mpr (fun i hi => (eqB_iff.mp hv2 i hi).trans (eqB_iff.mp hq i hi))
          rw [h5] at h3; cases h3
      · intro h v hv
        have h3 : eqB N (frm N w (st v)) (frm N w g) = false := h (st v) (q3 v hv).1
        rw [h3]; rfl
    show ∃ t, X6_forms_23_s (nI N) row c a b (nI (cb (fst1 (eF N w)) g)) (nI g) = some (.inl t) ∧ _
    unfold X6_forms_23_s
    rw [h4, if_neg (nI_ge hg (by omega)), if_neg hn0, if_neg hn0, pk_div (by omega) hN (by omega), show nI g - nI (g / N) * nI N = nI (g % N) by rw [← pk_div (by omega) hN (by omega)]; exact pk_rem (by omega) hN (by omega), e2, bso, e54, bso, hfst]
    unfold X6_forms_137
    have hcs : cb (fst1 (eF N w)) (g + 1) = cb (fst1 (eF N w)) g + (if fst1 (eF N w) g = true then 1 else 0) := rfl
    rw [nI_1]
    cases hF : fst1 (eF N w) g with
    | false =>
      have hcs : cb (fst1 (eF N w)) (g + 1) = cb (fst1 (eF N w)) g := by rw [hcs, hF]; rfl
      rw [if_pos (show b1 false = 0 from rfl)]
      refine ⟨_, rfl, rfl, by rw [hcs], st, ?_, ?_⟩
      · rw [hcs]
        intro v hv
        exact ⟨Nat.lt_succ_of_lt (q3 v hv).1, (q3 v hv).2⟩
      · rw [hcs]
        intro j hj
        by_cases hj2 : j = g
        · subst hj2
          have : ¬ ∀ i, i < j → eF N w i j = false := fun q => by rw [fst1_iff.mpr q] at hF; cases hF
          have : ∃ i, i < j ∧ eF N w i j = true := by
            apply Classical.byContradiction
            intro hne
            apply this
            intro i hi
            cases hq : eF N w i j with
            | false => rfl
            | true => exact absurd ⟨i, hi, hq⟩ hne
          obtain ⟨i, hi, hij⟩ := this
          obtain ⟨v, hv, hv2⟩ := q4 i hi
          exact ⟨v, hv, eqB_iff.mpr (fun x hx => (eqB_iff.mp hv2 x hx).trans (eqB_iff.mp hij x hx))⟩
        · exact q4 j (by omega)
    | true =>
      have hcs : cb (fst1 (eF N w)) (g + 1) = cb (fst1 (eF N w)) g + 1 := by rw [hcs, hF]; rfl
      rw [if_neg (show ¬ b1 true = 0 from n10)]
      obtain ⟨u3, e3, k1, k2⟩ := fr_144 (c := c) (f := f2) (u := b) (v2 := nI g) (C := cb (fst1 (eF N w)) g) hN2 (by omega)
      rw [e3, bso]
      unfold X6_forms_178
      rw [nI_1, nI_1]
      refine ⟨_, rfl, rfl, by rw [hcs], fun v => if v < cb (fst1 (eF N w)) g then st v else g, ?_, ?_⟩
      · rw [hcs]
        intro v hv
        show (if v < cb (fst1 (eF N w)) g then st v else g) < g + 1 ∧ ∀ i, i < N → u3 (12 * v + i) = nI (frm N w (if v < cb (fst1 (eF N w)) g then st v else g) i)
        by_cases hv2 : v < cb (fst1 (eF N w)) g
        · rw [if_pos hv2]
          refine ⟨Nat.lt_succ_of_lt (q3 v hv2).1, ?_⟩
          intro i hi
          rw [k2 _ (by omega)]
          exact (q3 v hv2).2 i hi
        · rw [if_neg hv2]
          have : v = cb (fst1 (eF N w)) g := by omega
          subst this
          refine ⟨by omega, ?_⟩
          intro i hi
          rw [k1 i hi]
          exact h2 i hi
      · rw [hcs]
        intro j hj
        by_cases hj2 : j = g
        · subst hj2
          refine ⟨cb (fst1 (eF N w)) j, by omega, ?_⟩
          show eF N w (if cb (fst1 (eF N w)) j < cb (fst1 (eF N w)) j then _ else j) j = true
          rw [if_neg (Nat.lt_irrefl _)]
          exact eqB_iff.mpr (fun _ _ => rfl)
        · obtain ⟨v, hv, hv2⟩ := q4 j (by omega)
          refine ⟨v, by omega, ?_⟩
          show eF N w (if v < cb (fst1 (eF N w)) g then st v else g) j = true
          rw [if_pos hv]
          exact hv2
  · rintro ⟨a, b, v1, v2⟩ ⟨q1, q2, _⟩
    have q1 : v2 = nI (4 * N) := q1
    subst q1
    have h4 : (4 : Int32) * nI N = nI (4 * N) := by rw [show (4 : Int32) = nI 4 from rfl, pk_mul]
    show ∃ r, X6_forms_23_s (nI N) row c a b v1 (nI (4 * N)) = some (.inr r) ∧ _
    unfold X6_forms_23_s
    rw [h4, if_pos (nI_le (Nat.le_refl _) (by omega))]
    exact ⟨_, rfl, q2⟩
theorem op_forms : Op_forms InvC := by
  intro n ev ld0 ld1 ld2 tk mb f0 f1 f2 fr fu m_code m_n m_built m_length m_begin m_many m_leastOf m_sizeOf m_own m_bestRow m_tryRow m_keptRow m_otherRow m_row m_formRow m_allForms m_rowsOf m_intervals m_places m_whole ⟨N, hN, hN2, h1, h2, h3, l0, l1, l2, hR, hC, hT⟩
  subst h1; subst h2; subst h3
  have hR0 := hR
  obtain ⟨T, w, B, r1, r2, r3, r4, r5, r6, r7, r8⟩ := hR
  subst r2; subst r3
  unfold FX5_forms FX6_forms
  rcases wh_nat r1 hN2 with ⟨t1, t2, t3⟩ | ⟨t1, t2, t3⟩
  · subst t1
    have w1 : ∀ i, i < T → w i < T := fun i hi => (r6 i hi).1
    obtain ⟨⟨x, y, z⟩, e1, e2⟩ := fr_23 (row := m_row) (fr := m_formRow) (u := m_allForms) (c := 0) hN hN2 (fun i hi => ⟨(r6 i hi).1, (r6 i hi).2.2⟩)
    have e2 : z = nI (cb (fst1 (eF T w)) (4 * T)) := e2
    subst e2
    have hn := forms_n (w := w) hN w1
    have hle := cb_le (fun g => eqB T (frm T w g) w) (4 * T)
    have hpos : 0 < cb (fun g => eqB T (frm T w g) w) (4 * T) := by
      rcases Nat.eq_zero_or_pos (cb (fun g => eqB T (frm T w g) w) (4 * T)) with q | q
      · rw [q, Nat.zero_mul] at hn; omega
      · exact q
    have hdiv : 4 * T / cb (fun g => eqB T (frm T w g) w) (4 * T) = cb (fst1 (eF T w)) (4 * T) := by
      have := Nat.mul_div_cancel_left (cb (fst1 (eF T w)) (4 * T)) hpos
      rw [← hn] at this
      exact this
    rw [t2, bso, if_neg n10, fc_19 hN hN2 (fun i hi => ⟨(r6 i hi).1, (r6 i hi).2.1⟩), bso, if_pos t3, e1, bso]
    unfold X5_forms_70 FX5_quotient
    rw [if_neg (nI_ne0 hpos (by omega)), if_neg (nI_ne0 hpos (by omega)), pk_div (by omega) hpos (by omega), hdiv, bso]
    exact ⟨_, _, _, _, rfl, rfl, T, hN, hN2, rfl, rfl, rfl, l0, l1, l2, hR0, hC, hT⟩
  · rw [t2, bso, if_pos rfl, if_neg t3]
    exact ⟨-3, 0, _, _, rfl, rfl, N, hN, hN2, rfl, rfl, rfl, l0, l1, l2, hR0, hC, hT⟩
