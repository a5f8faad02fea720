/-! pieces: fills, derived, kept -/
theorem loop_two {σ τ ρ κ : Type} {s1 : σ → Option (σ ⊕ ρ)} {s2 : τ → Option (τ ⊕ κ)} (R : ρ → κ → Prop) : ∀ (n F : Nat) (P : Nat → σ → τ → Prop) (a : σ) (b : τ), n < F → (∀ i a b, i < n → P i a b → (∃ r q, s1 a = some (.inr r) ∧ s2 b = some (.inr q) ∧ R r q) ∨ (∃ t u, s1 a = some (.inl t) ∧ s2 b = some (.inl u) ∧ P (i + 1) t u)) → (∀ a b, P n a b → ∃ r q, s1 a = some (.inr r) ∧ s2 b = some (.inr q) ∧ R r q) → P 0 a b → ∃ r q, loopN s1 F a = some r ∧ loopN s2 F b = some q ∧ R r q := by
  intro n
  induction n with
  | zero =>
    intro F P a b hF _ he h0
    cases F with
    | zero => omega
    | succ F =>
      obtain ⟨r, q, e1, e2, hr⟩ := he a b h0
      refine ⟨r, q, ?_, ?_, hr⟩
      · show (s1 a).bind _ = _
        rw [e1]; rfl
      · show (s2 b).bind _ = _
        rw [e2]; rfl
  | succ n ih =>
    intro F P a b hF hs he h0
    cases F with
    | zero => omega
    | succ F =>
      rcases hs 0 a b (by omega) h0 with ⟨r, q, e1, e2, hr⟩ | ⟨t, u, e1, e2, h1⟩
      · refine ⟨r, q, ?_, ?_, hr⟩
        · show (s1 a).bind _ = _
          rw [e1]; rfl
        · show (s2 b).bind _ = _
          rw [e2]; rfl
      · obtain ⟨r, q, f1, f2, hr⟩ := ih F (fun i => P (i + 1)) t u (by omega) (fun i a b hi hp => hs (i + 1) a b (by omega) hp) he h1
        refine ⟨r, q, ?_, ?_, hr⟩
        · show (s1 a).bind _ = _
          rw [e1]; exact f1
        · show (s2 b).bind _ = _
          rw [e2]; exact f2
def pcs (w : Nat → Nat) (a : Nat) : Nat → Nat
  | 0 => 0
  | k + 1 => pcs w a k ||| 2 ^ w (a + k)
theorem pcs_s (w : Nat → Nat) (a k : Nat) : pcs w a (k + 1) = pcs w a k ||| 2 ^ w (a + k) := rfl
theorem pcs_bit {w : Nat → Nat} {a j : Nat} : ∀ d, (pcs w a d).testBit j = true ↔ ∃ i, i < d ∧ w (a + i) = j := by
  intro d
  induction d with
  | zero => exact ⟨fun h => (by rw [show pcs w a 0 = 0 from rfl, Nat.zero_testBit] at h; cases h), fun ⟨i, h, _⟩ => by omega⟩
  | succ d ih =>
    rw [pcs_s, or_bit, ih]
    constructor
    · rintro (⟨i, hi, q⟩ | q)
      · exact ⟨i, by omega, q⟩
      · exact ⟨d, by omega, q⟩
    · rintro ⟨i, hi, q⟩
      by_cases h : i = d
      · subst h; exact Or.inr q
      · exact Or.inl ⟨i, by omega, q⟩
theorem pcs_lt {w : Nat → Nat} {a N : Nat} : ∀ d, (∀ i, i < d → w (a + i) < N) → pcs w a d < 2 ^ N := by
  intro d h
  apply lt_of_bits
  intro j hj
  obtain ⟨i, hi, q⟩ := (pcs_bit d).mp hj
  rw [← q]
  exact h i hi
theorem pc_c {N a d : Nat} {f : Nat → Int32} {w : Nat → Nat} (hN2 : N ≤ 12) (had : a + d ≤ N) (hw : ∀ i, i < N → w i < N ∧ f i = nI (w i)) : FX3_piece (nI N) f (nI a) (nI d) = some (nI (pcs w a d)) := by
  unfold FX3_piece X3_piece_30
  have h : X3_piece_5_l (nI N) f (nI a) (nI d) 0 (nI a) = some (nI (pcs w a d)) := by
    unfold X3_piece_5_l
    refine loop_at _ d FU (fun i => (nI (pcs w a i), nI (a + i))) _ rfl (FU_big (by omega)) ?_ ?_
    · intro i hi
      have p := hw (a + i) (by omega)
      show X3_piece_5_s (nI N) f (nI a) (nI d) (nI (pcs w a i)) (nI (a + i)) = some (.inl (nI (pcs w a i ||| 2 ^ w (a + i)), nI (a + i + 1)))
      unfold X3_piece_5_s
      rw [nI_add, if_neg (nI_ge (by omega) (by omega)), at_nat hN2 (by omega) p.2, bso, n_one (by omega), nx_or, nI_1]
    · show X3_piece_5_s (nI N) f (nI a) (nI d) (nI (pcs w a d)) (nI (a + d)) = _
      unfold X3_piece_5_s
      rw [nI_add, if_pos (nI_le (Nat.le_refl _) (by omega))]
  rw [h, bso]
theorem fp_c {N a d k t : Nat} {f : Nat → Int32} {w : Nat → Nat} (hN : 0 < N) (hN2 : N ≤ 12) (hk : k < 4) (ht : t < N) (had : a + d ≤ N) (hw : ∀ i, i < N → w i < N ∧ f i = nI (w i)) : FX3_formPiece (nI N) (nI N) f (nI k) (nI t) (nI a) (nI d) = some (nI (pcs (fm N w k t) a d)) := by
  unfold FX3_formPiece X3_formPiece_36
  have h : X3_formPiece_6_l (nI N) (nI N) f (nI k) (nI t) (nI a) (nI d) 0 (nI a) = some (nI (pcs (fm N w k t) a d)) := by
    unfold X3_formPiece_6_l
    refine loop_at _ d FU (fun i => (nI (pcs (fm N w k t) a i), nI (a + i))) _ rfl (FU_big (by omega)) ?_ ?_
    · intro i hi
      have hl := fm_lt (w := w) (k := k) (t := t) (i := a + i) hN
      show X3_formPiece_6_s (nI N) (nI N) f (nI k) (nI t) (nI a) (nI d) (nI (pcs (fm N w k t) a i)) (nI (a + i)) = some (.inl (nI (pcs (fm N w k t) a i ||| 2 ^ fm N w k t (a + i)), nI (a + i + 1)))
      unfold X3_formPiece_6_s
      rw [nI_add, if_neg (nI_ge (by omega) (by omega)), fs_nat hN hN2 hk ht (by omega) hw, bso, n_one (by omega), nx_or, nI_1]
    · show X3_formPiece_6_s (nI N) (nI N) f (nI k) (nI t) (nI a) (nI d) (nI (pcs (fm N w k t) a d)) (nI (a + d)) = _
      unfold X3_formPiece_6_s
      rw [nI_add, if_pos (nI_le (Nat.le_refl _) (by omega))]
  rw [h, bso]
theorem pc_m {N a d : Nat} {f : Nat → Int32} {w : Nat → Nat} (hN2 : N ≤ 12) (had : a + d ≤ N) (hw : ∀ i, i < N → w i < N ∧ f i = nI (w i)) : FX6_piece f (nI a) (nI d) = some (nI (pcs w a d)) := by
  unfold FX6_piece X6_piece_31
  have h : X6_piece_5_l f (nI a) (nI d) 0 0 = some (nI (pcs w a d)) := by
    unfold X6_piece_5_l
    refine loop_at _ d FU (fun i => (nI (pcs w a i), nI i)) _ rfl (FU_big (by omega)) ?_ ?_
    · intro i hi
      have p := hw (a + i) (by omega)
      show X6_piece_5_s f (nI a) (nI d) (nI (pcs w a i)) (nI i) = some (.inl (nI (pcs w a i ||| 2 ^ w (a + i)), nI (i + 1)))
      unfold X6_piece_5_s
      rw [nI_add, if_neg (nI_ge (by omega) (by omega)), if_neg (nI_in (by omega) (by omega)), nI_clamp (by omega), p.2, n_one (by omega), nx_or, nI_1]
    · show X6_piece_5_s f (nI a) (nI d) (nI (pcs w a d)) (nI d) = _
      unfold X6_piece_5_s
      rw [if_pos (nI_le (Nat.le_refl _) (by omega))]
  rw [h, bso]
theorem allB_s (p : Nat → Bool) (k : Nat) : allB p (k + 1) = (p k && allB p k) := rfl
theorem allB_iff {p : Nat → Bool} : ∀ {n : Nat}, allB p n = true ↔ ∀ i, i < n → p i = true := by
  intro n
  constructor
  · exact fun h => allB_at h
  · induction n with
    | zero => intro _; rfl
    | succ n ih =>
      intro h
      rw [allB_s, Bool.and_eq_true]
      exact ⟨h n (by omega), ih (fun i hi => h i (by omega))⟩
theorem fl_in2 {N a : Nat} {f g : Nat → Int32} {w v : Nat → Nat} {mc x y : Int32} {c : Bool} (hN2 : N ≤ 12) (ha : a < N / 2) (hw : ∀ i, i < N → w i < N ∧ f i = nI (w i)) (hg : ∀ i, i < N → v i < N ∧ g i = nI (v i)) : X6_fills_86_l (nI N) f mc g x y (nI a) (b1 c) 0 = some (b1 (allB (fun b => !decide (w a = v b)) (N / 2) && c)) := by
  have hd2 : nI N / (2 : Int32) = nI (N / 2) := pk_div (d := 2) (by omega) (by omega) (by omega)
  unfold X6_fills_86_l
  refine loop_at _ (N / 2) FU (fun i => (b1 (allB (fun b => !decide (w a = v b)) i && c), nI i)) _ rfl (FU_big (by omega)) ?_ ?_
  · intro i hi
    have p := hw a (by omega)
    have q := hg i (by omega)
    show X6_fills_86_s (nI N) f mc g x y (nI a) (b1 (allB (fun b => !decide (w a = v b)) i && c)) (nI i) = some (.inl (b1 ((!decide (w a = v i) && allB (fun b => !decide (w a = v b)) i) && c), nI (i + 1)))
    unfold X6_fills_86_s
    rw [hd2, if_neg (nI_ge hi (by omega)), if_neg (nI_in (c := a) (by omega) (by omega)), if_neg (nI_in (c := i) (by omega) (by omega)), nI_clamp (by omega), nI_clamp (by omega), p.2, q.2, nI_1, Bool.and_assoc]
    cases (allB (fun b => !decide (w a = v b)) i && c) with
    | false => rw [Bool.and_false, if_pos (show b1 false = 0 from rfl)]; rfl
    | true =>
      rw [if_neg (show ¬ b1 true = 0 from n10), Bool.and_true]
      by_cases hc : w a = v i
      · rw [if_pos (by rw [hc]), decide_eq_true hc]; rfl
      · rw [if_neg (fun q => hc ((nI_eq (by omega) (by omega)).mp q)), decide_eq_false hc]; rfl
  · show X6_fills_86_s (nI N) f mc g x y (nI a) (b1 (allB (fun b => !decide (w a = v b)) (N / 2) && c)) (nI (N / 2)) = _
    unfold X6_fills_86_s
    rw [hd2, if_pos (nI_le (Nat.le_refl _) (by omega))]
theorem fl_out2 {N : Nat} {f g : Nat → Int32} {w v : Nat → Nat} {mc x y : Int32} (hN2 : N ≤ 12) (hw : ∀ i, i < N → w i < N ∧ f i = nI (w i)) (hg : ∀ i, i < N → v i < N ∧ g i = nI (v i)) : X6_fills_72_l (nI N) f mc g x y 1 0 = some (b1 (allB (fun a => allB (fun b => !decide (w a = v b)) (N / 2)) (N / 2))) := by
  have hd2 : nI N / (2 : Int32) = nI (N / 2) := pk_div (d := 2) (by omega) (by omega) (by omega)
  unfold X6_fills_72_l
  refine loop_at _ (N / 2) FU (fun i => (b1 (allB (fun a => allB (fun b => !decide (w a = v b)) (N / 2)) i), nI i)) _ rfl (FU_big (by omega)) ?_ ?_
  · intro i hi
    show X6_fills_72_s (nI N) f mc g x y (b1 (allB (fun a => allB (fun b => !decide (w a = v b)) (N / 2)) i)) (nI i) = some (.inl (b1 (allB (fun b => !decide (w i = v b)) (N / 2) && allB (fun a => allB (fun b => !decide (w a = v b)) (N / 2)) i), nI (i + 1)))
    unfold X6_fills_72_s X6_fills_132
    rw [hd2, if_neg (nI_ge hi (by omega)), fl_in2 hN2 hi hw hg, bso, nI_1]
  · show X6_fills_72_s (nI N) f mc g x y (b1 (allB (fun a => allB (fun b => !decide (w a = v b)) (N / 2)) (N / 2))) (nI (N / 2)) = _
    unfold X6_fills_72_s
    rw [hd2, if_pos (nI_le (Nat.le_refl _) (by omega))]
theorem ap_iff {w v : Nat → Nat} {h : Nat} : pcs v 0 h &&& pcs w 0 h = 0 ↔ allB (fun a => allB (fun b => !decide (w a = v b)) h) h = true := by
  rw [allB_iff]
  constructor
  · intro e a ha
    rw [allB_iff]
    intro b hb
    rw [Bool.not_eq_true', decide_eq_false_iff_not]
    intro q
    have : (pcs v 0 h &&& pcs w 0 h).testBit (w a) = true := by
      rw [Nat.testBit_and, Bool.and_eq_true, pcs_bit, pcs_bit]
      exact ⟨⟨b, hb, by rw [Nat.zero_add]; exact q.symm⟩, ⟨a, ha, by rw [Nat.zero_add]⟩⟩
    rw [e, Nat.zero_testBit] at this
    cases this
  · intro q
    apply bit_ext
    intro j
    rw [Nat.testBit_and, Bool.and_eq_true, pcs_bit, pcs_bit, Nat.zero_testBit]
    constructor
    · rintro ⟨⟨b, hb, e1⟩, ⟨a, ha, e2⟩⟩
      have := allB_iff.mp (q a ha) b hb
      rw [Bool.not_eq_true', decide_eq_false_iff_not] at this
      rw [Nat.zero_add] at e1 e2
      exact absurd (e2.trans e1.symm) this
    · intro h; cases h
theorem fl_loop {N k : Nat} {f f2 g : Nat → Int32} {w : Nat → Nat} {x2 : Int32} (hN : 0 < N) (hN2 : N ≤ 12) (hk : k < 4) (hx : ¬ x2 < 0) (hw : ∀ i, i < N → w i < N ∧ f i = nI (w i)) (hw2 : ∀ i, i < N → w i < N ∧ f2 i = nI (w i)) : ∃ r q, X5_fills_62_l (nI N) (nI N) f (nI k) x2 (nI (N / 2)) (nI (pcs w 0 (N / 2))) 0 0 = some r ∧ X6_fills_46_l (nI N) f2 (nI k) x2 0 g 0 0 = some q ∧ ((∃ t m, r = .inl t ∧ q = .inl (m, t)) ∨ (∃ m, r = .inr () ∧ q = .inr m)) := by
  have hp := pow_le12 hN2
  unfold X5_fills_62_l X6_fills_46_l
  refine loop_two (fun (r : Int32 ⊕ Unit) (q : ((Nat → Int32) × Int32) ⊕ (Nat → Int32)) => (∃ t m, r = .inl t ∧ q = .inl (m, t)) ∨ (∃ m, r = .inr () ∧ q = .inr m)) N FU (fun i (a : Int32 × Int32) (b : (Nat → Int32) × Int32 × Int32) => a.2 = nI i ∧ b.2.2 = nI i ∧ a.1 = b.2.1) _ _ (FU_big (by omega)) ?_ ?_ ⟨rfl, rfl, rfl⟩
  · rintro t ⟨c, y⟩ ⟨m, c2, y2⟩ ht ⟨q1, q2, q3⟩
    have q1 : y = nI t := q1
    have q2 : y2 = nI t := q2
    have q3 : c = c2 := q3
    subst q1; subst q2; subst q3
    obtain ⟨m2, e1, hm⟩ := lf_nat (g := m) hN hN2 hk ht hw2
    have hl1 : pcs (fm N w k t) 0 (N / 2) < 2 ^ N := pcs_lt _ (fun i _ => fm_lt hN)
    have hl2 : pcs (fm N w k t) 0 (N / 2) &&& pcs w 0 (N / 2) < 2 ^ N := bit_and_lt hl1
    have E1 : X5_fills_62_s (nI N) (nI N) f (nI k) x2 (nI (N / 2)) (nI (pcs w 0 (N / 2))) c (nI t) = if nI (pcs (fm N w k t) 0 (N / 2) &&& pcs w 0 (N / 2)) = 0 then (if c = x2 then some (.inr (.inl (nI t))) else some (.inl (c + 1, nI (t + 1)))) else some (.inl (c, nI (t + 1))) := by
      have z := fp_c (a := 0) (d := N / 2) hN hN2 hk ht (by omega) hw
      have z : FX3_formPiece (nI N) (nI N) f (nI k) (nI t) 0 (nI (N / 2)) = some (nI (pcs (fm N w k t) 0 (N / 2))) := z
      unfold X5_fills_62_s FX0_count
      rw [bso, if_neg (nI_ge ht (by omega)), z, bso, nx_and, nI_1]
    have E2 : X6_fills_46_s (nI N) f2 (nI k) x2 0 m c (nI t) = X6_fills_138 x2 0 m2 c (nI t) (b1 (allB (fun a => allB (fun b => !decide (w a = fm N w k t b)) (N / 2)) (N / 2))) := by
      unfold X6_fills_46_s
      rw [if_neg (nI_ge ht (by omega)), if_neg hx, e1, bso, fl_out2 hN2 hw2 (fun i hi => ⟨fm_lt hN, hm i hi⟩), bso]
    show (∃ r q, X5_fills_62_s (nI N) (nI N) f (nI k) x2 (nI (N / 2)) (nI (pcs w 0 (N / 2))) c (nI t) = some (.inr r) ∧ X6_fills_46_s (nI N) f2 (nI k) x2 0 m c (nI t) = some (.inr q) ∧ _) ∨ (∃ r q, X5_fills_62_s (nI N) (nI N) f (nI k) x2 (nI (N / 2)) (nI (pcs w 0 (N / 2))) c (nI t) = some (.inl r) ∧ X6_fills_46_s (nI N) f2 (nI k) x2 0 m c (nI t) = some (.inl q) ∧ _)
    rw [E1, E2]
    unfold X6_fills_138
    rw [nI_1]
    by_cases ha : pcs (fm N w k t) 0 (N / 2) &&& pcs w 0 (N / 2) = 0
    · rw [ap_iff.mp ha, ha, if_pos (show nI 0 = 0 from rfl), if_neg (show ¬ b1 true = 0 from n10)]
      by_cases hc : c = x2
      · rw [if_pos hc, if_pos hc]
        exact Or.inl ⟨_, _, rfl, rfl, Or.inl ⟨_, _, rfl, rfl⟩⟩
      · rw [if_neg hc, if_neg hc]
        exact Or.inr ⟨_, _, rfl, rfl, rfl, rfl, rfl⟩
    · have hb : allB (fun a => allB (fun b => !decide (w a = fm N w k t b)) (N / 2)) (N / 2) = false := by
        cases h : allB (fun a => allB (fun b => !decide (w a = fm N w k t b)) (N / 2)) (N / 2)
        · rfl
        · exact absurd (ap_iff.mpr h) ha
      rw [hb, if_neg (nI_ne0 (by omega) (by omega)), if_pos (show b1 false = 0 from rfl)]
      exact Or.inr ⟨_, _, rfl, rfl, rfl, rfl, rfl⟩
  · rintro ⟨c, y⟩ ⟨m, c2, y2⟩ ⟨q1, q2, q3⟩
    have q1 : y = nI N := q1
    have q2 : y2 = nI N := q2
    subst q1; subst q2
    show ∃ r q, X5_fills_62_s (nI N) (nI N) f (nI k) x2 (nI (N / 2)) (nI (pcs w 0 (N / 2))) c (nI N) = some (.inr r) ∧ X6_fills_46_s (nI N) f2 (nI k) x2 0 m c2 (nI N) = some (.inr q) ∧ _
    unfold X5_fills_62_s X6_fills_46_s FX0_count
    rw [bso, if_pos (nI_le (Nat.le_refl _) (by omega)), if_pos (nI_le (Nat.le_refl _) (by omega))]
    exact ⟨_, _, rfl, rfl, Or.inr ⟨_, rfl, rfl⟩⟩
theorem fl_neg {N k : Nat} {f : Nat → Int32} {w : Nat → Nat} {x2 : Int32} (hN : 0 < N) (hN2 : N ≤ 12) (hk : k < 4) (hx : x2 < 0) (hw : ∀ i, i < N → w i < N ∧ f i = nI (w i)) : ∃ r, X5_fills_62_l (nI N) (nI N) f (nI k) x2 (nI (N / 2)) (nI (pcs w 0 (N / 2))) 0 0 = some r ∧ r = .inr () := by
  unfold X5_fills_62_l
  refine loop_inv (fun r : Int32 ⊕ Unit => r = .inr ()) N FU (fun i (a : Int32 × Int32) => a.2 = nI i ∧ ∃ c, c ≤ i ∧ a.1 = nI c) _ (FU_big (by omega)) ?_ ?_ ⟨rfl, 0, Nat.le_refl 0, rfl⟩
  · rintro t ⟨c0, y⟩ ht ⟨q1, c, q2, q3⟩
    have q1 : y = nI t := q1
    have q3 : c0 = nI c := q3
    subst q1; subst q3
    have z := fp_c (a := 0) (d := N / 2) hN hN2 hk ht (by omega) hw
    have z : FX3_formPiece (nI N) (nI N) f (nI k) (nI t) 0 (nI (N / 2)) = some (nI (pcs (fm N w k t) 0 (N / 2))) := z
    show ∃ u, X5_fills_62_s (nI N) (nI N) f (nI k) x2 (nI (N / 2)) (nI (pcs w 0 (N / 2))) (nI c) (nI t) = some (.inl u) ∧ _
    have hcx : ¬ nI c = x2 := fun q => nI_pos (n := c) (by omega) (by rw [q]; exact hx)
    unfold X5_fills_62_s FX0_count
    rw [bso, if_neg (nI_ge ht (by omega)), z, bso, nx_and, nI_1, nI_1, if_neg hcx]
    split
    · exact ⟨_, rfl, rfl, c + 1, by omega, rfl⟩
    · exact ⟨_, rfl, rfl, c, by omega, rfl⟩
  · rintro ⟨c0, y⟩ ⟨q1, _⟩
    have q1 : y = nI N := q1
    subst q1
    show ∃ r, X5_fills_62_s (nI N) (nI N) f (nI k) x2 (nI (N / 2)) (nI (pcs w 0 (N / 2))) c0 (nI N) = some (.inr r) ∧ _
    unfold X5_fills_62_s FX0_count
    rw [bso, if_pos (nI_le (Nat.le_refl _) (by omega))]
    exact ⟨_, rfl, rfl⟩
theorem op_fills : Op_fills InvC := by
  intro n ev ld0 ld1 ld2 tk mb f0 f1 f2 fr fu m_code m_n m_built m_length m_begin m_many m_leastOf m_sizeOf m_own m_bestRow m_tryRow m_keptRow m_otherRow m_row m_formRow m_allForms m_rowsOf m_intervals m_places m_whole a1 a2 ⟨N, hN, hN2, h1, h2, h3, l0, l1, l2, hR, hC, hT⟩
  subst h1; subst h2; subst h3
  have hR0 := hR
  obtain ⟨T, w, B, r1, r2, r3, r4, r5, r6, r7, r8⟩ := hR
  subst r2; subst r3
  unfold FX5_fills FX6_fills FX0_count
  rcases fkind_dec a1 with ⟨e1, e2⟩ | ⟨k, hk, rfl, e1, e2⟩
  · rw [e1, e2]
    exact ⟨-2, 0, m_formRow, rfl, rfl, N, hN, hN2, rfl, rfl, rfl, l0, l1, l2, hR0, hC, hT⟩
  · rw [e1, e2]
    simp only [bso]
    rw [if_neg n10, if_neg n10]
    rcases wh_nat r1 hN2 with ⟨rfl, e1, e2⟩ | ⟨hlt, e1, e2⟩
    · have hd2 : nI T / (2 : Int32) = nI (T / 2) := pk_div (d := 2) (by omega) (by omega) (by omega)
      have hr2 : nI T - nI (T / 2) * (2 : Int32) = nI (T % 2) := by
        rw [← hd2]; exact pk_rem (d := 2) (by omega) (by omega) (by omega)
      have hwc : ∀ i, i < T → w i < T ∧ fr i = nI (w i) := fun i hi => ⟨(r6 i hi).1, (r6 i hi).2.1⟩
      have hwm : ∀ i, i < T → w i < T ∧ m_row i = nI (w i) := fun i hi => ⟨(r6 i hi).1, (r6 i hi).2.2⟩
      rw [e1, bso, if_neg n10, if_neg (nI_nlt (Nat.le_refl _) (by omega)), hd2, hr2]
      by_cases hm : T % 2 = 1
      · rw [hm, if_pos (show nI 1 = 1 from rfl), if_neg (show ¬ nI 1 = 0 from n10)]
        exact ⟨-3, 0, m_formRow, rfl, rfl, T, hN, hN2, rfl, rfl, rfl, l0, l1, l2, hR0, hC, hT⟩
      · have hm0 : T % 2 = 0 := by omega
        have z := pc_c (a := 0) (d := T / 2) hN2 (by omega) hwc
        have z : FX3_piece (nI T) fr 0 (nI (T / 2)) = some (nI (pcs w 0 (T / 2))) := z
        rw [hm0, if_neg (show ¬ nI 0 = 1 by decide), if_pos (show nI 0 = 0 from rfl), z, bso]
        by_cases hx : a2 < 0
        · obtain ⟨r, e3, rfl⟩ := fl_neg hN hN2 hk hx hwc
          have e4 : X6_fills_46_l (nI T) m_row (nI k) a2 0 m_formRow 0 0 = some (.inr m_formRow) := by
            unfold X6_fills_46_l
            refine loop_at _ 0 FU (fun _ => (m_formRow, 0, 0)) _ rfl (FU_big (by omega)) (fun i hi => by omega) ?_
            show X6_fills_46_s (nI T) m_row (nI k) a2 0 m_formRow 0 0 = _
            unfold X6_fills_46_s
            rw [if_neg (nI_nle hN (by omega)), if_pos hx]
          rw [e3, e4]
          exact ⟨-1, 0, m_formRow, rfl, rfl, T, hN, hN2, rfl, rfl, rfl, l0, l1, l2, hR0, hC, hT⟩
        · obtain ⟨r, q, e3, e4, h⟩ := fl_loop (g := m_formRow) hN hN2 hk hx hwc hwm
          rw [e3, e4]
          rcases h with ⟨t, m, rfl, rfl⟩ | ⟨m, rfl, rfl⟩
          · exact ⟨t, 0, m, rfl, rfl, T, hN, hN2, rfl, rfl, rfl, l0, l1, l2, hR0, hC, hT⟩
          · exact ⟨-1, 0, m, rfl, rfl, T, hN, hN2, rfl, rfl, rfl, l0, l1, l2, hR0, hC, hT⟩
    · rw [e1, if_pos (nI_lt hlt (by omega))]
      exact ⟨-3, 0, m_formRow, rfl, rfl, N, hN, hN2, rfl, rfl, rfl, l0, l1, l2, hR0, hC, hT⟩
