/-! add, unlike -/
theorem cb_true : ∀ n, cb (fun _ => true) n = n := by
  intro n
  induction n with
  | zero => rfl
  | succ n ih => rw [cb_s, ih]; rfl
theorem or_bit {B x v : Nat} : (B ||| 2 ^ x).testBit v = true ↔ B.testBit v = true ∨ x = v := by
  rw [Nat.testBit_or, Bool.or_eq_true, Nat.testBit_two_pow, decide_eq_true_iff]
theorem and_pow {S k : Nat} : S &&& 2 ^ k = 0 ↔ S.testBit k = false := by
  constructor
  · intro h
    have h2 : (S &&& 2 ^ k).testBit k = false := by rw [h]; exact Nat.zero_testBit k
    rw [Nat.testBit_and, Nat.testBit_two_pow, decide_eq_true (rfl : k = k), Bool.and_true] at h2
    exact h2
  · intro h
    apply Nat.eq_of_testBit_eq
    intro j
    rw [Nat.testBit_and, Nat.testBit_two_pow, Nat.zero_testBit]
    by_cases hc : k = j
    · subst hc; rw [h]; rfl
    · rw [decide_eq_false hc, Bool.and_false]
theorem op_add : Op_add InvC := by
  intro n ev ld0 ld1 ld2 tk mb f0 f1 f2 fr fu m_code m_n m_built m_length m_begin m_many m_leastOf m_sizeOf m_own m_bestRow m_tryRow m_keptRow m_otherRow m_row m_formRow m_allForms m_rowsOf m_intervals m_places m_whole a1 ⟨N, hN, hN2, h1, h2, h3, l0, l1, l2, hR, hC, hT⟩
  subst h1; subst h2; subst h3
  have hp := pow_le12 hN2
  have hR0 := hR
  obtain ⟨T, w, B, r1, r2, r3, r4, r5, r6, r7, r8⟩ := hR
  subst r2; subst r3; subst r4
  unfold FX5_add FX6_add
  rcases step_dec hN2 a1 with ⟨e1, e2⟩ | ⟨t, ht, rfl, e1, e2⟩
  · rw [e1, e2]
    exact ⟨-2, nI T, nI B, fr, 0, nI T, m_row, rfl, rfl, N, hN, hN2, rfl, rfl, rfl, l0, l1, l2, hR0, hC, hT⟩
  · rw [e1, e2, bso, bso, if_neg n10, if_neg n10]
    have hb := n_bit (a := B) (k := t) (by omega) (by omega)
    unfold FX3_has
    have key : ∀ i, i < T → X6_add_18_s (nI t) 0 (nI T) m_row (nI i) = if w i = t then some (.inr (.inl ())) else some (.inl (nI (i + 1))) := by
      intro i hi
      have h6 := r6 i hi
      unfold X6_add_18_s
      rw [if_neg (nI_ge hi (by omega)), if_neg (nI_in (by omega) (by omega)), nI_clamp (by omega), h6.2.2, nI_1]
      by_cases hc : w i = t
      · rw [if_pos ((nI_eq (by omega) (by omega)).mpr hc), if_pos hc]
      · rw [if_neg (fun q => hc ((nI_eq (by omega) (by omega)).mp q)), if_neg hc]
    have last : X6_add_18_s (nI t) 0 (nI T) m_row (nI T) = some (.inr (.inr ())) := by
      unfold X6_add_18_s
      rw [if_pos (nI_le (Nat.le_refl _) (by omega))]
    by_cases hx : B.testBit t = true
    · rw [if_pos (hb.mpr hx), bso, if_neg n10]
      have hl : ∃ r, X6_add_18_l (nI t) 0 (nI T) m_row 0 = some r ∧ r = .inl () := by
        unfold X6_add_18_l
        refine loop_ex (fun r : Unit ⊕ Unit => r = .inl ()) T FU (fun i z => z = nI i ∧ ∀ j, j < i → w j ≠ t) 0 (FU_big (by omega)) ?_ ?_ ⟨rfl, fun j hj => by omega⟩
        · rintro i z hi ⟨rfl, q⟩
          rw [key i hi]
          by_cases hc : w i = t
          · rw [if_pos hc]; exact Or.inl ⟨_, rfl, rfl⟩
          · rw [if_neg hc]
            refine Or.inr ⟨_, rfl, rfl, ?_⟩
            intro j hj
            by_cases h : j = i
            · subst h; exact hc
            · exact q j (by omega)
        · rintro z ⟨rfl, q⟩
          obtain ⟨i, hi, hw⟩ := (r8 t).mp hx
          exact absurd hw (q i hi)
      obtain ⟨r, e, rfl⟩ := hl
      rw [e]
      exact ⟨-3, nI T, nI B, fr, 0, nI T, m_row, rfl, rfl, N, hN, hN2, rfl, rfl, rfl, l0, l1, l2, hR0, hC, hT⟩
    · have hno : ∀ i, i < T → w i ≠ t := fun i hi q => hx ((r8 t).mpr ⟨i, hi, q⟩)
      rw [if_neg (fun q => hx (hb.mp q)), bso, if_pos rfl]
      have hl : X6_add_18_l (nI t) 0 (nI T) m_row 0 = some (.inr ()) := by
        unfold X6_add_18_l
        refine loop_at _ T FU (fun i => nI i) 0 rfl (FU_big (by omega)) ?_ last
        intro i hi
        show X6_add_18_s (nI t) 0 (nI T) m_row (nI i) = _
        rw [key i hi, if_neg (hno i hi)]
      have hTN : T < N := by
        have c1 := cb_inj T N (fun _ => true) (fun v => true && !decide (v = t)) w (fun i hi _ => ⟨(r6 i hi).1, by rw [decide_eq_false (hno i hi)]; rfl⟩) (fun i j hi hj _ _ e => r7 i j hi hj e)
        have c2 := cb_rm (q := fun _ => true) (M := N) ht rfl
        rw [cb_true] at c1 c2
        omega
      rw [hl, bso]
      unfold FX3_append FX3_length X6_add_45
      have g12 : ¬ (12 : Int32) ≤ nI T := nI_ge (b := 12) (by omega) (by omega)
      have gp : nI T + (1 : Int32) = nI (T + 1) := nI_1 T
      rw [if_neg g12, if_neg (nI_in (by omega) (by omega)), nI_clamp (by omega), gp, n_one (by omega), nx_or, bind3_some, bso]
      refine ⟨nI (T + 1), nI (T + 1), nI (B ||| 2 ^ t), upd fr T (nI t), 0, nI (T + 1), upd m_row T (nI t), rfl, ?_, N, hN, hN2, rfl, rfl, rfl, l0, l1, l2, ?_, hC, hT⟩
      · show (if nI T < 0 ∨ 12 ≤ T then none else some (nI (T + 1), 0, nI (T + 1), upd m_row T (nI t))) = _
        rw [if_neg]
        rintro (q | q)
        · exact nI_pos (by omega) q
        · omega
      · have hold : ∀ i, i < T → (if i = T then t else w i) = w i := fun i hi => if_neg (by omega)
        refine ⟨T + 1, fun i => if i = T then t else w i, B ||| 2 ^ t, by omega, rfl, rfl, rfl, Nat.or_lt_two_pow r5 (Nat.pow_lt_pow_right (by omega) ht), ?_, ?_, ?_⟩
        · intro i hi
          by_cases hc : i = T
          · subst hc
            show (if i = i then t else w i) < N ∧ upd fr i (nI t) i = nI (if i = i then t else w i) ∧ upd m_row i (nI t) i = nI (if i = i then t else w i)
            rw [if_pos rfl, upd_s, upd_s]
            exact ⟨ht, rfl, rfl⟩
          · show (if i = T then t else w i) < N ∧ upd fr T (nI t) i = nI (if i = T then t else w i) ∧ upd m_row T (nI t) i = nI (if i = T then t else w i)
            rw [if_neg hc, upd_n _ _ hc, upd_n _ _ hc]
            exact r6 i (by omega)
        · intro i j hi hj
          show (if i = T then t else w i) = (if j = T then t else w j) → i = j
          by_cases hc : i = T
          · by_cases hd : j = T
            · intro _; omega
            · rw [if_pos hc, if_neg hd]
              intro q
              exact absurd q.symm (hno j (by omega))
          · by_cases hd : j = T
            · rw [if_neg hc, if_pos hd]
              intro q
              exact absurd q (hno i (by omega))
            · rw [if_neg hc, if_neg hd]
              exact r7 i j (by omega) (by omega)
        · intro v
          rw [or_bit, r8]
          constructor
          · rintro (⟨i, hi, q⟩ | q)
            · exact ⟨i, by omega, by show (if i = T then t else w i) = v; rw [hold i hi]; exact q⟩
            · exact ⟨T, by omega, by show (if T = T then t else w T) = v; rw [if_pos rfl]; exact q⟩
          · rintro ⟨i, hi, q⟩
            have q : (if i = T then t else w i) = v := q
            by_cases hc : i = T
            · rw [if_pos hc] at q; exact Or.inr q
            · rw [if_neg hc] at q; exact Or.inl ⟨i, by omega, q⟩
def iv (N : Nat) (w : Nat → Nat) (i : Nat) : Nat := (w (i + 1) + N - w i) % N
def ivH (N : Nat) (w : Nat → Nat) : Prop := ∃ a b, a < b ∧ b + 1 < N ∧ iv N w a = iv N w b
theorem un_c {N : Nat} {f : Nat → Int32} {w : Nat → Nat} (hN : 0 < N) (hN2 : N ≤ 12) (hw : ∀ i, i < N → w i < N ∧ f i = nI (w i)) : ∃ r, X3_hasUnlikeIntervals_4_l (nI N) (nI N) f 0 1 = some r ∧ ((r = .inl () ∧ ivH N w) ∨ (r = .inr () ∧ ¬ ivH N w)) := by
  have hp := pow_le12 hN2
  unfold X3_hasUnlikeIntervals_4_l
  refine loop_ex (fun r : Unit ⊕ Unit => (r = .inl () ∧ ivH N w) ∨ (r = .inr () ∧ ¬ ivH N w)) (N - 1) FU (fun i (z : Int32 × Int32) => z.2 = nI (i + 1) ∧ ∃ S, z.1 = nI S ∧ S < 2 ^ N ∧ (∀ x, S.testBit x = true ↔ ∃ j, j < i ∧ iv N w j = x) ∧ (∀ a b, a < b → b < i → iv N w a ≠ iv N w b)) (0, 1) (FU_big (by omega)) ?_ ?_ ⟨rfl, 0, rfl, pow_pos2 N, fun x => ⟨fun h => (by rw [Nat.zero_testBit] at h; cases h), fun ⟨j, h, _⟩ => by omega⟩, fun a b _ h => by omega⟩
  · rintro i ⟨x, y⟩ hi ⟨q1, S, q2, q3, q4, q5⟩
    have q1 : y = nI (i + 1) := q1
    have q2 : x = nI S := q2
    subst q1; subst q2
    have p1 := hw i (by omega)
    have p2 := hw (i + 1) (by omega)
    have hv : iv N w i < N := Nat.mod_lt _ hN
    have e1 : nI (i + 1) - (1 : Int32) = nI i := pk_sub (b := 1) (by omega)
    have e : X3_hasUnlikeIntervals_4_s (nI N) (nI N) f (nI S) (nI (i + 1)) = if nI (S &&& 2 ^ iv N w i) = 0 then some (.inl (nI (S ||| 2 ^ iv N w i), nI (i + 1 + 1))) else some (.inr (.inl ())) := by
      unfold X3_hasUnlikeIntervals_4_s
      rw [if_neg (nI_ge (by omega) (by omega)), at_nat hN2 (by omega) p2.2, bso, e1, at_nat hN2 (by omega) p1.2, bso, wr_nat hN hN2 (by omega) p1.1, bso]
      show (if (nI S &&& ((1 : Int32) <<< (nI (iv N w i) &&& 31))) = 0 then some (Sum.inl ((nI S ||| ((1 : Int32) <<< (nI (iv N w i) &&& 31))), nI (i + 1) + 1)) else some (Sum.inr (Sum.inl ()))) = _
      rw [n_one (by omega), nx_and, nx_or, nI_1]
    show (∃ r, X3_hasUnlikeIntervals_4_s (nI N) (nI N) f (nI S) (nI (i + 1)) = some (.inr r) ∧ _) ∨ (∃ t, X3_hasUnlikeIntervals_4_s (nI N) (nI N) f (nI S) (nI (i + 1)) = some (.inl t) ∧ _)
    rw [e]
    cases hb : S.testBit (iv N w i) with
    | false =>
      rw [and_pow.mpr hb, if_pos (show nI 0 = 0 from rfl)]
      refine Or.inr ⟨_, rfl, rfl, S ||| 2 ^ iv N w i, rfl, Nat.or_lt_two_pow q3 (Nat.pow_lt_pow_right (by omega) hv), ?_, ?_⟩
      · intro x
        rw [or_bit, q4]
        constructor
        · rintro (⟨j, hj, q⟩ | q)
          · exact ⟨j, by omega, q⟩
          · exact ⟨i, by omega, q⟩
        · rintro ⟨j, hj, q⟩
          by_cases h : j = i
          · subst h; exact Or.inr q
          · exact Or.inl ⟨j, by omega, q⟩
      · intro a b hab hb2 hq
        by_cases h : b = i
        · subst h
          rw [(q4 _).mpr ⟨a, hab, hq⟩] at hb
          cases hb
        · exact q5 a b hab (by omega) hq
    | true =>
      obtain ⟨j, hj, q⟩ := (q4 _).mp hb
      have hne : ¬ nI (S &&& 2 ^ iv N w i) = 0 := by
        apply nI_ne0
        · rcases Nat.eq_zero_or_pos (S &&& 2 ^ iv N w i) with h | h
          · rw [and_pow.mp h] at hb; cases hb
          · exact h
        · exact Nat.lt_of_lt_of_le (Nat.lt_of_lt_of_le (bit_and_lt q3) hp) (by omega)
      rw [if_neg hne]
      exact Or.inl ⟨_, rfl, Or.inl ⟨rfl, j, i, hj, by omega, q⟩⟩
  · rintro ⟨x, y⟩ ⟨q1, S, q2, q3, q4, q5⟩
    have q1 : y = nI (N - 1 + 1) := q1
    subst q1
    show ∃ r, X3_hasUnlikeIntervals_4_s (nI N) (nI N) f x (nI (N - 1 + 1)) = some (.inr r) ∧ _
    unfold X3_hasUnlikeIntervals_4_s
    rw [if_pos (nI_le (by omega) (by omega))]
    refine ⟨_, rfl, Or.inr ⟨rfl, ?_⟩⟩
    rintro ⟨a, b, hab, hb, hq⟩
    exact q5 a b hab (by omega) hq
theorem un_in {N a : Nat} {f : Nat → Int32} {w : Nat → Nat} (hN : 0 < N) (hN2 : N ≤ 12) (ha : a + 1 < N) (hw : ∀ i, i < N → w i < N ∧ f i = nI (w i)) : ∃ r, X6_unlike_35_l (nI N) f 0 (nI a) (nI (a + 1)) = some r ∧ ((r = .inl () ∧ ivH N w) ∨ (r = .inr () ∧ ∀ b, a < b → b + 1 < N → iv N w a ≠ iv N w b)) := by
  unfold X6_unlike_35_l
  refine loop_ex (fun r : Unit ⊕ Unit => (r = .inl () ∧ ivH N w) ∨ (r = .inr () ∧ ∀ b, a < b → b + 1 < N → iv N w a ≠ iv N w b)) (N - 2 - a) FU (fun i z => z = nI (a + 1 + i) ∧ ∀ b, a < b → b < a + 1 + i → iv N w a ≠ iv N w b) (nI (a + 1)) (FU_big (by omega)) ?_ ?_ ⟨rfl, fun b h1 h2 => by omega⟩
  · rintro i z hi ⟨rfl, q⟩
    have ya : nI a + (1 : Int32) = nI (a + 1) := nI_1 a
    have yb : nI (a + 1 + i) + (1 : Int32) = nI (a + 1 + i + 1) := nI_1 _
    have hn0 := nI_ne0 hN (show N < 2 ^ 31 by omega)
    have p1 := hw a (by omega)
    have p2 := hw (a + 1) (by omega)
    have p3 := hw (a + 1 + i) (by omega)
    have p4 := hw (a + 1 + i + 1) (by omega)
    have e : X6_unlike_35_s (nI N) f 0 (nI a) (nI (a + 1 + i)) = if nI (iv N w a) = nI (iv N w (a + 1 + i)) then some (.inr (.inl ())) else some (.inl (nI (a + 1 + i + 1))) := by
      unfold X6_unlike_35_s
      rw [ya, yb, if_neg (nI_ge (by omega) (by omega)), if_neg (nI_in (c := a + 1) (by omega) (by omega)), if_neg (nI_in (c := a) (by omega) (by omega)), if_neg hn0, if_neg (nI_in (c := a + 1 + i + 1) (by omega) (by omega)), if_neg (nI_in (c := a + 1 + i) (by omega) (by omega)), if_neg hn0, nI_clamp (n := a) (by omega), nI_clamp (n := a + 1) (by omega), nI_clamp (n := a + 1 + i) (by omega), nI_clamp (n := a + 1 + i + 1) (by omega), p1.2, p2.2, p3.2, p4.2, sa_nI (by omega), sa_nI (by omega), pk_rem (by omega) hN (by omega), pk_rem (by omega) hN (by omega)]
      rfl
    rw [e]
    have v1 : iv N w a < N := Nat.mod_lt _ hN
    have v2 : iv N w (a + 1 + i) < N := Nat.mod_lt _ hN
    by_cases hc : iv N w a = iv N w (a + 1 + i)
    · rw [if_pos (by rw [hc])]
      exact Or.inl ⟨_, rfl, Or.inl ⟨rfl, a, a + 1 + i, by omega, by omega, hc⟩⟩
    · rw [if_neg (fun q => hc ((nI_eq (by omega) (by omega)).mp q))]
      refine Or.inr ⟨_, rfl, rfl, ?_⟩
      intro b h1 h2
      by_cases h : b = a + 1 + i
      · subst h; exact hc
      · exact q b h1 (by omega)
  · rintro z ⟨rfl, q⟩
    have yb : nI (a + 1 + (N - 2 - a)) + (1 : Int32) = nI (a + 1 + (N - 2 - a) + 1) := nI_1 _
    unfold X6_unlike_35_s
    rw [yb, if_pos (nI_le (by omega) (by omega))]
    exact ⟨_, rfl, Or.inr ⟨rfl, fun b h1 h2 => q b h1 (by omega)⟩⟩
theorem un_m {N : Nat} {f : Nat → Int32} {w : Nat → Nat} (hN : 0 < N) (hN2 : N ≤ 12) (hw : ∀ i, i < N → w i < N ∧ f i = nI (w i)) : ∃ r, X6_unlike_21_l (nI N) f 0 0 = some r ∧ ((r = .inl () ∧ ivH N w) ∨ (r = .inr () ∧ ¬ ivH N w)) := by
  unfold X6_unlike_21_l
  refine loop_ex (fun r : Unit ⊕ Unit => (r = .inl () ∧ ivH N w) ∨ (r = .inr () ∧ ¬ ivH N w)) (N - 1) FU (fun i z => z = nI i ∧ ∀ a b, a < i → a < b → b + 1 < N → iv N w a ≠ iv N w b) 0 (FU_big (by omega)) ?_ ?_ ⟨rfl, fun a b h => by omega⟩
  · rintro i z hi ⟨rfl, q⟩
    have ya : nI i + (1 : Int32) = nI (i + 1) := nI_1 i
    obtain ⟨r, e, hr⟩ := un_in hN hN2 (show i + 1 < N by omega) hw
    unfold X6_unlike_21_s X6_unlike_106
    rw [ya, if_neg (nI_ge (by omega) (by omega)), e, bso]
    rcases hr with ⟨rfl, h⟩ | ⟨rfl, h⟩
    · exact Or.inl ⟨_, rfl, Or.inl ⟨rfl, h⟩⟩
    · refine Or.inr ⟨nI (i + 1), ?_, rfl, ?_⟩
      · rfl
      · intro a b h1 h2 h3
        by_cases hc : a = i
        · subst hc; exact h b h2 h3
        · exact q a b (by omega) h2 h3
  · rintro z ⟨rfl, q⟩
    have ya : nI (N - 1) + (1 : Int32) = nI (N - 1 + 1) := nI_1 _
    unfold X6_unlike_21_s
    rw [ya, if_pos (nI_le (by omega) (by omega))]
    refine ⟨_, rfl, Or.inr ⟨rfl, ?_⟩⟩
    rintro ⟨a, b, hab, hb, hq⟩
    exact q a b (by omega) hab hb hq
theorem op_unlike : Op_unlike InvC := by
  intro n ev ld0 ld1 ld2 tk mb f0 f1 f2 fr fu m_code m_n m_built m_length m_begin m_many m_leastOf m_sizeOf m_own m_bestRow m_tryRow m_keptRow m_otherRow m_row m_formRow m_allForms m_rowsOf m_intervals m_places m_whole ⟨N, hN, hN2, h1, h2, h3, l0, l1, l2, hR, hC, hT⟩
  subst h1; subst h2; subst h3
  have hR0 := hR
  obtain ⟨T, w, B, r1, r2, r3, r4, r5, r6, r7, r8⟩ := hR
  subst r2; subst r3
  unfold FX5_unlike FX6_unlike FX3_hasUnlikeIntervals
  rcases wh_nat r1 hN2 with ⟨rfl, e1, e2⟩ | ⟨_, e1, e2⟩
  · rw [e1, if_pos e2, bso, if_neg n10]
    obtain ⟨r, e3, hr⟩ := un_c hN hN2 (fun i hi => ⟨(r6 i hi).1, (r6 i hi).2.1⟩)
    obtain ⟨r', e4, hr'⟩ := un_m hN hN2 (fun i hi => ⟨(r6 i hi).1, (r6 i hi).2.2⟩)
    rw [e3, e4, bso, bso]
    rcases hr with ⟨rfl, h⟩ | ⟨rfl, h⟩
    · rcases hr' with ⟨rfl, h'⟩ | ⟨rfl, h'⟩
      · exact ⟨0, 0, rfl, rfl, T, hN, hN2, rfl, rfl, rfl, l0, l1, l2, hR0, hC, hT⟩
      · exact absurd h h'
    · rcases hr' with ⟨rfl, h'⟩ | ⟨rfl, h'⟩
      · exact absurd h' h
      · exact ⟨1, 0, rfl, rfl, T, hN, hN2, rfl, rfl, rfl, l0, l1, l2, hR0, hC, hT⟩
  · rw [e1, if_neg e2]
    exact ⟨-3, 0, rfl, rfl, N, hN, hN2, rfl, rfl, rfl, l0, l1, l2, hR0, hC, hT⟩
