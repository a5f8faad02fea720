/-! the tables as they are built: kinds below kd, and of kd the sets below q -/
def tD (N kd q c x : Nat) : Bool := decide (c < kd) || (decide (c = kd) && decide (lst N c x < q))
def TT (N kd q : Nat) (lo so : Nat → Int32) : Prop := ∀ c, c < 3 → ∀ x, x < 2 ^ N →
  lo (4096 * c + x) = (if tD N kd q c x = true then nI (lst N c x) else -1) ∧ so (4096 * c + x) = (if lst N c x = x ∧ tD N kd q c x = true then nI (cz N c x) else 0)
theorem lst_self {N kd x : Nat} (hN : 0 < N) (hN2 : N ≤ 12) (hk : kd < 3) (hx : x < 2 ^ N) : lst N kd x ≤ x := lst_le hN (orb_refl hN hN2 hk hx)
theorem lst_lst {N kd x : Nat} (hN : 0 < N) (hN2 : N ≤ 12) (hk : kd < 3) (hx : x < 2 ^ N) : lst N kd (lst N kd x) = lst N kd x := (lst_eq hN hN2 hk hx (lst_orb hN hN2 hk hx)).symm
theorem tD_c {N kd q c x : Nat} (h : c ≠ kd) : tD N kd (q + 1) c x = tD N kd q c x := by unfold tD; simp [h]
theorem tD_k {N kd q x : Nat} : tD N kd q kd x = decide (lst N kd x < q) := by unfold tD; simp
theorem ne_m1 {s : Nat} (h : s < 2 ^ 31) : (-1 : Int32) ≠ nI s := by
  intro q
  have := nI_pos' h
  rw [← q] at this
  exact absurd this (by decide)
theorem bd_step {N kd q : Nat} (hN : 0 < N) (hN2 : N ≤ 12) (hk : kd < 3) (hq : q < 2 ^ N) {lo so : Nat → Int32} (bk : Int32) (h : TT N kd q lo so) :
    ∃ lo2 so2, X6_build_51_s (nI N) bk (nI kd) lo so (nI q) = some (.inl (lo2, so2, nI (q + 1))) ∧ TT N kd (q + 1) lo2 so2 := by
  have hp := pow_le12 hN2
  unfold X6_build_51_s
  rw [e_ev hN2, if_neg (nI_ge hq (by omega)), ixI, if_neg (ixG hk (by omega)), ixC hk (by omega)]
  by_cases hc : lst N kd q < q
  · have e1 : lo (4096 * kd + q) = nI (lst N kd q) := by rw [(h kd hk q hq).1, tD_k, if_pos (decide_eq_true hc)]
    have e2 : (0 : Int32) ≤ nI (lst N kd q) := nI_pos' (by have := lst_lt (kd := kd) hN hq; omega)
    rw [e1, if_pos e2]
    refine ⟨lo, so, by rw [nI_1], ?_⟩
    intro c hcc x hx
    by_cases e : c = kd
    · subst e
      have hne : lst N c x ≠ q := by
        intro e2
        have h1 := lst_lst hN hN2 hcc hx
        rw [e2] at h1
        omega
      have e3 : tD N c (q + 1) c x = tD N c q c x := by
        rw [tD_k, tD_k]
        by_cases h5 : lst N c x < q
        · rw [decide_eq_true h5, decide_eq_true (by omega)]
        · rw [decide_eq_false h5, decide_eq_false (by omega)]
      rw [e3]
      exact h c hcc x hx
    · rw [tD_c e]
      exact h c hcc x hx
  · have hlq : lst N kd q = q := by have := lst_self hN hN2 hk hq; omega
    have e1 : lo (4096 * kd + q) = -1 := by rw [(h kd hk q hq).1, tD_k, if_neg (by simpa using hc)]
    have e2 : ¬ (0 : Int32) ≤ -1 := by decide
    rw [e1, if_neg e2]
    have h0 : ∀ x, x < 2 ^ N → orb N kd q x → lo (4096 * kd + x) = -1 := by
      intro x hx ho
      rw [(h kd hk x hx).1, tD_k, if_neg]
      have e := lst_eq hN hN2 hk hq ho
      rw [← e, hlq]; simp
    have hno : ∀ x, x < 2 ^ N → lo (4096 * kd + x) ≠ nI q := by
      intro x hx e
      rw [(h kd hk x hx).1, tD_k] at e
      by_cases h5 : lst N kd x < q
      · rw [if_pos (by simpa using h5)] at e
        have := nI_inj (by omega) (by omega) e
        omega
      · rw [if_neg (by simpa using h5)] at e
        exact ne_m1 (by omega) e
    have hI : FI N kd q lo so (fun _ => False) lo so := by
      refine ⟨fun _ _ => rfl, fun _ _ => rfl, fun _ _ => Or.inl rfl, ?_, fun _ q => q.elim⟩
      rw [cb_0 (fun x hx => by simp [hno x hx]), (h kd hk q hq).2, tD_k, if_neg (by rw [hlq]; simp)]
      rfl
    obtain ⟨⟨lo2, so2⟩, e, a1, a2, a3, a4, a5⟩ := fl_all hN hN2 hk hq h0 hI
    rw [e]
    refine ⟨lo2, so2, by show some _ = _; rw [nI_1], ?_⟩
    intro c hcc x hx
    by_cases ec : c = kd
    · subst ec
      have hiff : lo2 (4096 * c + x) = nI q ↔ orb N c q x := by
        constructor
        · intro e9
          rcases a3 x hx with e8 | e8
          · exact absurd (e8.symm.trans e9) (hno x hx)
          · exact e8.1
        · intro ho; exact a5 x ho
      refine ⟨?_, ?_⟩
      · by_cases ho : orb N c q x
        · have el : lst N c x = q := by rw [← lst_eq hN hN2 hcc hq ho]; exact hlq
          rw [show lo2 (4096 * c + x) = nI q from a5 x ho, tD_k, el, if_pos (by simp)]
        · have el : lst N c x ≠ q := by
            intro e2
            apply ho
            rw [← lst_iff hN hN2 hcc hq hx, hlq, e2]
          have e8 : lo2 (4096 * c + x) = lo (4096 * c + x) := by
            rcases a3 x hx with e8 | e8
            · exact e8
            · exact absurd e8.1 ho
          have e3 : tD N c (q + 1) c x = tD N c q c x := by
            rw [tD_k, tD_k]
            by_cases h5 : lst N c x < q
            · rw [decide_eq_true h5, decide_eq_true (by omega)]
            · rw [decide_eq_false h5, decide_eq_false (by omega)]
          rw [e8, e3]
          exact (h c hcc x hx).1
      · by_cases ex : x = q
        · subst ex
          rw [show so2 (4096 * c + x) = _ from a4, tD_k, if_pos ⟨hlq, by rw [hlq]; simp⟩]
          congr 1
          unfold cz
          refine cb_congr (fun i hi => ?_)
          have h7 : lo2 (4096 * c + i) = nI x ↔ lst N c i = x := by
            constructor
            · intro e9
              have ho : orb N c x i := by
                rcases a3 i hi with e8 | e8
                · exact absurd (e8.symm.trans e9) (hno i hi)
                · exact e8.1
              rw [← lst_eq hN hN2 hcc hx ho]; exact hlq
            · intro e9
              apply a5
              rw [← lst_iff hN hN2 hcc hx hi, hlq, e9]
          by_cases h8 : lst N c i = x
          · rw [decide_eq_true (h7.mpr h8), decide_eq_true h8]
          · rw [decide_eq_false (fun z => h8 (h7.mp z)), decide_eq_false h8]
        · rw [show so2 (4096 * c + x) = so (4096 * c + x) from a2 _ (by omega), (h c hcc x hx).2]
          have e4 : (lst N c x = x ∧ tD N c (q + 1) c x = true) ↔ (lst N c x = x ∧ tD N c q c x = true) := by
            rw [tD_k, tD_k]
            constructor
            · rintro ⟨b1, b2⟩
              exact ⟨b1, by simp at b2 ⊢; omega⟩
            · rintro ⟨b1, b2⟩
              exact ⟨b1, by simp at b2 ⊢; omega⟩
          by_cases h9 : lst N c x = x ∧ tD N c q c x = true
          · rw [if_pos h9, if_pos (e4.mpr h9)]
          · rw [if_neg h9, if_neg (fun z => h9 (e4.mp z))]
    · rw [tD_c ec]
      have e8 : lo2 (4096 * c + x) = lo (4096 * c + x) := a1 _ (fun y hy => by omega)
      have e9 : so2 (4096 * c + x) = so (4096 * c + x) := a2 _ (by omega)
      rw [e8, e9]
      exact h c hcc x hx
theorem TT_next {N kd : Nat} (hN : 0 < N) {lo so : Nat → Int32} (h : TT N kd (2 ^ N) lo so) : TT N (kd + 1) 0 lo so := by
  intro c hcc x hx
  have hl := lst_lt (kd := c) hN hx
  have e : tD N (kd + 1) 0 c x = tD N kd (2 ^ N) c x := by
    unfold tD
    by_cases h1 : c < kd
    · rw [decide_eq_true h1, decide_eq_true (show c < kd + 1 by omega)]; rfl
    · by_cases h2 : c = kd
      · rw [decide_eq_true (show c < kd + 1 by omega), decide_eq_true h2, decide_eq_true hl]; simp
      · rw [decide_eq_false h1, decide_eq_false h2, decide_eq_false (show ¬ c < kd + 1 by omega)]; simp
  rw [e]
  exact h c hcc x hx
theorem bd_kind {N kd : Nat} (hN : 0 < N) (hN2 : N ≤ 12) (hk : kd < 3) {lo so : Nat → Int32} (bk : Int32) (h : TT N kd 0 lo so) :
    ∃ r, X6_build_51_l (nI N) bk (nI kd) lo so 0 = some r ∧ TT N (kd + 1) 0 r.1 r.2 := by
  have hp := pow_le12 hN2
  unfold X6_build_51_l
  refine loop_inv (fun r : (Nat → Int32) × (Nat → Int32) => TT N (kd + 1) 0 r.1 r.2) (2 ^ N) FU (fun i (z : (Nat → Int32) × (Nat → Int32) × Int32) => z.2.2 = nI i ∧ TT N kd i z.1 z.2.1) _ (FU_big (by omega)) ?_ ?_ ⟨rfl, h⟩
  · rintro i ⟨l1, s1, c1⟩ hi ⟨hc, h⟩
    have hc : c1 = nI i := hc
    subst hc
    obtain ⟨lo2, so2, e, h2⟩ := bd_step hN hN2 hk hi bk h
    exact ⟨(lo2, so2, nI (i + 1)), e, rfl, h2⟩
  · rintro ⟨l1, s1, c1⟩ ⟨hc, h⟩
    have hc : c1 = nI (2 ^ N) := hc
    subst hc
    refine ⟨(l1, s1), ?_, TT_next hN h⟩
    show X6_build_51_s (nI N) bk (nI kd) l1 s1 (nI (2 ^ N)) = _
    unfold X6_build_51_s
    rw [e_ev hN2, if_pos (nI_le (Nat.le_refl _) (by omega))]
theorem bd_zero {N : Nat} {bk : Int32} {lo so : Nat → Int32} : ∃ r, X6_build_15_l bk lo so 0 = some r ∧ ∀ k, k < 12288 → r.1 k = -1 ∧ r.2 k = 0 := by
  unfold X6_build_15_l
  refine loop_inv (fun r : (Nat → Int32) × (Nat → Int32) => ∀ k, k < 12288 → r.1 k = -1 ∧ r.2 k = 0) 12288 FU (fun i (z : (Nat → Int32) × (Nat → Int32) × Int32) => z.2.2 = nI i ∧ ∀ k, k < i → z.1 k = -1 ∧ z.2.1 k = 0) _ (FU_big (by omega)) ?_ ?_ ⟨rfl, fun k hk => by omega⟩
  · rintro i ⟨l1, s1, c1⟩ hi ⟨hc, h⟩
    have hc : c1 = nI i := hc
    subst hc
    show ∃ t, X6_build_15_s bk l1 s1 (nI i) = some (.inl t) ∧ _
    unfold X6_build_15_s
    rw [if_neg (show ¬ (12288 : Int32) ≤ nI i from nI_ge (b := 12288) hi (by omega)), if_neg (nI_in hi (by omega)), if_neg (nI_in hi (by omega)), nI_clamp (by omega), nI_1]
    refine ⟨_, rfl, rfl, fun k hk => ?_⟩
    by_cases e : k = i
    · subst e; exact ⟨upd_s _ _ _, upd_s _ _ _⟩
    · exact ⟨(upd_n _ _ e).trans (h k (by omega)).1, (upd_n _ _ e).trans (h k (by omega)).2⟩
  · rintro ⟨l1, s1, c1⟩ ⟨hc, h⟩
    have hc : c1 = nI 12288 := hc
    subst hc
    refine ⟨(l1, s1), ?_, h⟩
    show X6_build_15_s bk l1 s1 (nI 12288) = _
    unfold X6_build_15_s
    rw [if_pos (show (12288 : Int32) ≤ nI 12288 from nI_le (a := 12288) (Nat.le_refl _) (by omega))]
/-- the tables, where they are built, are right -/
def tabOK (N : Nat) (bl : Int32) (lo so : Nat → Int32) : Prop := bl = 0 ∨ (bl = 1 ∧ ∀ c, c < 3 → ∀ x, x < 2 ^ N → lo (4096 * c + x) = nI (lst N c x) ∧ (lst N c x = x → so (4096 * c + x) = nI (cz N c x)))
theorem bd_all {N : Nat} (hN : 0 < N) (hN2 : N ≤ 12) {bl : Int32} {lo so : Nat → Int32} (h : tabOK N bl lo so) : ∃ lo2 so2, FX6_build (nI N) bl lo so = some (1, lo2, so2) ∧ ∀ c, c < 3 → ∀ x, x < 2 ^ N → lo2 (4096 * c + x) = nI (lst N c x) ∧ (lst N c x = x → so2 (4096 * c + x) = nI (cz N c x)) := by
  have hp := pow_le12 hN2
  unfold FX6_build
  rcases h with rfl | ⟨rfl, h⟩
  · rw [if_pos rfl]
    obtain ⟨⟨l1, s1⟩, e1, h1⟩ := bd_zero (N := N) (bk := 1) (lo := lo) (so := so)
    rw [e1]
    show ∃ lo2 so2, X6_build_42 (nI N) 1 l1 s1 = some (1, lo2, so2) ∧ _
    have h0 : TT N 0 0 l1 s1 := by
      intro c hcc x hx
      have : l1 (4096 * c + x) = -1 ∧ s1 (4096 * c + x) = 0 := h1 (4096 * c + x) (by omega)
      have e : tD N 0 0 c x = false := by unfold tD; simp
      rw [this.1, this.2, e]
      simp
    have hl := loop_inv (step := fun z => X6_build_44_s (nI N) 1 z.1 z.2.1 z.2.2) (fun r : (Nat → Int32) × (Nat → Int32) => TT N 3 0 r.1 r.2) 3 FU (fun i (z : (Nat → Int32) × (Nat → Int32) × Int32) => z.2.2 = nI i ∧ TT N i 0 z.1 z.2.1) (l1, s1, 0) (FU_big (by omega)) ?_ ?_ ⟨rfl, h0⟩
    · obtain ⟨⟨l2, s2⟩, e2, h2⟩ := hl
      unfold X6_build_42 X6_build_44_l
      rw [e2]
      refine ⟨l2, s2, rfl, fun c hcc x hx => ?_⟩
      have : l2 (4096 * c + x) = (if tD N 3 0 c x = true then nI (lst N c x) else -1) ∧ s2 (4096 * c + x) = (if lst N c x = x ∧ tD N 3 0 c x = true then nI (cz N c x) else 0) := h2 c hcc x hx
      have e : tD N 3 0 c x = true := by unfold tD; simp [hcc]
      rw [e] at this
      refine ⟨this.1, fun hl => ?_⟩
      rw [this.2, if_pos ⟨hl, rfl⟩]
    · rintro i ⟨l2, s2, c1⟩ hi ⟨hc, h⟩
      have hc : c1 = nI i := hc
      subst hc
      show ∃ t, X6_build_44_s (nI N) 1 l2 s2 (nI i) = some (.inl t) ∧ _
      unfold X6_build_44_s X6_build_88
      rw [if_neg (show ¬ (3 : Int32) ≤ nI i from nI_ge (b := 3) hi (by omega))]
      obtain ⟨r, e, h3⟩ := bd_kind hN hN2 hi 1 h
      rw [e]
      refine ⟨(r.1, r.2, nI (i + 1)), by rw [Option.bind_some, nI_1], rfl, h3⟩
    · rintro ⟨l2, s2, c1⟩ ⟨hc, h⟩
      have hc : c1 = nI 3 := hc
      subst hc
      refine ⟨(l2, s2), ?_, h⟩
      show X6_build_44_s (nI N) 1 l2 s2 (nI 3) = _
      unfold X6_build_44_s
      rw [if_pos (show (3 : Int32) ≤ nI 3 from nI_le (a := 3) (Nat.le_refl _) (by omega))]
  · rw [if_neg (by decide)]
    exact ⟨lo, so, rfl, h⟩
/-- what leastIn answers -/
theorem li_nat {N kd x : Nat} (hN : 0 < N) (hN2 : N ≤ 12) (hk : kd < 3) (hx : x < 2 ^ N) {bl : Int32} {lo so : Nat → Int32} (h : tabOK N bl lo so) : ∃ lo2 so2, FX6_leastIn (nI N) bl lo so (nI kd) (nI x) = some (nI (lst N kd x), 1, lo2, so2) ∧ tabOK N 1 lo2 so2 := by
  have hp := pow_le12 hN2
  obtain ⟨lo2, so2, e, h2⟩ := bd_all hN hN2 h
  refine ⟨lo2, so2, ?_, Or.inr ⟨rfl, h2⟩⟩
  unfold FX6_leastIn
  rw [e]
  show (if _ then none else _) = _
  rw [ixI, if_neg (ixG hk (by omega)), ixC hk (by omega)]
  show some (lo2 (4096 * kd + x), (1 : Int32), lo2, so2) = _
  rw [(h2 kd hk x hx).1]
theorem bind2_some {A B C : Type} (a : A) (b : B) (f : A → B → Option C) : bind2 (some (a, b)) f = f a b := rfl
theorem bind3_some {A B C D : Type} (a : A) (b : B) (c : C) (f : A → B → C → Option D) : bind3 (some (a, b, c)) f = f a b c := rfl
theorem bind4_some {A B C D E : Type} (a : A) (b : B) (c : C) (d : D) (f : A → B → C → D → Option E) : bind4 (some (a, b, c, d)) f = f a b c d := rfl
theorem bind5_some {A B C D E F : Type} (a : A) (b : B) (c : C) (d : D) (e : E) (f : A → B → C → D → E → Option F) : bind5 (some (a, b, c, d, e)) f = f a b c d e := rfl
theorem bind6_some {A B C D E F G : Type} (a : A) (b : B) (c : C) (d : D) (e : E) (g : F) (f : A → B → C → D → E → F → Option G) : bind6 (some (a, b, c, d, e, g)) f = f a b c d e g := rfl
