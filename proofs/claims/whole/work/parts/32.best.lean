/-! best, spread -/
theorem loop_at {σ ρ : Type} {step : σ → Option (σ ⊕ ρ)} (r : ρ) (n N : Nat) (g : Nat → σ) (z : σ) (h0 : g 0 = z) (hn : n < N) (hs : ∀ i, i < n → step (g i) = some (.inl (g (i + 1)))) (he : step (g n) = some (.inr r)) : loopN step N z = some r := by
  subst h0
  exact loop_run r n N g hn hs he
def bt (f : Nat → Nat) : Nat → Nat
  | 0 => 0
  | k + 1 => if f (k + 1) ≤ f (bt f k) then bt f k else k + 1
theorem bt_s (f : Nat → Nat) (k : Nat) : bt f (k + 1) = if f (k + 1) ≤ f (bt f k) then bt f k else k + 1 := rfl
theorem bt_le (f : Nat → Nat) : ∀ k, bt f k ≤ k := by
  intro k
  induction k with
  | zero => exact Nat.le_refl 0
  | succ k ih => rw [bt_s]; split <;> omega
def gB (f : Nat → Nat) : Nat → Int32 × Int32 × Int32
  | 0 => (0, -1, 0)
  | k + 1 => (nI (bt f k), nI (f (bt f k)), nI (k + 1))
theorem n1_neg : ¬ ((0 : Int32) ≤ -1) := by decide
theorem bso {α β : Type} (a : α) (f : α → Option β) : (some a).bind f = f a := by
  rw [Option.bind_some]
theorem best_s {N s o o2 : Nat} {a3 : Int32} (hN : 0 < N) (hN2 : N ≤ 12) (hs : s < 2 ^ N) (ho2 : o2 < 2 ^ N) (h5 : ∀ t, t ≤ N → rot N o2 t = mo N o (mm N a3) t) (v b : Int32) (i : Nat) (hi : i < N) : X5_best_45_s (nI N) (nI (2 ^ N - 1)) (nI s) (nI o2) b v (nI i) = if nI (bc (s &&& mo N o (mm N a3) i) 12) ≤ v then some (.inl (b, v, nI (i + 1))) else some (.inl (nI i, nI (bc (s &&& mo N o (mm N a3) i) 12), nI (i + 1))) := by
  have hp := pow_le12 hN2
  have hl := bit_and_lt (b := mo N o (mm N a3) i) hs
  unfold X5_best_45_s FX0_count
  rw [bso]
  rw [if_neg (nI_ge hi (by omega)), tu_nat hN hN2 ho2 (by omega)]
  rw [bso]
  rw [h5 i (Nat.le_of_lt hi), nx_and, bcount (Nat.lt_of_lt_of_le hl hp)]
  rw [bso]
  rw [nI_1]
theorem op_best : Op_best InvC := by
  intro n ev ld0 ld1 ld2 tk mb f0 f1 f2 fr fu m_code m_n m_built m_length m_begin m_many m_leastOf m_sizeOf m_own m_bestRow m_tryRow m_keptRow m_otherRow m_row m_formRow m_allForms m_rowsOf m_intervals m_places m_whole a1 a2 a3 hb ⟨N, hN, hN2, h1, h2, h3, l0, l1, l2, hR, hC, hT⟩
  subst h1; subst h2; subst h3
  have hp := pow_le12 hN2
  unfold FX5_best FX6_best
  rcases set_dec hN2 a1 with ⟨e1, e2⟩ | ⟨s, hs, rfl, e1, e2⟩
  · rw [e1, e2]
    exact ⟨-2, 0, rfl, rfl, N, hN, hN2, rfl, rfl, rfl, l0, l1, l2, hR, hC, hT⟩
  · rw [e1, e2]
    simp only [Option.bind_some]
    rw [if_neg (by decide), if_neg (by decide)]
    rcases set_dec hN2 a2 with ⟨e1, e2⟩ | ⟨o, ho, rfl, e1, e2⟩
    · rw [e1, e2]
      exact ⟨-2, 0, rfl, rfl, N, hN, hN2, rfl, rfl, rfl, l0, l1, l2, hR, hC, hT⟩
    · rw [e1, e2]
      simp only [Option.bind_some]
      obtain ⟨o2, ho2, e5, h5⟩ := mif_nat hN hN2 ho hb
      generalize hf : (fun t => bc (s &&& mo N o (mm N a3) t) 12) = f
      have hfe : ∀ t, f t = bc (s &&& mo N o (mm N a3) t) 12 := fun t => by rw [← hf]
      have hfl : ∀ t, f t ≤ 12 := fun t => by rw [hfe]; exact bc_le _ 12
      refine ⟨nI (bt f (N - 1)), 0, ?_, ?_, N, hN, hN2, rfl, rfl, rfl, l0, l1, l2, hR, hC, hT⟩
      · rw [if_neg (by decide), e5]
        simp only [Option.bind_some]
        unfold X5_best_45_l
        have stepc : ∀ (v : Int32) (b : Int32) (i : Nat), i < N → X5_best_45_s (nI N) (nI (2 ^ N - 1)) (nI s) (nI o2) b v (nI i) = if nI (f i) ≤ v then some (.inl (b, v, nI (i + 1))) else some (.inl (nI i, nI (f i), nI (i + 1))) := by
          intro v b i hi
          rw [best_s hN hN2 hs ho2 h5 v b i hi, ← hfe]
        have h := loop_at (step := fun z => X5_best_45_s (nI N) (nI (2 ^ N - 1)) (nI s) (nI o2) z.1 z.2.1 z.2.2) (nI (bt f (N - 1))) N FU (gB f) (0, -1, 0) rfl (FU_big (by omega)) ?_ ?_
        · rw [h]; rfl
        · intro i hi
          by_cases hi0 : i = 0
          · subst hi0
            show X5_best_45_s (nI N) (nI (2 ^ N - 1)) (nI s) (nI o2) 0 (-1) (nI 0) = some (.inl (nI 0, nI (f 0), nI 1))
            rw [stepc _ _ 0 hN, if_neg]
            intro q
            have h9 := nI_pos' (n := f 0) (by have := hfl 0; omega)
            have h8 : (0 : Int32) ≤ -1 := Int32.le_trans h9 q
            exact n1_neg h8
          · obtain ⟨k, rfl⟩ : ∃ k, i = k + 1 := ⟨i - 1, by omega⟩
            show X5_best_45_s (nI N) (nI (2 ^ N - 1)) (nI s) (nI o2) (nI (bt f k)) (nI (f (bt f k))) (nI (k + 1)) = some (.inl (nI (bt f (k + 1)), nI (f (bt f (k + 1))), nI (k + 1 + 1)))
            rw [stepc _ _ (k + 1) hi, bt_s]
            have q1 := hfl (k + 1)
            have q2 := hfl (bt f k)
            by_cases hc : f (k + 1) ≤ f (bt f k)
            · rw [if_pos (nI_le hc (by omega)), if_pos hc]
            · rw [if_neg (fun q => hc ((nI_leI (by omega) (by omega)).mp q)), if_neg hc]
        · have e9 : gB f N = (nI (bt f (N - 1)), nI (f (bt f (N - 1))), nI N) := by
            obtain ⟨k, rfl⟩ : ∃ k, N = k + 1 := ⟨N - 1, by omega⟩
            rfl
          rw [e9]
          show X5_best_45_s (nI N) (nI (2 ^ N - 1)) (nI s) (nI o2) (nI (bt f (N - 1))) (nI (f (bt f (N - 1)))) (nI N) = _
          unfold X5_best_45_s FX0_count
          simp only [Option.bind_some]
          rw [if_pos (nI_le (Nat.le_refl _) (by omega))]
      · rw [if_neg (by decide)]
        unfold X6_best_30_l
        have h := loop_at (step := fun z => X6_best_30_s (nI N) (nI s) (nI o) a3 0 z.1 z.2) (nI (bt f (N - 1))) (N - 1) FU (fun i => (nI (bt f i), nI (i + 1))) (0, 1) rfl (FU_big (by omega)) ?_ ?_
        · rw [h]; rfl
        · intro i hi
          show X6_best_30_s (nI N) (nI s) (nI o) a3 0 (nI (bt f i)) (nI (i + 1)) = some (.inl (nI (bt f (i + 1)), nI (i + 1 + 1)))
          unfold X6_best_30_s
          have q3 := bt_le f i
          rw [if_neg (nI_ge (by omega) (by omega)), sh_nat hN hN2 hs ho (by omega), sh_nat hN hN2 hs ho (by omega), ← hfe, ← hfe]
          simp only [Option.bind_some]
          rw [bt_s]
          have q1 := hfl (i + 1)
          have q2 := hfl (bt f i)
          by_cases hc : f (i + 1) ≤ f (bt f i)
          · rw [if_pos (nI_le hc (by omega)), if_pos hc, nI_1]
          · rw [if_neg (fun q => hc ((nI_leI (by omega) (by omega)).mp q)), if_neg hc, nI_1]
        · show X6_best_30_s (nI N) (nI s) (nI o) a3 0 (nI (bt f (N - 1))) (nI (N - 1 + 1)) = _
          unfold X6_best_30_s
          rw [if_pos (nI_le (by omega) (by omega))]
theorem sp_some {N k t : Nat} (hN2 : N ≤ 12) (hk : 0 < k) (hk2 : k ≤ N) : ∃ r, X5_spread_35_l (nI N) (nI k) (nI t) 0 0 = some r := by
  unfold X5_spread_35_l
  have h := loop_inv (step := fun z => X5_spread_35_s (nI N) (nI k) (nI t) z.1 z.2) (fun _ : Int32 => True) k FU (fun i (z : Int32 × Int32) => z.2 = nI i) (0, 0) (FU_big (by omega)) ?_ ?_ rfl
  · obtain ⟨r, e, _⟩ := h
    exact ⟨r, e⟩
  · rintro i ⟨a, c⟩ hi hc
    have hc : c = nI i := hc
    subst hc
    show ∃ t, X5_spread_35_s (nI N) (nI k) _ a (nI i) = some (.inl t) ∧ _
    unfold X5_spread_35_s FX0_count
    rw [if_neg (nI_ge hi (by omega))]
    simp only [Option.bind_some]
    rw [if_neg (nI_ne0 hk (by omega))]
    exact ⟨_, rfl, nI_1 i⟩
  · rintro ⟨a, c⟩ hc
    have hc : c = nI k := hc
    subst hc
    show ∃ r, X5_spread_35_s (nI N) (nI k) _ a (nI k) = some (.inr r) ∧ _
    unfold X5_spread_35_s
    rw [if_pos (nI_le (Nat.le_refl _) (by omega))]
    exact ⟨a, rfl, trivial⟩
theorem op_spread : Op_spread InvC := by
  intro n ev ld0 ld1 ld2 tk mb f0 f1 f2 fr fu m_code m_n m_built m_length m_begin m_many m_leastOf m_sizeOf m_own m_bestRow m_tryRow m_keptRow m_otherRow m_row m_formRow m_allForms m_rowsOf m_intervals m_places m_whole a1 a2 ⟨N, hN, hN2, h1, h2, h3, l0, l1, l2, hR, hC, hT⟩
  subst h1; subst h2; subst h3
  unfold FX5_spread FX6_spread FX0_count
  rcases in_dec (a := 1) (b := N) (by omega) (by omega) a1 with ⟨e1, h1⟩ | ⟨k, hk, hk2, rfl, e1⟩
  · have e1 : FX6_isIn a1 1 (nI N) = some 0 := e1
    rw [e1]
    refine ⟨-2, 0, ?_, rfl, N, hN, hN2, rfl, rfl, rfl, l0, l1, l2, hR, hC, hT⟩
    by_cases hc : a1 < 1
    · rw [if_pos hc]
    · rw [if_neg hc]
      simp only [Option.bind_some]
      rw [if_pos (h1.resolve_left hc)]
  · have e1 : FX6_isIn (nI k) 1 (nI N) = some 1 := e1
    rw [e1]
    simp only [Option.bind_some]
    have q1 : ¬ nI k < (1 : Int32) := nI_nlt (b := 1) (by omega) (by omega)
    rw [if_neg q1, if_neg (nI_nlt (by omega) (by omega)), if_neg (by decide)]
    rcases step_dec hN2 a2 with ⟨e3, e4⟩ | ⟨t, ht, rfl, e3, e4⟩
    · rw [e3, e4]
      exact ⟨-2, 0, rfl, rfl, N, hN, hN2, rfl, rfl, rfl, l0, l1, l2, hR, hC, hT⟩
    · rw [e3, e4]
      simp only [Option.bind_some]
      rw [if_neg (by decide), if_neg (by decide)]
      obtain ⟨r, e⟩ := sp_some (t := t) hN2 (show 0 < k by omega) hk2
      have e6 : X6_spread_33_l (nI N) (nI k) (nI t) 0 0 0 = some r := e
      rw [e, e6]
      exact ⟨r, 0, rfl, rfl, N, hN, hN2, rfl, rfl, rfl, l0, l1, l2, hR, hC, hT⟩
