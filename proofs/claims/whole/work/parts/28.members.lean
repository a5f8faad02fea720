/-! the class's members of a class inside a place -/
theorem ti_nat {N s p : Nat} (hN : 0 < N) (hN2 : N ≤ 12) (hs : s < 2 ^ N) (hp9 : p < 2 ^ N) : FX0_turnsInto (nI N) (nI (2 ^ N - 1)) (nI s) (nI p) = some (nI (cb (fun t => sb (rot N s t) p) N)) := by
  have hp := pow_le12 hN2
  unfold FX0_turnsInto X0_turnsInto_5_l
  have h := loop_run (step := fun z => X0_turnsInto_5_s (nI N) (nI (2 ^ N - 1)) (nI s) (nI p) z.1 z.2) (nI (cb (fun t => sb (rot N s t) p) N)) N FU (fun i => (nI (cb (fun t => sb (rot N s t) p) i), nI i)) (FU_big (by omega)) ?_ ?_
  · have h : loopN (fun z => X0_turnsInto_5_s (nI N) (nI (2 ^ N - 1)) (nI s) (nI p) z.1 z.2) FU (0, 0) = _ := h
    rw [h]; rfl
  · intro i hi
    show X0_turnsInto_5_s (nI N) (nI (2 ^ N - 1)) (nI s) (nI p) (nI (cb (fun t => sb (rot N s t) p) i)) (nI i) = some (.inl (nI (cb (fun t => sb (rot N s t) p) (i + 1)), nI (i + 1)))
    unfold X0_turnsInto_5_s
    rw [if_neg (nI_ge hi (by omega)), tu_nat hN hN2 hs (by omega), cb_s]
    simp only [Option.bind_some]
    have hr := rot_lt (t := i) hN hs (by omega)
    by_cases hb : sb (rot N s i) p = true
    · rw [if_pos ((sb_int (by omega) (by omega)).mpr hb), if_pos hb, nI_1, nI_1]
    · rw [if_neg (fun q => hb ((sb_int (by omega) (by omega)).mp q)), if_neg hb, nI_1]; rfl
  · show X0_turnsInto_5_s (nI N) (nI (2 ^ N - 1)) (nI s) (nI p) _ (nI N) = _
    unfold X0_turnsInto_5_s
    rw [if_pos (nI_le (Nat.le_refl N) (by omega))]
theorem MI_part {N kd s p : Nat} (hN : 0 < N) : ∀ k, cb (fun g => vg N kd g && sb (mg N s g) p) (k * N) = sm (fun m => if mu N kd m = true then cb (fun t => sb (mo N s m t) p) N else 0) k := by
  intro k
  induction k with
  | zero => rw [Nat.zero_mul]; rfl
  | succ k ih =>
    rw [Nat.succ_mul, cb_add, ih, sm_s]
    congr 1
    by_cases hu : mu N kd k = true
    · rw [if_pos hu]
      refine cb_congr (fun i hi => ?_)
      unfold vg mg
      rw [Nat.mul_comm, Nat.mul_add_div hN, Nat.div_eq_of_lt hi, Nat.add_zero, Nat.mul_add_mod, Nat.mod_eq_of_lt hi, hu]
      rfl
    · rw [if_neg hu]
      refine cb_0 (fun i hi => ?_)
      unfold vg
      rw [Nat.mul_comm, Nat.mul_add_div hN, Nat.div_eq_of_lt hi, Nat.add_zero]
      simp [hu]
theorem sm_le {f : Nat → Nat} {c : Nat} : ∀ {n : Nat}, (∀ i, i < n → f i ≤ c) → sm f n ≤ n * c := by
  intro n
  induction n with
  | zero => intro _; exact Nat.zero_le _
  | succ n ih =>
    intro h
    have h1 := ih (fun i hi => h i (by omega))
    have h2 := h n (by omega)
    rw [sm_s, Nat.succ_mul]; omega
theorem mi_nat {N kd s p : Nat} (hN : 0 < N) (hN2 : N ≤ 12) (hk : kd < 3) (hs : s < 2 ^ N) (hp9 : p < 2 ^ N) : FX0_motionsInto (nI N) (nI (2 ^ N - 1)) (nI s) (nI kd) (nI p) = some (nI (MI N kd s p)) := by
  have hp := pow_le12 hN2
  have eM : MI N kd s p = sm (fun m => if mu N kd m = true then cb (fun t => sb (mo N s m t) p) N else 0) N := MI_part hN N
  rw [eM]
  unfold FX0_motionsInto X0_motionsInto_6_l
  have h := loop_run (step := fun z => X0_motionsInto_6_s (nI N) (nI (2 ^ N - 1)) (nI s) (nI kd) (nI p) z.1 z.2) (nI (sm (fun m => if mu N kd m = true then cb (fun t => sb (mo N s m t) p) N else 0) N)) N FU (fun i => (nI (sm (fun m => if mu N kd m = true then cb (fun t => sb (mo N s m t) p) N else 0) i), nI i)) (FU_big (by omega)) ?_ ?_
  · have h : loopN (fun z => X0_motionsInto_6_s (nI N) (nI (2 ^ N - 1)) (nI s) (nI kd) (nI p) z.1 z.2) FU (0, 0) = _ := h
    rw [h]; rfl
  · intro i hi
    show X0_motionsInto_6_s (nI N) (nI (2 ^ N - 1)) (nI s) (nI kd) (nI p) (nI (sm (fun m => if mu N kd m = true then cb (fun t => sb (mo N s m t) p) N else 0) i)) (nI i) = some (.inl (nI (sm (fun m => if mu N kd m = true then cb (fun t => sb (mo N s m t) p) N else 0) (i + 1)), nI (i + 1)))
    unfold X0_motionsInto_6_s
    rw [if_neg (nI_ge hi (by omega)), mu_c N (by omega) hN kd hk i hi, sm_s]
    simp only [Option.bind_some]
    by_cases hm : mu N kd i = true
    · rw [if_neg (by rw [b1_ne, hm]; exact fun q => by cases q), te_nat hN hN2 hs hi, te_mo]
      simp only [Option.bind_some]
      rw [ti_nat hN hN2 (mo_lt hN) hp9]
      simp only [Option.bind_some]
      rw [nI_add, nI_1, if_pos hm, cb_congr (p := fun t => sb (rot N (mo N s i 0) t) p) (q := fun t => sb (mo N s i t) p) (fun t ht => by rw [rot_mo hN (by omega)])]
    · have hm' : mu N kd i = false := by cases q : mu N kd i with
        | true => exact absurd q hm
        | false => rfl
      rw [if_pos (b1_ne.mpr hm'), if_neg hm, nI_1]; rfl
  · show X0_motionsInto_6_s (nI N) (nI (2 ^ N - 1)) (nI s) (nI kd) (nI p) _ (nI N) = _
    unfold X0_motionsInto_6_s
    rw [if_pos (nI_le (Nat.le_refl N) (by omega))]
theorem mem_nat {N kd s p : Nat} (hN : 0 < N) (hN2 : N ≤ 12) (hk : kd < 3) (hs : s < 2 ^ N) (hp9 : p < 2 ^ N) : FX0_membersInside (nI N) (nI (2 ^ N - 1)) (nI s) (nI kd) (nI p) = some (nI (cw N kd s p)) := by
  have hb : ∀ q, MI N kd s q < 2 ^ 31 := by
    intro q
    have := cb_le (fun g => vg N kd g && sb (mg N s g) q) (N * N)
    have h2 : N * N ≤ 12 * 12 := Nat.mul_le_mul hN2 hN2
    unfold MI; omega
  have hpos : 0 < MI N kd s s := by
    rw [MI_eq hN hN2 hk hs, cw_self hN hN2 hk hs, Nat.mul_one]
    exact stb_pos hN hN2 hk hs
  unfold FX0_membersInside FX5_quotient
  rw [mi_nat hN hN2 hk hs hp9, mi_nat hN hN2 hk hs hs]
  simp only [Option.bind_some]
  rw [if_neg (nI_ne0 hpos (hb s)), if_neg (nI_ne0 hpos (hb s)), pk_div (hb p) hpos (hb s), MI_div hN hN2 hk hs]
  rfl
