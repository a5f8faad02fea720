/-! distances; normal, prime -/
def dst (N s c : Nat) : Nat := rot N s (N - c)
theorem dst_bit {N s c j : Nat} (hN : 0 < N) (hs : s < 2 ^ N) (hc : c < N) : (dst N s c).testBit j = true ↔ j < N ∧ s.testBit ((j + c) % N) = true := by
  unfold dst
  rw [rot_bit hN hs (by omega), show N - (N - c) = c by omega]
theorem dst_lt {N s c : Nat} (hN : 0 < N) (hs : s < 2 ^ N) : dst N s c < 2 ^ N := rot_lt hN hs (by omega)
theorem di_nat {N s c : Nat} (hN : 0 < N) (hN2 : N ≤ 12) (hs : s < 2 ^ N) (hc : c < N) : FX2_distances (nI N) (nI (2 ^ N - 1)) (nI s) (nI c) = some (nI (dst N s c)) := by
  unfold FX2_distances FX0_count
  rw [bso, pk_sub (by omega), tu_nat hN hN2 hs (by omega), bso]
  rfl
theorem sh_inj {N c i j : Nat} (hi : i < N) (hj : j < N) (hc : c < N) (h : (i + c) % N = (j + c) % N) : i = j := by
  rw [mod_two hi hc, mod_two hj hc] at h
  split at h <;> split at h <;> omega
theorem dst_rk {N s c : Nat} (hN : 0 < N) (hs : s < 2 ^ N) (hc : c < N) : rk (dst N s c) N = rk s N := by
  apply Nat.le_antisymm
  · exact cb_inj N N _ _ (fun j => (j + c) % N) (fun j hj hp => ⟨Nat.mod_lt _ hN, ((dst_bit hN hs hc).mp hp).2⟩) (fun i j hi hj _ _ e => sh_inj hi hj hc e)
  · by_cases h0 : c = 0
    · subst h0
      exact cb_inj N N _ _ (fun j => j) (fun j hj hp => ⟨hj, (dst_bit hN hs hc).mpr ⟨hj, by rw [Nat.add_zero, Nat.mod_eq_of_lt hj]; exact hp⟩⟩) (fun i j hi hj _ _ e => e)
    · refine cb_inj N N _ _ (fun j => (j + (N - c)) % N) (fun j hj hp => ⟨Nat.mod_lt _ hN, (dst_bit hN hs hc).mpr ⟨Nat.mod_lt _ hN, ?_⟩⟩) (fun i j hi hj _ _ e => sh_inj hi hj (by omega) e)
      rw [Nat.mod_add_mod, show j + (N - c) + c = j + N by omega, Nat.add_mod_right, Nat.mod_eq_of_lt hj]
      exact hp
theorem seq_el {D N K : Nat} {v : Nat → Nat} (hK : rk D N = K) (hv : ∀ j, j < K → v j < N ∧ D.testBit (v j) = true) (hi : ∀ j, j + 1 < K → v j < v (j + 1)) : ∀ j, j < K → el D N j = v j := by
  have up : ∀ j, j < K → j ≤ rk D (v j) := by
    intro j
    induction j with
    | zero => intro _; exact Nat.zero_le _
    | succ j ih =>
      intro hj
      have h1 := ih (by omega)
      have h2 := rk_lt (s := D) (hi j hj) (hv j (by omega)).2
      omega
  have dn : ∀ m j, j + m + 1 = K → rk D (v j) ≤ j := by
    intro m
    induction m with
    | zero =>
      intro j hj
      have h := hv j (by omega)
      have := rk_lt (s := D) h.1 h.2
      omega
    | succ m ih =>
      intro j hj
      have h1 := ih (j + 1) (by omega)
      have h2 := rk_lt (s := D) (hi j (by omega)) (hv j (by omega)).2
      omega
  intro j hj
  have h1 := up j hj
  have h2 := dn (K - 1 - j) j (by omega)
  have h := hv j hj
  have e := el_at h.2 h.1
  rw [show rk D (v j) = j by omega] at e
  exact e
theorem dst_el {N s a : Nat} (hN : 0 < N) (hs : s < 2 ^ N) (ha : a < rk s N) : ∀ j, j < rk s N → el (dst N s (el s N a)) N j = (el s N ((a + j) % rk s N) + N - el s N a) % N := by
  have hea := el_sp ha
  have hv : ∀ j, j < rk s N → (el s N ((a + j) % rk s N) + N - el s N a) % N = (if rk s N ≤ a + j then el s N (a + j - rk s N) + N - el s N a else el s N (a + j) - el s N a) := by
    intro j hj
    rw [mod_two ha hj]
    split
    · have h1 := el_lt (s := s) (n := N) (show a + j - rk s N < a by omega) ha
      rw [Nat.mod_eq_of_lt (by omega)]
    · have h1 : el s N a ≤ el s N (a + j) := by
        by_cases h : j = 0
        · subst h; exact Nat.le_refl _
        · exact Nat.le_of_lt (el_lt (by omega) (by omega))
      have h2 := (el_sp (s := s) (n := N) (i := a + j) (by omega)).1
      rw [show el s N (a + j) + N - el s N a = (el s N (a + j) - el s N a) + N by omega, Nat.add_mod_right, Nat.mod_eq_of_lt (by omega)]
  apply seq_el (dst_rk hN hs hea.1)
  · intro j hj
    refine ⟨Nat.mod_lt _ hN, (dst_bit hN hs hea.1).mpr ⟨Nat.mod_lt _ hN, ?_⟩⟩
    have hm : (a + j) % rk s N < rk s N := Nat.mod_lt _ (by omega)
    have g := el_sp hm
    rw [Nat.mod_add_mod, show el s N ((a + j) % rk s N) + N - el s N a + el s N a = el s N ((a + j) % rk s N) + N by omega, Nat.add_mod_right, Nat.mod_eq_of_lt g.1]
    exact g.2.1
  · intro j hj
    rw [hv j (by omega), hv (j + 1) hj]
    by_cases h1 : rk s N ≤ a + j
    · have h3 := el_lt (s := s) (n := N) (show a + j - rk s N < a + (j + 1) - rk s N by omega) (by omega)
      have h4 := el_lt (s := s) (n := N) (show a + j - rk s N < a by omega) ha
      rw [if_pos h1, if_pos (by omega)]
      omega
    · have h2 := (el_sp (s := s) (n := N) (i := a + j) (by omega)).1
      have h3 : el s N a ≤ el s N (a + j) := by
        by_cases h : j = 0
        · subst h; exact Nat.le_refl _
        · exact Nat.le_of_lt (el_lt (by omega) (by omega))
      rw [if_neg h1]
      by_cases h5 : rk s N ≤ a + (j + 1)
      · rw [if_pos h5]
        omega
      · have h6 := el_lt (s := s) (n := N) (show a + j < a + (j + 1) by omega) (by omega)
        rw [if_neg h5]
        omega
theorem dst_0 {N s a : Nat} (hN : 0 < N) (hs : s < 2 ^ N) (ha : a < rk s N) : el (dst N s (el s N a)) N 0 = 0 := by
  have hea := el_sp ha
  rw [dst_el hN hs ha 0 (by omega), Nat.add_zero, Nat.mod_eq_of_lt ha, Nat.add_sub_cancel_left, Nat.mod_self]
def bs (N s rule : Nat) : Nat → Nat
  | 0 => 0
  | a + 1 => if lsr N rule (dst N s (el s N (a + 1))) (dst N s (el s N (bs N s rule a))) = true then a + 1 else bs N s rule a
theorem bs_s (N s rule a : Nat) : bs N s rule (a + 1) = if lsr N rule (dst N s (el s N (a + 1))) (dst N s (el s N (bs N s rule a))) = true then a + 1 else bs N s rule a := rfl
theorem bs_le (N s rule : Nat) : ∀ a, bs N s rule a ≤ a := by
  intro a
  induction a with
  | zero => exact Nat.le_refl 0
  | succ a ih => rw [bs_s]; split <;> omega
def stt (N s rule : Nat) : Nat := el s N (bs N s rule (rk s N - 1))
theorem stt_lt {N s rule : Nat} (h0 : 0 < rk s N) : stt N s rule < N := by
  have := bs_le N s rule (rk s N - 1)
  exact (el_sp (by omega)).1
theorem ns_nat {N s rule : Nat} (hN : 0 < N) (hN2 : N ≤ 12) (hs : s < 2 ^ N) (h0 : 0 < rk s N) (hr : rule < 2) : FX2_normalStart (nI N) (nI (2 ^ N - 1)) (nI s) (nI rule) = some (nI (stt N s rule)) := by
  have hp := pow_le12 hN2
  have e0 := el_sp h0
  have z0 : FX0_stepAt (nI N) (nI s) 0 = some (nI (el s N 0)) := st_nat hN2 (by omega) h0
  have z1 : nI (el s N 0) + (1 : Int32) = nI (el s N 0 + 1) := nI_1 _
  have hr1 : rk s (el s N 0 + 1) = 1 := by rw [rk_s, if_pos e0.2.1, e0.2.2]
  unfold FX2_normalStart X2_normalStart_67
  rw [z0, bso, z1]
  have hl : X2_normalStart_15_l (nI N) (nI (2 ^ N - 1)) (nI s) (nI rule) (nI (el s N 0)) (nI (el s N 0 + 1)) = some (nI (stt N s rule)) := by
    unfold X2_normalStart_15_l
    refine loop_at _ (N - (el s N 0 + 1)) FU (fun i => (nI (el s N (bs N s rule (rk s (el s N 0 + 1 + i) - 1))), nI (el s N 0 + 1 + i))) _ ?_ (FU_big (by omega)) ?_ ?_
    · show (nI (el s N (bs N s rule (rk s (el s N 0 + 1 + 0) - 1))), nI (el s N 0 + 1 + 0)) = _
      rw [Nat.add_zero, hr1]
      rfl
    · intro i hi
      show X2_normalStart_15_s (nI N) (nI (2 ^ N - 1)) (nI s) (nI rule) (nI (el s N (bs N s rule (rk s (el s N 0 + 1 + i) - 1)))) (nI (el s N 0 + 1 + i)) = some (.inl (nI (el s N (bs N s rule (rk s (el s N 0 + 1 + i + 1) - 1))), nI (el s N 0 + 1 + i + 1)))
      generalize ht : el s N 0 + 1 + i = t
      have htN : t < N := by omega
      have hb := n_bit (a := s) (k := t) (by omega) (by omega)
      have hR : 1 ≤ rk s t := by rw [← hr1]; exact rk_mono (by omega)
      have hRN : rk s t ≤ rk s N := rk_mono (by omega)
      have hbl := bs_le N s rule (rk s t - 1)
      have hbe := el_sp (s := s) (n := N) (i := bs N s rule (rk s t - 1)) (by omega)
      unfold X2_normalStart_15_s FX0_count
      rw [bso, if_neg (nI_ge htN (by omega)), nI_1]
      by_cases hx : s.testBit t = true
      · have hRN2 := rk_lt (s := s) htN hx
        have het := el_at hx htN
        rw [if_pos (hb.mpr hx), di_nat hN hN2 hs htN, bso, di_nat hN hN2 hs hbe.1, bso, il_c hN2 (dst_lt hN hs) (dst_lt hN hs) (by rw [dst_rk hN hs htN, dst_rk hN hs hbe.1]) (by rw [dst_rk hN hs htN]; exact h0) hr, bso, rk_s, if_pos hx, show rk s t + 1 - 1 = (rk s t - 1) + 1 by omega, bs_s, show rk s t - 1 + 1 = rk s t by omega, het]
        cases lsr N rule (dst N s t) (dst N s (el s N (bs N s rule (rk s t - 1)))) with
        | false => rw [if_pos (show b1 false = 0 from rfl), if_neg (by decide)]
        | true => rw [if_neg (show ¬ b1 true = 0 from n10), if_pos rfl, het]
      · rw [if_neg (fun q => hx (hb.mp q)), rk_s, if_neg hx, show rk s t + 0 = rk s t from rfl]
    · show X2_normalStart_15_s (nI N) (nI (2 ^ N - 1)) (nI s) (nI rule) (nI (el s N (bs N s rule (rk s (el s N 0 + 1 + (N - (el s N 0 + 1))) - 1)))) (nI (el s N 0 + 1 + (N - (el s N 0 + 1)))) = _
      rw [show el s N 0 + 1 + (N - (el s N 0 + 1)) = N by omega]
      unfold X2_normalStart_15_s FX0_count
      rw [bso, if_pos (nI_le (Nat.le_refl _) (by omega))]
      rfl
  rw [hl, bso]
theorem fo_own {N s : Nat} {bg : Int32} {b t f : Nat → Int32} (hN2 : N ≤ 12) (hs : s < 4096) : ∃ f2, X6_findOrder_7_l (nI N) (nI s) bg b t 0 f 0 = some (nI (rk s N), f2) ∧ ownOK N s f2 := ev_own (mc := 0) (f := f) hN2 hs
theorem fo_63 {N s a : Nat} {bg : Int32} {b t f : Nat → Int32} (hN : 0 < N) (hN2 : N ≤ 12) (hs : s < 2 ^ N) (ha : a < rk s N) (hf : ownOK N s f) : ∃ t2, X6_findOrder_63_l (nI N) (nI (rk s N)) bg f b (nI a) t 0 = some t2 ∧ ∀ j, j < rk s N → t2 j = nI (el (dst N s (el s N a)) N j) := by
  have hK := rk_le s N
  unfold X6_findOrder_63_l
  refine loop_inv (fun r : Nat → Int32 => ∀ j, j < rk s N → r j = nI (el (dst N s (el s N a)) N j)) (rk s N) FU (fun i (z : (Nat → Int32) × Int32) => z.2 = nI i ∧ ∀ j, j < i → z.1 j = nI (el (dst N s (el s N a)) N j)) _ (FU_big (by omega)) ?_ ?_ ⟨rfl, fun j hj => by omega⟩
  · rintro i ⟨u, x⟩ hi ⟨q1, q2⟩
    have q1 : x = nI i := q1
    subst q1
    have q2 : ∀ j, j < i → u j = nI (el (dst N s (el s N a)) N j) := q2
    have hcl : (a + i) % rk s N < rk s N := Nat.mod_lt _ (by omega)
    have g1 := el_sp hcl
    have g2 := el_sp ha
    have e : X6_findOrder_63_s (nI N) (nI (rk s N)) bg f b (nI a) u (nI i) = some (.inl (upd u i (nI (el (dst N s (el s N a)) N i)), nI (i + 1))) := by
      unfold X6_findOrder_63_s
      rw [if_neg (nI_ge hi (by omega)), if_neg (nI_ne0 (by omega) (by omega)), nI_add, pk_rem (by omega) (by omega) (by omega), if_neg (nI_in (c := (a + i) % rk s N) (by omega) (by omega)), if_neg (nI_in (c := a) (by omega) (by omega)), if_neg (nI_ne0 hN (by omega)), if_neg (nI_in (c := i) (by omega) (by omega)), nI_clamp (n := (a + i) % rk s N) (by omega), nI_clamp (n := a) (by omega), nI_clamp (n := i) (by omega), own_at hf hcl, own_at hf ha, sa_nI (by omega), pk_rem (by omega) hN (by omega), nI_1, dst_el hN hs ha i hi]
    show ∃ r, X6_findOrder_63_s (nI N) (nI (rk s N)) bg f b (nI a) u (nI i) = some (.inl r) ∧ _
    rw [e]
    refine ⟨_, rfl, rfl, ?_⟩
    intro j hj
    by_cases h : j = i
    · subst h; exact upd_s _ _ _
    · exact (upd_n _ _ h).trans (q2 j (by omega))
  · rintro ⟨u, x⟩ ⟨q1, q2⟩
    have q1 : x = nI (rk s N) := q1
    subst q1
    show ∃ r, X6_findOrder_63_s (nI N) (nI (rk s N)) bg f b (nI a) u (nI (rk s N)) = some (.inr r) ∧ _
    unfold X6_findOrder_63_s
    rw [if_pos (nI_le (Nat.le_refl _) (by omega))]
    exact ⟨u, rfl, q2⟩
theorem cpy {K : Nat} (hK : K ≤ 12) (f b : Nat → Int32) (step : (Nat → Int32) × Int32 → Option (((Nat → Int32) × Int32) ⊕ (Nat → Int32))) (h1 : ∀ u i, i < K → step (u, nI i) = some (.inl (upd u i (f i), nI (i + 1)))) (h2 : ∀ u, step (u, nI K) = some (.inr u)) : ∃ r, loopN step FU (b, 0) = some r ∧ ∀ j, j < K → r j = f j := by
  refine loop_inv (fun r : Nat → Int32 => ∀ j, j < K → r j = f j) K FU (fun i (z : (Nat → Int32) × Int32) => z.2 = nI i ∧ ∀ j, j < i → z.1 j = f j) _ (FU_big (by omega)) ?_ ?_ ⟨rfl, fun j hj => by omega⟩
  · rintro i ⟨u, x⟩ hi ⟨q1, q2⟩
    have q1 : x = nI i := q1
    subst q1
    have q2 : ∀ j, j < i → u j = f j := q2
    rw [h1 u i hi]
    refine ⟨_, rfl, rfl, ?_⟩
    intro j hj
    by_cases h : j = i
    · subst h; exact upd_s _ _ _
    · exact (upd_n _ _ h).trans (q2 j (by omega))
  · rintro ⟨u, x⟩ ⟨q1, q2⟩
    have q1 : x = nI K := q1
    subst q1
    rw [h2 u]
    exact ⟨u, rfl, q2⟩
theorem fo_141 {K : Nat} {bg v : Int32} {o t b : Nat → Int32} (hK : K ≤ 12) : ∃ r, X6_findOrder_141_l (nI K) bg o t v b 0 = some r ∧ ∀ j, j < K → r j = t j := by
  unfold X6_findOrder_141_l
  apply cpy hK
  · intro u i hi
    show X6_findOrder_141_s (nI K) bg o t v u (nI i) = _
    unfold X6_findOrder_141_s
    rw [if_neg (nI_ge hi (by omega)), if_neg (nI_in (by omega) (by omega)), if_neg (nI_in (by omega) (by omega)), nI_clamp (by omega), nI_1]
  · intro u
    show X6_findOrder_141_s (nI K) bg o t v u (nI K) = _
    unfold X6_findOrder_141_s
    rw [if_pos (nI_le (Nat.le_refl _) (by omega))]
theorem fo_128 {N s a : Nat} {bg : Int32} {o b t : Nat → Int32} (hN2 : N ≤ 12) (ha : a < rk s N) (ho : ownOK N s o) : ∃ b2, X6_findOrder_128 (nI (rk s N)) bg o b t (nI a) = some (.inl (nI (el s N a), b2, t, nI (a + 1))) ∧ ∀ j, j < rk s N → b2 j = t j := by
  have hK := rk_le s N
  obtain ⟨r, e, h⟩ := fo_141 (K := rk s N) (bg := nI (el s N a)) (v := nI a) (o := o) (t := t) (b := b) (by omega)
  refine ⟨r, ?_, h⟩
  unfold X6_findOrder_128 X6_findOrder_170
  rw [if_neg (nI_in (by omega) (by omega)), nI_clamp (by omega), own_at ho ha, e, bso, nI_1]
theorem fo_nat {N s rule : Nat} {ln bg : Int32} {o b t : Nat → Int32} (hN : 0 < N) (hN2 : N ≤ 12) (hs : s < 2 ^ N) (h0 : 0 < rk s N) (hr : rule < 2) : ∃ o2 b2 t2, FX6_findOrder (nI N) ln bg o b t (nI s) (nI rule) = some (nI (rk s N), nI (stt N s rule), o2, b2, t2) ∧ ∀ j, j < rk s N → b2 j = nI (el (dst N s (stt N s rule)) N j) := by
  have hp := pow_le12 hN2
  have hK := rk_le s N
  obtain ⟨o2, e1, ho⟩ := fo_own (N := N) (s := s) (bg := bg) (b := b) (t := t) (f := o) hN2 (by omega)
  unfold FX6_findOrder
  rw [e1, bso]
  unfold X6_findOrder_50 X6_findOrder_176
  have hl : ∃ r, X6_findOrder_52_l (nI N) (nI rule) (nI (rk s N)) o2 bg b t 0 = some r ∧ (r.1 = nI (stt N s rule) ∧ ∀ j, j < rk s N → r.2.1 j = nI (el (dst N s (stt N s rule)) N j)) := by
    unfold X6_findOrder_52_l
    refine loop_inv (fun r : Int32 × (Nat → Int32) × (Nat → Int32) => r.1 = nI (stt N s rule) ∧ ∀ j, j < rk s N → r.2.1 j = nI (el (dst N s (stt N s rule)) N j)) (rk s N) FU (fun a (z : Int32 × (Nat → Int32) × (Nat → Int32) × Int32) => z.2.2.2 = nI a ∧ (0 < a → z.1 = nI (el s N (bs N s rule (a - 1))) ∧ ∀ j, j < rk s N → z.2.1 j = nI (el (dst N s (el s N (bs N s rule (a - 1)))) N j))) _ (FU_big (by omega)) ?_ ?_ ⟨rfl, fun h => by omega⟩
    · rintro a ⟨x, u, v, y⟩ ha ⟨q1, q2⟩
      have q1 : y = nI a := q1
      subst q1
      have q2 : 0 < a → x = nI (el s N (bs N s rule (a - 1))) ∧ ∀ j, j < rk s N → u j = nI (el (dst N s (el s N (bs N s rule (a - 1)))) N j) := q2
      obtain ⟨t2, e2, ht⟩ := fo_63 (bg := x) (b := u) (t := v) hN hN2 hs ha ho
      obtain ⟨b3, e3, hb3⟩ := fo_128 (bg := x) (b := u) (t := t2) hN2 ha ho
      show ∃ r, X6_findOrder_52_s (nI N) (nI rule) (nI (rk s N)) o2 x u v (nI a) = some (.inl r) ∧ _
      unfold X6_findOrder_52_s X6_findOrder_116
      rw [if_neg (nI_ge ha (by omega)), e2, bso, e3]
      by_cases hz : a = 0
      · subst hz
        rw [if_pos (show nI 0 = 0 from rfl)]
        refine ⟨_, rfl, rfl, fun _ => ⟨rfl, ?_⟩⟩
        intro j hj
        exact (hb3 j hj).trans (ht j hj)
      · obtain ⟨q3, q4⟩ := q2 (by omega)
        have hbl := bs_le N s rule (a - 1)
        have hbe := el_sp (s := s) (n := N) (i := bs N s rule (a - 1)) (by omega)
        have hae := el_sp ha
        have r1 := dst_rk hN hs hae.1
        have r2 := dst_rk hN hs hbe.1
        have il := il_m (N := N) (rule := rule) (X := dst N s (el s N a)) (Y := dst N s (el s N (bs N s rule (a - 1)))) (f := u) (g := t2) hN2 (dst_lt hN hs) (dst_lt hN hs) (by rw [r1, r2]) (by rw [r1]; exact h0) hr (by rw [dst_0 hN hs ha, dst_0 hN hs (by omega)]) (by rw [r1]; exact q4) (by rw [r1]; exact ht)
        rw [r1] at il
        have hbs := bs_s N s rule (a - 1)
        rw [show a - 1 + 1 = a by omega] at hbs
        rw [if_neg (nI_ne0 (by omega) (by omega)), il, bso]
        unfold X6_findOrder_170
        cases hls : lsr N rule (dst N s (el s N a)) (dst N s (el s N (bs N s rule (a - 1)))) with
        | false =>
          rw [hls, if_neg (by decide)] at hbs
          rw [if_pos (show b1 false = 0 from rfl), nI_1]
          refine ⟨_, rfl, rfl, fun _ => ?_⟩
          rw [show a + 1 - 1 = a by omega, hbs]
          exact ⟨q3, q4⟩
        | true =>
          rw [hls, if_pos rfl] at hbs
          rw [if_neg (show ¬ b1 true = 0 from n10)]
          refine ⟨_, rfl, rfl, fun _ => ?_⟩
          rw [show a + 1 - 1 = a by omega, hbs]
          exact ⟨rfl, fun j hj => (hb3 j hj).trans (ht j hj)⟩
    · rintro ⟨x, u, v, y⟩ ⟨q1, q2⟩
      have q1 : y = nI (rk s N) := q1
      subst q1
      show ∃ r, X6_findOrder_52_s (nI N) (nI rule) (nI (rk s N)) o2 x u v (nI (rk s N)) = some (.inr r) ∧ _
      unfold X6_findOrder_52_s
      rw [if_pos (nI_le (Nat.le_refl _) (by omega))]
      exact ⟨_, rfl, q2 h0⟩
  obtain ⟨⟨x, u, v⟩, e, h1, h2⟩ := hl
  have h1 : x = nI (stt N s rule) := h1
  have e : X6_findOrder_52_l (nI N) (nI rule) (nI (rk s N), o2).1 (nI (rk s N), o2).2 bg b t 0 = some (x, u, v) := e
  rw [e, bso, h1]
  exact ⟨o2, u, v, rfl, h2⟩
theorem rule_dec (x : Int32) : ((x < 0 ∨ ¬ x ≤ 1) ∧ FX6_isIn x 0 1 = some 0) ∨ ∃ k : Nat, k < 2 ∧ x = nI k ∧ FX6_isIn x 0 1 = some 1 := by
  rcases in_dec (a := 0) (b := 1) (by omega) (by omega) x with ⟨e, h⟩ | ⟨k, _, h, rfl, e⟩
  · refine Or.inl ⟨?_, e⟩
    rcases h with h | h
    · exact Or.inl h
    · exact Or.inr (Int32.not_le.mpr h)
  · exact Or.inr ⟨k, by omega, rfl, e⟩
theorem or_ref {N s rule : Nat} (hN2 : N ≤ 12) (hs : s < 2 ^ N) (hr : rule < 2) (e1 : FX0_hasSet (nI (2 ^ N - 1)) (nI s) = some 1) (h0 : s ≠ 0) (x : Int32) : (FX5_orderRefusal (nI (2 ^ N - 1)) (nI s) (nI rule) x = some (-1) ∧ FX6_isIn x 0 (nI (rk s N) - 1) = some 0) ∨ ∃ i : Nat, i < rk s N ∧ x = nI i ∧ FX5_orderRefusal (nI (2 ^ N - 1)) (nI s) (nI rule) x = some 0 ∧ FX6_isIn x 0 (nI (rk s N) - 1) = some 1 := by
  have hp := pow_le12 hN2
  have hk := rk_pos hs h0
  have hK := rk_le s N
  have hb : bc s 12 = rk s N := bc_N hN2 hs
  have e2 : nI (rk s N) - (1 : Int32) = nI (rk s N - 1) := pk_sub (b := 1) hk
  have r1 : nI rule ≤ (1 : Int32) := nI_le (b := 1) (by omega) (by omega)
  unfold FX5_orderRefusal
  rw [e1, bso, if_neg n10, if_neg (nI_pos (by omega)), if_pos r1, if_neg (nI_ne0 (by omega) (by omega)), bcount (by omega), bso, hb, e2]
  rcases in_dec (a := 0) (b := rk s N - 1) (by omega) (by omega) x with ⟨e, h⟩ | ⟨k, _, h, rfl, e⟩
  · refine Or.inl ⟨?_, e⟩
    by_cases hc : x < 0
    · rw [if_pos hc]
    · rw [if_neg hc, if_neg]
      intro q
      obtain ⟨j, hj, rfl⟩ := nI_of hc
      rcases h with h | h
      · exact hc h
      · have h1 := (nI_ltI (by omega) hj).mp h
        have h2 := (nI_ltI hj (by omega)).mp q
        omega
  · refine Or.inr ⟨k, by omega, rfl, ?_, e⟩
    rw [if_neg (nI_pos (by omega)), if_pos (nI_lt (by omega) (by omega))]
theorem op_normal : Op_normal InvC := by
  intro n ev ld0 ld1 ld2 tk mb f0 f1 f2 fr fu m_code m_n m_built m_length m_begin m_many m_leastOf m_sizeOf m_own m_bestRow m_tryRow m_keptRow m_otherRow m_row m_formRow m_allForms m_rowsOf m_intervals m_places m_whole a1 a2 a3 ⟨N, hN, hN2, h1, h2, h3, l0, l1, l2, hR, hC, hT⟩
  subst h1; subst h2; subst h3
  have hp := pow_le12 hN2
  unfold FX5_normal FX6_normal
  rcases set_dec hN2 a1 with ⟨e1, e2⟩ | ⟨s, hs, rfl, e1, e2⟩
  · rw [e2]
    refine ⟨-2, 0, m_length, m_begin, m_own, m_bestRow, m_tryRow, ?_, rfl, N, hN, hN2, rfl, rfl, rfl, l0, l1, l2, hR, hC, hT⟩
    unfold FX5_orderRefusal
    rw [e1]; rfl
  · rw [e2, bso, if_neg n10]
    rcases rule_dec a2 with ⟨hr, e3⟩ | ⟨rule, hr, rfl, e3⟩
    · rw [e3]
      refine ⟨-2, 0, m_length, m_begin, m_own, m_bestRow, m_tryRow, ?_, rfl, N, hN, hN2, rfl, rfl, rfl, l0, l1, l2, hR, hC, hT⟩
      unfold FX5_orderRefusal
      rw [e1, bso, if_neg n10]
      by_cases hc : a2 < 0
      · rw [if_pos hc]; rfl
      · rw [if_neg hc, if_neg (hr.resolve_left hc)]; rfl
    · rw [e3, bso, if_neg n10]
      by_cases h0 : s = 0
      · subst h0
        rw [if_pos (show nI 0 = 0 from rfl)]
        refine ⟨-3, 0, m_length, m_begin, m_own, m_bestRow, m_tryRow, ?_, rfl, N, hN, hN2, rfl, rfl, rfl, l0, l1, l2, hR, hC, hT⟩
        have r1 : nI rule ≤ (1 : Int32) := nI_le (b := 1) (by omega) (by omega)
        unfold FX5_orderRefusal
        rw [e1, bso, if_neg n10, if_neg (nI_pos (by omega)), if_pos r1, if_pos (show nI 0 = 0 from rfl)]
        rfl
      · have hk := rk_pos hs h0
        have hst := stt_lt (rule := rule) hk
        obtain ⟨o2, b2, t2, e4, hb⟩ := fo_nat (rule := rule) (ln := m_length) (bg := m_begin) (o := m_own) (b := m_bestRow) (t := m_tryRow) hN hN2 hs hk hr
        rw [if_neg (nI_ne0 (by omega) (by omega)), e4, bind5_some]
        rcases or_ref hN2 hs hr e1 h0 a3 with ⟨e5, e6⟩ | ⟨i, hi, rfl, e5, e6⟩
        · rw [e5, e6]
          exact ⟨-1, 0, nI (rk s N), nI (stt N s rule), o2, b2, t2, rfl, rfl, N, hN, hN2, rfl, rfl, rfl, l0, l1, l2, hR, hC, hT⟩
        · have hK := rk_le s N
          have hdr := dst_rk hN hs hst
          have hdl := dst_lt (c := stt N s rule) hN hs
          have hde := el_sp (s := dst N s (stt N s rule)) (n := N) (i := i) (by omega)
          rw [e5, e6, bso, if_pos (show (0 : Int32) ≤ 0 by decide), ns_nat hN hN2 hs hk hr, bso, di_nat hN hN2 hs hst, bso, st_nat hN2 (by omega) (by omega), bso, nI_add, w_nat hN (by omega) (by omega), bso, bso, if_neg n10, if_neg (nI_in (by omega) (by omega)), if_neg (nI_ne0 hN (by omega)), nI_clamp (by omega), hb i hi, nI_add, pk_rem (by omega) hN (by omega)]
          exact ⟨_, 0, nI (rk s N), nI (stt N s rule), o2, b2, t2, rfl, rfl, N, hN, hN2, rfl, rfl, rfl, l0, l1, l2, hR, hC, hT⟩
