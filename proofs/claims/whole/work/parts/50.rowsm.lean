/-! rows: the reference -/
theorem n_bv {a k : Nat} (ha : a < 2 ^ 31) (hk : k < 32) : ((nI a >>> (nI k &&& 31)) &&& (1 : Int32)) = b1 (a.testBit k) := by
  rw [n_shr ha hk, show (1 : Int32) = nI 1 from rfl, nx_and, Nat.and_one_is_mod, Nat.testBit_eq_decide_div_mod_eq]
  rcases Nat.mod_two_eq_zero_or_one (a / 2 ^ k) with q | q <;> rw [q] <;> rfl
theorem cr89 {n d c p U I : Nat} {ro iv pl : Nat → Int32} {v1 : Int32} (hn : 0 < n) (hn2 : n ≤ 12) (hd : d + 1 < 13) (hc : c + 1 < n) (hp : p < n) (hU : U < 2 ^ n) (hI : I < 2 ^ n) (hiv : iv d = nI c) (hpl : pl d = nI p) : X6_countRows_89_s (nI n) ro v1 (nI d) (nI U) (nI I) iv pl 0 = some (.inl (upd iv d (nI (c + 1)), (if frq n p U I (c + 1) = true then upd pl (d + 1) (nI ((p + (c + 1)) % n)) else pl), b1 (frq n p U I (c + 1)))) := by
  have hp12 := pow_le12 hn2
  have hb : ¬ (nI d < 0 ∨ 13 ≤ (nI d).toNatClampNeg) := nI_in (by omega) (by omega)
  have hb2 : ¬ (nI (d + 1) < 0 ∨ 13 ≤ (nI (d + 1)).toNatClampNeg) := nI_in (by omega) (by omega)
  have hm : nI n - (1 : Int32) = nI (n - 1) := pk_sub (b := 1) (by omega)
  have hz : ¬ nI n = 0 := nI_ne0 hn (by omega)
  have hq := Nat.mod_lt (p + (c + 1)) hn
  have hb3 : ¬ (nI (d + 1) < 0 ∨ 13 ≤ d + 1) := by rw [nI_clamp (by omega)] at hb2; exact hb2
  unfold X6_countRows_89_s
  rw [if_neg (nI_pos (by omega)), if_pos rfl]
  simp only [if_neg hb]
  rw [hm, nI_clamp (n := d) (by omega), hiv, if_neg (nI_ge (by omega) (by omega))]
  simp only [if_neg hz, upd_s, hpl, nI_1, nI_add, pk_rem (show p + (c + 1) < 2 ^ 31 by omega) hn (show n < 2 ^ 31 by omega), n_bv (show U < 2 ^ 31 by omega) (show (p + (c + 1)) % n < 32 by omega), n_bv (show I < 2 ^ 31 by omega) (show c + 1 < 32 by omega), nI_clamp (show d + 1 < 2 ^ 31 by omega), if_neg hb3]
  unfold frq
  cases I.testBit (c + 1) with
  | true => rfl
  | false =>
    cases U.testBit ((p + (c + 1)) % n) with
    | true => rfl
    | false => rfl
def ScR (n d c p U I : Nat) (iv pl : Nat → Int32) (r : (Nat → Int32) × (Nat → Int32) × Int32) : Prop := ∃ j, c < j ∧ j < n ∧ frq n p U I j = true ∧ (∀ x, c < x → x < j → frq n p U I x = false) ∧ r.2.2 = 1 ∧ r.1 d = nI j ∧ (∀ x, x ≠ d → r.1 x = iv x) ∧ r.2.1 (d + 1) = nI ((p + j) % n) ∧ ∀ x, x ≠ d + 1 → r.2.1 x = pl x
theorem scan {n d c p U I : Nat} {ro iv pl : Nat → Int32} {v1 : Int32} (hn : 0 < n) (hn2 : n ≤ 12) (hd : d + 1 < 13) (hc : c < n) (hp : p < n) (hU : U < 2 ^ n) (hI : I < 2 ^ n) (hiv : iv d = nI c) (hpl : pl d = nI p) : ∃ r, X6_countRows_89_l (nI n) ro v1 (nI d) (nI U) (nI I) iv pl 0 = some r ∧ ((r.2.2 = 0 ∧ r.2.1 = pl ∧ (∀ x, x ≠ d → r.1 x = iv x) ∧ ∀ j, c < j → j < n → frq n p U I j = false) ∨ ScR n d c p U I iv pl r) := by
  unfold X6_countRows_89_l
  refine loop_ex (fun r : (Nat → Int32) × (Nat → Int32) × Int32 => (r.2.2 = 0 ∧ r.2.1 = pl ∧ (∀ x, x ≠ d → r.1 x = iv x) ∧ ∀ j, c < j → j < n → frq n p U I j = false) ∨ ScR n d c p U I iv pl r) (n - c) FU (fun i (z : (Nat → Int32) × (Nat → Int32) × Int32) => (z.2.2 = 0 ∧ c + i < n ∧ z.1 d = nI (c + i) ∧ z.2.1 = pl ∧ (∀ x, x ≠ d → z.1 x = iv x) ∧ ∀ j, c < j → j ≤ c + i → frq n p U I j = false) ∨ ScR n d c p U I iv pl z) _ (FU_big (by omega)) ?_ ?_ (Or.inl ⟨rfl, hc, hiv, rfl, fun _ _ => rfl, fun j h1 h2 => by omega⟩)
  · rintro i ⟨a, b, v⟩ hi q
    show (∃ r, X6_countRows_89_s (nI n) ro v1 (nI d) (nI U) (nI I) a b v = some (.inr r) ∧ _) ∨ (∃ t, X6_countRows_89_s (nI n) ro v1 (nI d) (nI U) (nI I) a b v = some (.inl t) ∧ _)
    rcases q with ⟨q1, q2, q3, q4, q5, q6⟩ | q
    · have q1 : v = 0 := q1
      have q4 : b = pl := q4
      subst q1; subst q4
      have q3 : a d = nI (c + i) := q3
      have q5 : ∀ x, x ≠ d → a x = iv x := q5
      by_cases hl : c + i + 1 < n
      · rw [cr89 hn hn2 hd hl hp hU hI q3 hpl]
        refine Or.inr ⟨_, rfl, ?_⟩
        cases hf : frq n p U I (c + i + 1) with
        | false =>
          refine Or.inl ⟨rfl, hl, upd_s _ _ _, rfl, ?_, ?_⟩
          · intro x hx
            exact (upd_n _ _ hx).trans (q5 x hx)
          · intro j h1 h2
            by_cases hj : j = c + i + 1
            · rw [hj]; exact hf
            · exact q6 j h1 (by omega)
        | true =>
          refine Or.inr ⟨c + i + 1, by omega, hl, hf, ?_, rfl, upd_s _ _ _, ?_, upd_s _ _ _, ?_⟩
          · intro x h1 h2
            exact q6 x h1 (by omega)
          · intro x hx
            exact (upd_n _ _ hx).trans (q5 x hx)
          · intro x hx
            exact upd_n _ _ hx
      · have hb : ¬ (nI d < 0 ∨ 13 ≤ (nI d).toNatClampNeg) := nI_in (by omega) (by omega)
        have hm : nI n - (1 : Int32) = nI (n - 1) := pk_sub (b := 1) (by omega)
        refine Or.inl ⟨(a, b, 0), ?_, Or.inl ⟨rfl, rfl, q5, fun j h1 h2 => q6 j h1 (by omega)⟩⟩
        unfold X6_countRows_89_s
        rw [if_neg (nI_pos (by omega)), if_pos rfl, if_neg hb, hm, nI_clamp (n := d) (by omega), q3, if_pos (nI_le (by omega) (by omega))]
    · have q1 : v = 1 := q.choose_spec.2.2.2.2.1
      subst q1
      refine Or.inl ⟨(a, b, 1), ?_, Or.inr q⟩
      unfold X6_countRows_89_s
      rw [if_neg (nI_pos (by omega)), if_neg n10]
  · rintro ⟨a, b, v⟩ q
    show ∃ r, X6_countRows_89_s (nI n) ro v1 (nI d) (nI U) (nI I) a b v = some (.inr r) ∧ _
    rcases q with ⟨q1, q2, _⟩ | q
    · omega
    · have q1 : v = 1 := q.choose_spec.2.2.2.2.1
      subst q1
      refine ⟨(a, b, 1), ?_, Or.inr q⟩
      unfold X6_countRows_89_s
      rw [if_neg (nI_pos (by omega)), if_neg n10]
abbrev CS : Type := (Nat → Int32) × (Nat → Int32) × Int32 × Int32 × Int32 × Int32
abbrev CR : Type := (Nat → Int32) × (Nat → Int32) × Int32
def cst (n : Nat) (ro : Nat → Int32) (z : CS) : Option (CS ⊕ CR) := X6_countRows_23_s (nI n) ro z.1 z.2.1 z.2.2.1 z.2.2.2.1 z.2.2.2.2.1 z.2.2.2.2.2
def mid (n : Nat) (ro : Nat → Int32) (d U I : Nat) (iv pl : Nat → Int32) (v1 : Int32) : Option (CS ⊕ CR) := (X6_countRows_89_l (nI n) ro v1 (nI d) (nI U) (nI I) iv pl 0).bind (fun ex => X6_countRows_182 ro ex.1 ex.2.1 v1 (nI d) (nI U) (nI I) ex.2.2)
def Go {σ ρ : Type} (step : σ → Option (σ ⊕ ρ)) (k : Nat) (A B : σ) : Prop := ∀ F, loopN step (F + k) A = loopN step F B
theorem Go_trans {σ ρ : Type} {step : σ → Option (σ ⊕ ρ)} {k l : Nat} {A B C : σ} (h1 : Go step k A B) (h2 : Go step l B C) : Go step (k + l) A C := by
  intro F
  rw [show F + (k + l) = F + l + k by omega, h1, h2]
theorem Go_1 {σ ρ : Type} {step : σ → Option (σ ⊕ ρ)} {A B : σ} (h : step A = some (.inl B)) : Go step 1 A B := by
  intro F
  show (step A).bind _ = _
  rw [h]; rfl
theorem Go_0 {σ ρ : Type} {step : σ → Option (σ ⊕ ρ)} {A B : σ} (h : step A = step B) : Go step 0 A B := by
  intro F
  cases F with
  | zero => rfl
  | succ F =>
    show (step A).bind _ = (step B).bind _
    rw [h]
def bnd : Nat → Nat
  | 0 => 0
  | r + 1 => 11 * (1 + bnd r) + 1
theorem clr_or {U q : Nat} (hU : U < 2 ^ 32) (hq : q < 32) (h : U.testBit q = false) : clr (U ||| 2 ^ q) q = U := by
  apply bit_ext
  intro j
  rw [clr_bit (Nat.or_lt_two_pow hU (Nat.pow_lt_pow_right (by omega) hq)), or_bit]
  constructor
  · rintro ⟨a, b⟩
    exact a.resolve_right b
  · intro a
    refine ⟨Or.inl a, ?_⟩
    rintro rfl
    rw [h] at a; cases a
theorem cst_go {n d U I : Nat} {ro iv pl : Nat → Int32} {v1 : Int32} (hn2 : n ≤ 12) (hd : d + 1 < n) (h : iv d = 0) : cst n ro (iv, pl, v1, nI d, nI U, nI I) = mid n ro d U I iv pl v1 := by
  have hb : ¬ (nI d < 0 ∨ 13 ≤ (nI d).toNatClampNeg) := nI_in (by omega) (by omega)
  have hm : nI n - (1 : Int32) = nI (n - 1) := pk_sub (b := 1) (by omega)
  show X6_countRows_23_s (nI n) ro iv pl v1 (nI d) (nI U) (nI I) = _
  unfold X6_countRows_23_s mid
  rw [if_neg (nI_pos (by omega)), hm, if_neg (fun z => by have := nI_inj (by omega) (by omega) z; omega)]
  unfold X6_countRows_43
  rw [if_neg (nI_pos (by omega)), if_neg hb, nI_clamp (n := d) (by omega), h, if_pos (by decide)]
theorem cst_ret {n d U I q j : Nat} {ro iv pl : Nat → Int32} {v1 : Int32} (hn2 : n ≤ 12) (hd : d + 1 < n) (hj : 0 < j) (hj2 : j < n) (hq : q < n) (hU : U < 2 ^ n) (hI : I < 2 ^ n) (hUq : U.testBit q = false) (hIj : I.testBit j = false) (h : iv d = nI j) (h2 : pl (d + 1) = nI q) : cst n ro (iv, pl, v1, nI (d + 1) + (-1), nI (U ||| 2 ^ q), nI (I ||| 2 ^ j)) = mid n ro d U I iv pl v1 := by
  have hp12 := pow_le12 hn2
  have hb : ¬ (nI d < 0 ∨ 13 ≤ (nI d).toNatClampNeg) := nI_in (by omega) (by omega)
  have hb2 : ¬ (nI (d + 1) < 0 ∨ 13 ≤ (nI (d + 1)).toNatClampNeg) := nI_in (by omega) (by omega)
  have hm : nI n - (1 : Int32) = nI (n - 1) := pk_sub (b := 1) (by omega)
  have h0 : ¬ nI j ≤ (0 : Int32) := nI_ge (a := 0) hj (by omega)
  show X6_countRows_23_s (nI n) ro iv pl v1 (nI (d + 1) + (-1)) (nI (U ||| 2 ^ q)) (nI (I ||| 2 ^ j)) = _
  rw [pk_m1]
  unfold X6_countRows_23_s mid
  rw [if_neg (nI_pos (by omega)), hm, if_neg (fun z => by have := nI_inj (by omega) (by omega) z; omega)]
  unfold X6_countRows_43
  rw [if_neg (nI_pos (by omega)), if_neg hb, nI_1, if_neg hb2, if_neg hb, nI_clamp (n := d) (by omega), h, if_neg h0, nI_clamp (n := d + 1) (by omega), h2, clr_nat (by omega), clr_nat (by omega), clr_or (by omega) (by omega) hUq, clr_or (by omega) (by omega) hIj]
theorem node {n : Nat} (hn : 2 ≤ n) (hn2 : n ≤ 12) (ro : Nat → Int32) : ∀ r d, d + r + 1 = n → ∀ (iv pl : Nat → Int32) (v1 : Int32) (p U I : Nat), iv d = 0 → pl d = nI p → p < n → U.testBit p = true → U < 2 ^ n → I < 2 ^ n → ∃ (k : Nat) (iv2 pl2 : Nat → Int32), k ≤ bnd r ∧ Go (cst n ro) k (iv, pl, v1, nI d, nI U, nI I) (iv2, pl2, v1 + nI (gk n r p U I), nI d + (-1), nI U, nI I) ∧ (∀ j, j < d → iv2 j = iv j) ∧ (∀ j, j ≤ d → pl2 j = pl j)
  | 0, d, hdr, iv, pl, v1, p, U, I, h1, h2, h3, h4, h5, h6 => by
    refine ⟨0, iv, pl, Nat.le_refl _, ?_, fun _ _ => rfl, fun _ _ => rfl⟩
    apply Go_0
    obtain ⟨e, rfl⟩ : ∃ e, d = e + 1 := ⟨d - 1, by omega⟩
    have hm : nI n - (1 : Int32) = nI (e + 1) := by
      have : nI n - (1 : Int32) = nI (n - 1) := pk_sub (b := 1) (by omega)
      rw [this, show n - 1 = e + 1 by omega]
    show X6_countRows_23_s (nI n) ro iv pl v1 (nI (e + 1)) (nI U) (nI I) = X6_countRows_23_s (nI n) ro iv pl (v1 + nI (gk n 0 p U I)) (nI (e + 1) + (-1)) (nI U) (nI I)
    unfold X6_countRows_23_s
    rw [hm, pk_m1, if_neg (nI_pos (by omega)), if_pos rfl, if_neg (nI_pos (by omega)), if_neg (fun z => by have := nI_inj (by omega) (by omega) z; omega)]
    rfl
  | r + 1, d, hdr, iv, pl, v1, p, U, I, h1, h2, h3, h4, h5, h6 => by
    have hp12 := pow_le12 hn2
    have hT : ∀ T : Nat → Nat, T = (fun i => if frq n p U I i = true then gk n r ((p + i) % n) (U ||| 2 ^ ((p + i) % n)) (I ||| 2 ^ i) else 0) → ∀ m c, c + m + 1 = n → ∀ (iv pl : Nat → Int32) (v1 : Int32), iv d = nI c → pl d = nI p → ∃ (k : Nat) (iv2 pl2 : Nat → Int32) (X : Nat), k ≤ m * (1 + bnd r) ∧ sm T (c + 1) + X = sm T n ∧ (∀ Z, cst n ro Z = mid n ro d U I iv pl v1 → Go (cst n ro) (k + 1) Z (iv2, pl2, v1 + nI X, nI d + (-1), nI U, nI I)) ∧ (∀ j, j < d → iv2 j = iv j) ∧ (∀ j, j ≤ d → pl2 j = pl j) := by
      intro T hT m
      induction m using Nat.strongRecOn with
      | _ m ih =>
        intro c hcm iv pl v1 hiv hpl
        obtain ⟨⟨a, b, v⟩, es, hs⟩ := scan (ro := ro) (v1 := v1) (iv := iv) (pl := pl) (by omega) hn2 (show d + 1 < 13 by omega) (show c < n by omega) h3 h5 h6 hiv hpl
        rcases hs with ⟨q1, q2, q3, q4⟩ | ⟨j, q1, q2, q3, q4, q5, q6, q7, q8, q9⟩
        · have q1 : v = 0 := q1
          have q2 : b = pl := q2
          subst q1; subst q2
          refine ⟨0, a, b, 0, Nat.zero_le _, ?_, ?_, fun x hx => q3 x (by omega), fun _ _ => rfl⟩
          · rw [Nat.add_zero]
            symm
            apply sm_flat (by omega)
            intro i h7 h8
            rw [hT]
            show (if frq n p U I i = true then _ else 0) = 0
            rw [q4 i (by omega) h8]; rfl
          · intro Z hZ
            apply Go_1
            rw [hZ]
            unfold mid
            rw [es, bso]
            unfold X6_countRows_182
            rw [if_pos rfl, show nI 0 = (0 : Int32) from rfl, Int32.add_zero]
        · have q5 : v = 1 := q5
          subst q5
          have q6 : a d = nI j := q6
          have q7 : ∀ x, x ≠ d → a x = iv x := q7
          have q8 : b (d + 1) = nI ((p + j) % n) := q8
          have q9 : ∀ x, x ≠ d + 1 → b x = pl x := q9
          obtain ⟨f1, f2⟩ := frq_iff.mp q3
          have hq : (p + j) % n < n := Nat.mod_lt _ (by omega)
          obtain ⟨k1, iv4, pl4, c1, c2, c3, c4⟩ := node hn hn2 ro r (d + 1) (by omega) (upd a (d + 1) 0) b v1 ((p + j) % n) (U ||| 2 ^ ((p + j) % n)) (I ||| 2 ^ j) (upd_s _ _ _) q8 hq (orb_t _ _) (Nat.or_lt_two_pow h5 (Nat.pow_lt_pow_right (by omega) hq)) (Nat.or_lt_two_pow h6 (Nat.pow_lt_pow_right (by omega) q2))
          have i4 : iv4 d = nI j := (c3 d (by omega)).trans ((upd_n _ _ (by omega)).trans q6)
          have p4 : pl4 d = nI p := (c4 d (by omega)).trans ((q9 d (by omega)).trans hpl)
          have p5 : pl4 (d + 1) = nI ((p + j) % n) := (c4 (d + 1) (Nat.le_refl _)).trans q8
          obtain ⟨k2, iv5, pl5, X, e1, e2, e3, e4, e5⟩ := ih (n - 1 - j) (by omega) j (by omega) iv4 pl4 (v1 + nI (gk n r ((p + j) % n) (U ||| 2 ^ ((p + j) % n)) (I ||| 2 ^ j))) i4 p4
          refine ⟨k1 + k2 + 1, iv5, pl5, gk n r ((p + j) % n) (U ||| 2 ^ ((p + j) % n)) (I ||| 2 ^ j) + X, ?_, ?_, ?_, ?_, ?_⟩
          · have : (n - 1 - j + 1) * (1 + bnd r) ≤ m * (1 + bnd r) := Nat.mul_le_mul_right _ (by omega)
            rw [Nat.succ_mul] at this
            omega
          · have s1 : sm T j = sm T (c + 1) := by
              apply sm_flat (by omega)
              intro i h7 h8
              rw [hT]
              show (if frq n p U I i = true then _ else 0) = 0
              rw [q4 i (by omega) h8]; rfl
            have s2 : T j = gk n r ((p + j) % n) (U ||| 2 ^ ((p + j) % n)) (I ||| 2 ^ j) := by
              rw [hT]
              exact if_pos q3
            rw [sm_s, s1, s2] at e2
            omega
          · intro Z hZ
            have hb2 : ¬ (nI (d + 1) < 0 ∨ 13 ≤ (nI (d + 1)).toNatClampNeg) := nI_in (by omega) (by omega)
            have hb : ¬ (nI d < 0 ∨ 13 ≤ (nI d).toNatClampNeg) := nI_in (by omega) (by omega)
            have g1 : Go (cst n ro) 1 Z (upd a (d + 1) 0, b, v1, nI (d + 1), nI (U ||| 2 ^ ((p + j) % n)), nI (I ||| 2 ^ j)) := by
              apply Go_1
              rw [hZ]
              unfold mid
              rw [es, bso]
              show X6_countRows_182 ro a b v1 (nI d) (nI U) (nI I) 1 = _
              unfold X6_countRows_182
              rw [if_neg n10, nI_1, if_neg hb2, if_neg hb, if_neg hb2, nI_clamp (n := d + 1) (by omega), nI_clamp (n := d) (by omega), q8, q6, n_one (by omega), n_one (by omega), nx_or, nx_or]
            have g3 := e3 _ (cst_ret (ro := ro) (v1 := v1 + nI (gk n r ((p + j) % n) (U ||| 2 ^ ((p + j) % n)) (I ||| 2 ^ j))) hn2 (by omega) (by omega) q2 hq h5 h6 f2 f1 i4 p5)
            have g := Go_trans g1 (Go_trans c2 g3)
            rw [show 1 + (k1 + (k2 + 1)) = k1 + k2 + 1 + 1 by omega, Int32.add_assoc, nI_add] at g
            exact g
          · intro x hx
            exact (e4 x hx).trans ((c3 x (by omega)).trans ((upd_n _ _ (by omega)).trans (q7 x (by omega))))
          · intro x hx
            exact (e5 x hx).trans ((c4 x (by omega)).trans (q9 x (by omega)))
    obtain ⟨k, iv2, pl2, X, e1, e2, e3, e4, e5⟩ := hT _ rfl (n - 1) 0 (by omega) iv pl v1 h1 h2
    have hX : X = gk n (r + 1) p U I := by
      rw [gk_s, ← e2]
      have : frq n p U I 0 = false := by
        cases hf : frq n p U I 0 with
        | false => rfl
        | true => exact absurd rfl (frq_0 h3 h4 hf)
      show X = 0 + (if frq n p U I 0 = true then _ else 0) + X
      rw [this]
      show X = 0 + 0 + X
      omega
    refine ⟨k + 1, iv2, pl2, ?_, ?_, e4, e5⟩
    · show k + 1 ≤ 11 * (1 + bnd r) + 1
      have : (n - 1) * (1 + bnd r) ≤ 11 * (1 + bnd r) := Nat.mul_le_mul_right _ (by omega)
      omega
    · rw [← hX]
      exact e3 _ (cst_go hn2 (by omega) h1)
theorem bnd_lt : ∀ r, r < 12 → bnd r + 1 < 1099511627776 := by decide +kernel
theorem cr_nat {n : Nat} (hn : 0 < n) (hn2 : n ≤ 12) (ro iv pl : Nat → Int32) : ∃ iv2 pl2, FX6_countRows (nI n) ro iv pl = some (upd ro n (nI (arc n + 1)), iv2, pl2) := by
  have hb : ¬ (nI n < 0 ∨ 13 ≤ (nI n).toNatClampNeg) := nI_in (by omega) (by omega)
  have key : ∃ iv2 pl2, X6_countRows_23_l (nI n) ro (upd iv (0 : Int32).toNatClampNeg 0) (upd pl (0 : Int32).toNatClampNeg 0) 0 0 1 0 = some (iv2, pl2, nI (arc n)) := by
    by_cases h1 : n = 1
    · subst h1
      refine ⟨upd iv (0 : Int32).toNatClampNeg 0, upd pl (0 : Int32).toNatClampNeg 0, ?_⟩
      unfold X6_countRows_23_l
      refine loop_at _ 1 FU (fun i => if i = 0 then (upd iv (0 : Int32).toNatClampNeg 0, upd pl (0 : Int32).toNatClampNeg 0, 0, 0, 1, 0) else (upd iv (0 : Int32).toNatClampNeg 0, upd pl (0 : Int32).toNatClampNeg 0, 1, -2, 1, 0)) _ rfl (FU_big (by omega)) ?_ ?_
      · intro i hi
        have : i = 0 := by omega
        subst this
        show X6_countRows_23_s (nI 1) ro (upd iv (0 : Int32).toNatClampNeg 0) (upd pl (0 : Int32).toNatClampNeg 0) 0 0 1 0 = _
        unfold X6_countRows_23_s
        rw [if_neg (by decide), if_pos (by decide)]
        unfold X6_countRows_43
        rw [if_pos (by decide)]
        have e : X6_countRows_89_l (nI 1) ro (0 + 1) (0 + -1) 1 0 (upd iv (0 : Int32).toNatClampNeg 0) (upd pl (0 : Int32).toNatClampNeg 0) 0 = some (upd iv (0 : Int32).toNatClampNeg 0, upd pl (0 : Int32).toNatClampNeg 0, 0) := by
          unfold X6_countRows_89_l
          refine loop_at _ 0 FU (fun _ => (upd iv (0 : Int32).toNatClampNeg 0, upd pl (0 : Int32).toNatClampNeg 0, 0)) _ rfl (FU_big (by omega)) (fun i hi => by omega) ?_
          show X6_countRows_89_s (nI 1) ro (0 + 1) (0 + -1) 1 0 (upd iv (0 : Int32).toNatClampNeg 0) (upd pl (0 : Int32).toNatClampNeg 0) 0 = _
          unfold X6_countRows_89_s
          rw [if_pos (by decide)]
        rw [e, bso]
        rfl
      · show X6_countRows_23_s (nI 1) ro (upd iv (0 : Int32).toNatClampNeg 0) (upd pl (0 : Int32).toNatClampNeg 0) 1 (-2) 1 0 = _
        unfold X6_countRows_23_s
        rw [if_pos (by decide)]
        rfl
    · obtain ⟨k, iv2, pl2, e1, e2, _⟩ := node (n := n) (by omega) hn2 ro (n - 1) 0 (by omega) (upd iv (0 : Int32).toNatClampNeg 0) (upd pl (0 : Int32).toNatClampNeg 0) 0 0 1 0 (upd_s _ 0 _) (upd_s _ 0 _) hn rfl (Nat.one_lt_two_pow (by omega)) (Nat.pow_pos (by omega))
      have hk : k + 1 < FU := FU_big (by have := bnd_lt (n - 1) (by omega); omega)
      obtain ⟨F, hF⟩ : ∃ F, FU = F + 1 + k := ⟨FU - 1 - k, by omega⟩
      refine ⟨iv2, pl2, ?_⟩
      show loopN (cst n ro) FU (upd iv (0 : Int32).toNatClampNeg 0, upd pl (0 : Int32).toNatClampNeg 0, 0, nI 0, nI 1, nI 0) = _
      rw [hF, e2 (F + 1)]
      show (cst n ro (iv2, pl2, 0 + nI (gk n (n - 1) 0 1 0), nI 0 + (-1), nI 1, nI 0)).bind _ = _
      have e : cst n ro (iv2, pl2, 0 + nI (gk n (n - 1) 0 1 0), nI 0 + (-1), nI 1, nI 0) = some (.inr (iv2, pl2, 0 + nI (gk n (n - 1) 0 1 0))) := by
        show X6_countRows_23_s (nI n) ro iv2 pl2 (0 + nI (gk n (n - 1) 0 1 0)) (nI 0 + (-1)) (nI 1) (nI 0) = _
        unfold X6_countRows_23_s
        rw [if_pos (show nI 0 + (-1) < 0 by decide)]
      rw [e, bso, Int32.zero_add]
      rfl
  obtain ⟨iv2, pl2, e⟩ := key
  unfold FX6_countRows
  rw [e, bso]
  unfold X6_countRows_232
  rw [if_neg hb, nI_clamp (by omega), nI_1]
  exact ⟨_, _, rfl⟩
theorem cf_nat {N : Nat} (hN : 0 < N) (hN2 : N ≤ 12) {fu : Nat → Int32} (h : fu N = 0 ∨ fu N = nI (arc N)) : ∃ fu2, FX4_countFor fu (nI N) = some (nI (arc N), fu2) ∧ (fu2 = fu ∨ fu2 = upd fu N (nI (arc N))) := by
  have hb : ¬ (nI N < 0 ∨ 13 ≤ (nI N).toNatClampNeg) := nI_in (by omega) (by omega)
  have hr : nI N - nI N / (2 : Int32) * 2 = nI (N % 2) := pk_rem (d := 2) (by omega) (by omega) (by omega)
  have h1 : ¬ nI N < (1 : Int32) := nI_nlt (b := 1) (by omega) (by omega)
  have h12 : nI N ≤ (12 : Int32) := nI_le (b := 12) hN2 (by omega)
  unfold FX4_countFor
  rw [if_neg h1, if_pos h12, hr]
  by_cases ho : N % 2 = 1
  · rw [ho, if_pos (show nI 1 = 1 from rfl)]
    by_cases hN1 : N = 1
    · subst hN1
      rw [if_pos (show nI 1 = 1 from rfl), arc_1]
      exact ⟨fu, rfl, Or.inl rfl⟩
    · have hne : ¬ nI N = (1 : Int32) := fun z => hN1 (nI_inj (b := 1) (by omega) (by omega) z)
      rw [if_neg hne, arc_odd (by omega) (by omega) ho]
      exact ⟨fu, rfl, Or.inl rfl⟩
  · have h0 : N % 2 = 0 := by omega
    have hb4 : ¬ (nI N < 0 ∨ 13 ≤ N) := by rw [nI_clamp (by omega)] at hb; exact hb
    rw [h0, if_neg (show ¬ nI 0 = 1 by decide), if_neg hb, nI_clamp (by omega)]
    by_cases hz : fu N = 0
    · rw [if_pos hz, srch_arc (by omega) (by omega) h0, bso, if_neg hb4]
      unfold X4_countFor_50
      rw [if_neg hb, nI_clamp (by omega), upd_s]
      exact ⟨_, rfl, Or.inr rfl⟩
    · rw [if_neg hz]
      unfold X4_countFor_50
      rw [if_neg hb, nI_clamp (by omega), h.resolve_left hz]
      exact ⟨_, rfl, Or.inl rfl⟩
theorem mr_nat {N : Nat} (hN : 0 < N) (hN2 : N ≤ 12) {ro iv pl : Nat → Int32} {c : Int32} (h : ro N = 0 ∨ ro N = nI (arc N + 1)) : ∃ ro2 iv2 pl2, FX6_rows c (nI N) ro iv pl = some (nI (arc N), 0, ro2, iv2, pl2) ∧ (ro2 = ro ∨ ro2 = upd ro N (nI (arc N + 1))) := by
  have hb : ¬ (nI N < 0 ∨ 13 ≤ (nI N).toNatClampNeg) := nI_in (by omega) (by omega)
  have hm : nI (arc N + 1) - (1 : Int32) = nI (arc N) := pk_sub (b := 1) (Nat.le_add_left 1 (arc N))
  unfold FX6_rows
  rw [if_neg hb, nI_clamp (by omega)]
  by_cases hz : ro N = 0
  · obtain ⟨iv2, pl2, e⟩ := cr_nat hN hN2 ro iv pl
    rw [if_pos hz, e, bind3_some]
    unfold X6_rows_21
    rw [if_neg hb, nI_clamp (by omega), upd_s, hm]
    exact ⟨_, _, _, rfl, Or.inr rfl⟩
  · rw [if_neg hz]
    unfold X6_rows_21
    rw [if_neg hb, nI_clamp (by omega), h.resolve_left hz, hm]
    exact ⟨_, _, _, rfl, Or.inl rfl⟩
theorem op_rows : Op_rows InvC := by
  intro n ev ld0 ld1 ld2 tk mb f0 f1 f2 fr fu m_code m_n m_built m_length m_begin m_many m_leastOf m_sizeOf m_own m_bestRow m_tryRow m_keptRow m_otherRow m_row m_formRow m_allForms m_rowsOf m_intervals m_places m_whole ⟨N, hN, hN2, h1, h2, h3, l0, l1, l2, hR, hC, hT⟩
  subst h1; subst h2; subst h3
  obtain ⟨fu2, e1, k1⟩ := cf_nat hN hN2 (hC N hN2).1
  obtain ⟨ro2, iv2, pl2, e2, k2⟩ := mr_nat (iv := m_intervals) (pl := m_places) (c := m_code) hN hN2 (hC N hN2).2
  unfold FX5_rows FX0_count
  rw [bso, e1, bind2_some, e2]
  refine ⟨_, _, _, _, _, _, rfl, rfl, N, hN, hN2, rfl, rfl, rfl, l0, l1, l2, hR, ?_, hT⟩
  intro k hk
  obtain ⟨c1, c2⟩ := hC k hk
  constructor
  · rcases k1 with rfl | rfl
    · exact c1
    · by_cases q : k = N
      · subst q; exact Or.inr (upd_s _ _ _)
      · rw [upd_n _ _ q]; exact c1
  · rcases k2 with rfl | rfl
    · exact c2
    · by_cases q : k = N
      · subst q; exact Or.inr (upd_s _ _ _)
      · rw [upd_n _ _ q]; exact c2
