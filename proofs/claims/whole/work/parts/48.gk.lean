/-! rows of unlike intervals, counted -/
theorem gk_s (n d p U I : Nat) : gk n (d + 1) p U I = sm (fun i => if frq n p U I i = true then gk n d ((p + i) % n) (U ||| 2 ^ ((p + i) % n)) (I ||| 2 ^ i) else 0) n := rfl
theorem sm_pt (c j : Nat) : ∀ n, j < n → sm (fun i => if i = j then c else 0) n = c
  | 0, h => by omega
  | n + 1, h => by
    rw [sm_s]
    by_cases q : n = j
    · subst q
      rw [if_pos rfl]
      have : sm (fun i => if i = n then c else 0) n = sm (fun _ => 0) n := sm_congr (fun i hi => if_neg (by omega))
      rw [this, sm_0]; omega
    · rw [if_neg q, sm_pt c j n (by omega)]; omega
theorem sm_rm {f : Nat → Nat} {n j : Nat} (hj : j < n) : sm f n = f j + sm (fun i => if i = j then 0 else f i) n := by
  have h1 := sm_add2 (fun i => if i = j then f j else 0) (fun i => if i = j then 0 else f i) n
  rw [sm_pt (f j) j n hj] at h1
  rw [← h1]
  apply sm_congr
  intro i _
  by_cases q : i = j
  · rw [if_pos q, if_pos q, q]; omega
  · rw [if_neg q, if_neg q]; omega
theorem sm_inj : ∀ (n M : Nat) (f : Nat → Nat) (φ : Nat → Nat), (∀ i, i < n → φ i < M) → (∀ i j, i < n → j < n → φ i = φ j → i = j) → sm (fun i => f (φ i)) n ≤ sm f M
  | 0, M, f, φ, _, _ => Nat.zero_le _
  | n + 1, M, f, φ, h1, h2 => by
    rw [sm_s, sm_rm (f := f) (h1 n (by omega))]
    have e : sm (fun i => f (φ i)) n = sm (fun i => if φ i = φ n then 0 else f (φ i)) n := by
      apply sm_congr
      intro i hi
      show f (φ i) = if φ i = φ n then 0 else f (φ i)
      rw [if_neg]
      intro q
      have := h2 i n (by omega) (by omega) q
      omega
    have := sm_inj n M (fun x => if x = φ n then 0 else f x) φ (fun i hi => h1 i (by omega)) (fun i j hi hj q => h2 i j (by omega) (by omega) q)
    omega
theorem sm_perm {n : Nat} {f φ ψ : Nat → Nat} (h1 : ∀ i, i < n → φ i < n) (h2 : ∀ i, i < n → ψ i < n) (h3 : ∀ i, i < n → φ (ψ i) = i) (h4 : ∀ i, i < n → ψ (φ i) = i) : sm f n = sm (fun i => f (φ i)) n := by
  apply Nat.le_antisymm
  · have := sm_inj n n (fun i => f (φ i)) ψ h2 (fun i j hi hj q => by rw [← h3 i hi, ← h3 j hj, q])
    have e : sm (fun i => f (φ (ψ i))) n = sm f n := sm_congr (fun i hi => by rw [h3 i hi])
    rw [e] at this
    exact this
  · exact sm_inj n n f φ h1 (fun i j hi hj q => by rw [← h4 i hi, ← h4 j hj, q])
theorem sm_chg {f g : Nat → Nat} {n j : Nat} (hj : j < n) (h : ∀ i, i ≠ j → f i = g i) : sm f n + g j = sm g n + f j := by
  rw [sm_rm (f := f) hj, sm_rm (f := g) hj]
  have : sm (fun i => if i = j then 0 else f i) n = sm (fun i => if i = j then 0 else g i) n := by
    apply sm_congr
    intro i _
    by_cases q : i = j
    · rw [if_pos q, if_pos q]
    · rw [if_neg q, if_neg q, h i q]
  omega
theorem sm_flat {f : Nat → Nat} {a : Nat} : ∀ {b}, a ≤ b → (∀ i, a ≤ i → i < b → f i = 0) → sm f b = sm f a := by
  intro b
  induction b with
  | zero => intro h _; rw [show a = 0 by omega]
  | succ b ih =>
    intro h h2
    by_cases q : a = b + 1
    · rw [q]
    · rw [sm_s, h2 b (by omega) (by omega), ih (by omega) (fun i h3 h4 => h2 i h3 (by omega))]; rfl
theorem orb_f {B x v : Nat} (h : x ≠ v) : (B ||| 2 ^ x).testBit v = B.testBit v := by
  apply bool_ext
  rw [or_bit]
  exact ⟨fun q => q.resolve_right h, Or.inl⟩
theorem orb_t (B x : Nat) : (B ||| 2 ^ x).testBit x = true := or_bit.mpr (Or.inr rfl)
/- what is left of the intervals -/
def un (n I : Nat) : Nat := sm (fun i => if I.testBit i = true then 0 else i) n
def uq (I i : Nat) : Bool := !decide (i = 0) && !I.testBit i
def uc (n I : Nat) : Nat := cb (uq I) n
theorem un_s {n I i : Nat} (hi : i < n) (h : I.testBit i = false) : un n I = un n (I ||| 2 ^ i) + i := by
  have := sm_chg (f := fun j => if I.testBit j = true then 0 else j) (g := fun j => if (I ||| 2 ^ i).testBit j = true then 0 else j) hi (fun j hj => by rw [orb_f (fun q => hj q.symm)])
  have e1 : (if I.testBit i = true then 0 else i) = i := by rw [h]; rfl
  have e2 : (if (I ||| 2 ^ i).testBit i = true then 0 else i) = 0 := by rw [orb_t]; rfl
  have this : un n I + (if (I ||| 2 ^ i).testBit i = true then 0 else i) = un n (I ||| 2 ^ i) + (if I.testBit i = true then 0 else i) := this
  rw [e1, e2] at this
  exact this
theorem uc_s {n I i : Nat} (hi : i < n) (h0 : i ≠ 0) (h : I.testBit i = false) : uc n I = uc n (I ||| 2 ^ i) + 1 := by
  unfold uc
  apply cb_up (j := i)
  · unfold uq; rw [orb_t]; simp
  · unfold uq; rw [h, decide_eq_false h0]; rfl
  · intro j hj
    unfold uq; rw [orb_f (fun q => hj q.symm)]
  · exact hi
theorem un_0 {n I : Nat} (h : uc n I = 0) : un n I = 0 := by
  unfold un
  refine Eq.trans (sm_congr (g := fun _ => 0) ?_) (sm_0 n)
  intro i hi
  have := cb_z h hi
  unfold uq at this
  by_cases q : I.testBit i = true
  · rw [if_pos q]
  · rw [if_neg q]
    by_cases q2 : i = 0
    · exact q2
    · rw [decide_eq_false q2, Bool.not_eq_true _ |>.mp q] at this
      cases this
theorem frq_iff {n p U I i : Nat} : frq n p U I i = true ↔ I.testBit i = false ∧ U.testBit ((p + i) % n) = false := by
  unfold frq
  rw [Bool.and_eq_true, Bool.not_eq_true', Bool.not_eq_true']
theorem frq_0 {n p U I i : Nat} (hp : p < n) (hU : U.testBit p = true) (h : frq n p U I i = true) : i ≠ 0 := by
  intro q
  subst q
  have := (frq_iff.mp h).2
  rw [Nat.add_zero, Nat.mod_eq_of_lt hp, hU] at this
  cases this
/- the last step is known: it cannot be taken before -/
theorem gk_z {n h : Nat} : ∀ d p U I, p < n → U.testBit p = true → U.testBit h = true → uc n I = d → (p + un n I) % n = h → 0 < d → gk n d p U I = 0
  | 0, p, U, I, _, _, _, _, _, h0 => by omega
  | d + 1, p, U, I, hp, hU, hh, hc, hs, _ => by
    rw [gk_s]
    refine Eq.trans (sm_congr (g := fun _ => 0) ?_) (sm_0 n)
    intro i hi
    by_cases hf : frq n p U I i = true
    · rw [if_pos hf]
      obtain ⟨f1, f2⟩ := frq_iff.mp hf
      have i0 := frq_0 hp hU hf
      have c1 := uc_s hi i0 f1
      have s1 := un_s hi f1
      have hq : ((p + i) % n + un n (I ||| 2 ^ i)) % n = h := by
        rw [Nat.mod_add_mod, show p + i + un n (I ||| 2 ^ i) = p + un n I by omega]; exact hs
      rcases Nat.eq_zero_or_pos d with q | q
      · subst q
        have := un_0 (n := n) (I := I ||| 2 ^ i) (by omega)
        rw [this, Nat.add_zero, Nat.mod_mod] at hq
        rw [hq, hh] at f2
        cases f2
      · exact gk_z d _ _ _ (Nat.mod_lt _ (by omega)) (orb_t _ _) (or_bit.mpr (Or.inl hh)) (by omega) hq q
    · rw [if_neg hf]
/- multiplying by a unit -/
theorem u_inj {n u v a b : Nat} (huv : v * u % n = 1 % n) (ha : a < n) (hb : b < n) (h : u * a % n = u * b % n) : a = b := by
  have e : ∀ x, x < n → v * (u * x % n) % n = x := by
    intro x hx
    rw [Nat.mul_mod, Nat.mod_mod, ← Nat.mul_mod, ← Nat.mul_assoc, Nat.mul_mod, huv, ← Nat.mul_mod, Nat.one_mul, Nat.mod_eq_of_lt hx]
  rw [← e a ha, ← e b hb, h]
theorem gk_u {n u v : Nat} (hn : 0 < n) (huv : v * u % n = 1 % n) : ∀ d p U I U2 I2, p < n → (∀ q, q < n → U2.testBit (u * q % n) = U.testBit q) → (∀ q, q < n → I2.testBit (u * q % n) = I.testBit q) → gk n d (u * p % n) U2 I2 = gk n d p U I
  | 0, _, _, _, _, _, _, _, _ => rfl
  | d + 1, p, U, I, U2, I2, hp, h1, h2 => by
    have huv2 : u * v % n = 1 % n := by rw [Nat.mul_comm]; exact huv
    have e : ∀ x y, y * x % n = 1 % n → ∀ a, a < n → y * (x * a % n) % n = a := by
      intro x y hxy a ha
      rw [Nat.mul_mod, Nat.mod_mod, ← Nat.mul_mod, ← Nat.mul_assoc, Nat.mul_mod, hxy, ← Nat.mul_mod, Nat.one_mul, Nat.mod_eq_of_lt ha]
    rw [gk_s, gk_s, sm_perm (φ := fun i => u * i % n) (ψ := fun i => v * i % n) (fun i _ => Nat.mod_lt _ hn) (fun i _ => Nat.mod_lt _ hn) (e v u huv2) (e u v huv)]
    apply sm_congr
    intro i hi
    have hm : (u * p % n + u * i % n) % n = u * ((p + i) % n) % n := by
      rw [← Nat.add_mod, ← Nat.mul_add, Nat.mul_mod, Nat.mul_mod u ((p + i) % n), Nat.mod_mod]
    have hq : (p + i) % n < n := Nat.mod_lt _ hn
    have hf : frq n (u * p % n) U2 I2 (u * i % n) = frq n p U I i := by
      unfold frq
      rw [hm, h2 i hi, h1 _ hq]
    show (if frq n (u * p % n) U2 I2 (u * i % n) = true then gk n d ((u * p % n + u * i % n) % n) (U2 ||| 2 ^ ((u * p % n + u * i % n) % n)) (I2 ||| 2 ^ (u * i % n)) else 0) = _
    rw [hf, hm]
    have upd2 : ∀ (A A2 x : Nat), x < n → (∀ q, q < n → A2.testBit (u * q % n) = A.testBit q) → ∀ q, q < n → (A2 ||| 2 ^ (u * x % n)).testBit (u * q % n) = (A ||| 2 ^ x).testBit q := by
      intro A A2 x hx hA q hq
      by_cases hxq : x = q
      · subst hxq; rw [orb_t, orb_t]
      · rw [orb_f hxq, orb_f (fun z => hxq (u_inj huv hx hq z)), hA q hq]
    rw [gk_u hn huv d _ _ _ _ _ hq (upd2 U U2 _ hq h1) (upd2 I I2 _ hi h2)]
def FF (n f : Nat) : Nat := gk n (n - 2) f (1 ||| 2 ^ f) (0 ||| 2 ^ f)
theorem FF_u {n u v f : Nat} (hn : 0 < n) (huv : v * u % n = 1 % n) (hf : f < n) : FF n (u * f % n) = FF n f := by
  unfold FF
  have h0 : ∀ q, q < n → (1 : Nat).testBit (u * q % n) = (1 : Nat).testBit q := by
    intro q hq
    have e : ∀ x, (1 : Nat).testBit x = decide (0 = x) := by
      intro x
      have := Nat.testBit_two_pow (n := 0) (m := x)
      exact this
    rw [e, e]
    apply bool_ext
    rw [decide_eq_true_iff, decide_eq_true_iff]
    constructor
    · intro z
      exact u_inj huv hn hq (by rw [Nat.mul_zero, Nat.zero_mod]; exact z)
    · rintro rfl
      rw [Nat.mul_zero, Nat.zero_mod]
  have upd2 : ∀ (A : Nat), (∀ q, q < n → A.testBit (u * q % n) = A.testBit q) → ∀ q, q < n → (A ||| 2 ^ (u * f % n)).testBit (u * q % n) = (A ||| 2 ^ f).testBit q := by
    intro A hA q hq
    by_cases hxq : f = q
    · subst hxq; rw [orb_t, orb_t]
    · rw [orb_f hxq, orb_f (fun z => hxq (u_inj huv hf hq z)), hA q hq]
  exact gk_u hn huv _ _ _ _ _ _ hf (upd2 1 h0) (upd2 0 (fun q _ => by rw [Nat.zero_testBit, Nat.zero_testBit]))
theorem arc_FF {n : Nat} (hn : 2 ≤ n) : arc n = sm (fun i => if i = 0 then 0 else FF n i) n := by
  unfold arc
  obtain ⟨m, rfl⟩ : ∃ m, n = m + 2 := ⟨n - 2, by omega⟩
  rw [show m + 2 - 1 = m + 1 by omega, gk_s]
  apply sm_congr
  intro i hi
  have e : ∀ x, (1 : Nat).testBit x = decide (0 = x) := by
    intro x
    have := Nat.testBit_two_pow (n := 0) (m := x)
    exact this
  rw [Nat.zero_add, Nat.mod_eq_of_lt hi]
  unfold FF frq
  rw [Nat.zero_testBit, Nat.zero_add, Nat.mod_eq_of_lt hi, e]
  by_cases q : i = 0
  · subst q; rfl
  · rw [if_neg q, decide_eq_false (fun z => q z.symm)]; rfl
theorem FF_h {n h : Nat} (hn : 3 ≤ n) (hh : h < n) (h1 : uc n (0 ||| 2 ^ h) = n - 2) (h2 : (h + un n (0 ||| 2 ^ h)) % n = h) : FF n h = 0 := by
  unfold FF
  exact gk_z _ _ _ _ hh (orb_t _ _) (orb_t _ _) h1 h2 (by omega)
theorem arc_odd {n : Nat} (hn : n < 13) (h3 : 3 ≤ n) (ho : n % 2 = 1) : arc n = 0 := by
  have hc : ∀ n, n < 13 → 3 ≤ n → n % 2 = 1 → uc n 0 = n - 1 ∧ (0 + un n 0) % n = 0 := by decide +kernel
  unfold arc
  obtain ⟨a, b⟩ := hc n hn h3 ho
  exact gk_z (h := 0) _ _ _ _ (by omega) rfl rfl a b (by omega)
theorem arc_1 : arc 1 = 1 := rfl
theorem arc_2 : arc 2 = 1 := by decide +kernel
theorem FF_hs : ∀ n, n < 13 → 3 ≤ n → n % 2 = 0 → uc n (0 ||| 2 ^ (n / 2)) = n - 2 ∧ (n / 2 + un n (0 ||| 2 ^ (n / 2))) % n = n / 2 := by decide +kernel
theorem FF_half {n : Nat} (hn : n < 13) (h3 : 3 ≤ n) (he : n % 2 = 0) : FF n (n / 2) = 0 := FF_h h3 (by omega) (FF_hs n hn h3 he).1 (FF_hs n hn h3 he).2
theorem sm_f4 (F : Nat → Nat) : sm (fun i => if i = 0 then 0 else F i) 4 = F 1 + F 2 + F 3 := by
  show 0 + 0 + F 1 + F 2 + F 3 = _
  omega
theorem sm_f6 (F : Nat → Nat) : sm (fun i => if i = 0 then 0 else F i) 6 = F 1 + F 2 + F 3 + F 4 + F 5 := by
  show 0 + 0 + F 1 + F 2 + F 3 + F 4 + F 5 = _
  omega
theorem sm_f8 (F : Nat → Nat) : sm (fun i => if i = 0 then 0 else F i) 8 = F 1 + F 2 + F 3 + F 4 + F 5 + F 6 + F 7 := by
  show 0 + 0 + F 1 + F 2 + F 3 + F 4 + F 5 + F 6 + F 7 = _
  omega
theorem sm_f10 (F : Nat → Nat) : sm (fun i => if i = 0 then 0 else F i) 10 = F 1 + F 2 + F 3 + F 4 + F 5 + F 6 + F 7 + F 8 + F 9 := by
  show 0 + 0 + F 1 + F 2 + F 3 + F 4 + F 5 + F 6 + F 7 + F 8 + F 9 = _
  omega
theorem sm_f12 (F : Nat → Nat) : sm (fun i => if i = 0 then 0 else F i) 12 = F 1 + F 2 + F 3 + F 4 + F 5 + F 6 + F 7 + F 8 + F 9 + F 10 + F 11 := by
  show 0 + 0 + F 1 + F 2 + F 3 + F 4 + F 5 + F 6 + F 7 + F 8 + F 9 + F 10 + F 11 = _
  omega
theorem arc_4 : arc 4 = 2 * FF 4 1 := by
  have h := FF_half (n := 4) (by omega) (by omega) (by omega)
  have a3 : FF 4 3 = FF 4 1 := FF_u (n := 4) (u := 3) (v := 3) (f := 1) (by omega) rfl (by omega)
  have h : FF 4 2 = 0 := h
  rw [arc_FF (by omega), sm_f4]
  omega
theorem arc_6 : arc 6 = 2 * FF 6 1 + 2 * FF 6 2 := by
  have h : FF 6 3 = 0 := FF_half (n := 6) (by omega) (by omega) (by omega)
  have a5 : FF 6 5 = FF 6 1 := FF_u (n := 6) (u := 5) (v := 5) (f := 1) (by omega) rfl (by omega)
  have a4 : FF 6 4 = FF 6 2 := FF_u (n := 6) (u := 5) (v := 5) (f := 2) (by omega) rfl (by omega)
  rw [arc_FF (by omega), sm_f6]
  omega
theorem arc_8 : arc 8 = 4 * FF 8 1 + 2 * FF 8 2 := by
  have h : FF 8 4 = 0 := FF_half (n := 8) (by omega) (by omega) (by omega)
  have a3 : FF 8 3 = FF 8 1 := FF_u (n := 8) (u := 3) (v := 3) (f := 1) (by omega) rfl (by omega)
  have a5 : FF 8 5 = FF 8 1 := FF_u (n := 8) (u := 5) (v := 5) (f := 1) (by omega) rfl (by omega)
  have a7 : FF 8 7 = FF 8 1 := FF_u (n := 8) (u := 7) (v := 7) (f := 1) (by omega) rfl (by omega)
  have a6 : FF 8 6 = FF 8 2 := FF_u (n := 8) (u := 3) (v := 3) (f := 2) (by omega) rfl (by omega)
  rw [arc_FF (by omega), sm_f8]
  omega
theorem arc_10 : arc 10 = 4 * FF 10 1 + 4 * FF 10 2 := by
  have h : FF 10 5 = 0 := FF_half (n := 10) (by omega) (by omega) (by omega)
  have a3 : FF 10 3 = FF 10 1 := FF_u (n := 10) (u := 3) (v := 7) (f := 1) (by omega) rfl (by omega)
  have a7 : FF 10 7 = FF 10 1 := FF_u (n := 10) (u := 7) (v := 3) (f := 1) (by omega) rfl (by omega)
  have a9 : FF 10 9 = FF 10 1 := FF_u (n := 10) (u := 9) (v := 9) (f := 1) (by omega) rfl (by omega)
  have a6 : FF 10 6 = FF 10 2 := FF_u (n := 10) (u := 3) (v := 7) (f := 2) (by omega) rfl (by omega)
  have a4 : FF 10 4 = FF 10 2 := FF_u (n := 10) (u := 7) (v := 3) (f := 2) (by omega) rfl (by omega)
  have a8 : FF 10 8 = FF 10 2 := FF_u (n := 10) (u := 9) (v := 9) (f := 2) (by omega) rfl (by omega)
  rw [arc_FF (by omega), sm_f10]
  omega
theorem arc_12 : arc 12 = 4 * FF 12 1 + 2 * FF 12 2 + 2 * FF 12 3 + 2 * FF 12 4 := by
  have h : FF 12 6 = 0 := FF_half (n := 12) (by omega) (by omega) (by omega)
  have a5 : FF 12 5 = FF 12 1 := FF_u (n := 12) (u := 5) (v := 5) (f := 1) (by omega) rfl (by omega)
  have a7 : FF 12 7 = FF 12 1 := FF_u (n := 12) (u := 7) (v := 7) (f := 1) (by omega) rfl (by omega)
  have a11 : FF 12 11 = FF 12 1 := FF_u (n := 12) (u := 11) (v := 11) (f := 1) (by omega) rfl (by omega)
  have a10 : FF 12 10 = FF 12 2 := FF_u (n := 12) (u := 5) (v := 5) (f := 2) (by omega) rfl (by omega)
  have a9 : FF 12 9 = FF 12 3 := FF_u (n := 12) (u := 7) (v := 7) (f := 3) (by omega) rfl (by omega)
  have a8 : FF 12 8 = FF 12 4 := FF_u (n := 12) (u := 5) (v := 5) (f := 4) (by omega) rfl (by omega)
  rw [arc_FF (by omega), sm_f12]
  omega
