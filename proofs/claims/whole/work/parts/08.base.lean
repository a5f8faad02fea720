/-! My own base: the Option logic that the methods' functions are told in, loops with a counter, calls that change nothing. -/
def FU : Nat := 1099511627776
def Ho {α : Type} (x : Option α) (Q : α → Prop) : Prop := ∃ a, x = some a ∧ Q a
theorem Ho_t {α : Type} {c : Prop} {i : Decidable c} {a b : Option α} {Q : α → Prop} (h : Ho (@ite _ c i a b) Q) (hc : c) : Ho a Q := by rwa [if_pos hc] at h
theorem Ho_f {α : Type} {c : Prop} {i : Decidable c} {a b : Option α} {Q : α → Prop} (h : Ho (@ite _ c i a b) Q) (hc : ¬ c) : Ho b Q := by rwa [if_neg hc] at h
theorem Ho_s {α : Type} {a : α} {Q : α → Prop} (h : Ho (some a) Q) : Q a := by
  obtain ⟨b, hb, hq⟩ := h
  cases hb
  exact hq
theorem Ho_no {α : Type} {Q : α → Prop} (h : Ho (none : Option α) Q) : False := by
  obtain ⟨b, hb, hq⟩ := h
  cases hb
theorem Ho_b {α β : Type} {x : Option α} {f : α → Option β} {Q : β → Prop} (h : Ho (x.bind f) Q) : ∃ a, x = some a ∧ Ho (f a) Q := by
  cases x with
  | none => exact (Ho_no h).elim
  | some a => exact ⟨a, rfl, h⟩
def bind2 {A B C : Type} (x : Option (A × B)) (f : A → B → Option C) : Option C := x.bind (fun u => f u.1 u.2)
def bind3 {A B C D : Type} (x : Option (A × B × C)) (f : A → B → C → Option D) : Option D := x.bind (fun u => f u.1 u.2.1 u.2.2)
def bind4 {A B C D E : Type} (x : Option (A × B × C × D)) (f : A → B → C → D → Option E) : Option E := x.bind (fun u => f u.1 u.2.1 u.2.2.1 u.2.2.2)
def bind5 {A B C D E F : Type} (x : Option (A × B × C × D × E)) (f : A → B → C → D → E → Option F) : Option F := x.bind (fun u => f u.1 u.2.1 u.2.2.1 u.2.2.2.1 u.2.2.2.2)
def bind6 {A B C D E F G : Type} (x : Option (A × B × C × D × E × F)) (f : A → B → C → D → E → F → Option G) : Option G := x.bind (fun u => f u.1 u.2.1 u.2.2.1 u.2.2.2.1 u.2.2.2.2.1 u.2.2.2.2.2)
def bind7 {A B C D E F G I : Type} (x : Option (A × B × C × D × E × F × G)) (f : A → B → C → D → E → F → G → Option I) : Option I := x.bind (fun u => f u.1 u.2.1 u.2.2.1 u.2.2.2.1 u.2.2.2.2.1 u.2.2.2.2.2.1 u.2.2.2.2.2.2)
theorem Ho_b2 {A B C : Type} {x : Option (A × B)} {f : A → B → Option C} {Q : C → Prop} (h : Ho (bind2 x f) Q) : ∃ a b, x = some (a, b) ∧ Ho (f a b) Q := by
  obtain ⟨⟨a, b⟩, h1, h2⟩ := Ho_b h
  exact ⟨a, b, h1, h2⟩
theorem Ho_b3 {A B C D : Type} {x : Option (A × B × C)} {f : A → B → C → Option D} {Q : D → Prop} (h : Ho (bind3 x f) Q) : ∃ a b c, x = some (a, b, c) ∧ Ho (f a b c) Q := by
  obtain ⟨⟨a, b, c⟩, h1, h2⟩ := Ho_b h
  exact ⟨a, b, c, h1, h2⟩
theorem Ho_b4 {A B C D E : Type} {x : Option (A × B × C × D)} {f : A → B → C → D → Option E} {Q : E → Prop} (h : Ho (bind4 x f) Q) : ∃ a b c d, x = some (a, b, c, d) ∧ Ho (f a b c d) Q := by
  obtain ⟨⟨a, b, c, d⟩, h1, h2⟩ := Ho_b h
  exact ⟨a, b, c, d, h1, h2⟩
theorem Ho_b5 {A B C D E F : Type} {x : Option (A × B × C × D × E)} {f : A → B → C → D → E → Option F} {Q : F → Prop} (h : Ho (bind5 x f) Q) : ∃ a b c d e, x = some (a, b, c, d, e) ∧ Ho (f a b c d e) Q := by
  obtain ⟨⟨a, b, c, d, e⟩, h1, h2⟩ := Ho_b h
  exact ⟨a, b, c, d, e, h1, h2⟩
theorem Ho_b6 {A B C D E F G : Type} {x : Option (A × B × C × D × E × F)} {f : A → B → C → D → E → F → Option G} {Q : G → Prop} (h : Ho (bind6 x f) Q) : ∃ a b c d e g, x = some (a, b, c, d, e, g) ∧ Ho (f a b c d e g) Q := by
  obtain ⟨⟨a, b, c, d, e, g⟩, h1, h2⟩ := Ho_b h
  exact ⟨a, b, c, d, e, g, h1, h2⟩
theorem Ho_b7 {A B C D E F G I : Type} {x : Option (A × B × C × D × E × F × G)} {f : A → B → C → D → E → F → G → Option I} {Q : I → Prop} (h : Ho (bind7 x f) Q) : ∃ a b c d e g i, x = some (a, b, c, d, e, g, i) ∧ Ho (f a b c d e g i) Q := by
  obtain ⟨⟨a, b, c, d, e, g, i⟩, h1, h2⟩ := Ho_b h
  exact ⟨a, b, c, d, e, g, i, h1, h2⟩
theorem Ho_let {α β : Type} {e : α} {f : α → Option β} {Q : β → Prop} (h : Ho ((some e).bind f) Q) : ∀ y, y = e → Ho (f y) Q := by
  intro y hy
  rw [hy]
  exact h
theorem Ho_ix {α : Type} {i : Int32} {n : Nat} {d : Decidable (i < 0 ∨ n ≤ i.toNatClampNeg)} {x : Option α} {Q : α → Prop} (h : Ho (@ite _ (i < 0 ∨ n ≤ i.toNatClampNeg) d none x) Q) : vp_in i n ∧ Ho x Q := by
  by_cases hc : (i < 0 ∨ n ≤ i.toNatClampNeg)
  · exact (Ho_no (Ho_t h hc)).elim
  · exact ⟨hc, Ho_f h hc⟩
theorem Ho_nz {α β : Type} {y z : β} {d : Decidable (y = z)} {x : Option α} {Q : α → Prop} (h : Ho (@ite _ (y = z) d none x) Q) : ¬ y = z ∧ Ho x Q := by
  by_cases hc : y = z
  · exact (Ho_no (Ho_t h hc)).elim
  · exact ⟨hc, Ho_f h hc⟩
theorem Ho_bool {α : Type} {v : Int32} {d : Decidable (v = 0 ∨ v = 1)} {x : Option α} {Q : α → Prop} (h : Ho (@ite _ (v = 0 ∨ v = 1) d x none) Q) : (v = 0 ∨ v = 1) ∧ Ho x Q := by
  by_cases hc : v = 0 ∨ v = 1
  · exact ⟨hc, Ho_t h hc⟩
  · exact (Ho_no (Ho_f h hc)).elim
theorem nb_of {v : Int32} (h : v = 0 ∨ v = 1) : narrow .boolean (.int v) = .int v := by
  rcases h with rfl | rfl <;> rfl
def loopN {σ ρ : Type} (step : σ → Option (σ ⊕ ρ)) : Nat → σ → Option ρ
  | 0, _ => none
  | n + 1, s => (step s).bind (fun o => match o with
    | .inl t => loopN step n t
    | .inr r => some r)
def LQ {σ ρ : Type} (W : σ → Prop) (X : ρ → Prop) : σ ⊕ ρ → Prop := fun o => match o with
  | .inl t => W t
  | .inr r => X r
theorem loop_use {σ ρ β : Type} {step : σ → Option (σ ⊕ ρ)} (Wp : σ → Prop) {K : ρ → Option β} {Q : β → Prop} (hs : ∀ s, Ho (step s) (LQ Wp (fun r => Ho (K r) Q)) → Wp s) : ∀ n s, Ho ((loopN step n s).bind K) Q → Wp s := by
  intro n
  induction n with
  | zero => intro s h; exact (Ho_no h).elim
  | succ n ih =>
    intro s h
    have h : Ho (((step s).bind (fun o => match o with
      | .inl t => loopN step n t
      | .inr r => some r)).bind K) Q := h
    cases hst : step s with
    | none => rw [hst] at h; exact (Ho_no h).elim
    | some o =>
      rw [hst] at h
      refine hs s ⟨o, hst, ?_⟩
      cases o with
      | inl t => exact ih t h
      | inr r => exact h
/-- the tables' words on the calls between nest mates -/
def NW (U : State) : Prop := va_Nw (.methodLinkNest RX0 26 yX5_commonDivisor RX5) U ∧ va_Nw (.methodLinkNest RX0 48 yX5_quotient RX5) U ∧ va_Nw (.methodLinkNest RX4 27 yX5_commonDivisor RX5) U
theorem NW.warm {s U : State} (hW : s.WarmedH U.vm) (h : NW s) : NW U := ⟨va_Nw.warmM hW h.1, va_Nw.warmM hW h.2.1, va_Nw.warmM hW h.2.2⟩
theorem NW.call {U : State} {g : JFrame} {mk : MethodId} {a : Array Value} (h : NW U) : NW (U.calling g mk a) := ⟨va_Nw.same rfl rfl h.1, va_Nw.same rfl rfl h.2.1, va_Nw.same rfl rfl h.2.2⟩
def vK (D : va_G) (tys : List (ClassId × FieldType)) (U : State) : Prop := va_K D vwCl tys U ∧ NW U
theorem vK.warm {D : va_G} {tys : List (ClassId × FieldType)} {s U : State} (hW : s.WarmedH U.vm) (h : vK D tys s) : vK D tys U := ⟨va_K.moved hW.alike h.1, h.2.warm hW⟩
theorem vK.call {D : va_G} {tys : List (ClassId × FieldType)} {U : State} {g : JFrame} {mk : MethodId} {a : Array Value} (h : vK D tys U) : vK D tys (U.calling g mk a) := ⟨va_K.moved (u := U) (U := U.calling g mk a) (Vm.Alike.refl U.vm) h.1, h.2.call⟩
/-- the start of a method that changes nothing -/
def roP (D : va_G) (tys : List (ClassId × FieldType)) (ws : va_W) (av : List Value) : Array Value → State → Prop := va_Pc av (fun U => va_P D vwCl ws U.heap ∧ vK D tys U)
theorem roP.blind {D : va_G} {tys : List (ClassId × FieldType)} {ws : va_W} {av : List Value} : FrameBlind (roP D tys ws av) := fun a U g mk q => by
  obtain ⟨q0, qP, qK⟩ := q
  exact ⟨q0, qP, qK.call⟩
theorem roP.preS {D : va_G} {tys : List (ClassId × FieldType)} {ws : va_W} {As : List Value} {s : State} {H : Heap} (hK : vK D tys s) (hP : va_P D vwCl ws H) : PreS s H (roP D tys ws As) As := ⟨roP.blind, fun U hU hW => ⟨rfl, by rw [hU]; exact hP, hK.warm hW⟩⟩
theorem roP.preV {D : va_G} {tys : List (ClassId × FieldType)} {ws : va_W} {As : List Value} {s : State} {H : Heap} {q : vw_C} {b ci : Nat} {fs : List Value} (hK : vK D tys s) (hP : va_P D vwCl ws H) (hc : vwCl[ci]? = some q) (he : ws[0]? = some (b, .inr (ci, fs))) : PreV s H q.1 b (roP D tys ws (.ref b :: As)) As := ⟨roP.blind, va_recv hK.1 hP hc he, fun U hU hW => ⟨rfl, by rw [hU]; exact hP, hK.warm hW⟩⟩
section MyCalls
variable {p : Program} {l : Launch} {e : Env} {R : Room} {s : State} {m : MethodId} {args : Array Value} {below : List Frame} {meth : Method} {c : Code} {H : Heap} {locs : List Loc} {cells slots : Nat} {Q : State → Prop} {pc : Nat} {ls : Array Slot} {rest st0 : List Value} {a : Array Value}
theorem cs_i {r0 : Int32} (hr : va_Run p l e R s m args below meth c H locs cells slots 0 0 (F0 m pc ls st0) rest (vp_Si (fun x => x = r0) a) (fun _ => False))
    (kk : W p l e R s m args below meth c H locs cells slots Q (F0 m (pc + 3) ls (.int r0 :: rest))) : W p l e R s m args below meth c H locs cells slots Q (F0 m pc ls st0) := by
  intro T hT X
  obtain ⟨v, st₀, t, T', L, h0, X', hL, e1, -, ⟨r, hv, hp, hh⟩, st⟩ := hr T hT X
  cases hv
  cases hp
  obtain ⟨t2, a1, b1⟩ := kk T' (by rw [e1, hh, h0]) (Stand.forget X' (fun q h => (hL q h).elim))
  exact ⟨t2, st t2 a1, b1⟩
theorem cs_l {r0 : Int64} (hr : va_Run p l e R s m args below meth c H locs cells slots 0 0 (F0 m pc ls st0) rest (vp_Sl (fun x => x = r0) a) (fun _ => False))
    (kk : W p l e R s m args below meth c H locs cells slots Q (F0 m (pc + 3) ls (.long r0 :: rest))) : W p l e R s m args below meth c H locs cells slots Q (F0 m pc ls st0) := by
  intro T hT X
  obtain ⟨v, st₀, t, T', L, h0, X', hL, e1, -, ⟨r, hv, hp, hh⟩, st⟩ := hr T hT X
  cases hv
  cases hp
  obtain ⟨t2, a1, b1⟩ := kk T' (by rw [e1, hh, h0]) (Stand.forget X' (fun q h => (hL q h).elim))
  exact ⟨t2, st t2 a1, b1⟩
end MyCalls
/-- a method that changes nothing, from its entry -/
theorem ro_start {l : Launch} {y : MethodName} {ws ws' : List Cond} {rm : Room} {cc : ByteArray} {maxL : Nat} {ret : Option FieldType} {D : va_G} {tys : List (ClassId × FieldType)} {cs : va_W} {av : List Value} {Qc : Array Value → State → Outcome → State → Prop}
    (hy : plainName y.cls = true) (hw : ws = Cond.code y cc maxL ret :: ws') (hlen : (lg_sl av).length ≤ maxL)
    (body : ∀ (p : Program) (e : Env) (s : State) (m : MethodId) (args : Array Value) (below : List Frame) (meth : Method) (c : Code) (ls : Array Slot), p.tables.exec = Jvm.exec → c.code = cc → c.maxLocals = maxL → meth.sig.returnType = ret → meth.locks = false → s.vm.findClass y.cls = some m.cls → (∀ w ∈ ws, w.before args s = true) → va_P D vwCl cs s.heap → vK D tys s → lv_has ls maxL (lv_args 0 av) →
      W p l e rm s m args below meth c s.heap [] 0 0 (MQ below Qc args s 0 0 (fun _ => False)) (F0 m 0 ls [])) : Met l y ws rm (roP D tys cs av) Qc 0 0 (fun _ => False) := by
  refine Met.ofW (cc := cc) (maxL := maxL) (ret := ret) hy hw ?_
  intro p e s m args below meth c s₁ B hml hv
  obtain ⟨hargs, hP, hK⟩ := hv
  have hl := lv_entry av (n := maxL) hlen
  have he : entryFrame m args maxL = F0 m 0 ((lg_sl av ++ List.replicate (maxL - (lg_sl av).length) Slot.unset).toArray) [] := by rw [hargs]; exact lg_entry_eq m av maxL
  rw [he]
  exact body p e s m args below meth c _ B.exec B.bytes hml B.returns B.notSynchronized (findClass_of_methodNamed B.named) (atoms_spec (ws := ws) B.pre) hP hK hl
/-- the answers -/
theorem ro_Si {x r0 : Int32} {a : Array Value} {s t : State} (h : x = r0) (ht : t.heap = s.heap) : vp_Si (fun x => x = r0) a s (.returned (some (.int x))) t := ⟨x, rfl, h, ht⟩
theorem ro_Sl {x r0 : Int64} {a : Array Value} {s t : State} (h : x = r0) (ht : t.heap = s.heap) : vp_Sl (fun x => x = r0) a s (.returned (some (.long x))) t := ⟨x, rfl, h, ht⟩
theorem ro_nil : ∀ q ∈ ([] : List Loc), (fun _ : Addr => False) q.base := fun _ h => absurd h List.not_mem_nil
theorem loop_use2 {σ ρ β : Type} {step : σ → Option (σ ⊕ ρ)} (Wp : σ → Prop) {K : ρ → Option β} {Q : β → Prop} (hs : ∀ (Q1 : σ ⊕ ρ → Prop), (∀ t, Q1 (.inl t) → Wp t) → (∀ r, Q1 (.inr r) → Ho (K r) Q) → ∀ s, Ho (step s) Q1 → Wp s) : ∀ n s, Ho ((loopN step n s).bind K) Q → Wp s :=
  loop_use Wp (fun s h => hs (LQ Wp (fun r => Ho (K r) Q)) (fun _ q => q) (fun _ q => q) s h)
theorem va_Pnil {D : va_G} {H : Heap} : va_P D vwCl [] H := fun k q h => by simp at h
theorem vp_in_lit {i : Int32} {n : Nat} (h0 : ¬ i < 0) (h1 : ¬ n ≤ i.toNatClampNeg) : vp_in i n := fun h => h.elim h0 h1
/-- the start of a method that writes cells of its world -/
def rwP (D : va_G) (tys : List (ClassId × FieldType)) (sz : Nat) (ws : va_W) (av : List Value) : Array Value → State → Prop := va_Pc av (fun U => U.heap.size = sz ∧ va_P D vwCl ws U.heap ∧ vK D tys U ∧ va_D (fun _ => True) ws)
theorem rwP.blind {D : va_G} {tys : List (ClassId × FieldType)} {sz : Nat} {ws : va_W} {av : List Value} : FrameBlind (rwP D tys sz ws av) := fun a U g mk q => by
  obtain ⟨q0, q1, qP, qK, qD⟩ := q
  exact ⟨q0, q1, qP, qK.call, qD⟩
theorem rwP.preV {D : va_G} {tys : List (ClassId × FieldType)} {sz : Nat} {ws : va_W} {A : Nat → Prop} {As : List Value} {s : State} {H : Heap} {q : vw_C} {b ci : Nat} {fs : List Value} (hK : vK D tys s) (hP : va_P D vwCl ws H) (hD : va_D A ws) (hz : H.size = sz) (hc : vwCl[ci]? = some q) (he : ws[0]? = some (b, .inr (ci, fs))) : PreV s H q.1 b (rwP D tys sz ws (.ref b :: As)) As := ⟨rwP.blind, va_recv hK.1 hP hc he, fun U hU hW => ⟨rfl, by rw [hU]; exact hz, by rw [hU]; exact hP, hK.warm hW, hD.weaken (fun _ _ _ _ => trivial)⟩⟩
theorem rw_start {l : Launch} {y : MethodName} {ws ws' : List Cond} {rm : Room} {cc : ByteArray} {maxL : Nat} {ret : Option FieldType} {D : va_G} {tys : List (ClassId × FieldType)} {sz : Nat} {cs : va_W} {av : List Value} {Qc : Array Value → State → Outcome → State → Prop}
    (hy : plainName y.cls = true) (hw : ws = Cond.code y cc maxL ret :: ws') (hlen : (lg_sl av).length ≤ maxL)
    (body : ∀ (p : Program) (e : Env) (s : State) (m : MethodId) (args : Array Value) (below : List Frame) (meth : Method) (c : Code) (ls : Array Slot) (A : Nat → Prop) (H : Heap) (locs : List Loc), p.tables.exec = Jvm.exec → c.code = cc → c.maxLocals = maxL → meth.sig.returnType = ret → meth.locks = false → s.vm.findClass y.cls = some m.cls → (∀ w ∈ ws, w.before args s = true) → s.heap.size = sz → va_P D vwCl cs H → vK D tys s → va_D A cs → (∀ q : Nat, s.heap.size ≤ q → A q) → va_S A s.heap H locs → va_A cs sz = A → lv_has ls maxL (lv_args 0 av) →
      W p l e rm s m args below meth c H locs 0 0 (MQ below Qc args s 0 0 A) (F0 m 0 ls [])) : Met l y ws rm (rwP D tys sz cs av) Qc 0 0 (va_A cs sz) := by
  refine Met.ofW (cc := cc) (maxL := maxL) (ret := ret) hy hw ?_
  intro p e s m args below meth c s₁ B hml hv
  obtain ⟨hargs, hsz, hP, hK, hD⟩ := hv
  have hl := lv_entry av (n := maxL) hlen
  have he : entryFrame m args maxL = F0 m 0 ((lg_sl av ++ List.replicate (maxL - (lg_sl av).length) Slot.unset).toArray) [] := by rw [hargs]; exact lg_entry_eq m av maxL
  rw [he]
  exact body p e s m args below meth c _ _ s.heap [] B.exec B.bytes hml B.returns B.notSynchronized (findClass_of_methodNamed B.named) (atoms_spec (ws := ws) B.pre) hsz hP hK hD.self (fun q h => Or.inr (by rw [← hsz]; exact h)) va_S.rf rfl hl
theorem Ho_e {α : Type} {a r : α} (h : Ho (some a) (fun x => x = r)) : a = r := Ho_s (Q := fun x => x = r) h
