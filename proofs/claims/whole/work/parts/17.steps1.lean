def XW (U : State) : Prop := va_Nw (.castable "java/lang/ArithmeticException" "java/lang/ArithmeticException") U ∧ va_Nw (.declares ⟨"java/lang/RuntimeException", "<init>", "(Ljava/lang/String;)V"⟩) U ∧ va_Nw (.declares ⟨"java/lang/Exception", "<init>", "(Ljava/lang/String;)V"⟩) U ∧ va_Nw (.declares ⟨"java/lang/Throwable", "<init>", "(Ljava/lang/String;)V"⟩) U
theorem XW.warm {s U : State} (hW : s.WarmedH U.vm) (h : XW s) : XW U := ⟨va_Nw.warmC hW h.1, va_Nw.warmD hW h.2.1, va_Nw.warmD hW h.2.2.1, va_Nw.warmD hW h.2.2.2⟩
theorem XW.call {U : State} {g : JFrame} {mk : MethodId} {a : Array Value} (h : XW U) : XW (U.calling g mk a) := ⟨va_Nw.same rfl rfl h.1, va_Nw.same rfl rfl h.2.1, va_Nw.same rfl rfl h.2.2.1, va_Nw.same rfl rfl h.2.2.2⟩
def XT (A : Nat → Prop) (sa : Nat) (U : State) (H : Heap) : Prop := XW U ∧ vx_Zq Bundle.tN "UNASSIGNED_STACK" Bundle.steD A U H ∧ vx_Zq Bundle.tN "SUPPRESSED_SENTINEL" Bundle.listD A U H ∧ vk_R RX5 56 "there is no circle of 0 steps" sa U
theorem XT.warm {A : Nat → Prop} {sa : Nat} {s U : State} {H : Heap} (hW : s.WarmedH U.vm) (h : XT A sa s H) : XT A sa U H := ⟨h.1.warm hW, vx_Zq.moved hW.alike h.2.1, vx_Zq.moved hW.alike h.2.2.1, vk_R.warm hW h.2.2.2⟩
theorem XT.call {A : Nat → Prop} {sa : Nat} {U : State} {H : Heap} {g : JFrame} {mk : MethodId} {a : Array Value} (h : XT A sa U H) : XT A sa (U.calling g mk a) H := ⟨h.1.call, vx_Zq.moved (Vm.Alike.refl U.vm) h.2.1, vx_Zq.moved (Vm.Alike.refl U.vm) h.2.2.1, vk_R.same rfl h.2.2.2⟩
theorem XT.kept {A : Nat → Prop} {sa : Nat} {U : State} {H H1 : Heap} (h : XT A sa U H) (hq : ∀ a : Nat, a < H.size → ¬ A a → H1[a]? = H[a]?) : XT A sa U H1 := ⟨h.1, h.2.1.kept hq, h.2.2.1.kept hq, h.2.2.2⟩
theorem XT.narrow {A B : Nat → Prop} {sa : Nat} {U : State} {H : Heap} (h : XT A sa U H) (hAB : ∀ q, B q → A q) : XT B sa U H := ⟨h.1, h.2.1.narrow hAB, h.2.2.1.narrow hAB, h.2.2.2⟩
def stP (D : va_G) (tys : List (ClassId × FieldType)) (sz : Nat) (ws : va_W) (sa : Nat) (av : List Value) : Array Value → State → Prop := va_Pc av (fun U => U.heap.size = sz ∧ va_P D vwCl ws U.heap ∧ vK D tys U ∧ va_D (fun _ => True) ws ∧ XT (va_A ws sz) sa U U.heap)
theorem stP.blind {D : va_G} {tys : List (ClassId × FieldType)} {sz sa : Nat} {ws : va_W} {av : List Value} : FrameBlind (stP D tys sz ws sa av) := fun a U g mk q => by
  obtain ⟨q0, q1, qP, qK, qD, qX⟩ := q
  exact ⟨q0, q1, qP, qK.call, qD, qX.call⟩
theorem stP.preV {D : va_G} {tys : List (ClassId × FieldType)} {sz sa : Nat} {ws : va_W} {A : Nat → Prop} {As : List Value} {s : State} {H : Heap} {q : vw_C} {b ci : Nat} {fs : List Value} (hK : vK D tys s) (hP : va_P D vwCl ws H) (hD : va_D A ws) (hz : H.size = sz) (hX : XT (va_A ws sz) sa s H) (hc : vwCl[ci]? = some q) (he : ws[0]? = some (b, .inr (ci, fs))) : PreV s H q.1 b (stP D tys sz ws sa (.ref b :: As)) As := ⟨stP.blind, va_recv hK.1 hP hc he, fun U hU hW => ⟨rfl, by rw [hU]; exact hz, by rw [hU]; exact hP, hK.warm hW, hD.weaken (fun _ _ _ _ => trivial), by rw [hU]; exact hX.warm hW⟩⟩
theorem stP.preS {D : va_G} {tys : List (ClassId × FieldType)} {sz sa : Nat} {ws : va_W} {A : Nat → Prop} {As : List Value} {s : State} {H : Heap} (hK : vK D tys s) (hP : va_P D vwCl ws H) (hD : va_D A ws) (hz : H.size = sz) (hX : XT (va_A ws sz) sa s H) : PreS s H (stP D tys sz ws sa As) As := ⟨stP.blind, fun U hU hW => ⟨rfl, by rw [hU]; exact hz, by rw [hU]; exact hP, hK.warm hW, hD.weaken (fun _ _ _ _ => trivial), by rw [hU]; exact hX.warm hW⟩⟩
abbrev wLst (cI cJ : ClassId) (ad : Nat → Nat) (qo : Nat) (n : Int32) (ev : Int32) (ld0 : Int32) (ld1 : Int32) (ld2 : Int32) (tk : Int32) (mb : Int32) (f0 : Nat → Int32) (f1 : Nat → Int32) (f2 : Nat → Int32) (fr : Nat → Int32) (fu : Nat → Int32) (fo : Nat → Int64) : va_W := [((ad 0), .inr (5, [.ref (ad 1), .ref (ad 2), .ref (ad 3), .ref (ad 4), .ref (ad 5), .ref (ad 6), .ref (ad 7)])), ((ad 1), .inr (0, [.int n, .int ev])), ((ad 2), .inr (2, [.ref (ad 1)])), ((ad 3), .inr (1, [.ref (ad 1), .int 0, .ref (ad 8), .int ld0])), ((ad 4), .inr (1, [.ref (ad 1), .int 1, .ref (ad 9), .int ld1])), ((ad 5), .inr (1, [.ref (ad 1), .int 2, .ref (ad 10), .int ld2])), ((ad 6), .inr (3, [.ref (ad 1), .ref (ad 11), .int tk, .int mb])), ((ad 7), .inr (4, [.ref (ad 12)])), ((ad 8), .inl (cI, 352, .inl f0)), ((ad 9), .inl (cI, 352, .inl f1)), ((ad 10), .inl (cI, 352, .inl f2)), ((ad 11), .inl (cI, 12, .inl fr)), ((ad 12), .inl (cI, 13, .inl fu)), (qo, .inl (cJ, 1, .inr (.inl fo)))]
abbrev rmX5_stx : Room := { frames := 6, cells := 1, slots := 6, locals := 90 }
set_option maxHeartbeats 1000000 in
set_option maxRecDepth 100000 in
theorem c_X5_steps_x (l : Launch) (hlt : l.stackTraces = false) (dC : Nat → ClassId) (dI : Nat → Nat → Nat) (cI cJ : ClassId) (ad : Nat → Nat) (sz : Nat) (n : Int32) (ev : Int32) (ld0 : Int32) (ld1 : Int32) (ld2 : Int32) (tk : Int32) (mb : Int32) (f0 : Nat → Int32) (f1 : Nat → Int32) (f2 : Nat → Int32) (fr : Nat → Int32) (fu : Nat → Int32) (sa : Nat) : vx_Met l yX5_steps wsX5_steps rmX5_stx (stP (dC, dI) [(cI, .int), (cJ, .long)] sz (wX5 cI cJ ad n ev ld0 ld1 ld2 tk mb f0 f1 f2 fr fu) sa [.ref (ad 0), .int 0]) (va_Qi (fun (_ : Int32) (_ : Unit) => False) (fun _ _ => True) (va_A (wX5 cI cJ ad n ev ld0 ld1 ld2 tk mb f0 f1 f2 fr fu) sz)) (vx_X (fun _ : Unit => True) (fun E _ t => E = "java/lang/ArithmeticException" ∧ va_P (dC, dI) vwCl (wX5 cI cJ ad n ev ld0 ld1 ld2 tk mb f0 f1 f2 fr fu) t.heap ∧ va_D (va_A (wX5 cI cJ ad n ev ld0 ld1 ld2 tk mb f0 f1 f2 fr fu) sz) (wX5 cI cJ ad n ev ld0 ld1 ld2 tk mb f0 f1 f2 fr fu)) (va_A (wX5 cI cJ ad n ev ld0 ld1 ld2 tk mb f0 f1 f2 fr fu) sz)) 1 6 (va_A (wX5 cI cJ ad n ev ld0 ld1 ld2 tk mb f0 f1 f2 fr fu) sz) := by
  refine vx_ofW (cc := cX5_steps) (maxL := 3) (ret := (some .int)) (by decide) rfl ?_
  intro p e s m args below meth c s₁ B hml hno hv
  obtain ⟨hargs, hsz, hP, hK, hD, hX⟩ := hv
  have hx := B.exec
  have hb := B.bytes
  have hlk := B.notSynchronized
  have hts := atoms_spec (ws := wsX5_steps) B.pre
  have hown : s.vm.findClass RX5 = some m.cls := findClass_of_methodNamed B.named
  have hl := lv_entry [.ref (ad 0), .int 0] (n := 3) (Nat.le_of_ble_eq_true rfl)
  have he : entryFrame m args 3 = F0 m 0 ((lg_sl [.ref (ad 0), .int 0] ++ List.replicate (3 - (lg_sl [.ref (ad 0), .int 0]).length) Slot.unset).toArray) [] := by rw [hargs]; exact lg_entry_eq m [.ref (ad 0), .int 0] 3
  rw [he]
  generalize (lg_sl [.ref (ad 0), .int 0] ++ List.replicate (3 - (lg_sl [.ref (ad 0), .int 0]).length) Slot.unset).toArray = ls at hl ⊢
  have hl : lv_has ls 3 [(0, .ref (ad 0)), (1, .int 0)] := hl
  have hS : va_S (va_A (wX5 cI cJ ad n ev ld0 ld1 ld2 tk mb f0 f1 f2 fr fu) sz) s.heap s.heap [] := va_S.rf
  have hD9 : va_D (va_A (wX5 cI cJ ad n ev ld0 ld1 ld2 tk mb f0 f1 f2 fr fu) sz) (wX5 cI cJ ad n ev ld0 ld1 ld2 tk mb f0 f1 f2 fr fu) := hD.self
  refine lv_iload_n hx hb dX5_steps_0 rfl (lv_at hl 1 rfl) ?_
  refine lv_if_ne (tgt := 14) hx hb dX5_steps_1 (by decide) (fun q1 => absurd rfl q1) (fun q1 => ?_)
  have hat : ∀ w ∈ vx_atS RX5 58 "java/lang/ArithmeticException" ["java/lang/RuntimeException", "java/lang/Exception"], w.before args s = true := vx_hat (B := [.castable "java/lang/ArithmeticException" "java/lang/ArithmeticException", .declares ⟨"java/lang/RuntimeException", "<init>", "(Ljava/lang/String;)V"⟩, .declares ⟨"java/lang/Exception", "<init>", "(Ljava/lang/String;)V"⟩, .declares ⟨"java/lang/Throwable", "<init>", "(Ljava/lang/String;)V"⟩]) (fun w h => hts w (List.mem_cons_of_mem _ (List.mem_append_right _ h))) (by decide +kernel) (vx_c (va_Nw.use rfl hX.1.1) (vx_c (va_Nw.use rfl hX.1.2.1) (vx_c (va_Nw.use rfl hX.1.2.2.1) (vx_c (va_Nw.use rfl hX.1.2.2.2) vx_n))))
  exact vx_throwS (own := RX5) (cls := "java/lang/ArithmeticException") (text := "there is no circle of 0 steps") (names := ["java/lang/RuntimeException", "java/lang/Exception"]) (ik := 54) (is := 56) (ic := 58) (sa := sa) (A := va_A (wX5 cI cJ ad n ev ld0 ld1 ld2 tk mb f0 f1 f2 fr fu) sz) hx hb hlt hown (by decide +kernel) (by decide +kernel) (hts (.classLink RX5 54 "java/lang/ArithmeticException") (by decide +kernel)) (hts (.initialized "java/lang/ArithmeticException") (by decide +kernel)) hX.2.2.2 hat (by decide +kernel) hX.2.1 hX.2.2.1 hS (hl.1.trans hml.symm) dX5_steps_4 dX5_steps_7 dX5_steps_8 dX5_steps_10 dX5_steps_13 (fun x hx9 => (hno x hx9).elim) (by decide) (by decide) (by decide) (by decide) hlk
    (fun t hvm hz hk9 => ⟨(), trivial, ⟨rfl, hP.kept (fun k q h => hk9 q.1 (hP k q h).lt), hD9⟩, hz, fun q h1 _ => hk9 q h1⟩) (fun z h => absurd h List.not_mem_nil) (by decide) (by decide)
theorem Met_ofWH {l : Launch} {y : MethodName} {ws ws' : List Cond} {rm : Room} {Pc : Array Value → State → Prop} {Qc : Array Value → State → Outcome → State → Prop} {mc ms : Nat} {free : Addr → Prop} {cc : ByteArray} {maxL : Nat} {ret : Option FieldType} {hh : List (Nat × Nat × Nat × Nat)}
    (hy : plainName y.cls = true) (hw : ws = Cond.codeWith y cc maxL ret hh :: ws')
    (body : ∀ p e s m args below meth c s₁, BodyLoose p l y (headSpec ws rm) cc maxL ret e s m args below meth c s₁ → c.maxLocals = maxL → c.exceptionTable.toList = tableOf hh → Pc args s →
      W p l e rm s m args below meth c s.heap [] 0 0 (MQ below Qc args s mc ms free) (entryFrame m args maxL)) : Met l y ws rm Pc Qc mc ms free := by
  refine MetFree.of_bodyS (code := cc) (maxLocals := maxL) (ret := ret) hy ?_ ?_
  · intro args s m h hn
    obtain ⟨m9, meth, c, hn9, h1, h2, h3, h4, -, h5, h6, -⟩ := Cond.codeWith_spec (atoms_spec (ws := ws) h _ (by rw [hw]; exact List.mem_cons_self))
    cases hn.symm.trans hn9
    exact ⟨meth, c, h1, h2, h3, h4, h5, h6⟩
  · intro p e s m args below meth c s₁ B hml hP _
    have hh0 : s₁.heap = s.heap := by rw [B.state]; rfl
    have htb : c.exceptionTable.toList = tableOf hh := vx_table (x := y) B (atoms_spec (ws := ws) B.pre _ (by rw [hw]; exact List.mem_cons_self))
    obtain ⟨t, a1, o, b1, b2, b3⟩ := body p e s m args below meth c s₁ B hml htb hP s₁ hh0 (Stand.of_body B)
    exact ⟨t, o, a1, b1, b2, ⟨b3.1, b3.2⟩⟩
abbrev rmL_steps : Room := { frames := 7, cells := 1, slots := 6, locals := 120 }
set_option maxHeartbeats 1000000 in
set_option maxRecDepth 100000 in
theorem c_L_steps_0 (l : Launch) (hlt : l.stackTraces = false) (dC : Nat → ClassId) (dI : Nat → Nat → Nat) (cI cJ : ClassId) (ad : Nat → Nat) (qo sz : Nat) (n : Int32) (ev : Int32) (ld0 : Int32) (ld1 : Int32) (ld2 : Int32) (tk : Int32) (mb : Int32) (f0 : Nat → Int32) (f1 : Nat → Int32) (f2 : Nat → Int32) (fr : Nat → Int32) (fu : Nat → Int32) (fo : Nat → Int64) (sa : Nat)  : Met l yL_steps wsL_steps rmL_steps (stP (dC, dI) [(cI, .int), (cJ, .long)] sz (wLst cI cJ ad qo n ev ld0 ld1 ld2 tk mb f0 f1 f2 fr fu fo) sa [.ref (ad 0), .int 0, .ref qo]) (va_Qi (fun (x : Int32) (_ : Unit) => x = 1) (fun _ t => va_P (dC, dI) vwCl (wLst cI cJ ad qo n ev ld0 ld1 ld2 tk mb f0 f1 f2 fr fu fo) t.heap ∧ vK (dC, dI) [(cI, .int), (cJ, .long)] t ∧ va_D (va_A (wLst cI cJ ad qo n ev ld0 ld1 ld2 tk mb f0 f1 f2 fr fu fo) sz) (wLst cI cJ ad qo n ev ld0 ld1 ld2 tk mb f0 f1 f2 fr fu fo)) (va_A (wLst cI cJ ad qo n ev ld0 ld1 ld2 tk mb f0 f1 f2 fr fu fo) sz)) 1 6 (va_A (wLst cI cJ ad qo n ev ld0 ld1 ld2 tk mb f0 f1 f2 fr fu fo) sz) := by
  refine Met_ofWH (cc := cL_steps) (maxL := 4) (ret := (some .int)) (hh := [(0, 9, 12, 13)]) (by decide) rfl ?_
  intro p e s m args below meth c s₁ B hml htb hv
  obtain ⟨hargs, hsz, hP, hK, hD, hX⟩ := hv
  have hx := B.exec
  have hb := B.bytes
  have hr := B.returns
  have hlk := B.notSynchronized
  have hts := atoms_spec (ws := wsL_steps) B.pre
  have hown : s.vm.findClass RL = some m.cls := findClass_of_methodNamed B.named
  have hl := lv_entry [.ref (ad 0), .int 0, .ref qo] (n := 4) (Nat.le_of_ble_eq_true rfl)
  have he : entryFrame m args 4 = F0 m 0 ((lg_sl [.ref (ad 0), .int 0, .ref qo] ++ List.replicate (4 - (lg_sl [.ref (ad 0), .int 0, .ref qo]).length) Slot.unset).toArray) [] := by rw [hargs]; exact lg_entry_eq m [.ref (ad 0), .int 0, .ref qo] 4
  rw [he]
  generalize (lg_sl [.ref (ad 0), .int 0, .ref qo] ++ List.replicate (4 - (lg_sl [.ref (ad 0), .int 0, .ref qo]).length) Slot.unset).toArray = ls at hl ⊢
  have hl : lv_has ls 4 [(0, .ref (ad 0)), (1, .int 0), (2, .ref qo)] := hl
  have hD : va_D (va_A (wLst cI cJ ad qo n ev ld0 ld1 ld2 tk mb f0 f1 f2 fr fu fo) sz) (wLst cI cJ ad qo n ev ld0 ld1 ld2 tk mb f0 f1 f2 fr fu fo) := hD.self
  have hfix : CallFix p m c cL_steps 4 s args wsL_steps RL := ⟨hx, hb, hml, hown, hts⟩
  generalize hAe : va_A (wLst cI cJ ad qo n ev ld0 ld1 ld2 tk mb f0 f1 f2 fr fu fo) sz = A at hD hX ⊢
  have hA : ∀ q : Nat, s.heap.size ≤ q → A q := fun q h => by rw [← hAe]; exact Or.inr (by rw [← hsz]; exact h)
  have hS : va_S A s.heap s.heap [] := va_S.rf
  refine lv_aload_n hx hb dL_steps_0 rfl (lv_at hl 2 rfl) ?_
  refine lv_iconst (v := (0 : Int32)) hx hb dL_steps_1 (by decide) ?_
  refine lv_aload_n hx hb dL_steps_2 rfl (lv_at hl 0 rfl) ?_
  refine lv_iload_n hx hb dL_steps_3 rfl (lv_at hl 1 rfl) ?_
  have hPc : va_P (dC, dI) vwCl (wX5 cI cJ ad n ev ld0 ld1 ld2 tk mb f0 f1 f2 fr fu) s.heap := hP.sub [0, 1, 2, 3, 4, 5, 6, 7, 8, 9, 10, 11, 12] rfl
  have hDc : va_D A (wX5 cI cJ ad n ev ld0 ld1 ld2 tk mb f0 f1 f2 fr fu) := hD.sub [0, 1, 2, 3, 4, 5, 6, 7, 8, 9, 10, 11, 12] (by decide) rfl
  have hFc := va_free (wc := (wX5 cI cJ ad n ev ld0 ld1 ld2 tk mb f0 f1 f2 fr fu)) hD hS hA [0, 1, 2, 3, 4, 5, 6, 7, 8, 9, 10, 11, 12] rfl
  refine vx_calli (vx_runV (As := [.int 0]) (rest := [.int 0, .ref qo]) hfix (c_X5_steps_x l hlt dC dI cI cJ ad s.heap.size n ev ld0 ld1 ld2 tk mb f0 f1 f2 fr fu sa) (cwV 1 hts gL_steps_X5_steps rfl rfl rfl (by decide +kernel) ⟨by decide, by decide⟩) (stP.preV hK hPc hDc rfl (hX.narrow hFc) (ci := 5) rfl rfl) rfl rfl hl.1 rfl (lv_room (Nat.le_of_ble_eq_true rfl)) dL_steps_4 ⟨by decide, by decide⟩) hS (fun q _ h => hFc q h) hFc (fun q _ h => hFc q h) (fun E ce q9 u t H1 locs ht hvm hpx hB hz1 hk1 hS hce hcv hcl => ?_) (fun r9 u t H1 locs ht hvm hw _ _ _ _ => hw.elim)
  obtain ⟨hE, hP1, hD1⟩ := hB
  subst hE
  rw [ht] at hP1
  obtain ⟨hP, hD⟩ := va_join (wr := [(qo, .inl (cJ, 1, .inr (.inl fo)))]) (w1 := (wX5 cI cJ ad n ev ld0 ld1 ld2 tk mb f0 f1 f2 fr fu)) hP hD [0, 1, 2, 3, 4, 5, 6, 7, 8, 9, 10, 11, 12] [13] rfl rfl (by decide) (by decide) hk1 hFc hP1 hD1
  have hP : va_P (dC, dI) vwCl (wLst cI cJ ad qo n ev ld0 ld1 ld2 tk mb f0 f1 f2 fr fu fo) H1 := hP.sub [1, 2, 3, 4, 5, 6, 7, 8, 9, 10, 11, 12, 13, 0] rfl
  have hD : va_D A (wLst cI cJ ad qo n ev ld0 ld1 ld2 tk mb f0 f1 f2 fr fu fo) := hD.sub [1, 2, 3, 4, 5, 6, 7, 8, 9, 10, 11, 12, 13, 0] (by decide) rfl
  refine vx_catch (own := RL) (name := "java/lang/ArithmeticException") (E := "java/lang/ArithmeticException") (ce := ce) hown [] { startPc := 0, endPc := 9, handlerPc := 12, catchType := 13 } [] (by rw [htb]; rfl) (fun z h => absurd h List.not_mem_nil) (by decide) (by decide) (hts (.classLink RL 13 "java/lang/ArithmeticException") (by decide +kernel)) (va_Nw.use rfl hX.1.1) hce hcv hcl ?_
  refine W.widen (k := 1) (n := 6) (by decide) (by decide) ?_
  refine lv_astore_n (lv' := [(3, .ref q9), (0, .ref (ad 0)), (1, .int 0), (2, .ref qo)]) hx hb dL_steps_12 rfl hl (by decide) rfl (fun ls hl => ?_)
  refine lv_iconst (v := (1 : Int32)) hx hb dL_steps_13 (by decide) ?_
  exact W.iret hx hb hr (fun t ht hW => by subst hAe; exact ⟨⟨_, (), rfl, rfl, by rw [ht]; exact hP, hK.warm hW, hD⟩, hS.F ht⟩) hS.2.2 dL_steps_14 hlk
set_option maxHeartbeats 1000000 in
set_option maxRecDepth 100000 in
theorem c_L_steps_1 (l : Launch)  (dC : Nat → ClassId) (dI : Nat → Nat → Nat) (cI cJ : ClassId) (ad : Nat → Nat) (qo sz : Nat) (n : Int32) (ev : Int32) (ld0 : Int32) (ld1 : Int32) (ld2 : Int32) (tk : Int32) (mb : Int32) (f0 : Nat → Int32) (f1 : Nat → Int32) (f2 : Nat → Int32) (fr : Nat → Int32) (fu : Nat → Int32) (fo : Nat → Int64) (sa : Nat) (x1 : Int32) (r : Int32) (n' : Int32) (ev' : Int32) (ld0' : Int32) (ld1' : Int32) (ld2' : Int32) (tk' : Int32) (mb' : Int32) (hF : FX5_steps n ev ld0 ld1 ld2 tk mb x1 = some (r, n', ev', ld0', ld1', ld2', tk', mb')) : Met l yL_steps wsL_steps rmL_steps (stP (dC, dI) [(cI, .int), (cJ, .long)] sz (wLst cI cJ ad qo n ev ld0 ld1 ld2 tk mb f0 f1 f2 fr fu fo) sa [.ref (ad 0), .int x1, .ref qo]) (va_Qi (fun (x : Int32) (_ : Unit) => x = 0) (fun _ t => va_P (dC, dI) vwCl (wLst cI cJ ad qo n' ev' ld0' ld1' ld2' tk' mb' f0 f1 f2 fr fu (vp_updL fo (0 : Int32).toNatClampNeg r.toInt64)) t.heap ∧ vK (dC, dI) [(cI, .int), (cJ, .long)] t ∧ va_D (va_A (wLst cI cJ ad qo n ev ld0 ld1 ld2 tk mb f0 f1 f2 fr fu fo) sz) (wLst cI cJ ad qo n' ev' ld0' ld1' ld2' tk' mb' f0 f1 f2 fr fu (vp_updL fo (0 : Int32).toNatClampNeg r.toInt64))) (va_A (wLst cI cJ ad qo n ev ld0 ld1 ld2 tk mb f0 f1 f2 fr fu fo) sz)) 1 6 (va_A (wLst cI cJ ad qo n ev ld0 ld1 ld2 tk mb f0 f1 f2 fr fu fo) sz) := by
  refine Met_ofWH (cc := cL_steps) (maxL := 4) (ret := (some .int)) (hh := [(0, 9, 12, 13)]) (by decide) rfl ?_
  intro p e s m args below meth c s₁ B hml htb hv
  obtain ⟨hargs, hsz, hP, hK, hD, hX⟩ := hv
  have hx := B.exec
  have hb := B.bytes
  have hr := B.returns
  have hlk := B.notSynchronized
  have hts := atoms_spec (ws := wsL_steps) B.pre
  have hown : s.vm.findClass RL = some m.cls := findClass_of_methodNamed B.named
  have hl := lv_entry [.ref (ad 0), .int x1, .ref qo] (n := 4) (Nat.le_of_ble_eq_true rfl)
  have he : entryFrame m args 4 = F0 m 0 ((lg_sl [.ref (ad 0), .int x1, .ref qo] ++ List.replicate (4 - (lg_sl [.ref (ad 0), .int x1, .ref qo]).length) Slot.unset).toArray) [] := by rw [hargs]; exact lg_entry_eq m [.ref (ad 0), .int x1, .ref qo] 4
  rw [he]
  generalize (lg_sl [.ref (ad 0), .int x1, .ref qo] ++ List.replicate (4 - (lg_sl [.ref (ad 0), .int x1, .ref qo]).length) Slot.unset).toArray = ls at hl ⊢
  have hl : lv_has ls 4 [(0, .ref (ad 0)), (1, .int x1), (2, .ref qo)] := hl
  have hD : va_D (va_A (wLst cI cJ ad qo n ev ld0 ld1 ld2 tk mb f0 f1 f2 fr fu fo) sz) (wLst cI cJ ad qo n ev ld0 ld1 ld2 tk mb f0 f1 f2 fr fu fo) := hD.self
  have hfix : CallFix p m c cL_steps 4 s args wsL_steps RL := ⟨hx, hb, hml, hown, hts⟩
  generalize hAe : va_A (wLst cI cJ ad qo n ev ld0 ld1 ld2 tk mb f0 f1 f2 fr fu fo) sz = A at hD hX ⊢
  have hA : ∀ q : Nat, s.heap.size ≤ q → A q := fun q h => by rw [← hAe]; exact Or.inr (by rw [← hsz]; exact h)
  have hS : va_S A s.heap s.heap [] := va_S.rf
  refine lv_aload_n hx hb dL_steps_0 rfl (lv_at hl 2 rfl) ?_
  refine lv_iconst (v := (0 : Int32)) hx hb dL_steps_1 (by decide) ?_
  refine lv_aload_n hx hb dL_steps_2 rfl (lv_at hl 0 rfl) ?_
  refine lv_iload_n hx hb dL_steps_3 rfl (lv_at hl 1 rfl) ?_
  have hPc : va_P (dC, dI) vwCl (wX5 cI cJ ad n ev ld0 ld1 ld2 tk mb f0 f1 f2 fr fu) s.heap := hP.sub [0, 1, 2, 3, 4, 5, 6, 7, 8, 9, 10, 11, 12] rfl
  have hDc : va_D A (wX5 cI cJ ad n ev ld0 ld1 ld2 tk mb f0 f1 f2 fr fu) := hD.sub [0, 1, 2, 3, 4, 5, 6, 7, 8, 9, 10, 11, 12] (by decide) rfl
  have hFc := va_free (wc := (wX5 cI cJ ad n ev ld0 ld1 ld2 tk mb f0 f1 f2 fr fu)) hD hS hA [0, 1, 2, 3, 4, 5, 6, 7, 8, 9, 10, 11, 12] rfl
  refine va_calli (va_runV (As := [.int x1]) (rest := [.int 0, .ref qo]) hfix (c_X5_steps l dC dI cI cJ ad s.heap.size n ev ld0 ld1 ld2 tk mb f0 f1 f2 fr fu x1 _ _ _ _ _ _ _ _ hF) (cwV 1 hts gL_steps_X5_steps rfl rfl rfl (by decide +kernel) ⟨by decide, by decide⟩) (rwP.preV hK hPc hDc rfl (ci := 5) rfl rfl) rfl rfl hl.1 rfl (lv_room (Nat.le_of_ble_eq_true rfl)) dL_steps_4 ⟨by decide, by decide⟩) hS (fun q _ h => hFc q h) hFc (fun y9 u t H locs ht hvm hw hB hz1 hk1 hS => ?_)
  obtain ⟨hP1, -, hD1⟩ := hB
  rw [ht] at hP1
  have hw : y9 = r := hw
  rw [hw]
  obtain ⟨hP, hD⟩ := va_join (wr := [(qo, .inl (cJ, 1, .inr (.inl fo)))]) (w1 := (wX5 cI cJ ad n' ev' ld0' ld1' ld2' tk' mb' f0 f1 f2 fr fu)) hP hD [0, 1, 2, 3, 4, 5, 6, 7, 8, 9, 10, 11, 12] [13] rfl rfl (by decide) (by decide) hk1 hFc hP1 hD1
  have hP : va_P (dC, dI) vwCl (wLst cI cJ ad qo n' ev' ld0' ld1' ld2' tk' mb' f0 f1 f2 fr fu fo) H := hP.sub [1, 2, 3, 4, 5, 6, 7, 8, 9, 10, 11, 12, 13, 0] rfl
  have hD : va_D A (wLst cI cJ ad qo n' ev' ld0' ld1' ld2' tk' mb' f0 f1 f2 fr fu fo) := hD.sub [1, 2, 3, 4, 5, 6, 7, 8, 9, 10, 11, 12, 13, 0] (by decide) rfl
  refine lv_i2l (v := r.toInt64) hx hb dL_steps_7 rfl ?_
  refine va_last hx hb hK.1 hP hD hS 13 1 rfl rfl (vp_in_lit (by decide) (by decide)) dL_steps_8 (fun H locs hP hD hS => ?_)
  have hP : va_P (dC, dI) vwCl (wLst cI cJ ad qo n' ev' ld0' ld1' ld2' tk' mb' f0 f1 f2 fr fu (vp_updL fo (0 : Int32).toNatClampNeg r.toInt64)) H := hP
  have hD : va_D A (wLst cI cJ ad qo n' ev' ld0' ld1' ld2' tk' mb' f0 f1 f2 fr fu (vp_updL fo (0 : Int32).toNatClampNeg r.toInt64)) := hD
  refine lv_goto (tgt := 15) hx hb dL_steps_9 (by decide) ?_
  refine lv_iconst (v := (0 : Int32)) hx hb dL_steps_15 (by decide) ?_
  refine W.widen (k := 1) (n := 6) (by decide) (by decide) ?_
  exact W.iret hx hb hr (fun t ht hW => by subst hAe; exact ⟨⟨_, (), rfl, rfl, by rw [ht]; exact hP, hK.warm hW, hD⟩, hS.F ht⟩) hS.2.2 dL_steps_16 hlk
