/-! constructors -/
theorem ty_i {D : va_G} {cI cJ cA : ClassId} {s : State} (h : va_K D vwCl ([(cI, .int), (cJ, .long)] ++ [(cA, .int)]) s) : cA = cI := by
  have h1 : s.vm.findClass ("[" ++ (FieldType.int).toString) = some cI := (h.2 0 (cI, .int) rfl).2
  have h2 : s.vm.findClass ("[" ++ (FieldType.int).toString) = some cA := (h.2 2 (cA, .int) rfl).2
  exact Option.some.inj (h2.symm.trans h1)
theorem ty_l {D : va_G} {cI cJ cA : ClassId} {s : State} (h : va_K D vwCl ([(cI, .int), (cJ, .long)] ++ [(cA, .long)]) s) : cA = cJ := by
  have h1 : s.vm.findClass ("[" ++ (FieldType.long).toString) = some cJ := (h.2 1 (cJ, .long) rfl).2
  have h2 : s.vm.findClass ("[" ++ (FieldType.long).toString) = some cA := (h.2 2 (cA, .long) rfl).2
  exact Option.some.inj (h2.symm.trans h1)
theorem rwP.preS {D : va_G} {tys : List (ClassId × FieldType)} {sz : Nat} {ws : va_W} {A : Nat → Prop} {As : List Value} {s : State} {H : Heap} (hK : vK D tys s) (hP : va_P D vwCl ws H) (hD : va_D A ws) (hz : H.size = sz) : PreS s H (rwP D tys sz ws As) As := ⟨rwP.blind, fun U hU hW => ⟨rfl, by rw [hU]; exact hz, by rw [hU]; exact hP, hK.warm hW, hD.weaken (fun _ _ _ _ => trivial)⟩⟩
theorem in_start {l : Launch} {y : MethodName} {ws ws' : List Cond} {rm : Room} {cc : ByteArray} {maxL : Nat} {ret : Option FieldType} {D : va_G} {tys : List (ClassId × FieldType)} {sz mc ms : Nat} {cs : va_W} {av : List Value} {Qc : Array Value → State → Outcome → State → Prop}
    (hy : plainName y.cls = true) (hw : ws = Cond.code y cc maxL ret :: ws') (hlen : (lg_sl av).length ≤ maxL)
    (body : ∀ (p : Program) (e : Env) (s : State) (m : MethodId) (args : Array Value) (below : List Frame) (meth : Method) (c : Code) (ls : Array Slot) (A : Nat → Prop) (H : Heap) (locs : List Loc), p.tables.exec = Jvm.exec → c.code = cc → c.maxLocals = maxL → meth.sig.returnType = ret → meth.locks = false → s.vm.findClass y.cls = some m.cls → meth.name = y.name → (∀ w ∈ ws, w.before args s = true) → s.heap.size = sz → va_P D vwCl cs H → vK D tys s → va_D A cs → (∀ q : Nat, s.heap.size ≤ q → A q) → va_S A s.heap H locs → va_A cs sz = A → lv_has ls maxL (lv_args 0 av) →
      W p l e rm s m args below meth c H locs 0 0 (MQ below Qc args s mc ms A) (F0 m 0 ls [])) : Met l y ws rm (rwP D tys sz cs av) Qc mc ms (va_A cs sz) := by
  refine Met.ofW (cc := cc) (maxL := maxL) (ret := ret) hy hw ?_
  intro p e s m args below meth c s₁ B hml hv
  obtain ⟨hargs, hsz, hP, hK, hD⟩ := hv
  have hl := lv_entry av (n := maxL) hlen
  have he : entryFrame m args maxL = F0 m 0 ((lg_sl av ++ List.replicate (maxL - (lg_sl av).length) Slot.unset).toArray) [] := by rw [hargs]; exact lg_entry_eq m av maxL
  rw [he]
  exact body p e s m args below meth c _ _ s.heap [] B.exec B.bytes hml B.returns B.notSynchronized (findClass_of_methodNamed B.named) (name_of_methodNamed B.named B.method).1 (atoms_spec (ws := ws) B.pre) hsz hP hK hD.self (fun q h => Or.inr (by rw [← hsz]; exact h)) va_S.rf rfl hl

abbrev rmX0_init : Room := { frames := 1, cells := 0, slots := 0, locals := 12 }
set_option maxHeartbeats 400000 in
set_option maxRecDepth 100000 in
theorem c_X0_init (l : Launch) (dC : Nat → ClassId) (dI : Nat → Nat → Nat) (cI cJ : ClassId) (h0 : Nat) (sz : Nat) : Met l yX0_init wsX0_init rmX0_init (rwP (dC, dI) [(cI, .int), (cJ, .long)] sz [(h0, .inr (0, [.int 0, .int 0]))] [.ref h0]) (va_Qv (fun _ : Unit => True) (fun _ t => va_P (dC, dI) vwCl [(h0, .inr (0, [.int (12 : Int32), .int (4095 : Int32)]))] t.heap ∧ vK (dC, dI) [(cI, .int), (cJ, .long)] t ∧ va_D (va_A [(h0, .inr (0, [.int 0, .int 0]))] sz) [(h0, .inr (0, [.int (12 : Int32), .int (4095 : Int32)]))]) (va_A [(h0, .inr (0, [.int 0, .int 0]))] sz)) 0 0 (va_A [(h0, .inr (0, [.int 0, .int 0]))] sz) := by
  refine in_start (cc := cX0_init) (maxL := 1) (ret := none) (by decide) rfl (Nat.le_of_ble_eq_true rfl) ?_
  intro p e s m args below meth c ls A H locs hx hb hml hr hlk hown hin hts hsz hP hK hD hA hS hAe hl
  have hown : s.vm.findClass RX0 = some m.cls := hown
  have hl : lv_has ls 1 [(0, .ref h0)] := hl
  have QI : ∀  {t : State}, va_P (dC, dI) vwCl [(h0, .inr (0, [.int (12 : Int32), .int (4095 : Int32)]))] t.heap → vK (dC, dI) [(cI, .int), (cJ, .long)] t → va_D A [(h0, .inr (0, [.int (12 : Int32), .int (4095 : Int32)]))] → va_F A s t → (va_Qv (fun _ : Unit => True) (fun _ t => va_P (dC, dI) vwCl [(h0, .inr (0, [.int (12 : Int32), .int (4095 : Int32)]))] t.heap ∧ vK (dC, dI) [(cI, .int), (cJ, .long)] t ∧ va_D (va_A [(h0, .inr (0, [.int 0, .int 0]))] sz) [(h0, .inr (0, [.int (12 : Int32), .int (4095 : Int32)]))]) (va_A [(h0, .inr (0, [.int 0, .int 0]))] sz)) args s (.returned none) t := by
    intro  t q1 q2 q3 q4
    subst hAe
    exact ⟨⟨(), rfl, trivial, q1, q2, q3⟩, q4⟩
  have hfix : CallFix p m c cX0_init 1 s args wsX0_init RX0 := ⟨hx, hb, hml, hown, hts⟩
  have hiX0 : ∀ w ∈ u_ws RX0 TX0 2, w ∈ wsX0_init := by decide +kernel
  have hf9 := hts (.fieldLink RX0 9 "RowClasses$Circle" "n" "I") (by decide +kernel)
  have hf15 := hts (.fieldLink RX0 15 "RowClasses$Circle" "everyStep" "I") (by decide +kernel)
  refine lv_aload_n hx hb dX0_init_0 rfl (lv_at hl 0 rfl) ?_
  refine W.objInit hx hb hown (hts (.methodLink RX0 3 objectInit) (by decide +kernel)) (hts (.instanceMethod objectInit) (by decide +kernel)) (hts (.code objectInit ⟨#[0xb1]⟩ 1 none) (by decide +kernel)) rfl (by rw [hml]; exact hl.1) rfl dX0_init_1 (Nat.le_of_ble_eq_true rfl) (Nat.le_of_ble_eq_true rfl) ?_
  refine W.eq (g2 := F0 m 4 ls []) rfl ?_
  refine lv_aload_n hx hb dX0_init_4 rfl (lv_at hl 0 rfl) ?_
  refine lv_bipush (v := (12 : Int32)) hx hb dX0_init_5 (by decide) ?_
  refine va_put (D := (dC, dI)) (ci := 0) (v := .int (12 : Int32)) (ty := .int) (C := RX0) (T := TX0) (N := 2) hx hb hts hiX0 tyX0 tyX0_ok nmX0 hown hK.1 hP hD hS 0 rfl rfl 0 (by decide) hf9 (fun _ h9 => h9) rfl (by decide +kernel) rfl rfl (Nat.le_of_ble_eq_true rfl) dX0_init_7 (fun H locs hP hD hS => ?_)
  have hP : va_P (dC, dI) vwCl [(h0, .inr (0, [.int (12 : Int32), .int 0]))] H := hP
  have hD : va_D A [(h0, .inr (0, [.int (12 : Int32), .int 0]))] := hD
  refine lv_aload_n hx hb dX0_init_10 rfl (lv_at hl 0 rfl) ?_
  refine lv_sipush (v := (4095 : Int32)) hx hb dX0_init_11 (by decide) ?_
  refine va_put (D := (dC, dI)) (ci := 0) (v := .int (4095 : Int32)) (ty := .int) (C := RX0) (T := TX0) (N := 2) hx hb hts hiX0 tyX0 tyX0_ok nmX0 hown hK.1 hP hD hS 0 rfl rfl 1 (by decide) hf15 (fun _ h9 => h9) rfl (by decide +kernel) rfl rfl (Nat.le_of_ble_eq_true rfl) dX0_init_14 (fun H locs hP hD hS => ?_)
  have hP : va_P (dC, dI) vwCl [(h0, .inr (0, [.int (12 : Int32), .int (4095 : Int32)]))] H := hP
  have hD : va_D A [(h0, .inr (0, [.int (12 : Int32), .int (4095 : Int32)]))] := hD
  have hP9 : va_P (dC, dI) vwCl [(h0, .inr (0, [.int (12 : Int32), .int (4095 : Int32)]))] H := hP.sub [0] rfl
  have hD9 : va_D A [(h0, .inr (0, [.int (12 : Int32), .int (4095 : Int32)]))] := hD.sub [0] (by decide) rfl
  exact W.vret hx hb hr (fun t ht hW => QI  (by rw [ht]; exact hP9) (hK.warm hW) hD9 (hS.F ht)) hS.2.2 dX0_init_17 hlk
abbrev rmX1_init : Room := { frames := 1, cells := 1, slots := 352, locals := 12 }
set_option maxHeartbeats 400000 in
set_option maxRecDepth 100000 in
theorem c_X1_init (l : Launch) (dC : Nat → ClassId) (dI : Nat → Nat → Nat) (cI cJ : ClassId) (h0 hc : Nat) (sz : Nat) (kd : Int32) : Met l yX1_init wsX1_init rmX1_init (rwP (dC, dI) [(cI, .int), (cJ, .long)] sz [(h0, .inr (1, [.null, .int 0, .null, .int 0]))] [.ref h0, .ref hc, .int kd]) (va_Qv (fun _ : Unit => True) (fun _ t => ∃ q18 : Nat, va_P (dC, dI) vwCl [(h0, .inr (1, [.ref hc, .int kd, .ref q18, .int (0 : Int32)])), (q18, .inl (cI, 352, .inl (fun _ => 0)))] t.heap ∧ vK (dC, dI) [(cI, .int), (cJ, .long)] t ∧ va_D (va_A [(h0, .inr (1, [.null, .int 0, .null, .int 0]))] sz) [(h0, .inr (1, [.ref hc, .int kd, .ref q18, .int (0 : Int32)])), (q18, .inl (cI, 352, .inl (fun _ => 0)))]) (va_A [(h0, .inr (1, [.null, .int 0, .null, .int 0]))] sz)) 1 352 (va_A [(h0, .inr (1, [.null, .int 0, .null, .int 0]))] sz) := by
  refine in_start (cc := cX1_init) (maxL := 3) (ret := none) (by decide) rfl (Nat.le_of_ble_eq_true rfl) ?_
  intro p e s m args below meth c ls A H locs hx hb hml hr hlk hown hin hts hsz hP hK hD hA hS hAe hl
  have hown : s.vm.findClass RX1 = some m.cls := hown
  have hl : lv_has ls 3 [(0, .ref h0), (1, .ref hc), (2, .int kd)] := hl
  have QI : ∀ (q18 : Nat) {t : State}, va_P (dC, dI) vwCl [(h0, .inr (1, [.ref hc, .int kd, .ref q18, .int (0 : Int32)])), (q18, .inl (cI, 352, .inl (fun _ => 0)))] t.heap → vK (dC, dI) [(cI, .int), (cJ, .long)] t → va_D A [(h0, .inr (1, [.ref hc, .int kd, .ref q18, .int (0 : Int32)])), (q18, .inl (cI, 352, .inl (fun _ => 0)))] → va_F A s t → (va_Qv (fun _ : Unit => True) (fun _ t => ∃ q18 : Nat, va_P (dC, dI) vwCl [(h0, .inr (1, [.ref hc, .int kd, .ref q18, .int (0 : Int32)])), (q18, .inl (cI, 352, .inl (fun _ => 0)))] t.heap ∧ vK (dC, dI) [(cI, .int), (cJ, .long)] t ∧ va_D (va_A [(h0, .inr (1, [.null, .int 0, .null, .int 0]))] sz) [(h0, .inr (1, [.ref hc, .int kd, .ref q18, .int (0 : Int32)])), (q18, .inl (cI, 352, .inl (fun _ => 0)))]) (va_A [(h0, .inr (1, [.null, .int 0, .null, .int 0]))] sz)) args s (.returned none) t := by
    intro q18 t q1 q2 q3 q4
    subst hAe
    exact ⟨⟨(), rfl, trivial, q18, q1, q2, q3⟩, q4⟩
  have hfix : CallFix p m c cX1_init 3 s args wsX1_init RX1 := ⟨hx, hb, hml, hown, hts⟩
  have hiX1 : ∀ w ∈ u_ws RX1 TX1 4, w ∈ wsX1_init := by decide +kernel
  have hf9 := hts (.fieldLink RX1 9 "RowClasses$ClassList" "circle" "LRowClasses$Circle;") (by decide +kernel)
  have hf15 := hts (.fieldLink RX1 15 "RowClasses$ClassList" "kind" "I") (by decide +kernel)
  have hf19 := hts (.fieldLink RX1 19 "RowClasses$ClassList" "leasts" "[I") (by decide +kernel)
  have hf23 := hts (.fieldLink RX1 23 "RowClasses$ClassList" "listed" "I") (by decide +kernel)
  refine lv_aload_n hx hb dX1_init_0 rfl (lv_at hl 0 rfl) ?_
  refine W.objInit hx hb hown (hts (.methodLink RX1 3 objectInit) (by decide +kernel)) (hts (.instanceMethod objectInit) (by decide +kernel)) (hts (.code objectInit ⟨#[0xb1]⟩ 1 none) (by decide +kernel)) rfl (by rw [hml]; exact hl.1) rfl dX1_init_1 (Nat.le_of_ble_eq_true rfl) (Nat.le_of_ble_eq_true rfl) ?_
  refine W.eq (g2 := F0 m 4 ls []) rfl ?_
  refine lv_aload_n hx hb dX1_init_4 rfl (lv_at hl 0 rfl) ?_
  refine lv_aload_n hx hb dX1_init_5 rfl (lv_at hl 1 rfl) ?_
  refine va_putF (D := (dC, dI)) (ci := 1) (v := .ref hc) (ty := .object "RowClasses$Circle") (C := RX1) (T := TX1) (N := 4) hx hb hts hiX1 tyX1 tyX1_ok nmX1 hown hK.1 hP hD hS 0 rfl rfl 0 (by decide) hf9 (fun _ h9 => h9) rfl hin rfl (by decide +kernel) rfl rfl (Nat.le_of_ble_eq_true rfl) dX1_init_6 (fun H locs hP hD hS => ?_)
  have hP : va_P (dC, dI) vwCl [(h0, .inr (1, [.ref hc, .int 0, .null, .int 0]))] H := hP
  have hD : va_D A [(h0, .inr (1, [.ref hc, .int 0, .null, .int 0]))] := hD
  refine lv_aload_n hx hb dX1_init_9 rfl (lv_at hl 0 rfl) ?_
  refine lv_iload_n hx hb dX1_init_10 rfl (lv_at hl 2 rfl) ?_
  refine va_putF (D := (dC, dI)) (ci := 1) (v := .int kd) (ty := .int) (C := RX1) (T := TX1) (N := 4) hx hb hts hiX1 tyX1 tyX1_ok nmX1 hown hK.1 hP hD hS 0 rfl rfl 1 (by decide) hf15 (fun _ h9 => h9) rfl hin rfl (by decide +kernel) rfl rfl (Nat.le_of_ble_eq_true rfl) dX1_init_11 (fun H locs hP hD hS => ?_)
  have hP : va_P (dC, dI) vwCl [(h0, .inr (1, [.ref hc, .int kd, .null, .int 0]))] H := hP
  have hD : va_D A [(h0, .inr (1, [.ref hc, .int kd, .null, .int 0]))] := hD
  refine lv_aload_n hx hb dX1_init_14 rfl (lv_at hl 0 rfl) ?_
  refine lv_sipush (v := (352 : Int32)) hx hb dX1_init_15 (by decide) ?_
  refine va_newa (atype := .int) (ty := .int) (N' := 352) (a0 := (352, .inl (fun _ => 0))) hx hb (hts (.arrayClass .int) (by decide +kernel)) rfl hK.1 hP hD hS hA (fun cA => vp_cell_i cA 352 _) (by decide +kernel) (by decide +kernel) (by decide +kernel) (by decide +kernel) (by decide +kernel) dX1_init_18 (fun q18 cA H hK9 hP hD hS => ?_)
  rw [ty_i hK9] at hP hD
  have hP : va_P (dC, dI) vwCl [(h0, .inr (1, [.ref hc, .int kd, .null, .int 0])), (q18, .inl (cI, 352, .inl (fun _ => 0)))] H := hP
  have hD : va_D A [(h0, .inr (1, [.ref hc, .int kd, .null, .int 0])), (q18, .inl (cI, 352, .inl (fun _ => 0)))] := hD
  refine W.widen (k := 1) (n := 352) (by decide +kernel) (by decide +kernel) ?_
  refine va_putF (D := (dC, dI)) (ci := 1) (v := .ref q18) (ty := .array .int) (C := RX1) (T := TX1) (N := 4) hx hb hts hiX1 tyX1 tyX1_ok nmX1 hown hK.1 hP hD hS 0 rfl rfl 2 (by decide) hf19 (fun _ h9 => h9) rfl hin rfl (by decide +kernel) rfl rfl (Nat.le_of_ble_eq_true rfl) dX1_init_20 (fun H locs hP hD hS => ?_)
  have hP : va_P (dC, dI) vwCl [(h0, .inr (1, [.ref hc, .int kd, .ref q18, .int 0])), (q18, .inl (cI, 352, .inl (fun _ => 0)))] H := hP
  have hD : va_D A [(h0, .inr (1, [.ref hc, .int kd, .ref q18, .int 0])), (q18, .inl (cI, 352, .inl (fun _ => 0)))] := hD
  refine lv_aload_n hx hb dX1_init_23 rfl (lv_at hl 0 rfl) ?_
  refine lv_iconst (v := (0 : Int32)) hx hb dX1_init_24 (by decide) ?_
  refine va_put (D := (dC, dI)) (ci := 1) (v := .int (0 : Int32)) (ty := .int) (C := RX1) (T := TX1) (N := 4) hx hb hts hiX1 tyX1 tyX1_ok nmX1 hown hK.1 hP hD hS 0 rfl rfl 3 (by decide) hf23 (fun _ h9 => h9) rfl (by decide +kernel) rfl rfl (Nat.le_of_ble_eq_true rfl) dX1_init_25 (fun H locs hP hD hS => ?_)
  have hP : va_P (dC, dI) vwCl [(h0, .inr (1, [.ref hc, .int kd, .ref q18, .int (0 : Int32)])), (q18, .inl (cI, 352, .inl (fun _ => 0)))] H := hP
  have hD : va_D A [(h0, .inr (1, [.ref hc, .int kd, .ref q18, .int (0 : Int32)])), (q18, .inl (cI, 352, .inl (fun _ => 0)))] := hD
  have hP9 : va_P (dC, dI) vwCl [(h0, .inr (1, [.ref hc, .int kd, .ref q18, .int (0 : Int32)])), (q18, .inl (cI, 352, .inl (fun _ => 0)))] H := hP.sub [0, 1] rfl
  have hD9 : va_D A [(h0, .inr (1, [.ref hc, .int kd, .ref q18, .int (0 : Int32)])), (q18, .inl (cI, 352, .inl (fun _ => 0)))] := hD.sub [0, 1] (by decide) rfl
  exact W.vret hx hb hr (fun t ht hW => QI q18 (by rw [ht]; exact hP9) (hK.warm hW) hD9 (hS.F ht)) hS.2.2 dX1_init_28 hlk
abbrev rmX2_init : Room := { frames := 1, cells := 0, slots := 0, locals := 12 }
set_option maxHeartbeats 400000 in
set_option maxRecDepth 100000 in
theorem c_X2_init (l : Launch) (dC : Nat → ClassId) (dI : Nat → Nat → Nat) (cI cJ : ClassId) (h0 hc : Nat) (sz : Nat) : Met l yX2_init wsX2_init rmX2_init (rwP (dC, dI) [(cI, .int), (cJ, .long)] sz [(h0, .inr (2, [.null]))] [.ref h0, .ref hc]) (va_Qv (fun _ : Unit => True) (fun _ t => va_P (dC, dI) vwCl [(h0, .inr (2, [.ref hc]))] t.heap ∧ vK (dC, dI) [(cI, .int), (cJ, .long)] t ∧ va_D (va_A [(h0, .inr (2, [.null]))] sz) [(h0, .inr (2, [.ref hc]))]) (va_A [(h0, .inr (2, [.null]))] sz)) 0 0 (va_A [(h0, .inr (2, [.null]))] sz) := by
  refine in_start (cc := cX2_init) (maxL := 2) (ret := none) (by decide) rfl (Nat.le_of_ble_eq_true rfl) ?_
  intro p e s m args below meth c ls A H locs hx hb hml hr hlk hown hin hts hsz hP hK hD hA hS hAe hl
  have hown : s.vm.findClass RX2 = some m.cls := hown
  have hl : lv_has ls 2 [(0, .ref h0), (1, .ref hc)] := hl
  have QI : ∀  {t : State}, va_P (dC, dI) vwCl [(h0, .inr (2, [.ref hc]))] t.heap → vK (dC, dI) [(cI, .int), (cJ, .long)] t → va_D A [(h0, .inr (2, [.ref hc]))] → va_F A s t → (va_Qv (fun _ : Unit => True) (fun _ t => va_P (dC, dI) vwCl [(h0, .inr (2, [.ref hc]))] t.heap ∧ vK (dC, dI) [(cI, .int), (cJ, .long)] t ∧ va_D (va_A [(h0, .inr (2, [.null]))] sz) [(h0, .inr (2, [.ref hc]))]) (va_A [(h0, .inr (2, [.null]))] sz)) args s (.returned none) t := by
    intro  t q1 q2 q3 q4
    subst hAe
    exact ⟨⟨(), rfl, trivial, q1, q2, q3⟩, q4⟩
  have hfix : CallFix p m c cX2_init 2 s args wsX2_init RX2 := ⟨hx, hb, hml, hown, hts⟩
  have hiX2 : ∀ w ∈ u_ws RX2 TX2 1, w ∈ wsX2_init := by decide +kernel
  have hf7 := hts (.fieldLink RX2 7 "RowClasses$Orders" "circle" "LRowClasses$Circle;") (by decide +kernel)
  refine lv_aload_n hx hb dX2_init_0 rfl (lv_at hl 0 rfl) ?_
  refine W.objInit hx hb hown (hts (.methodLink RX2 1 objectInit) (by decide +kernel)) (hts (.instanceMethod objectInit) (by decide +kernel)) (hts (.code objectInit ⟨#[0xb1]⟩ 1 none) (by decide +kernel)) rfl (by rw [hml]; exact hl.1) rfl dX2_init_1 (Nat.le_of_ble_eq_true rfl) (Nat.le_of_ble_eq_true rfl) ?_
  refine W.eq (g2 := F0 m 4 ls []) rfl ?_
  refine lv_aload_n hx hb dX2_init_4 rfl (lv_at hl 0 rfl) ?_
  refine lv_aload_n hx hb dX2_init_5 rfl (lv_at hl 1 rfl) ?_
  refine va_putF (D := (dC, dI)) (ci := 2) (v := .ref hc) (ty := .object "RowClasses$Circle") (C := RX2) (T := TX2) (N := 1) hx hb hts hiX2 tyX2 tyX2_ok nmX2 hown hK.1 hP hD hS 0 rfl rfl 0 (by decide) hf7 (fun _ h9 => h9) rfl hin rfl (by decide +kernel) rfl rfl (Nat.le_of_ble_eq_true rfl) dX2_init_6 (fun H locs hP hD hS => ?_)
  have hP : va_P (dC, dI) vwCl [(h0, .inr (2, [.ref hc]))] H := hP
  have hD : va_D A [(h0, .inr (2, [.ref hc]))] := hD
  have hP9 : va_P (dC, dI) vwCl [(h0, .inr (2, [.ref hc]))] H := hP.sub [0] rfl
  have hD9 : va_D A [(h0, .inr (2, [.ref hc]))] := hD.sub [0] (by decide) rfl
  exact W.vret hx hb hr (fun t ht hW => QI  (by rw [ht]; exact hP9) (hK.warm hW) hD9 (hS.F ht)) hS.2.2 dX2_init_9 hlk
abbrev rmX3_init : Room := { frames := 1, cells := 1, slots := 12, locals := 12 }
set_option maxHeartbeats 400000 in
set_option maxRecDepth 100000 in
theorem c_X3_init (l : Launch) (dC : Nat → ClassId) (dI : Nat → Nat → Nat) (cI cJ : ClassId) (h0 hc : Nat) (sz : Nat) : Met l yX3_init wsX3_init rmX3_init (rwP (dC, dI) [(cI, .int), (cJ, .long)] sz [(h0, .inr (3, [.null, .null, .int 0, .int 0]))] [.ref h0, .ref hc]) (va_Qv (fun _ : Unit => True) (fun _ t => ∃ q12 : Nat, va_P (dC, dI) vwCl [(h0, .inr (3, [.ref hc, .ref q12, .int (0 : Int32), .int (0 : Int32)])), (q12, .inl (cI, 12, .inl (fun _ => 0)))] t.heap ∧ vK (dC, dI) [(cI, .int), (cJ, .long)] t ∧ va_D (va_A [(h0, .inr (3, [.null, .null, .int 0, .int 0]))] sz) [(h0, .inr (3, [.ref hc, .ref q12, .int (0 : Int32), .int (0 : Int32)])), (q12, .inl (cI, 12, .inl (fun _ => 0)))]) (va_A [(h0, .inr (3, [.null, .null, .int 0, .int 0]))] sz)) 1 12 (va_A [(h0, .inr (3, [.null, .null, .int 0, .int 0]))] sz) := by
  refine in_start (cc := cX3_init) (maxL := 2) (ret := none) (by decide) rfl (Nat.le_of_ble_eq_true rfl) ?_
  intro p e s m args below meth c ls A H locs hx hb hml hr hlk hown hin hts hsz hP hK hD hA hS hAe hl
  have hown : s.vm.findClass RX3 = some m.cls := hown
  have hl : lv_has ls 2 [(0, .ref h0), (1, .ref hc)] := hl
  have QI : ∀ (q12 : Nat) {t : State}, va_P (dC, dI) vwCl [(h0, .inr (3, [.ref hc, .ref q12, .int (0 : Int32), .int (0 : Int32)])), (q12, .inl (cI, 12, .inl (fun _ => 0)))] t.heap → vK (dC, dI) [(cI, .int), (cJ, .long)] t → va_D A [(h0, .inr (3, [.ref hc, .ref q12, .int (0 : Int32), .int (0 : Int32)])), (q12, .inl (cI, 12, .inl (fun _ => 0)))] → va_F A s t → (va_Qv (fun _ : Unit => True) (fun _ t => ∃ q12 : Nat, va_P (dC, dI) vwCl [(h0, .inr (3, [.ref hc, .ref q12, .int (0 : Int32), .int (0 : Int32)])), (q12, .inl (cI, 12, .inl (fun _ => 0)))] t.heap ∧ vK (dC, dI) [(cI, .int), (cJ, .long)] t ∧ va_D (va_A [(h0, .inr (3, [.null, .null, .int 0, .int 0]))] sz) [(h0, .inr (3, [.ref hc, .ref q12, .int (0 : Int32), .int (0 : Int32)])), (q12, .inl (cI, 12, .inl (fun _ => 0)))]) (va_A [(h0, .inr (3, [.null, .null, .int 0, .int 0]))] sz)) args s (.returned none) t := by
    intro q12 t q1 q2 q3 q4
    subst hAe
    exact ⟨⟨(), rfl, trivial, q12, q1, q2, q3⟩, q4⟩
  have hfix : CallFix p m c cX3_init 2 s args wsX3_init RX3 := ⟨hx, hb, hml, hown, hts⟩
  have hiX3 : ∀ w ∈ u_ws RX3 TX3 4, w ∈ wsX3_init := by decide +kernel
  have hf9 := hts (.fieldLink RX3 9 "RowClasses$Row" "circle" "LRowClasses$Circle;") (by decide +kernel)
  have hf15 := hts (.fieldLink RX3 15 "RowClasses$Row" "order" "[I") (by decide +kernel)
  have hf19 := hts (.fieldLink RX3 19 "RowClasses$Row" "taken" "I") (by decide +kernel)
  have hf23 := hts (.fieldLink RX3 23 "RowClasses$Row" "members" "I") (by decide +kernel)
  refine lv_aload_n hx hb dX3_init_0 rfl (lv_at hl 0 rfl) ?_
  refine W.objInit hx hb hown (hts (.methodLink RX3 3 objectInit) (by decide +kernel)) (hts (.instanceMethod objectInit) (by decide +kernel)) (hts (.code objectInit ⟨#[0xb1]⟩ 1 none) (by decide +kernel)) rfl (by rw [hml]; exact hl.1) rfl dX3_init_1 (Nat.le_of_ble_eq_true rfl) (Nat.le_of_ble_eq_true rfl) ?_
  refine W.eq (g2 := F0 m 4 ls []) rfl ?_
  refine lv_aload_n hx hb dX3_init_4 rfl (lv_at hl 0 rfl) ?_
  refine lv_aload_n hx hb dX3_init_5 rfl (lv_at hl 1 rfl) ?_
  refine va_putF (D := (dC, dI)) (ci := 3) (v := .ref hc) (ty := .object "RowClasses$Circle") (C := RX3) (T := TX3) (N := 4) hx hb hts hiX3 tyX3 tyX3_ok nmX3 hown hK.1 hP hD hS 0 rfl rfl 0 (by decide) hf9 (fun _ h9 => h9) rfl hin rfl (by decide +kernel) rfl rfl (Nat.le_of_ble_eq_true rfl) dX3_init_6 (fun H locs hP hD hS => ?_)
  have hP : va_P (dC, dI) vwCl [(h0, .inr (3, [.ref hc, .null, .int 0, .int 0]))] H := hP
  have hD : va_D A [(h0, .inr (3, [.ref hc, .null, .int 0, .int 0]))] := hD
  refine lv_aload_n hx hb dX3_init_9 rfl (lv_at hl 0 rfl) ?_
  refine lv_bipush (v := (12 : Int32)) hx hb dX3_init_10 (by decide) ?_
  refine va_newa (atype := .int) (ty := .int) (N' := 12) (a0 := (12, .inl (fun _ => 0))) hx hb (hts (.arrayClass .int) (by decide +kernel)) rfl hK.1 hP hD hS hA (fun cA => vp_cell_i cA 12 _) (by decide +kernel) (by decide +kernel) (by decide +kernel) (by decide +kernel) (by decide +kernel) dX3_init_12 (fun q12 cA H hK9 hP hD hS => ?_)
  rw [ty_i hK9] at hP hD
  have hP : va_P (dC, dI) vwCl [(h0, .inr (3, [.ref hc, .null, .int 0, .int 0])), (q12, .inl (cI, 12, .inl (fun _ => 0)))] H := hP
  have hD : va_D A [(h0, .inr (3, [.ref hc, .null, .int 0, .int 0])), (q12, .inl (cI, 12, .inl (fun _ => 0)))] := hD
  refine W.widen (k := 1) (n := 12) (by decide +kernel) (by decide +kernel) ?_
  refine va_putF (D := (dC, dI)) (ci := 3) (v := .ref q12) (ty := .array .int) (C := RX3) (T := TX3) (N := 4) hx hb hts hiX3 tyX3 tyX3_ok nmX3 hown hK.1 hP hD hS 0 rfl rfl 1 (by decide) hf15 (fun _ h9 => h9) rfl hin rfl (by decide +kernel) rfl rfl (Nat.le_of_ble_eq_true rfl) dX3_init_14 (fun H locs hP hD hS => ?_)
  have hP : va_P (dC, dI) vwCl [(h0, .inr (3, [.ref hc, .ref q12, .int 0, .int 0])), (q12, .inl (cI, 12, .inl (fun _ => 0)))] H := hP
  have hD : va_D A [(h0, .inr (3, [.ref hc, .ref q12, .int 0, .int 0])), (q12, .inl (cI, 12, .inl (fun _ => 0)))] := hD
  refine lv_aload_n hx hb dX3_init_17 rfl (lv_at hl 0 rfl) ?_
  refine lv_iconst (v := (0 : Int32)) hx hb dX3_init_18 (by decide) ?_
  refine va_put (D := (dC, dI)) (ci := 3) (v := .int (0 : Int32)) (ty := .int) (C := RX3) (T := TX3) (N := 4) hx hb hts hiX3 tyX3 tyX3_ok nmX3 hown hK.1 hP hD hS 0 rfl rfl 2 (by decide) hf19 (fun _ h9 => h9) rfl (by decide +kernel) rfl rfl (Nat.le_of_ble_eq_true rfl) dX3_init_19 (fun H locs hP hD hS => ?_)
  have hP : va_P (dC, dI) vwCl [(h0, .inr (3, [.ref hc, .ref q12, .int (0 : Int32), .int 0])), (q12, .inl (cI, 12, .inl (fun _ => 0)))] H := hP
  have hD : va_D A [(h0, .inr (3, [.ref hc, .ref q12, .int (0 : Int32), .int 0])), (q12, .inl (cI, 12, .inl (fun _ => 0)))] := hD
  refine lv_aload_n hx hb dX3_init_22 rfl (lv_at hl 0 rfl) ?_
  refine lv_iconst (v := (0 : Int32)) hx hb dX3_init_23 (by decide) ?_
  refine va_put (D := (dC, dI)) (ci := 3) (v := .int (0 : Int32)) (ty := .int) (C := RX3) (T := TX3) (N := 4) hx hb hts hiX3 tyX3 tyX3_ok nmX3 hown hK.1 hP hD hS 0 rfl rfl 3 (by decide) hf23 (fun _ h9 => h9) rfl (by decide +kernel) rfl rfl (Nat.le_of_ble_eq_true rfl) dX3_init_24 (fun H locs hP hD hS => ?_)
  have hP : va_P (dC, dI) vwCl [(h0, .inr (3, [.ref hc, .ref q12, .int (0 : Int32), .int (0 : Int32)])), (q12, .inl (cI, 12, .inl (fun _ => 0)))] H := hP
  have hD : va_D A [(h0, .inr (3, [.ref hc, .ref q12, .int (0 : Int32), .int (0 : Int32)])), (q12, .inl (cI, 12, .inl (fun _ => 0)))] := hD
  have hP9 : va_P (dC, dI) vwCl [(h0, .inr (3, [.ref hc, .ref q12, .int (0 : Int32), .int (0 : Int32)])), (q12, .inl (cI, 12, .inl (fun _ => 0)))] H := hP.sub [0, 1] rfl
  have hD9 : va_D A [(h0, .inr (3, [.ref hc, .ref q12, .int (0 : Int32), .int (0 : Int32)])), (q12, .inl (cI, 12, .inl (fun _ => 0)))] := hD.sub [0, 1] (by decide) rfl
  exact W.vret hx hb hr (fun t ht hW => QI q12 (by rw [ht]; exact hP9) (hK.warm hW) hD9 (hS.F ht)) hS.2.2 dX3_init_27 hlk
abbrev rmX4_init : Room := { frames := 1, cells := 1, slots := 13, locals := 12 }
set_option maxHeartbeats 400000 in
set_option maxRecDepth 100000 in
theorem c_X4_init (l : Launch) (dC : Nat → ClassId) (dI : Nat → Nat → Nat) (cI cJ : ClassId) (h0 : Nat) (sz : Nat) : Met l yX4_init wsX4_init rmX4_init (rwP (dC, dI) [(cI, .int), (cJ, .long)] sz [(h0, .inr (4, [.null]))] [.ref h0]) (va_Qv (fun _ : Unit => True) (fun _ t => ∃ q7 : Nat, va_P (dC, dI) vwCl [(h0, .inr (4, [.ref q7])), (q7, .inl (cI, 13, .inl (fun _ => 0)))] t.heap ∧ vK (dC, dI) [(cI, .int), (cJ, .long)] t ∧ va_D (va_A [(h0, .inr (4, [.null]))] sz) [(h0, .inr (4, [.ref q7])), (q7, .inl (cI, 13, .inl (fun _ => 0)))]) (va_A [(h0, .inr (4, [.null]))] sz)) 1 13 (va_A [(h0, .inr (4, [.null]))] sz) := by
  refine in_start (cc := cX4_init) (maxL := 1) (ret := none) (by decide) rfl (Nat.le_of_ble_eq_true rfl) ?_
  intro p e s m args below meth c ls A H locs hx hb hml hr hlk hown hin hts hsz hP hK hD hA hS hAe hl
  have hown : s.vm.findClass RX4 = some m.cls := hown
  have hl : lv_has ls 1 [(0, .ref h0)] := hl
  have QI : ∀ (q7 : Nat) {t : State}, va_P (dC, dI) vwCl [(h0, .inr (4, [.ref q7])), (q7, .inl (cI, 13, .inl (fun _ => 0)))] t.heap → vK (dC, dI) [(cI, .int), (cJ, .long)] t → va_D A [(h0, .inr (4, [.ref q7])), (q7, .inl (cI, 13, .inl (fun _ => 0)))] → va_F A s t → (va_Qv (fun _ : Unit => True) (fun _ t => ∃ q7 : Nat, va_P (dC, dI) vwCl [(h0, .inr (4, [.ref q7])), (q7, .inl (cI, 13, .inl (fun _ => 0)))] t.heap ∧ vK (dC, dI) [(cI, .int), (cJ, .long)] t ∧ va_D (va_A [(h0, .inr (4, [.null]))] sz) [(h0, .inr (4, [.ref q7])), (q7, .inl (cI, 13, .inl (fun _ => 0)))]) (va_A [(h0, .inr (4, [.null]))] sz)) args s (.returned none) t := by
    intro q7 t q1 q2 q3 q4
    subst hAe
    exact ⟨⟨(), rfl, trivial, q7, q1, q2, q3⟩, q4⟩
  have hfix : CallFix p m c cX4_init 1 s args wsX4_init RX4 := ⟨hx, hb, hml, hown, hts⟩
  have hiX4 : ∀ w ∈ u_ws RX4 TX4 1, w ∈ wsX4_init := by decide +kernel
  have hf9 := hts (.fieldLink RX4 9 "RowClasses$UnlikeRows" "counted" "[I") (by decide +kernel)
  refine lv_aload_n hx hb dX4_init_0 rfl (lv_at hl 0 rfl) ?_
  refine W.objInit hx hb hown (hts (.methodLink RX4 3 objectInit) (by decide +kernel)) (hts (.instanceMethod objectInit) (by decide +kernel)) (hts (.code objectInit ⟨#[0xb1]⟩ 1 none) (by decide +kernel)) rfl (by rw [hml]; exact hl.1) rfl dX4_init_1 (Nat.le_of_ble_eq_true rfl) (Nat.le_of_ble_eq_true rfl) ?_
  refine W.eq (g2 := F0 m 4 ls []) rfl ?_
  refine lv_aload_n hx hb dX4_init_4 rfl (lv_at hl 0 rfl) ?_
  refine lv_bipush (v := (13 : Int32)) hx hb dX4_init_5 (by decide) ?_
  refine va_newa (atype := .int) (ty := .int) (N' := 13) (a0 := (13, .inl (fun _ => 0))) hx hb (hts (.arrayClass .int) (by decide +kernel)) rfl hK.1 hP hD hS hA (fun cA => vp_cell_i cA 13 _) (by decide +kernel) (by decide +kernel) (by decide +kernel) (by decide +kernel) (by decide +kernel) dX4_init_7 (fun q7 cA H hK9 hP hD hS => ?_)
  rw [ty_i hK9] at hP hD
  have hP : va_P (dC, dI) vwCl [(h0, .inr (4, [.null])), (q7, .inl (cI, 13, .inl (fun _ => 0)))] H := hP
  have hD : va_D A [(h0, .inr (4, [.null])), (q7, .inl (cI, 13, .inl (fun _ => 0)))] := hD
  refine W.widen (k := 1) (n := 13) (by decide +kernel) (by decide +kernel) ?_
  refine va_putF (D := (dC, dI)) (ci := 4) (v := .ref q7) (ty := .array .int) (C := RX4) (T := TX4) (N := 1) hx hb hts hiX4 tyX4 tyX4_ok nmX4 hown hK.1 hP hD hS 0 rfl rfl 0 (by decide) hf9 (fun _ h9 => h9) rfl hin rfl (by decide +kernel) rfl rfl (Nat.le_of_ble_eq_true rfl) dX4_init_9 (fun H locs hP hD hS => ?_)
  have hP : va_P (dC, dI) vwCl [(h0, .inr (4, [.ref q7])), (q7, .inl (cI, 13, .inl (fun _ => 0)))] H := hP
  have hD : va_D A [(h0, .inr (4, [.ref q7])), (q7, .inl (cI, 13, .inl (fun _ => 0)))] := hD
  have hP9 : va_P (dC, dI) vwCl [(h0, .inr (4, [.ref q7])), (q7, .inl (cI, 13, .inl (fun _ => 0)))] H := hP.sub [0, 1] rfl
  have hD9 : va_D A [(h0, .inr (4, [.ref q7])), (q7, .inl (cI, 13, .inl (fun _ => 0)))] := hD.sub [0, 1] (by decide) rfl
  exact W.vret hx hb hr (fun t ht hW => QI q7 (by rw [ht]; exact hP9) (hK.warm hW) hD9 (hS.F ht)) hS.2.2 dX4_init_12 hlk
