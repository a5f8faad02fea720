abbrev rmX6_clear : Room := { frames := 0, cells := 0, slots := 0, locals := 0 }
set_option maxHeartbeats 4000000 in
set_option maxRecDepth 100000 in
theorem c_X6_clear (l : Launch) (dC : Nat → ClassId) (dI : Nat → Nat → Nat) (cI cJ : ClassId) (ad : Nat → Nat) (sz : Nat) (m_code : Int32) (m_n : Int32) (m_built : Int32) (m_length : Int32) (m_begin : Int32) (m_many : Int32) (m_leastOf : Nat → Int32) (m_sizeOf : Nat → Int32) (m_own : Nat → Int32) (m_bestRow : Nat → Int32) (m_tryRow : Nat → Int32) (m_keptRow : Nat → Int32) (m_otherRow : Nat → Int32) (m_row : Nat → Int32) (m_formRow : Nat → Int32) (m_allForms : Nat → Int32) (m_rowsOf : Nat → Int32) (m_intervals : Nat → Int32) (m_places : Nat → Int32) (m_whole : Nat → Int64) (r : Int32) (m_code' : Int32) (m_many' : Int32) (hF : FX6_clear m_code m_many = some (r, m_code', m_many')) : Met l yX6_clear wsX6_clear rmX6_clear (rwP (dC, dI) [(cI, .int), (cJ, .long)] sz (wX6 cI cJ ad m_code m_n m_built m_length m_begin m_many m_leastOf m_sizeOf m_own m_bestRow m_tryRow m_keptRow m_otherRow m_row m_formRow m_allForms m_rowsOf m_intervals m_places m_whole) [.ref (ad 0)]) (va_Qi (fun (x : Int32) (_ : Unit) => x = r) (fun _ t => va_P (dC, dI) vwCl (wX6 cI cJ ad m_code' m_n m_built m_length m_begin m_many' m_leastOf m_sizeOf m_own m_bestRow m_tryRow m_keptRow m_otherRow m_row m_formRow m_allForms m_rowsOf m_intervals m_places m_whole) t.heap ∧ vK (dC, dI) [(cI, .int), (cJ, .long)] t ∧ va_D (va_A (wX6 cI cJ ad m_code m_n m_built m_length m_begin m_many m_leastOf m_sizeOf m_own m_bestRow m_tryRow m_keptRow m_otherRow m_row m_formRow m_allForms m_rowsOf m_intervals m_places m_whole) sz) (wX6 cI cJ ad m_code' m_n m_built m_length m_begin m_many' m_leastOf m_sizeOf m_own m_bestRow m_tryRow m_keptRow m_otherRow m_row m_formRow m_allForms m_rowsOf m_intervals m_places m_whole)) (va_A (wX6 cI cJ ad m_code m_n m_built m_length m_begin m_many m_leastOf m_sizeOf m_own m_bestRow m_tryRow m_keptRow m_otherRow m_row m_formRow m_allForms m_rowsOf m_intervals m_places m_whole) sz)) 0 0 (va_A (wX6 cI cJ ad m_code m_n m_built m_length m_begin m_many m_leastOf m_sizeOf m_own m_bestRow m_tryRow m_keptRow m_otherRow m_row m_formRow m_allForms m_rowsOf m_intervals m_places m_whole) sz) := by
  refine rw_start (cc := cX6_clear) (maxL := 2) (ret := (some .int)) (by decide) rfl (Nat.le_of_ble_eq_true rfl) ?_
  intro p e s m args below meth c ls A H locs hx hb hml hr hlk hown hts hsz hP hK hD hA hS hAe hl
  have hown : s.vm.findClass RX6 = some m.cls := hown
  have hl : lv_has ls 2 [(0, .ref (ad 0))] := hl
  have h : Ho (FX6_clear m_code m_many) (fun x => x = (r, m_code', m_many')) := ⟨_, hF, rfl⟩
  unfold FX6_clear at h
  have QI : ∀ {v0 : Int32} {m_code9 : Int32} {m_many9 : Int32} {t : State}, (v0, m_code9, m_many9) = (r, m_code', m_many') → va_P (dC, dI) vwCl (wX6 cI cJ ad m_code9 m_n m_built m_length m_begin m_many9 m_leastOf m_sizeOf m_own m_bestRow m_tryRow m_keptRow m_otherRow m_row m_formRow m_allForms m_rowsOf m_intervals m_places m_whole) t.heap → vK (dC, dI) [(cI, .int), (cJ, .long)] t → va_D A (wX6 cI cJ ad m_code9 m_n m_built m_length m_begin m_many9 m_leastOf m_sizeOf m_own m_bestRow m_tryRow m_keptRow m_otherRow m_row m_formRow m_allForms m_rowsOf m_intervals m_places m_whole) → va_F A s t → (va_Qi (fun (x : Int32) (_ : Unit) => x = r) (fun _ t => va_P (dC, dI) vwCl (wX6 cI cJ ad m_code' m_n m_built m_length m_begin m_many' m_leastOf m_sizeOf m_own m_bestRow m_tryRow m_keptRow m_otherRow m_row m_formRow m_allForms m_rowsOf m_intervals m_places m_whole) t.heap ∧ vK (dC, dI) [(cI, .int), (cJ, .long)] t ∧ va_D (va_A (wX6 cI cJ ad m_code m_n m_built m_length m_begin m_many m_leastOf m_sizeOf m_own m_bestRow m_tryRow m_keptRow m_otherRow m_row m_formRow m_allForms m_rowsOf m_intervals m_places m_whole) sz) (wX6 cI cJ ad m_code' m_n m_built m_length m_begin m_many' m_leastOf m_sizeOf m_own m_bestRow m_tryRow m_keptRow m_otherRow m_row m_formRow m_allForms m_rowsOf m_intervals m_places m_whole)) (va_A (wX6 cI cJ ad m_code m_n m_built m_length m_begin m_many m_leastOf m_sizeOf m_own m_bestRow m_tryRow m_keptRow m_otherRow m_row m_formRow m_allForms m_rowsOf m_intervals m_places m_whole) sz)) args s (.returned (some (.int v0))) t := by
    intro v0 m_code9 m_many9 t e9 q1 q2 q3 q4
    cases e9
    subst hAe
    exact ⟨⟨_, (), rfl, rfl, q1, q2, q3⟩, q4⟩
  have hfix : CallFix p m c cX6_clear 2 s args wsX6_clear RX6 := ⟨hx, hb, hml, hown, hts⟩
  have hiX6 : ∀ w ∈ u_ws RX6 TX6 20, w ∈ wsX6_clear := by decide +kernel
  have hf57 := hts (.fieldLink RX6 57 "RowClassesModel" "code" "I") (by decide +kernel)
  have hf60 := hts (.fieldLink RX6 60 "RowClassesModel" "many" "I") (by decide +kernel)
  refine lv_aload_n hx hb dX6_clear_0 rfl (lv_at hl 0 rfl) ?_
  refine lv_iconst (v := (0 : Int32)) hx hb dX6_clear_1 (by decide) ?_
  refine va_put (D := (dC, dI)) (ci := 6) (v := .int (0 : Int32)) (ty := .int) (C := RX6) (T := TX6) (N := 20) hx hb hts hiX6 tyX6 tyX6_ok nmX6 hown hK.1 hP hD hS 0 rfl rfl 0 (by decide) hf57 (fun _ h9 => h9) rfl (by decide +kernel) rfl rfl (Nat.le_of_ble_eq_true rfl) dX6_clear_2 (fun H locs hP hD hS => ?_)
  have hP : va_P (dC, dI) vwCl (wX6 cI cJ ad (0 : Int32) m_n m_built m_length m_begin m_many m_leastOf m_sizeOf m_own m_bestRow m_tryRow m_keptRow m_otherRow m_row m_formRow m_allForms m_rowsOf m_intervals m_places m_whole) H := hP
  have hD : va_D A (wX6 cI cJ ad (0 : Int32) m_n m_built m_length m_begin m_many m_leastOf m_sizeOf m_own m_bestRow m_tryRow m_keptRow m_otherRow m_row m_formRow m_allForms m_rowsOf m_intervals m_places m_whole) := hD
  refine lv_aload_n hx hb dX6_clear_5 rfl (lv_at hl 0 rfl) ?_
  refine va_get (D := (dC, dI)) (ci := 6) (v := .int m_many) (C := RX6) (T := TX6) (N := 20) hx hb hts hiX6 hown hK.1 hP 0 rfl rfl 12 (by decide) hf60 (fun _ h9 => h9) rfl dX6_clear_6 ?_
  refine lv_istore_n (lv' := [(1, .int m_many), (0, .ref (ad 0))]) hx hb dX6_clear_9 rfl hl (by decide) rfl (fun ls hl => ?_)
  refine lv_aload_n hx hb dX6_clear_10 rfl (lv_at hl 1 rfl) ?_
  refine lv_iconst (v := (0 : Int32)) hx hb dX6_clear_11 (by decide) ?_
  refine va_put (D := (dC, dI)) (ci := 6) (v := .int (0 : Int32)) (ty := .int) (C := RX6) (T := TX6) (N := 20) hx hb hts hiX6 tyX6 tyX6_ok nmX6 hown hK.1 hP hD hS 0 rfl rfl 12 (by decide) hf60 (fun _ h9 => h9) rfl (by decide +kernel) rfl rfl (Nat.le_of_ble_eq_true rfl) dX6_clear_12 (fun H locs hP hD hS => ?_)
  have hP : va_P (dC, dI) vwCl (wX6 cI cJ ad (0 : Int32) m_n m_built m_length m_begin (0 : Int32) m_leastOf m_sizeOf m_own m_bestRow m_tryRow m_keptRow m_otherRow m_row m_formRow m_allForms m_rowsOf m_intervals m_places m_whole) H := hP
  have hD : va_D A (wX6 cI cJ ad (0 : Int32) m_n m_built m_length m_begin (0 : Int32) m_leastOf m_sizeOf m_own m_bestRow m_tryRow m_keptRow m_otherRow m_row m_formRow m_allForms m_rowsOf m_intervals m_places m_whole) := hD
  refine lv_iload_n hx hb dX6_clear_15 rfl (lv_at hl 0 rfl) ?_
  exact W.iret hx hb hr (fun t ht hW => QI (Ho_e h) (by rw [ht]; exact hP) (hK.warm hW) hD (hS.F ht)) hS.2.2 dX6_clear_16 hlk
abbrev rmX6_layForm : Room := { frames := 0, cells := 0, slots := 0, locals := 0 }
set_option maxHeartbeats 4000000 in
set_option maxRecDepth 100000 in
theorem c_X6_layForm (l : Launch) (dC : Nat → ClassId) (dI : Nat → Nat → Nat) (cI cJ : ClassId) (ad : Nat → Nat) (sz : Nat) (m_code : Int32) (m_n : Int32) (m_built : Int32) (m_length : Int32) (m_begin : Int32) (m_many : Int32) (m_leastOf : Nat → Int32) (m_sizeOf : Nat → Int32) (m_own : Nat → Int32) (m_bestRow : Nat → Int32) (m_tryRow : Nat → Int32) (m_keptRow : Nat → Int32) (m_otherRow : Nat → Int32) (m_row : Nat → Int32) (m_formRow : Nat → Int32) (m_allForms : Nat → Int32) (m_rowsOf : Nat → Int32) (m_intervals : Nat → Int32) (m_places : Nat → Int32) (m_whole : Nat → Int64) (x1 : Int32) (x2 : Int32) (m_formRow' : Nat → Int32) (hF : FX6_layForm m_n m_row m_formRow x1 x2 = some m_formRow') : Met l yX6_layForm wsX6_layForm rmX6_layForm (rwP (dC, dI) [(cI, .int), (cJ, .long)] sz (wX6 cI cJ ad m_code m_n m_built m_length m_begin m_many m_leastOf m_sizeOf m_own m_bestRow m_tryRow m_keptRow m_otherRow m_row m_formRow m_allForms m_rowsOf m_intervals m_places m_whole) [.ref (ad 0), .int x1, .int x2]) (va_Qv (fun _ : Unit => True) (fun _ t => va_P (dC, dI) vwCl (wX6 cI cJ ad m_code m_n m_built m_length m_begin m_many m_leastOf m_sizeOf m_own m_bestRow m_tryRow m_keptRow m_otherRow m_row m_formRow' m_allForms m_rowsOf m_intervals m_places m_whole) t.heap ∧ vK (dC, dI) [(cI, .int), (cJ, .long)] t ∧ va_D (va_A (wX6 cI cJ ad m_code m_n m_built m_length m_begin m_many m_leastOf m_sizeOf m_own m_bestRow m_tryRow m_keptRow m_otherRow m_row m_formRow m_allForms m_rowsOf m_intervals m_places m_whole) sz) (wX6 cI cJ ad m_code m_n m_built m_length m_begin m_many m_leastOf m_sizeOf m_own m_bestRow m_tryRow m_keptRow m_otherRow m_row m_formRow' m_allForms m_rowsOf m_intervals m_places m_whole)) (va_A (wX6 cI cJ ad m_code m_n m_built m_length m_begin m_many m_leastOf m_sizeOf m_own m_bestRow m_tryRow m_keptRow m_otherRow m_row m_formRow m_allForms m_rowsOf m_intervals m_places m_whole) sz)) 0 0 (va_A (wX6 cI cJ ad m_code m_n m_built m_length m_begin m_many m_leastOf m_sizeOf m_own m_bestRow m_tryRow m_keptRow m_otherRow m_row m_formRow m_allForms m_rowsOf m_intervals m_places m_whole) sz) := by
  refine rw_start (cc := cX6_layForm) (maxL := 6) (ret := none) (by decide) rfl (Nat.le_of_ble_eq_true rfl) ?_
  intro p e s m args below meth c ls A H locs hx hb hml hr hlk hown hts hsz hP hK hD hA hS hAe hl
  have hown : s.vm.findClass RX6 = some m.cls := hown
  have hl : lv_has ls 6 [(0, .ref (ad 0)), (1, .int x1), (2, .int x2)] := hl
  have h : Ho (FX6_layForm m_n m_row m_formRow x1 x2) (fun x => x = m_formRow') := ⟨_, hF, rfl⟩
  unfold FX6_layForm at h
  have QI : ∀ {m_formRow9 : Nat → Int32} {t : State}, m_formRow9 = m_formRow' → va_P (dC, dI) vwCl (wX6 cI cJ ad m_code m_n m_built m_length m_begin m_many m_leastOf m_sizeOf m_own m_bestRow m_tryRow m_keptRow m_otherRow m_row m_formRow9 m_allForms m_rowsOf m_intervals m_places m_whole) t.heap → vK (dC, dI) [(cI, .int), (cJ, .long)] t → va_D A (wX6 cI cJ ad m_code m_n m_built m_length m_begin m_many m_leastOf m_sizeOf m_own m_bestRow m_tryRow m_keptRow m_otherRow m_row m_formRow9 m_allForms m_rowsOf m_intervals m_places m_whole) → va_F A s t → (va_Qv (fun _ : Unit => True) (fun _ t => va_P (dC, dI) vwCl (wX6 cI cJ ad m_code m_n m_built m_length m_begin m_many m_leastOf m_sizeOf m_own m_bestRow m_tryRow m_keptRow m_otherRow m_row m_formRow' m_allForms m_rowsOf m_intervals m_places m_whole) t.heap ∧ vK (dC, dI) [(cI, .int), (cJ, .long)] t ∧ va_D (va_A (wX6 cI cJ ad m_code m_n m_built m_length m_begin m_many m_leastOf m_sizeOf m_own m_bestRow m_tryRow m_keptRow m_otherRow m_row m_formRow m_allForms m_rowsOf m_intervals m_places m_whole) sz) (wX6 cI cJ ad m_code m_n m_built m_length m_begin m_many m_leastOf m_sizeOf m_own m_bestRow m_tryRow m_keptRow m_otherRow m_row m_formRow' m_allForms m_rowsOf m_intervals m_places m_whole)) (va_A (wX6 cI cJ ad m_code m_n m_built m_length m_begin m_many m_leastOf m_sizeOf m_own m_bestRow m_tryRow m_keptRow m_otherRow m_row m_formRow m_allForms m_rowsOf m_intervals m_places m_whole) sz)) args s (.returned none) t := by
    intro m_formRow9 t e9 q1 q2 q3 q4
    cases e9
    subst hAe
    exact ⟨⟨(), rfl, trivial, q1, q2, q3⟩, q4⟩
  have hfix : CallFix p m c cX6_layForm 6 s args wsX6_layForm RX6 := ⟨hx, hb, hml, hown, hts⟩
  have hiX6 : ∀ w ∈ u_ws RX6 TX6 20, w ∈ wsX6_layForm := by decide +kernel
  have hf7 := hts (.fieldLink RX6 7 "RowClassesModel" "n" "I") (by decide +kernel)
  have hf35 := hts (.fieldLink RX6 35 "RowClassesModel" "row" "[I") (by decide +kernel)
  have hf38 := hts (.fieldLink RX6 38 "RowClassesModel" "formRow" "[I") (by decide +kernel)
  have J94 : ∀ (m_formRowk : Nat → Int32) (H : Heap) (locs : List Loc) (ls : Array Slot), va_P (dC, dI) vwCl (wX6 cI cJ ad m_code m_n m_built m_length m_begin m_many m_leastOf m_sizeOf m_own m_bestRow m_tryRow m_keptRow m_otherRow m_row m_formRowk m_allForms m_rowsOf m_intervals m_places m_whole) H → va_D A (wX6 cI cJ ad m_code m_n m_built m_length m_begin m_many m_leastOf m_sizeOf m_own m_bestRow m_tryRow m_keptRow m_otherRow m_row m_formRowk m_allForms m_rowsOf m_intervals m_places m_whole) → va_S A s.heap H locs → lv_has ls 6 [] → Ho (X6_layForm_94 m_formRowk) (fun x => x = m_formRow') → W p l e rmX6_layForm s m args below meth c H locs 0 0 (MQ below (va_Qv (fun _ : Unit => True) (fun _ t => va_P (dC, dI) vwCl (wX6 cI cJ ad m_code m_n m_built m_length m_begin m_many m_leastOf m_sizeOf m_own m_bestRow m_tryRow m_keptRow m_otherRow m_row m_formRow' m_allForms m_rowsOf m_intervals m_places m_whole) t.heap ∧ vK (dC, dI) [(cI, .int), (cJ, .long)] t ∧ va_D (va_A (wX6 cI cJ ad m_code m_n m_built m_length m_begin m_many m_leastOf m_sizeOf m_own m_bestRow m_tryRow m_keptRow m_otherRow m_row m_formRow m_allForms m_rowsOf m_intervals m_places m_whole) sz) (wX6 cI cJ ad m_code m_n m_built m_length m_begin m_many m_leastOf m_sizeOf m_own m_bestRow m_tryRow m_keptRow m_otherRow m_row m_formRow' m_allForms m_rowsOf m_intervals m_places m_whole)) (va_A (wX6 cI cJ ad m_code m_n m_built m_length m_begin m_many m_leastOf m_sizeOf m_own m_bestRow m_tryRow m_keptRow m_otherRow m_row m_formRow m_allForms m_rowsOf m_intervals m_places m_whole) sz)) args s 0 0 A) (F0 m 94 ls []) := by
    intro m_formRowk H locs ls hP hD hS hl h
    unfold X6_layForm_94 at h
    exact W.vret hx hb hr (fun t ht hW => QI (Ho_e h) (by rw [ht]; exact hP) (hK.warm hW) hD (hS.F ht)) hS.2.2 dX6_layForm_94 hlk
  have J2 : ∀ (m_formRowk : Nat → Int32) (v3 : Int32) (H : Heap) (locs : List Loc) (ls : Array Slot), va_P (dC, dI) vwCl (wX6 cI cJ ad m_code m_n m_built m_length m_begin m_many m_leastOf m_sizeOf m_own m_bestRow m_tryRow m_keptRow m_otherRow m_row m_formRowk m_allForms m_rowsOf m_intervals m_places m_whole) H → va_D A (wX6 cI cJ ad m_code m_n m_built m_length m_begin m_many m_leastOf m_sizeOf m_own m_bestRow m_tryRow m_keptRow m_otherRow m_row m_formRowk m_allForms m_rowsOf m_intervals m_places m_whole) → va_S A s.heap H locs → lv_has ls 6 [(0, .ref (ad 0)), (1, .int x1), (2, .int x2), (3, .int v3)] → Ho ((X6_layForm_2_l m_n m_row x1 x2 m_formRowk v3).bind (fun ex => X6_layForm_94 ex)) (fun x => x = m_formRow') → W p l e rmX6_layForm s m args below meth c H locs 0 0 (MQ below (va_Qv (fun _ : Unit => True) (fun _ t => va_P (dC, dI) vwCl (wX6 cI cJ ad m_code m_n m_built m_length m_begin m_many m_leastOf m_sizeOf m_own m_bestRow m_tryRow m_keptRow m_otherRow m_row m_formRow' m_allForms m_rowsOf m_intervals m_places m_whole) t.heap ∧ vK (dC, dI) [(cI, .int), (cJ, .long)] t ∧ va_D (va_A (wX6 cI cJ ad m_code m_n m_built m_length m_begin m_many m_leastOf m_sizeOf m_own m_bestRow m_tryRow m_keptRow m_otherRow m_row m_formRow m_allForms m_rowsOf m_intervals m_places m_whole) sz) (wX6 cI cJ ad m_code m_n m_built m_length m_begin m_many m_leastOf m_sizeOf m_own m_bestRow m_tryRow m_keptRow m_otherRow m_row m_formRow' m_allForms m_rowsOf m_intervals m_places m_whole)) (va_A (wX6 cI cJ ad m_code m_n m_built m_length m_begin m_many m_leastOf m_sizeOf m_own m_bestRow m_tryRow m_keptRow m_otherRow m_row m_formRow m_allForms m_rowsOf m_intervals m_places m_whole) sz)) args s 0 0 A) (F0 m 2 ls []) := by
    intro m_formRowk v3 H locs ls hP hD hS hl h
    refine loop_use2 (fun z : (Nat → Int32) × Int32 => ∀ (H : Heap) (locs : List Loc) (ls : Array Slot), va_P (dC, dI) vwCl (wX6 cI cJ ad m_code m_n m_built m_length m_begin m_many m_leastOf m_sizeOf m_own m_bestRow m_tryRow m_keptRow m_otherRow m_row z.1 m_allForms m_rowsOf m_intervals m_places m_whole) H → va_D A (wX6 cI cJ ad m_code m_n m_built m_length m_begin m_many m_leastOf m_sizeOf m_own m_bestRow m_tryRow m_keptRow m_otherRow m_row z.1 m_allForms m_rowsOf m_intervals m_places m_whole) → va_S A s.heap H locs → lv_has ls 6 [(0, .ref (ad 0)), (1, .int x1), (2, .int x2), (3, .int z.2)] → W p l e rmX6_layForm s m args below meth c H locs 0 0 (MQ below (va_Qv (fun _ : Unit => True) (fun _ t => va_P (dC, dI) vwCl (wX6 cI cJ ad m_code m_n m_built m_length m_begin m_many m_leastOf m_sizeOf m_own m_bestRow m_tryRow m_keptRow m_otherRow m_row m_formRow' m_allForms m_rowsOf m_intervals m_places m_whole) t.heap ∧ vK (dC, dI) [(cI, .int), (cJ, .long)] t ∧ va_D (va_A (wX6 cI cJ ad m_code m_n m_built m_length m_begin m_many m_leastOf m_sizeOf m_own m_bestRow m_tryRow m_keptRow m_otherRow m_row m_formRow m_allForms m_rowsOf m_intervals m_places m_whole) sz) (wX6 cI cJ ad m_code m_n m_built m_length m_begin m_many m_leastOf m_sizeOf m_own m_bestRow m_tryRow m_keptRow m_otherRow m_row m_formRow' m_allForms m_rowsOf m_intervals m_places m_whole)) (va_A (wX6 cI cJ ad m_code m_n m_built m_length m_begin m_many m_leastOf m_sizeOf m_own m_bestRow m_tryRow m_keptRow m_otherRow m_row m_formRow m_allForms m_rowsOf m_intervals m_places m_whole) sz)) args s 0 0 A) (F0 m 2 ls [])) ?_ FU _ h H locs ls hP hD hS hl
    intro Q2 hi2 ho2 z h H locs ls hP hD hS hl
    obtain ⟨m_formRowk, v3⟩ := z
    have h : Ho (X6_layForm_2_s m_n m_row x1 x2 m_formRowk v3) Q2 := h
    unfold X6_layForm_2_s at h
    have hl : lv_has ls 6 [(0, .ref (ad 0)), (1, .int x1), (2, .int x2), (3, .int v3)] := hl
    have hP : va_P (dC, dI) vwCl (wX6 cI cJ ad m_code m_n m_built m_length m_begin m_many m_leastOf m_sizeOf m_own m_bestRow m_tryRow m_keptRow m_otherRow m_row m_formRowk m_allForms m_rowsOf m_intervals m_places m_whole) H := hP
    have hD : va_D A (wX6 cI cJ ad m_code m_n m_built m_length m_begin m_many m_leastOf m_sizeOf m_own m_bestRow m_tryRow m_keptRow m_otherRow m_row m_formRowk m_allForms m_rowsOf m_intervals m_places m_whole) := hD
    have J82 : ∀ (m_formRowk : Nat → Int32) (v3 : Int32) (t1 : Int32) (t2 : Int32) (H : Heap) (locs : List Loc) (ls : Array Slot), va_P (dC, dI) vwCl (wX6 cI cJ ad m_code m_n m_built m_length m_begin m_many m_leastOf m_sizeOf m_own m_bestRow m_tryRow m_keptRow m_otherRow m_row m_formRowk m_allForms m_rowsOf m_intervals m_places m_whole) H → va_D A (wX6 cI cJ ad m_code m_n m_built m_length m_begin m_many m_leastOf m_sizeOf m_own m_bestRow m_tryRow m_keptRow m_otherRow m_row m_formRowk m_allForms m_rowsOf m_intervals m_places m_whole) → va_S A s.heap H locs → lv_has ls 6 [(0, .ref (ad 0)), (1, .int x1), (2, .int x2), (3, .int v3)] → Ho (X6_layForm_82 m_n m_formRowk v3 t1 t2) Q2 → W p l e rmX6_layForm s m args below meth c H locs 0 0 (MQ below (va_Qv (fun _ : Unit => True) (fun _ t => va_P (dC, dI) vwCl (wX6 cI cJ ad m_code m_n m_built m_length m_begin m_many m_leastOf m_sizeOf m_own m_bestRow m_tryRow m_keptRow m_otherRow m_row m_formRow' m_allForms m_rowsOf m_intervals m_places m_whole) t.heap ∧ vK (dC, dI) [(cI, .int), (cJ, .long)] t ∧ va_D (va_A (wX6 cI cJ ad m_code m_n m_built m_length m_begin m_many m_leastOf m_sizeOf m_own m_bestRow m_tryRow m_keptRow m_otherRow m_row m_formRow m_allForms m_rowsOf m_intervals m_places m_whole) sz) (wX6 cI cJ ad m_code m_n m_built m_length m_begin m_many m_leastOf m_sizeOf m_own m_bestRow m_tryRow m_keptRow m_otherRow m_row m_formRow' m_allForms m_rowsOf m_intervals m_places m_whole)) (va_A (wX6 cI cJ ad m_code m_n m_built m_length m_begin m_many m_leastOf m_sizeOf m_own m_bestRow m_tryRow m_keptRow m_otherRow m_row m_formRow m_allForms m_rowsOf m_intervals m_places m_whole) sz)) args s 0 0 A) (F0 m 82 ls [.int t2, .int t1, .ref (ad 9)]) := by
      intro m_formRowk v3 t1 t2 H locs ls hP hD hS hl h
      unfold X6_layForm_82 at h
      refine lv_aload_n hx hb dX6_layForm_82 rfl (lv_at hl 0 rfl) ?_
      refine va_get (D := (dC, dI)) (ci := 6) (v := .int m_n) (C := RX6) (T := TX6) (N := 20) hx hb hts hiX6 hown hK.1 hP 0 rfl rfl 1 (by decide) hf7 (fun _ h9 => h9) rfl dX6_layForm_83 ?_
      obtain ⟨hz86, h⟩ := Ho_nz h
      refine lv_irem hx hb dX6_layForm_86 hz86 ?_
      obtain ⟨hz87, h⟩ := Ho_ix h
      refine va_iast hx hb hK.1 hP hD hS 9 0 rfl rfl hz87 dX6_layForm_87 (fun H locs hP hD hS => ?_)
      have hP : va_P (dC, dI) vwCl (wX6 cI cJ ad m_code m_n m_built m_length m_begin m_many m_leastOf m_sizeOf m_own m_bestRow m_tryRow m_keptRow m_otherRow m_row (upd m_formRowk t1.toNatClampNeg (t2 - t2 / m_n * m_n)) m_allForms m_rowsOf m_intervals m_places m_whole) H := hP
      have hD : va_D A (wX6 cI cJ ad m_code m_n m_built m_length m_begin m_many m_leastOf m_sizeOf m_own m_bestRow m_tryRow m_keptRow m_otherRow m_row (upd m_formRowk t1.toNatClampNeg (t2 - t2 / m_n * m_n)) m_allForms m_rowsOf m_intervals m_places m_whole) := hD
      refine lv_iinc (v := v3 + 1) (lv' := [(3, .int (v3 + 1)), (0, .ref (ad 0)), (1, .int x1), (2, .int x2)]) hx hb dX6_layForm_88 hl (k := 3) rfl rfl (by decide) rfl (fun ls hl => ?_)
      refine lv_goto (tgt := 2) hx hb dX6_layForm_91 (by decide) ?_
      exact hi2 _ (Ho_s h) _ _ ls hP hD hS (lv_sub hl [1, 2, 3, 0] rfl)
    have J27 : ∀ (m_formRowk : Nat → Int32) (v3 : Int32) (t0 : Int32) (H : Heap) (locs : List Loc) (ls : Array Slot), va_P (dC, dI) vwCl (wX6 cI cJ ad m_code m_n m_built m_length m_begin m_many m_leastOf m_sizeOf m_own m_bestRow m_tryRow m_keptRow m_otherRow m_row m_formRowk m_allForms m_rowsOf m_intervals m_places m_whole) H → va_D A (wX6 cI cJ ad m_code m_n m_built m_length m_begin m_many m_leastOf m_sizeOf m_own m_bestRow m_tryRow m_keptRow m_otherRow m_row m_formRowk m_allForms m_rowsOf m_intervals m_places m_whole) → va_S A s.heap H locs → lv_has ls 6 [(0, .ref (ad 0)), (1, .int x1), (2, .int x2), (3, .int v3)] → Ho (X6_layForm_27 m_n m_row x1 x2 m_formRowk v3 t0) Q2 → W p l e rmX6_layForm s m args below meth c H locs 0 0 (MQ below (va_Qv (fun _ : Unit => True) (fun _ t => va_P (dC, dI) vwCl (wX6 cI cJ ad m_code m_n m_built m_length m_begin m_many m_leastOf m_sizeOf m_own m_bestRow m_tryRow m_keptRow m_otherRow m_row m_formRow' m_allForms m_rowsOf m_intervals m_places m_whole) t.heap ∧ vK (dC, dI) [(cI, .int), (cJ, .long)] t ∧ va_D (va_A (wX6 cI cJ ad m_code m_n m_built m_length m_begin m_many m_leastOf m_sizeOf m_own m_bestRow m_tryRow m_keptRow m_otherRow m_row m_formRow m_allForms m_rowsOf m_intervals m_places m_whole) sz) (wX6 cI cJ ad m_code m_n m_built m_length m_begin m_many m_leastOf m_sizeOf m_own m_bestRow m_tryRow m_keptRow m_otherRow m_row m_formRow' m_allForms m_rowsOf m_intervals m_places m_whole)) (va_A (wX6 cI cJ ad m_code m_n m_built m_length m_begin m_many m_leastOf m_sizeOf m_own m_bestRow m_tryRow m_keptRow m_otherRow m_row m_formRow m_allForms m_rowsOf m_intervals m_places m_whole) sz)) args s 0 0 A) (F0 m 27 ls [.int t0]) := by
      intro m_formRowk v3 t0 H locs ls hP hD hS hl h
      unfold X6_layForm_27 at h
      refine lv_istore (lv' := [(4, .int t0), (0, .ref (ad 0)), (1, .int x1), (2, .int x2), (3, .int v3)]) hx hb dX6_layForm_27 hl (by decide) rfl (fun ls hl => ?_)
      refine lv_aload_n hx hb dX6_layForm_29 rfl (lv_at hl 1 rfl) ?_
      refine va_get (D := (dC, dI)) (ci := 6) (v := .ref (ad 8)) (C := RX6) (T := TX6) (N := 20) hx hb hts hiX6 hown hK.1 hP 0 rfl rfl 13 (by decide) hf35 (fun _ h9 => h9) rfl dX6_layForm_30 ?_
      refine lv_iload hx hb dX6_layForm_33 (lv_at hl 0 rfl) ?_
      obtain ⟨hz35, h⟩ := Ho_ix h
      refine va_iald hx hb hK.1 hP 8 0 rfl rfl hz35 dX6_layForm_35 ?_
      refine lv_aload_n hx hb dX6_layForm_36 rfl (lv_at hl 1 rfl) ?_
      refine va_get (D := (dC, dI)) (ci := 6) (v := .ref (ad 8)) (C := RX6) (T := TX6) (N := 20) hx hb hts hiX6 hown hK.1 hP 0 rfl rfl 13 (by decide) hf35 (fun _ h9 => h9) rfl dX6_layForm_37 ?_
      refine lv_iconst (v := (0 : Int32)) hx hb dX6_layForm_40 (by decide) ?_
      refine va_iald hx hb hK.1 hP 8 0 rfl rfl (vp_in_lit (by decide) (by decide)) dX6_layForm_41 ?_
      refine lv_isub hx hb dX6_layForm_42 ?_
      refine lv_aload_n hx hb dX6_layForm_43 rfl (lv_at hl 1 rfl) ?_
      refine va_get (D := (dC, dI)) (ci := 6) (v := .int m_n) (C := RX6) (T := TX6) (N := 20) hx hb hts hiX6 hown hK.1 hP 0 rfl rfl 1 (by decide) hf7 (fun _ h9 => h9) rfl dX6_layForm_44 ?_
      refine lv_iadd hx hb dX6_layForm_47 ?_
      refine lv_aload_n hx hb dX6_layForm_48 rfl (lv_at hl 1 rfl) ?_
      refine va_get (D := (dC, dI)) (ci := 6) (v := .int m_n) (C := RX6) (T := TX6) (N := 20) hx hb hts hiX6 hown hK.1 hP 0 rfl rfl 1 (by decide) hf7 (fun _ h9 => h9) rfl dX6_layForm_49 ?_
      obtain ⟨hz52, h⟩ := Ho_nz h
      refine lv_irem hx hb dX6_layForm_52 hz52 ?_
      refine lv_istore (lv' := [(5, .int ((((m_row t0.toNatClampNeg) - (m_row (0 : Int32).toNatClampNeg)) + m_n) - (((m_row t0.toNatClampNeg) - (m_row (0 : Int32).toNatClampNeg)) + m_n) / m_n * m_n)), (4, .int t0), (0, .ref (ad 0)), (1, .int x1), (2, .int x2), (3, .int v3)]) hx hb dX6_layForm_53 hl (by decide) rfl (fun ls hl => ?_)
      refine lv_aload_n hx hb dX6_layForm_55 rfl (lv_at hl 2 rfl) ?_
      refine va_get (D := (dC, dI)) (ci := 6) (v := .ref (ad 9)) (C := RX6) (T := TX6) (N := 20) hx hb hts hiX6 hown hK.1 hP 0 rfl rfl 14 (by decide) hf38 (fun _ h9 => h9) rfl dX6_layForm_56 ?_
      refine lv_iload_n hx hb dX6_layForm_59 rfl (lv_at hl 5 rfl) ?_
      refine lv_iload_n hx hb dX6_layForm_60 rfl (lv_at hl 3 rfl) ?_
      refine lv_iconst (v := (2 : Int32)) hx hb dX6_layForm_61 (by decide) ?_
      refine lv_irem hx hb dX6_layForm_62 (by decide) ?_
      refine lv_if_ne (tgt := 73) hx hb dX6_layForm_63 (by decide) (fun q63 => ?_) (fun q63 => ?_)
      · have h := Ho_f h q63
        refine lv_iload_n hx hb dX6_layForm_73 rfl (lv_at hl 4 rfl) ?_
        refine lv_aload_n hx hb dX6_layForm_74 rfl (lv_at hl 2 rfl) ?_
        refine va_get (D := (dC, dI)) (ci := 6) (v := .int m_n) (C := RX6) (T := TX6) (N := 20) hx hb hts hiX6 hown hK.1 hP 0 rfl rfl 1 (by decide) hf7 (fun _ h9 => h9) rfl dX6_layForm_75 ?_
        refine lv_iadd hx hb dX6_layForm_78 ?_
        refine lv_iload hx hb dX6_layForm_79 (lv_at hl 0 rfl) ?_
        refine lv_isub hx hb dX6_layForm_81 ?_
        exact J82 m_formRowk v3 v3 ((x2 + m_n) - ((((m_row t0.toNatClampNeg) - (m_row (0 : Int32).toNatClampNeg)) + m_n) - (((m_row t0.toNatClampNeg) - (m_row (0 : Int32).toNatClampNeg)) + m_n) / m_n * m_n)) _ _ ls hP hD hS (lv_sub hl [2, 3, 4, 5] rfl) h
      · have h := Ho_t h q63
        refine lv_iload_n hx hb dX6_layForm_66 rfl (lv_at hl 4 rfl) ?_
        refine lv_iload hx hb dX6_layForm_67 (lv_at hl 0 rfl) ?_
        refine lv_iadd hx hb dX6_layForm_69 ?_
        refine lv_goto (tgt := 82) hx hb dX6_layForm_70 (by decide) ?_
        exact J82 m_formRowk v3 v3 (x2 + ((((m_row t0.toNatClampNeg) - (m_row (0 : Int32).toNatClampNeg)) + m_n) - (((m_row t0.toNatClampNeg) - (m_row (0 : Int32).toNatClampNeg)) + m_n) / m_n * m_n)) _ _ ls hP hD hS (lv_sub hl [2, 3, 4, 5] rfl) h
    refine lv_iload_n hx hb dX6_layForm_2 rfl (lv_at hl 3 rfl) ?_
    refine lv_aload_n hx hb dX6_layForm_3 rfl (lv_at hl 0 rfl) ?_
    refine va_get (D := (dC, dI)) (ci := 6) (v := .int m_n) (C := RX6) (T := TX6) (N := 20) hx hb hts hiX6 hown hK.1 hP 0 rfl rfl 1 (by decide) hf7 (fun _ h9 => h9) rfl dX6_layForm_4 ?_
    refine lv_icmp_ge (tgt := 94) hx hb dX6_layForm_7 (by decide) (fun q7 => ?_) (fun q7 => ?_)
    · have h := Ho_t h q7
      have h := ho2 _ (Ho_s h)
      exact J94 m_formRowk _ _ ls hP hD hS (lv_sub hl [] rfl) h
    · have h := Ho_f h q7
      refine lv_iload_n hx hb dX6_layForm_10 rfl (lv_at hl 1 rfl) ?_
      refine lv_iconst (v := (2 : Int32)) hx hb dX6_layForm_11 (by decide) ?_
      refine lv_icmp_ge (tgt := 19) hx hb dX6_layForm_12 (by decide) (fun q12 => ?_) (fun q12 => ?_)
      · have h := Ho_t h q12
        refine lv_aload_n hx hb dX6_layForm_19 rfl (lv_at hl 0 rfl) ?_
        refine va_get (D := (dC, dI)) (ci := 6) (v := .int m_n) (C := RX6) (T := TX6) (N := 20) hx hb hts hiX6 hown hK.1 hP 0 rfl rfl 1 (by decide) hf7 (fun _ h9 => h9) rfl dX6_layForm_20 ?_
        refine lv_iconst (v := (1 : Int32)) hx hb dX6_layForm_23 (by decide) ?_
        refine lv_isub hx hb dX6_layForm_24 ?_
        refine lv_iload_n hx hb dX6_layForm_25 rfl (lv_at hl 3 rfl) ?_
        refine lv_isub hx hb dX6_layForm_26 ?_
        exact J27 m_formRowk v3 ((m_n - (1 : Int32)) - v3) _ _ ls hP hD hS (lv_sub hl [0, 1, 2, 3] rfl) h
      · have h := Ho_f h q12
        refine lv_iload_n hx hb dX6_layForm_15 rfl (lv_at hl 3 rfl) ?_
        refine lv_goto (tgt := 27) hx hb dX6_layForm_16 (by decide) ?_
        exact J27 m_formRowk v3 v3 _ _ ls hP hD hS (lv_sub hl [0, 1, 2, 3] rfl) h
  refine lv_iconst (v := (0 : Int32)) hx hb dX6_layForm_0 (by decide) ?_
  refine lv_istore_n (lv' := [(3, .int (0 : Int32)), (0, .ref (ad 0)), (1, .int x1), (2, .int x2)]) hx hb dX6_layForm_1 rfl hl (by decide) rfl (fun ls hl => ?_)
  exact J2 m_formRow (0 : Int32) _ _ ls hP hD hS (lv_sub hl [1, 2, 3, 0] rfl) h
abbrev rmX6_form : Room := { frames := 1, cells := 0, slots := 0, locals := 25 }
set_option maxHeartbeats 4000000 in
set_option maxRecDepth 100000 in
theorem c_X6_form (l : Launch) (dC : Nat → ClassId) (dI : Nat → Nat → Nat) (cI cJ : ClassId) (ad : Nat → Nat) (sz : Nat) (m_code : Int32) (m_n : Int32) (m_built : Int32) (m_length : Int32) (m_begin : Int32) (m_many : Int32) (m_leastOf : Nat → Int32) (m_sizeOf : Nat → Int32) (m_own : Nat → Int32) (m_bestRow : Nat → Int32) (m_tryRow : Nat → Int32) (m_keptRow : Nat → Int32) (m_otherRow : Nat → Int32) (m_row : Nat → Int32) (m_formRow : Nat → Int32) (m_allForms : Nat → Int32) (m_rowsOf : Nat → Int32) (m_intervals : Nat → Int32) (m_places : Nat → Int32) (m_whole : Nat → Int64) (x1 : Int32) (x2 : Int32) (x3 : Int32) (r : Int32) (m_code' : Int32) (m_formRow' : Nat → Int32) (hF : FX6_form m_code m_n m_many m_row m_formRow x1 x2 x3 = some (r, m_code', m_formRow')) : Met l yX6_form wsX6_form rmX6_form (rwP (dC, dI) [(cI, .int), (cJ, .long)] sz (wX6 cI cJ ad m_code m_n m_built m_length m_begin m_many m_leastOf m_sizeOf m_own m_bestRow m_tryRow m_keptRow m_otherRow m_row m_formRow m_allForms m_rowsOf m_intervals m_places m_whole) [.ref (ad 0), .int x1, .int x2, .int x3]) (va_Qi (fun (x : Int32) (_ : Unit) => x = r) (fun _ t => va_P (dC, dI) vwCl (wX6 cI cJ ad m_code' m_n m_built m_length m_begin m_many m_leastOf m_sizeOf m_own m_bestRow m_tryRow m_keptRow m_otherRow m_row m_formRow' m_allForms m_rowsOf m_intervals m_places m_whole) t.heap ∧ vK (dC, dI) [(cI, .int), (cJ, .long)] t ∧ va_D (va_A (wX6 cI cJ ad m_code m_n m_built m_length m_begin m_many m_leastOf m_sizeOf m_own m_bestRow m_tryRow m_keptRow m_otherRow m_row m_formRow m_allForms m_rowsOf m_intervals m_places m_whole) sz) (wX6 cI cJ ad m_code' m_n m_built m_length m_begin m_many m_leastOf m_sizeOf m_own m_bestRow m_tryRow m_keptRow m_otherRow m_row m_formRow' m_allForms m_rowsOf m_intervals m_places m_whole)) (va_A (wX6 cI cJ ad m_code m_n m_built m_length m_begin m_many m_leastOf m_sizeOf m_own m_bestRow m_tryRow m_keptRow m_otherRow m_row m_formRow m_allForms m_rowsOf m_intervals m_places m_whole) sz)) 0 0 (va_A (wX6 cI cJ ad m_code m_n m_built m_length m_begin m_many m_leastOf m_sizeOf m_own m_bestRow m_tryRow m_keptRow m_otherRow m_row m_formRow m_allForms m_rowsOf m_intervals m_places m_whole) sz) := by
  refine rw_start (cc := cX6_form) (maxL := 4) (ret := (some .int)) (by decide) rfl (Nat.le_of_ble_eq_true rfl) ?_
  intro p e s m args below meth c ls A H locs hx hb hml hr hlk hown hts hsz hP hK hD hA hS hAe hl
  have hown : s.vm.findClass RX6 = some m.cls := hown
  have hl : lv_has ls 4 [(0, .ref (ad 0)), (1, .int x1), (2, .int x2), (3, .int x3)] := hl
  have h : Ho (FX6_form m_code m_n m_many m_row m_formRow x1 x2 x3) (fun x => x = (r, m_code', m_formRow')) := ⟨_, hF, rfl⟩
  unfold FX6_form at h
  have QI : ∀ {v0 : Int32} {m_code9 : Int32} {m_formRow9 : Nat → Int32} {t : State}, (v0, m_code9, m_formRow9) = (r, m_code', m_formRow') → va_P (dC, dI) vwCl (wX6 cI cJ ad m_code9 m_n m_built m_length m_begin m_many m_leastOf m_sizeOf m_own m_bestRow m_tryRow m_keptRow m_otherRow m_row m_formRow9 m_allForms m_rowsOf m_intervals m_places m_whole) t.heap → vK (dC, dI) [(cI, .int), (cJ, .long)] t → va_D A (wX6 cI cJ ad m_code9 m_n m_built m_length m_begin m_many m_leastOf m_sizeOf m_own m_bestRow m_tryRow m_keptRow m_otherRow m_row m_formRow9 m_allForms m_rowsOf m_intervals m_places m_whole) → va_F A s t → (va_Qi (fun (x : Int32) (_ : Unit) => x = r) (fun _ t => va_P (dC, dI) vwCl (wX6 cI cJ ad m_code' m_n m_built m_length m_begin m_many m_leastOf m_sizeOf m_own m_bestRow m_tryRow m_keptRow m_otherRow m_row m_formRow' m_allForms m_rowsOf m_intervals m_places m_whole) t.heap ∧ vK (dC, dI) [(cI, .int), (cJ, .long)] t ∧ va_D (va_A (wX6 cI cJ ad m_code m_n m_built m_length m_begin m_many m_leastOf m_sizeOf m_own m_bestRow m_tryRow m_keptRow m_otherRow m_row m_formRow m_allForms m_rowsOf m_intervals m_places m_whole) sz) (wX6 cI cJ ad m_code' m_n m_built m_length m_begin m_many m_leastOf m_sizeOf m_own m_bestRow m_tryRow m_keptRow m_otherRow m_row m_formRow' m_allForms m_rowsOf m_intervals m_places m_whole)) (va_A (wX6 cI cJ ad m_code m_n m_built m_length m_begin m_many m_leastOf m_sizeOf m_own m_bestRow m_tryRow m_keptRow m_otherRow m_row m_formRow m_allForms m_rowsOf m_intervals m_places m_whole) sz)) args s (.returned (some (.int v0))) t := by
    intro v0 m_code9 m_formRow9 t e9 q1 q2 q3 q4
    cases e9
    subst hAe
    exact ⟨⟨_, (), rfl, rfl, q1, q2, q3⟩, q4⟩
  have hfix : CallFix p m c cX6_form 4 s args wsX6_form RX6 := ⟨hx, hb, hml, hown, hts⟩
  have hiX6 : ∀ w ∈ u_ws RX6 TX6 20, w ∈ wsX6_form := by decide +kernel
  have hf7 := hts (.fieldLink RX6 7 "RowClassesModel" "n" "I") (by decide +kernel)
  have hf38 := hts (.fieldLink RX6 38 "RowClassesModel" "formRow" "[I") (by decide +kernel)
  have hf57 := hts (.fieldLink RX6 57 "RowClassesModel" "code" "I") (by decide +kernel)
  have hf60 := hts (.fieldLink RX6 60 "RowClassesModel" "many" "I") (by decide +kernel)
  refine lv_aload_n hx hb dX6_form_0 rfl (lv_at hl 0 rfl) ?_
  refine lv_iconst (v := (0 : Int32)) hx hb dX6_form_1 (by decide) ?_
  refine va_put (D := (dC, dI)) (ci := 6) (v := .int (0 : Int32)) (ty := .int) (C := RX6) (T := TX6) (N := 20) hx hb hts hiX6 tyX6 tyX6_ok nmX6 hown hK.1 hP hD hS 0 rfl rfl 0 (by decide) hf57 (fun _ h9 => h9) rfl (by decide +kernel) rfl rfl (Nat.le_of_ble_eq_true rfl) dX6_form_2 (fun H locs hP hD hS => ?_)
  have hP : va_P (dC, dI) vwCl (wX6 cI cJ ad (0 : Int32) m_n m_built m_length m_begin m_many m_leastOf m_sizeOf m_own m_bestRow m_tryRow m_keptRow m_otherRow m_row m_formRow m_allForms m_rowsOf m_intervals m_places m_whole) H := hP
  have hD : va_D A (wX6 cI cJ ad (0 : Int32) m_n m_built m_length m_begin m_many m_leastOf m_sizeOf m_own m_bestRow m_tryRow m_keptRow m_otherRow m_row m_formRow m_allForms m_rowsOf m_intervals m_places m_whole) := hD
  refine lv_iload_n hx hb dX6_form_5 rfl (lv_at hl 1 rfl) ?_
  refine lv_iconst (v := (0 : Int32)) hx hb dX6_form_6 (by decide) ?_
  refine lv_iconst (v := (3 : Int32)) hx hb dX6_form_7 (by decide) ?_
  obtain ⟨r8, hc8, h⟩ := Ho_b h
  refine cs_i (va_runS (As := [.int x1, .int (0 : Int32), .int (3 : Int32)]) (rest := []) hfix (c_X6_isIn l dC dI cI cJ  x1 (0 : Int32) (3 : Int32) _ hc8) (va_cwS 3 hts gX6_form_X6_isIn rfl rfl rfl (by decide +kernel) ⟨by decide, by decide⟩) (roP.preS hK va_Pnil) rfl rfl hl.1 rfl (lv_room (Nat.le_of_ble_eq_true rfl)) dX6_form_8 ⟨Nat.zero_le _, Nat.zero_le _⟩) ?_
  refine lv_if_eq (tgt := 22) hx hb dX6_form_11 (by decide) (fun q11 => ?_) (fun q11 => ?_)
  · have h := Ho_t h q11
    refine lv_bipush (v := (-2 : Int32)) hx hb dX6_form_22 (by decide) ?_
    exact W.iret hx hb hr (fun t ht hW => QI (Ho_e h) (by rw [ht]; exact hP) (hK.warm hW) hD (hS.F ht)) hS.2.2 dX6_form_24 hlk
  · have h := Ho_f h q11
    refine lv_aload_n hx hb dX6_form_14 rfl (lv_at hl 0 rfl) ?_
    refine lv_iload_n hx hb dX6_form_15 rfl (lv_at hl 2 rfl) ?_
    obtain ⟨r16, hc16, h⟩ := Ho_b h
    have hPc : va_P (dC, dI) vwCl (wX6 cI cJ ad (0 : Int32) m_n m_built m_length m_begin m_many m_leastOf m_sizeOf m_own m_bestRow m_tryRow m_keptRow m_otherRow m_row m_formRow m_allForms m_rowsOf m_intervals m_places m_whole) H := hP.sub [0, 1, 2, 3, 4, 5, 6, 7, 8, 9, 10, 11, 12, 13, 14] rfl
    refine cs_i (va_runV (As := [.int x2]) (rest := []) hfix (c_X6_isStep l dC dI cI cJ ad (0 : Int32) m_n m_built m_length m_begin m_many m_leastOf m_sizeOf m_own m_bestRow m_tryRow m_keptRow m_otherRow m_row m_formRow m_allForms m_rowsOf m_intervals m_places m_whole x2 _ hc16) (cwV 1 hts gX6_form_X6_isStep rfl rfl rfl (by decide +kernel) ⟨by decide, by decide⟩) (roP.preV hK hPc (ci := 6) rfl rfl) rfl rfl hl.1 rfl (lv_room (Nat.le_of_ble_eq_true rfl)) dX6_form_16 ⟨Nat.zero_le _, Nat.zero_le _⟩) ?_
    refine lv_if_ne (tgt := 25) hx hb dX6_form_19 (by decide) (fun q19 => ?_) (fun q19 => ?_)
    · have h := Ho_f h q19
      refine lv_aload_n hx hb dX6_form_25 rfl (lv_at hl 0 rfl) ?_
      refine va_get (D := (dC, dI)) (ci := 6) (v := .int m_many) (C := RX6) (T := TX6) (N := 20) hx hb hts hiX6 hown hK.1 hP 0 rfl rfl 12 (by decide) hf60 (fun _ h9 => h9) rfl dX6_form_26 ?_
      refine lv_aload_n hx hb dX6_form_29 rfl (lv_at hl 0 rfl) ?_
      refine va_get (D := (dC, dI)) (ci := 6) (v := .int m_n) (C := RX6) (T := TX6) (N := 20) hx hb hts hiX6 hown hK.1 hP 0 rfl rfl 1 (by decide) hf7 (fun _ h9 => h9) rfl dX6_form_30 ?_
      refine lv_icmp_ge (tgt := 39) hx hb dX6_form_33 (by decide) (fun q33 => ?_) (fun q33 => ?_)
      · have h := Ho_t h q33
        refine lv_aload_n hx hb dX6_form_39 rfl (lv_at hl 0 rfl) ?_
        refine lv_iload_n hx hb dX6_form_40 rfl (lv_at hl 3 rfl) ?_
        obtain ⟨r41, hc41, h⟩ := Ho_b h
        have hPc : va_P (dC, dI) vwCl (wX6 cI cJ ad (0 : Int32) m_n m_built m_length m_begin m_many m_leastOf m_sizeOf m_own m_bestRow m_tryRow m_keptRow m_otherRow m_row m_formRow m_allForms m_rowsOf m_intervals m_places m_whole) H := hP.sub [0, 1, 2, 3, 4, 5, 6, 7, 8, 9, 10, 11, 12, 13, 14] rfl
        refine cs_i (va_runV (As := [.int x3]) (rest := []) hfix (c_X6_isStep l dC dI cI cJ ad (0 : Int32) m_n m_built m_length m_begin m_many m_leastOf m_sizeOf m_own m_bestRow m_tryRow m_keptRow m_otherRow m_row m_formRow m_allForms m_rowsOf m_intervals m_places m_whole x3 _ hc41) (cwV 1 hts gX6_form_X6_isStep rfl rfl rfl (by decide +kernel) ⟨by decide, by decide⟩) (roP.preV hK hPc (ci := 6) rfl rfl) rfl rfl hl.1 rfl (lv_room (Nat.le_of_ble_eq_true rfl)) dX6_form_41 ⟨Nat.zero_le _, Nat.zero_le _⟩) ?_
        refine lv_if_ne (tgt := 49) hx hb dX6_form_44 (by decide) (fun q44 => ?_) (fun q44 => ?_)
        · have h := Ho_f h q44
          refine lv_aload_n hx hb dX6_form_49 rfl (lv_at hl 0 rfl) ?_
          refine lv_iload_n hx hb dX6_form_50 rfl (lv_at hl 1 rfl) ?_
          refine lv_iload_n hx hb dX6_form_51 rfl (lv_at hl 2 rfl) ?_
          obtain ⟨m_formRow_52, hc52, h⟩ := Ho_b h
          have hPc : va_P (dC, dI) vwCl (wX6 cI cJ ad (0 : Int32) m_n m_built m_length m_begin m_many m_leastOf m_sizeOf m_own m_bestRow m_tryRow m_keptRow m_otherRow m_row m_formRow m_allForms m_rowsOf m_intervals m_places m_whole) H := hP.sub [0, 1, 2, 3, 4, 5, 6, 7, 8, 9, 10, 11, 12, 13, 14] rfl
          have hDc : va_D A (wX6 cI cJ ad (0 : Int32) m_n m_built m_length m_begin m_many m_leastOf m_sizeOf m_own m_bestRow m_tryRow m_keptRow m_otherRow m_row m_formRow m_allForms m_rowsOf m_intervals m_places m_whole) := hD.sub [0, 1, 2, 3, 4, 5, 6, 7, 8, 9, 10, 11, 12, 13, 14] (by decide) rfl
          have hFc := va_free (wc := (wX6 cI cJ ad (0 : Int32) m_n m_built m_length m_begin m_many m_leastOf m_sizeOf m_own m_bestRow m_tryRow m_keptRow m_otherRow m_row m_formRow m_allForms m_rowsOf m_intervals m_places m_whole)) hD hS hA [0, 1, 2, 3, 4, 5, 6, 7, 8, 9, 10, 11, 12, 13, 14] rfl
          refine va_callv (va_runV (As := [.int x1, .int x2]) (rest := []) hfix (c_X6_layForm l dC dI cI cJ ad H.size (0 : Int32) m_n m_built m_length m_begin m_many m_leastOf m_sizeOf m_own m_bestRow m_tryRow m_keptRow m_otherRow m_row m_formRow m_allForms m_rowsOf m_intervals m_places m_whole x1 x2 _ hc52) (cwV 2 hts gX6_form_X6_layForm rfl rfl rfl (by decide +kernel) ⟨by decide, by decide⟩) (rwP.preV hK hPc hDc rfl (ci := 6) rfl rfl) rfl rfl hl.1 rfl (lv_room (Nat.le_of_ble_eq_true rfl)) dX6_form_52 ⟨Nat.zero_le _, Nat.zero_le _⟩) hS (fun q _ h => hFc q h) hFc (fun u t H1 locs ht hvm hw hB hz1 hk1 hS => ?_)
          obtain ⟨hP1, -, hD1⟩ := hB
          rw [ht] at hP1
          obtain ⟨hP, hD⟩ := va_join (wr := []) (w1 := (wX6 cI cJ ad (0 : Int32) m_n m_built m_length m_begin m_many m_leastOf m_sizeOf m_own m_bestRow m_tryRow m_keptRow m_otherRow m_row m_formRow_52 m_allForms m_rowsOf m_intervals m_places m_whole)) hP hD [0, 1, 2, 3, 4, 5, 6, 7, 8, 9, 10, 11, 12, 13, 14] [] rfl rfl (by decide) (by decide) hk1 hFc hP1 hD1
          generalize H1 = H at hP hS ⊢
          have hP : va_P (dC, dI) vwCl (wX6 cI cJ ad (0 : Int32) m_n m_built m_length m_begin m_many m_leastOf m_sizeOf m_own m_bestRow m_tryRow m_keptRow m_otherRow m_row m_formRow_52 m_allForms m_rowsOf m_intervals m_places m_whole) H := hP.sub [0, 1, 2, 3, 4, 5, 6, 7, 8, 9, 10, 11, 12, 13, 14] rfl
          have hD : va_D A (wX6 cI cJ ad (0 : Int32) m_n m_built m_length m_begin m_many m_leastOf m_sizeOf m_own m_bestRow m_tryRow m_keptRow m_otherRow m_row m_formRow_52 m_allForms m_rowsOf m_intervals m_places m_whole) := hD.sub [0, 1, 2, 3, 4, 5, 6, 7, 8, 9, 10, 11, 12, 13, 14] (by decide) rfl
          refine lv_aload_n hx hb dX6_form_55 rfl (lv_at hl 0 rfl) ?_
          refine va_get (D := (dC, dI)) (ci := 6) (v := .ref (ad 9)) (C := RX6) (T := TX6) (N := 20) hx hb hts hiX6 hown hK.1 hP 0 rfl rfl 14 (by decide) hf38 (fun _ h9 => h9) rfl dX6_form_56 ?_
          refine lv_iload_n hx hb dX6_form_59 rfl (lv_at hl 3 rfl) ?_
          obtain ⟨hz60, h⟩ := Ho_ix h
          refine va_iald hx hb hK.1 hP 9 0 rfl rfl hz60 dX6_form_60 ?_
          exact W.iret hx hb hr (fun t ht hW => QI (Ho_e h) (by rw [ht]; exact hP) (hK.warm hW) hD (hS.F ht)) hS.2.2 dX6_form_61 hlk
        · have h := Ho_t h q44
          refine lv_iconst (v := (-1 : Int32)) hx hb dX6_form_47 (by decide) ?_
          exact W.iret hx hb hr (fun t ht hW => QI (Ho_e h) (by rw [ht]; exact hP) (hK.warm hW) hD (hS.F ht)) hS.2.2 dX6_form_48 hlk
      · have h := Ho_f h q33
        refine lv_bipush (v := (-3 : Int32)) hx hb dX6_form_36 (by decide) ?_
        exact W.iret hx hb hr (fun t ht hW => QI (Ho_e h) (by rw [ht]; exact hP) (hK.warm hW) hD (hS.F ht)) hS.2.2 dX6_form_38 hlk
    · have h := Ho_t h q19
      refine lv_bipush (v := (-2 : Int32)) hx hb dX6_form_22 (by decide) ?_
      exact W.iret hx hb hr (fun t ht hW => QI (Ho_e h) (by rw [ht]; exact hP) (hK.warm hW) hD (hS.F ht)) hS.2.2 dX6_form_24 hlk
abbrev rmX6_forms : Room := { frames := 1, cells := 0, slots := 0, locals := 25 }
set_option maxHeartbeats 4000000 in
set_option maxRecDepth 100000 in
theorem c_X6_forms (l : Launch) (dC : Nat → ClassId) (dI : Nat → Nat → Nat) (cI cJ : ClassId) (ad : Nat → Nat) (sz : Nat) (m_code : Int32) (m_n : Int32) (m_built : Int32) (m_length : Int32) (m_begin : Int32) (m_many : Int32) (m_leastOf : Nat → Int32) (m_sizeOf : Nat → Int32) (m_own : Nat → Int32) (m_bestRow : Nat → Int32) (m_tryRow : Nat → Int32) (m_keptRow : Nat → Int32) (m_otherRow : Nat → Int32) (m_row : Nat → Int32) (m_formRow : Nat → Int32) (m_allForms : Nat → Int32) (m_rowsOf : Nat → Int32) (m_intervals : Nat → Int32) (m_places : Nat → Int32) (m_whole : Nat → Int64) (r : Int32) (m_code' : Int32) (m_formRow' : Nat → Int32) (m_allForms' : Nat → Int32) (hF : FX6_forms m_code m_n m_many m_row m_formRow m_allForms = some (r, m_code', m_formRow', m_allForms')) : Met l yX6_forms wsX6_forms rmX6_forms (rwP (dC, dI) [(cI, .int), (cJ, .long)] sz (wX6 cI cJ ad m_code m_n m_built m_length m_begin m_many m_leastOf m_sizeOf m_own m_bestRow m_tryRow m_keptRow m_otherRow m_row m_formRow m_allForms m_rowsOf m_intervals m_places m_whole) [.ref (ad 0)]) (va_Qi (fun (x : Int32) (_ : Unit) => x = r) (fun _ t => va_P (dC, dI) vwCl (wX6 cI cJ ad m_code' m_n m_built m_length m_begin m_many m_leastOf m_sizeOf m_own m_bestRow m_tryRow m_keptRow m_otherRow m_row m_formRow' m_allForms' m_rowsOf m_intervals m_places m_whole) t.heap ∧ vK (dC, dI) [(cI, .int), (cJ, .long)] t ∧ va_D (va_A (wX6 cI cJ ad m_code m_n m_built m_length m_begin m_many m_leastOf m_sizeOf m_own m_bestRow m_tryRow m_keptRow m_otherRow m_row m_formRow m_allForms m_rowsOf m_intervals m_places m_whole) sz) (wX6 cI cJ ad m_code' m_n m_built m_length m_begin m_many m_leastOf m_sizeOf m_own m_bestRow m_tryRow m_keptRow m_otherRow m_row m_formRow' m_allForms' m_rowsOf m_intervals m_places m_whole)) (va_A (wX6 cI cJ ad m_code m_n m_built m_length m_begin m_many m_leastOf m_sizeOf m_own m_bestRow m_tryRow m_keptRow m_otherRow m_row m_formRow m_allForms m_rowsOf m_intervals m_places m_whole) sz)) 0 0 (va_A (wX6 cI cJ ad m_code m_n m_built m_length m_begin m_many m_leastOf m_sizeOf m_own m_bestRow m_tryRow m_keptRow m_otherRow m_row m_formRow m_allForms m_rowsOf m_intervals m_places m_whole) sz) := by
  refine rw_start (cc := cX6_forms) (maxL := 7) (ret := (some .int)) (by decide) rfl (Nat.le_of_ble_eq_true rfl) ?_
  intro p e s m args below meth c ls A H locs hx hb hml hr hlk hown hts hsz hP hK hD hA hS hAe hl
  have hown : s.vm.findClass RX6 = some m.cls := hown
  have hl : lv_has ls 7 [(0, .ref (ad 0))] := hl
  have h : Ho (FX6_forms m_code m_n m_many m_row m_formRow m_allForms) (fun x => x = (r, m_code', m_formRow', m_allForms')) := ⟨_, hF, rfl⟩
  unfold FX6_forms at h
  have QI : ∀ {v0 : Int32} {m_code9 : Int32} {m_formRow9 : Nat → Int32} {m_allForms9 : Nat → Int32} {t : State}, (v0, m_code9, m_formRow9, m_allForms9) = (r, m_code', m_formRow', m_allForms') → va_P (dC, dI) vwCl (wX6 cI cJ ad m_code9 m_n m_built m_length m_begin m_many m_leastOf m_sizeOf m_own m_bestRow m_tryRow m_keptRow m_otherRow m_row m_formRow9 m_allForms9 m_rowsOf m_intervals m_places m_whole) t.heap → vK (dC, dI) [(cI, .int), (cJ, .long)] t → va_D A (wX6 cI cJ ad m_code9 m_n m_built m_length m_begin m_many m_leastOf m_sizeOf m_own m_bestRow m_tryRow m_keptRow m_otherRow m_row m_formRow9 m_allForms9 m_rowsOf m_intervals m_places m_whole) → va_F A s t → (va_Qi (fun (x : Int32) (_ : Unit) => x = r) (fun _ t => va_P (dC, dI) vwCl (wX6 cI cJ ad m_code' m_n m_built m_length m_begin m_many m_leastOf m_sizeOf m_own m_bestRow m_tryRow m_keptRow m_otherRow m_row m_formRow' m_allForms' m_rowsOf m_intervals m_places m_whole) t.heap ∧ vK (dC, dI) [(cI, .int), (cJ, .long)] t ∧ va_D (va_A (wX6 cI cJ ad m_code m_n m_built m_length m_begin m_many m_leastOf m_sizeOf m_own m_bestRow m_tryRow m_keptRow m_otherRow m_row m_formRow m_allForms m_rowsOf m_intervals m_places m_whole) sz) (wX6 cI cJ ad m_code' m_n m_built m_length m_begin m_many m_leastOf m_sizeOf m_own m_bestRow m_tryRow m_keptRow m_otherRow m_row m_formRow' m_allForms' m_rowsOf m_intervals m_places m_whole)) (va_A (wX6 cI cJ ad m_code m_n m_built m_length m_begin m_many m_leastOf m_sizeOf m_own m_bestRow m_tryRow m_keptRow m_otherRow m_row m_formRow m_allForms m_rowsOf m_intervals m_places m_whole) sz)) args s (.returned (some (.int v0))) t := by
    intro v0 m_code9 m_formRow9 m_allForms9 t e9 q1 q2 q3 q4
    cases e9
    subst hAe
    exact ⟨⟨_, (), rfl, rfl, q1, q2, q3⟩, q4⟩
  have hfix : CallFix p m c cX6_forms 7 s args wsX6_forms RX6 := ⟨hx, hb, hml, hown, hts⟩
  have hiX6 : ∀ w ∈ u_ws RX6 TX6 20, w ∈ wsX6_forms := by decide +kernel
  have hf7 := hts (.fieldLink RX6 7 "RowClassesModel" "n" "I") (by decide +kernel)
  have hf38 := hts (.fieldLink RX6 38 "RowClassesModel" "formRow" "[I") (by decide +kernel)
  have hf41 := hts (.fieldLink RX6 41 "RowClassesModel" "allForms" "[I") (by decide +kernel)
  have hf57 := hts (.fieldLink RX6 57 "RowClassesModel" "code" "I") (by decide +kernel)
  have hf60 := hts (.fieldLink RX6 60 "RowClassesModel" "many" "I") (by decide +kernel)
  have J187 : ∀ (m_codek : Int32) (m_formRowk : Nat → Int32) (m_allFormsk : Nat → Int32) (v1 : Int32) (H : Heap) (locs : List Loc) (ls : Array Slot), va_P (dC, dI) vwCl (wX6 cI cJ ad m_codek m_n m_built m_length m_begin m_many m_leastOf m_sizeOf m_own m_bestRow m_tryRow m_keptRow m_otherRow m_row m_formRowk m_allFormsk m_rowsOf m_intervals m_places m_whole) H → va_D A (wX6 cI cJ ad m_codek m_n m_built m_length m_begin m_many m_leastOf m_sizeOf m_own m_bestRow m_tryRow m_keptRow m_otherRow m_row m_formRowk m_allFormsk m_rowsOf m_intervals m_places m_whole) → va_S A s.heap H locs → lv_has ls 7 [(1, .int v1)] → Ho (X6_forms_187 m_codek m_formRowk m_allFormsk v1) (fun x => x = (r, m_code', m_formRow', m_allForms')) → W p l e rmX6_forms s m args below meth c H locs 0 0 (MQ below (va_Qi (fun (x : Int32) (_ : Unit) => x = r) (fun _ t => va_P (dC, dI) vwCl (wX6 cI cJ ad m_code' m_n m_built m_length m_begin m_many m_leastOf m_sizeOf m_own m_bestRow m_tryRow m_keptRow m_otherRow m_row m_formRow' m_allForms' m_rowsOf m_intervals m_places m_whole) t.heap ∧ vK (dC, dI) [(cI, .int), (cJ, .long)] t ∧ va_D (va_A (wX6 cI cJ ad m_code m_n m_built m_length m_begin m_many m_leastOf m_sizeOf m_own m_bestRow m_tryRow m_keptRow m_otherRow m_row m_formRow m_allForms m_rowsOf m_intervals m_places m_whole) sz) (wX6 cI cJ ad m_code' m_n m_built m_length m_begin m_many m_leastOf m_sizeOf m_own m_bestRow m_tryRow m_keptRow m_otherRow m_row m_formRow' m_allForms' m_rowsOf m_intervals m_places m_whole)) (va_A (wX6 cI cJ ad m_code m_n m_built m_length m_begin m_many m_leastOf m_sizeOf m_own m_bestRow m_tryRow m_keptRow m_otherRow m_row m_formRow m_allForms m_rowsOf m_intervals m_places m_whole) sz)) args s 0 0 A) (F0 m 187 ls []) := by
    intro m_codek m_formRowk m_allFormsk v1 H locs ls hP hD hS hl h
    unfold X6_forms_187 at h
    refine lv_iload_n hx hb dX6_forms_187 rfl (lv_at hl 0 rfl) ?_
    exact W.iret hx hb hr (fun t ht hW => QI (Ho_e h) (by rw [ht]; exact hP) (hK.warm hW) hD (hS.F ht)) hS.2.2 dX6_forms_188 hlk
  have J23 : ∀ (m_codek : Int32) (m_formRowk : Nat → Int32) (m_allFormsk : Nat → Int32) (v1 : Int32) (v2 : Int32) (H : Heap) (locs : List Loc) (ls : Array Slot), va_P (dC, dI) vwCl (wX6 cI cJ ad m_codek m_n m_built m_length m_begin m_many m_leastOf m_sizeOf m_own m_bestRow m_tryRow m_keptRow m_otherRow m_row m_formRowk m_allFormsk m_rowsOf m_intervals m_places m_whole) H → va_D A (wX6 cI cJ ad m_codek m_n m_built m_length m_begin m_many m_leastOf m_sizeOf m_own m_bestRow m_tryRow m_keptRow m_otherRow m_row m_formRowk m_allFormsk m_rowsOf m_intervals m_places m_whole) → va_S A s.heap H locs → lv_has ls 7 [(0, .ref (ad 0)), (1, .int v1), (2, .int v2)] → Ho ((X6_forms_23_l m_n m_row m_codek m_formRowk m_allFormsk v1 v2).bind (fun ex => X6_forms_187 m_codek ex.1 ex.2.1 ex.2.2)) (fun x => x = (r, m_code', m_formRow', m_allForms')) → W p l e rmX6_forms s m args below meth c H locs 0 0 (MQ below (va_Qi (fun (x : Int32) (_ : Unit) => x = r) (fun _ t => va_P (dC, dI) vwCl (wX6 cI cJ ad m_code' m_n m_built m_length m_begin m_many m_leastOf m_sizeOf m_own m_bestRow m_tryRow m_keptRow m_otherRow m_row m_formRow' m_allForms' m_rowsOf m_intervals m_places m_whole) t.heap ∧ vK (dC, dI) [(cI, .int), (cJ, .long)] t ∧ va_D (va_A (wX6 cI cJ ad m_code m_n m_built m_length m_begin m_many m_leastOf m_sizeOf m_own m_bestRow m_tryRow m_keptRow m_otherRow m_row m_formRow m_allForms m_rowsOf m_intervals m_places m_whole) sz) (wX6 cI cJ ad m_code' m_n m_built m_length m_begin m_many m_leastOf m_sizeOf m_own m_bestRow m_tryRow m_keptRow m_otherRow m_row m_formRow' m_allForms' m_rowsOf m_intervals m_places m_whole)) (va_A (wX6 cI cJ ad m_code m_n m_built m_length m_begin m_many m_leastOf m_sizeOf m_own m_bestRow m_tryRow m_keptRow m_otherRow m_row m_formRow m_allForms m_rowsOf m_intervals m_places m_whole) sz)) args s 0 0 A) (F0 m 23 ls []) := by
    intro m_codek m_formRowk m_allFormsk v1 v2 H locs ls hP hD hS hl h
    refine loop_use2 (fun z : (Nat → Int32) × (Nat → Int32) × Int32 × Int32 => ∀ (H : Heap) (locs : List Loc) (ls : Array Slot), va_P (dC, dI) vwCl (wX6 cI cJ ad m_codek m_n m_built m_length m_begin m_many m_leastOf m_sizeOf m_own m_bestRow m_tryRow m_keptRow m_otherRow m_row z.1 z.2.1 m_rowsOf m_intervals m_places m_whole) H → va_D A (wX6 cI cJ ad m_codek m_n m_built m_length m_begin m_many m_leastOf m_sizeOf m_own m_bestRow m_tryRow m_keptRow m_otherRow m_row z.1 z.2.1 m_rowsOf m_intervals m_places m_whole) → va_S A s.heap H locs → lv_has ls 7 [(0, .ref (ad 0)), (1, .int z.2.2.1), (2, .int z.2.2.2)] → W p l e rmX6_forms s m args below meth c H locs 0 0 (MQ below (va_Qi (fun (x : Int32) (_ : Unit) => x = r) (fun _ t => va_P (dC, dI) vwCl (wX6 cI cJ ad m_code' m_n m_built m_length m_begin m_many m_leastOf m_sizeOf m_own m_bestRow m_tryRow m_keptRow m_otherRow m_row m_formRow' m_allForms' m_rowsOf m_intervals m_places m_whole) t.heap ∧ vK (dC, dI) [(cI, .int), (cJ, .long)] t ∧ va_D (va_A (wX6 cI cJ ad m_code m_n m_built m_length m_begin m_many m_leastOf m_sizeOf m_own m_bestRow m_tryRow m_keptRow m_otherRow m_row m_formRow m_allForms m_rowsOf m_intervals m_places m_whole) sz) (wX6 cI cJ ad m_code' m_n m_built m_length m_begin m_many m_leastOf m_sizeOf m_own m_bestRow m_tryRow m_keptRow m_otherRow m_row m_formRow' m_allForms' m_rowsOf m_intervals m_places m_whole)) (va_A (wX6 cI cJ ad m_code m_n m_built m_length m_begin m_many m_leastOf m_sizeOf m_own m_bestRow m_tryRow m_keptRow m_otherRow m_row m_formRow m_allForms m_rowsOf m_intervals m_places m_whole) sz)) args s 0 0 A) (F0 m 23 ls [])) ?_ FU _ h H locs ls hP hD hS hl
    intro Q23 hi23 ho23 z h H locs ls hP hD hS hl
    obtain ⟨m_formRowk, m_allFormsk, v1, v2⟩ := z
    have h : Ho (X6_forms_23_s m_n m_row m_codek m_formRowk m_allFormsk v1 v2) Q23 := h
    unfold X6_forms_23_s at h
    have hl : lv_has ls 7 [(0, .ref (ad 0)), (1, .int v1), (2, .int v2)] := hl
    have hP : va_P (dC, dI) vwCl (wX6 cI cJ ad m_codek m_n m_built m_length m_begin m_many m_leastOf m_sizeOf m_own m_bestRow m_tryRow m_keptRow m_otherRow m_row m_formRowk m_allFormsk m_rowsOf m_intervals m_places m_whole) H := hP
    have hD : va_D A (wX6 cI cJ ad m_codek m_n m_built m_length m_begin m_many m_leastOf m_sizeOf m_own m_bestRow m_tryRow m_keptRow m_otherRow m_row m_formRowk m_allFormsk m_rowsOf m_intervals m_places m_whole) := hD
    have J178 : ∀ (m_formRowk : Nat → Int32) (m_allFormsk : Nat → Int32) (v1 : Int32) (v2 : Int32) (H : Heap) (locs : List Loc) (ls : Array Slot), va_P (dC, dI) vwCl (wX6 cI cJ ad m_codek m_n m_built m_length m_begin m_many m_leastOf m_sizeOf m_own m_bestRow m_tryRow m_keptRow m_otherRow m_row m_formRowk m_allFormsk m_rowsOf m_intervals m_places m_whole) H → va_D A (wX6 cI cJ ad m_codek m_n m_built m_length m_begin m_many m_leastOf m_sizeOf m_own m_bestRow m_tryRow m_keptRow m_otherRow m_row m_formRowk m_allFormsk m_rowsOf m_intervals m_places m_whole) → va_S A s.heap H locs → lv_has ls 7 [(0, .ref (ad 0)), (1, .int v1), (2, .int v2)] → Ho (X6_forms_178 m_codek m_formRowk m_allFormsk v1 v2) Q23 → W p l e rmX6_forms s m args below meth c H locs 0 0 (MQ below (va_Qi (fun (x : Int32) (_ : Unit) => x = r) (fun _ t => va_P (dC, dI) vwCl (wX6 cI cJ ad m_code' m_n m_built m_length m_begin m_many m_leastOf m_sizeOf m_own m_bestRow m_tryRow m_keptRow m_otherRow m_row m_formRow' m_allForms' m_rowsOf m_intervals m_places m_whole) t.heap ∧ vK (dC, dI) [(cI, .int), (cJ, .long)] t ∧ va_D (va_A (wX6 cI cJ ad m_code m_n m_built m_length m_begin m_many m_leastOf m_sizeOf m_own m_bestRow m_tryRow m_keptRow m_otherRow m_row m_formRow m_allForms m_rowsOf m_intervals m_places m_whole) sz) (wX6 cI cJ ad m_code' m_n m_built m_length m_begin m_many m_leastOf m_sizeOf m_own m_bestRow m_tryRow m_keptRow m_otherRow m_row m_formRow' m_allForms' m_rowsOf m_intervals m_places m_whole)) (va_A (wX6 cI cJ ad m_code m_n m_built m_length m_begin m_many m_leastOf m_sizeOf m_own m_bestRow m_tryRow m_keptRow m_otherRow m_row m_formRow m_allForms m_rowsOf m_intervals m_places m_whole) sz)) args s 0 0 A) (F0 m 178 ls []) := by
      intro m_formRowk m_allFormsk v1 v2 H locs ls hP hD hS hl h
      unfold X6_forms_178 at h
      refine lv_iinc (v := v1 + 1) (lv' := [(1, .int (v1 + 1)), (0, .ref (ad 0)), (2, .int v2)]) hx hb dX6_forms_178 hl (k := 1) rfl rfl (by decide) rfl (fun ls hl => ?_)
      refine lv_iinc (v := v2 + 1) (lv' := [(2, .int (v2 + 1)), (1, .int (v1 + 1)), (0, .ref (ad 0))]) hx hb dX6_forms_181 hl (k := 2) rfl rfl (by decide) rfl (fun ls hl => ?_)
      refine lv_goto (tgt := 23) hx hb dX6_forms_184 (by decide) ?_
      exact hi23 _ (Ho_s h) _ _ ls hP hD hS (lv_sub hl [2, 1, 0] rfl)
    have J144 : ∀ (m_formRowk : Nat → Int32) (m_allFormsk : Nat → Int32) (v1 : Int32) (v2 : Int32) (v4 : Int32) (H : Heap) (locs : List Loc) (ls : Array Slot), va_P (dC, dI) vwCl (wX6 cI cJ ad m_codek m_n m_built m_length m_begin m_many m_leastOf m_sizeOf m_own m_bestRow m_tryRow m_keptRow m_otherRow m_row m_formRowk m_allFormsk m_rowsOf m_intervals m_places m_whole) H → va_D A (wX6 cI cJ ad m_codek m_n m_built m_length m_begin m_many m_leastOf m_sizeOf m_own m_bestRow m_tryRow m_keptRow m_otherRow m_row m_formRowk m_allFormsk m_rowsOf m_intervals m_places m_whole) → va_S A s.heap H locs → lv_has ls 7 [(0, .ref (ad 0)), (1, .int v1), (2, .int v2), (4, .int v4)] → Ho ((X6_forms_144_l m_n m_codek m_formRowk v1 v2 m_allFormsk v4).bind (fun ex => X6_forms_178 m_codek m_formRowk ex v1 v2)) Q23 → W p l e rmX6_forms s m args below meth c H locs 0 0 (MQ below (va_Qi (fun (x : Int32) (_ : Unit) => x = r) (fun _ t => va_P (dC, dI) vwCl (wX6 cI cJ ad m_code' m_n m_built m_length m_begin m_many m_leastOf m_sizeOf m_own m_bestRow m_tryRow m_keptRow m_otherRow m_row m_formRow' m_allForms' m_rowsOf m_intervals m_places m_whole) t.heap ∧ vK (dC, dI) [(cI, .int), (cJ, .long)] t ∧ va_D (va_A (wX6 cI cJ ad m_code m_n m_built m_length m_begin m_many m_leastOf m_sizeOf m_own m_bestRow m_tryRow m_keptRow m_otherRow m_row m_formRow m_allForms m_rowsOf m_intervals m_places m_whole) sz) (wX6 cI cJ ad m_code' m_n m_built m_length m_begin m_many m_leastOf m_sizeOf m_own m_bestRow m_tryRow m_keptRow m_otherRow m_row m_formRow' m_allForms' m_rowsOf m_intervals m_places m_whole)) (va_A (wX6 cI cJ ad m_code m_n m_built m_length m_begin m_many m_leastOf m_sizeOf m_own m_bestRow m_tryRow m_keptRow m_otherRow m_row m_formRow m_allForms m_rowsOf m_intervals m_places m_whole) sz)) args s 0 0 A) (F0 m 144 ls []) := by
      intro m_formRowk m_allFormsk v1 v2 v4 H locs ls hP hD hS hl h
      refine loop_use2 (fun z : (Nat → Int32) × Int32 => ∀ (H : Heap) (locs : List Loc) (ls : Array Slot), va_P (dC, dI) vwCl (wX6 cI cJ ad m_codek m_n m_built m_length m_begin m_many m_leastOf m_sizeOf m_own m_bestRow m_tryRow m_keptRow m_otherRow m_row m_formRowk z.1 m_rowsOf m_intervals m_places m_whole) H → va_D A (wX6 cI cJ ad m_codek m_n m_built m_length m_begin m_many m_leastOf m_sizeOf m_own m_bestRow m_tryRow m_keptRow m_otherRow m_row m_formRowk z.1 m_rowsOf m_intervals m_places m_whole) → va_S A s.heap H locs → lv_has ls 7 [(0, .ref (ad 0)), (1, .int v1), (2, .int v2), (4, .int z.2)] → W p l e rmX6_forms s m args below meth c H locs 0 0 (MQ below (va_Qi (fun (x : Int32) (_ : Unit) => x = r) (fun _ t => va_P (dC, dI) vwCl (wX6 cI cJ ad m_code' m_n m_built m_length m_begin m_many m_leastOf m_sizeOf m_own m_bestRow m_tryRow m_keptRow m_otherRow m_row m_formRow' m_allForms' m_rowsOf m_intervals m_places m_whole) t.heap ∧ vK (dC, dI) [(cI, .int), (cJ, .long)] t ∧ va_D (va_A (wX6 cI cJ ad m_code m_n m_built m_length m_begin m_many m_leastOf m_sizeOf m_own m_bestRow m_tryRow m_keptRow m_otherRow m_row m_formRow m_allForms m_rowsOf m_intervals m_places m_whole) sz) (wX6 cI cJ ad m_code' m_n m_built m_length m_begin m_many m_leastOf m_sizeOf m_own m_bestRow m_tryRow m_keptRow m_otherRow m_row m_formRow' m_allForms' m_rowsOf m_intervals m_places m_whole)) (va_A (wX6 cI cJ ad m_code m_n m_built m_length m_begin m_many m_leastOf m_sizeOf m_own m_bestRow m_tryRow m_keptRow m_otherRow m_row m_formRow m_allForms m_rowsOf m_intervals m_places m_whole) sz)) args s 0 0 A) (F0 m 144 ls [])) ?_ FU _ h H locs ls hP hD hS hl
      intro Q144 hi144 ho144 z h H locs ls hP hD hS hl
      obtain ⟨m_allFormsk, v4⟩ := z
      have h : Ho (X6_forms_144_s m_n m_codek m_formRowk v1 v2 m_allFormsk v4) Q144 := h
      unfold X6_forms_144_s at h
      have hl : lv_has ls 7 [(0, .ref (ad 0)), (1, .int v1), (2, .int v2), (4, .int v4)] := hl
      have hP : va_P (dC, dI) vwCl (wX6 cI cJ ad m_codek m_n m_built m_length m_begin m_many m_leastOf m_sizeOf m_own m_bestRow m_tryRow m_keptRow m_otherRow m_row m_formRowk m_allFormsk m_rowsOf m_intervals m_places m_whole) H := hP
      have hD : va_D A (wX6 cI cJ ad m_codek m_n m_built m_length m_begin m_many m_leastOf m_sizeOf m_own m_bestRow m_tryRow m_keptRow m_otherRow m_row m_formRowk m_allFormsk m_rowsOf m_intervals m_places m_whole) := hD
      refine lv_iload hx hb dX6_forms_144 (lv_at hl 3 rfl) ?_
      refine lv_aload_n hx hb dX6_forms_146 rfl (lv_at hl 0 rfl) ?_
      refine va_get (D := (dC, dI)) (ci := 6) (v := .int m_n) (C := RX6) (T := TX6) (N := 20) hx hb hts hiX6 hown hK.1 hP 0 rfl rfl 1 (by decide) hf7 (fun _ h9 => h9) rfl dX6_forms_147 ?_
      refine lv_icmp_ge (tgt := 178) hx hb dX6_forms_150 (by decide) (fun q150 => ?_) (fun q150 => ?_)
      · have h := Ho_t h q150
        have h := ho144 _ (Ho_s h)
        exact J178 m_formRowk m_allFormsk v1 v2 _ _ ls hP hD hS (lv_sub hl [0, 1, 2] rfl) h
      · have h := Ho_f h q150
        refine lv_aload_n hx hb dX6_forms_153 rfl (lv_at hl 0 rfl) ?_
        refine va_get (D := (dC, dI)) (ci := 6) (v := .ref (ad 10)) (C := RX6) (T := TX6) (N := 20) hx hb hts hiX6 hown hK.1 hP 0 rfl rfl 15 (by decide) hf41 (fun _ h9 => h9) rfl dX6_forms_154 ?_
        refine lv_bipush (v := (12 : Int32)) hx hb dX6_forms_157 (by decide) ?_
        refine lv_iload_n hx hb dX6_forms_159 rfl (lv_at hl 1 rfl) ?_
        refine lv_imul hx hb dX6_forms_160 ?_
        refine lv_iload hx hb dX6_forms_161 (lv_at hl 3 rfl) ?_
        refine lv_iadd hx hb dX6_forms_163 ?_
        refine lv_aload_n hx hb dX6_forms_164 rfl (lv_at hl 0 rfl) ?_
        refine va_get (D := (dC, dI)) (ci := 6) (v := .ref (ad 9)) (C := RX6) (T := TX6) (N := 20) hx hb hts hiX6 hown hK.1 hP 0 rfl rfl 14 (by decide) hf38 (fun _ h9 => h9) rfl dX6_forms_165 ?_
        refine lv_iload hx hb dX6_forms_168 (lv_at hl 3 rfl) ?_
        obtain ⟨hz170, h⟩ := Ho_ix h
        refine va_iald hx hb hK.1 hP 9 0 rfl rfl hz170 dX6_forms_170 ?_
        obtain ⟨hz171, h⟩ := Ho_ix h
        refine va_iast hx hb hK.1 hP hD hS 10 0 rfl rfl hz171 dX6_forms_171 (fun H locs hP hD hS => ?_)
        have hP : va_P (dC, dI) vwCl (wX6 cI cJ ad m_codek m_n m_built m_length m_begin m_many m_leastOf m_sizeOf m_own m_bestRow m_tryRow m_keptRow m_otherRow m_row m_formRowk (upd m_allFormsk (((12 : Int32) * v1) + v4).toNatClampNeg (m_formRowk v4.toNatClampNeg)) m_rowsOf m_intervals m_places m_whole) H := hP
        have hD : va_D A (wX6 cI cJ ad m_codek m_n m_built m_length m_begin m_many m_leastOf m_sizeOf m_own m_bestRow m_tryRow m_keptRow m_otherRow m_row m_formRowk (upd m_allFormsk (((12 : Int32) * v1) + v4).toNatClampNeg (m_formRowk v4.toNatClampNeg)) m_rowsOf m_intervals m_places m_whole) := hD
        refine lv_iinc (v := v4 + 1) (lv' := [(4, .int (v4 + 1)), (0, .ref (ad 0)), (1, .int v1), (2, .int v2)]) hx hb dX6_forms_172 hl (k := 3) rfl rfl (by decide) rfl (fun ls hl => ?_)
        refine lv_goto (tgt := 144) hx hb dX6_forms_175 (by decide) ?_
        exact hi144 _ (Ho_s h) _ _ ls hP hD hS (lv_sub hl [1, 2, 3, 0] rfl)
    have J137 : ∀ (m_formRowk : Nat → Int32) (m_allFormsk : Nat → Int32) (v1 : Int32) (v2 : Int32) (v3 : Int32) (H : Heap) (locs : List Loc) (ls : Array Slot), va_P (dC, dI) vwCl (wX6 cI cJ ad m_codek m_n m_built m_length m_begin m_many m_leastOf m_sizeOf m_own m_bestRow m_tryRow m_keptRow m_otherRow m_row m_formRowk m_allFormsk m_rowsOf m_intervals m_places m_whole) H → va_D A (wX6 cI cJ ad m_codek m_n m_built m_length m_begin m_many m_leastOf m_sizeOf m_own m_bestRow m_tryRow m_keptRow m_otherRow m_row m_formRowk m_allFormsk m_rowsOf m_intervals m_places m_whole) → va_S A s.heap H locs → lv_has ls 7 [(0, .ref (ad 0)), (1, .int v1), (2, .int v2), (3, .int v3)] → Ho (X6_forms_137 m_n m_codek m_formRowk m_allFormsk v1 v2 v3) Q23 → W p l e rmX6_forms s m args below meth c H locs 0 0 (MQ below (va_Qi (fun (x : Int32) (_ : Unit) => x = r) (fun _ t => va_P (dC, dI) vwCl (wX6 cI cJ ad m_code' m_n m_built m_length m_begin m_many m_leastOf m_sizeOf m_own m_bestRow m_tryRow m_keptRow m_otherRow m_row m_formRow' m_allForms' m_rowsOf m_intervals m_places m_whole) t.heap ∧ vK (dC, dI) [(cI, .int), (cJ, .long)] t ∧ va_D (va_A (wX6 cI cJ ad m_code m_n m_built m_length m_begin m_many m_leastOf m_sizeOf m_own m_bestRow m_tryRow m_keptRow m_otherRow m_row m_formRow m_allForms m_rowsOf m_intervals m_places m_whole) sz) (wX6 cI cJ ad m_code' m_n m_built m_length m_begin m_many m_leastOf m_sizeOf m_own m_bestRow m_tryRow m_keptRow m_otherRow m_row m_formRow' m_allForms' m_rowsOf m_intervals m_places m_whole)) (va_A (wX6 cI cJ ad m_code m_n m_built m_length m_begin m_many m_leastOf m_sizeOf m_own m_bestRow m_tryRow m_keptRow m_otherRow m_row m_formRow m_allForms m_rowsOf m_intervals m_places m_whole) sz)) args s 0 0 A) (F0 m 137 ls []) := by
      intro m_formRowk m_allFormsk v1 v2 v3 H locs ls hP hD hS hl h
      unfold X6_forms_137 at h
      refine lv_iload_n hx hb dX6_forms_137 rfl (lv_at hl 3 rfl) ?_
      refine lv_if_eq (tgt := 181) hx hb dX6_forms_138 (by decide) (fun q138 => ?_) (fun q138 => ?_)
      · have h := Ho_t h q138
        refine lv_iinc (v := v2 + 1) (lv' := [(2, .int (v2 + 1)), (0, .ref (ad 0)), (1, .int v1), (3, .int v3)]) hx hb dX6_forms_181 hl (k := 2) rfl rfl (by decide) rfl (fun ls hl => ?_)
        refine lv_goto (tgt := 23) hx hb dX6_forms_184 (by decide) ?_
        exact hi23 _ (Ho_s h) _ _ ls hP hD hS (lv_sub hl [1, 2, 0] rfl)
      · have h := Ho_f h q138
        refine lv_iconst (v := (0 : Int32)) hx hb dX6_forms_141 (by decide) ?_
        refine lv_istore (lv' := [(4, .int (0 : Int32)), (0, .ref (ad 0)), (1, .int v1), (2, .int v2), (3, .int v3)]) hx hb dX6_forms_142 hl (by decide) rfl (fun ls hl => ?_)
        exact J144 m_formRowk m_allFormsk v1 v2 (0 : Int32) _ _ ls hP hD hS (lv_sub hl [1, 2, 3, 0] rfl) h
    have J54 : ∀ (m_formRowk : Nat → Int32) (m_allFormsk : Nat → Int32) (v1 : Int32) (v2 : Int32) (v3 : Int32) (v4 : Int32) (H : Heap) (locs : List Loc) (ls : Array Slot), va_P (dC, dI) vwCl (wX6 cI cJ ad m_codek m_n m_built m_length m_begin m_many m_leastOf m_sizeOf m_own m_bestRow m_tryRow m_keptRow m_otherRow m_row m_formRowk m_allFormsk m_rowsOf m_intervals m_places m_whole) H → va_D A (wX6 cI cJ ad m_codek m_n m_built m_length m_begin m_many m_leastOf m_sizeOf m_own m_bestRow m_tryRow m_keptRow m_otherRow m_row m_formRowk m_allFormsk m_rowsOf m_intervals m_places m_whole) → va_S A s.heap H locs → lv_has ls 7 [(0, .ref (ad 0)), (1, .int v1), (2, .int v2), (3, .int v3), (4, .int v4)] → Ho ((X6_forms_54_l m_n m_codek m_formRowk m_allFormsk v1 v2 v3 v4).bind (fun ex => X6_forms_137 m_n m_codek m_formRowk m_allFormsk v1 v2 ex)) Q23 → W p l e rmX6_forms s m args below meth c H locs 0 0 (MQ below (va_Qi (fun (x : Int32) (_ : Unit) => x = r) (fun _ t => va_P (dC, dI) vwCl (wX6 cI cJ ad m_code' m_n m_built m_length m_begin m_many m_leastOf m_sizeOf m_own m_bestRow m_tryRow m_keptRow m_otherRow m_row m_formRow' m_allForms' m_rowsOf m_intervals m_places m_whole) t.heap ∧ vK (dC, dI) [(cI, .int), (cJ, .long)] t ∧ va_D (va_A (wX6 cI cJ ad m_code m_n m_built m_length m_begin m_many m_leastOf m_sizeOf m_own m_bestRow m_tryRow m_keptRow m_otherRow m_row m_formRow m_allForms m_rowsOf m_intervals m_places m_whole) sz) (wX6 cI cJ ad m_code' m_n m_built m_length m_begin m_many m_leastOf m_sizeOf m_own m_bestRow m_tryRow m_keptRow m_otherRow m_row m_formRow' m_allForms' m_rowsOf m_intervals m_places m_whole)) (va_A (wX6 cI cJ ad m_code m_n m_built m_length m_begin m_many m_leastOf m_sizeOf m_own m_bestRow m_tryRow m_keptRow m_otherRow m_row m_formRow m_allForms m_rowsOf m_intervals m_places m_whole) sz)) args s 0 0 A) (F0 m 54 ls []) := by
      intro m_formRowk m_allFormsk v1 v2 v3 v4 H locs ls hP hD hS hl h
      refine loop_use2 (fun z : Int32 × Int32 => ∀ (H : Heap) (locs : List Loc) (ls : Array Slot), va_P (dC, dI) vwCl (wX6 cI cJ ad m_codek m_n m_built m_length m_begin m_many m_leastOf m_sizeOf m_own m_bestRow m_tryRow m_keptRow m_otherRow m_row m_formRowk m_allFormsk m_rowsOf m_intervals m_places m_whole) H → va_D A (wX6 cI cJ ad m_codek m_n m_built m_length m_begin m_many m_leastOf m_sizeOf m_own m_bestRow m_tryRow m_keptRow m_otherRow m_row m_formRowk m_allFormsk m_rowsOf m_intervals m_places m_whole) → va_S A s.heap H locs → lv_has ls 7 [(0, .ref (ad 0)), (1, .int v1), (2, .int v2), (3, .int z.1), (4, .int z.2)] → W p l e rmX6_forms s m args below meth c H locs 0 0 (MQ below (va_Qi (fun (x : Int32) (_ : Unit) => x = r) (fun _ t => va_P (dC, dI) vwCl (wX6 cI cJ ad m_code' m_n m_built m_length m_begin m_many m_leastOf m_sizeOf m_own m_bestRow m_tryRow m_keptRow m_otherRow m_row m_formRow' m_allForms' m_rowsOf m_intervals m_places m_whole) t.heap ∧ vK (dC, dI) [(cI, .int), (cJ, .long)] t ∧ va_D (va_A (wX6 cI cJ ad m_code m_n m_built m_length m_begin m_many m_leastOf m_sizeOf m_own m_bestRow m_tryRow m_keptRow m_otherRow m_row m_formRow m_allForms m_rowsOf m_intervals m_places m_whole) sz) (wX6 cI cJ ad m_code' m_n m_built m_length m_begin m_many m_leastOf m_sizeOf m_own m_bestRow m_tryRow m_keptRow m_otherRow m_row m_formRow' m_allForms' m_rowsOf m_intervals m_places m_whole)) (va_A (wX6 cI cJ ad m_code m_n m_built m_length m_begin m_many m_leastOf m_sizeOf m_own m_bestRow m_tryRow m_keptRow m_otherRow m_row m_formRow m_allForms m_rowsOf m_intervals m_places m_whole) sz)) args s 0 0 A) (F0 m 54 ls [])) ?_ FU _ h H locs ls hP hD hS hl
      intro Q54 hi54 ho54 z h H locs ls hP hD hS hl
      obtain ⟨v3, v4⟩ := z
      have h : Ho (X6_forms_54_s m_n m_codek m_formRowk m_allFormsk v1 v2 v3 v4) Q54 := h
      unfold X6_forms_54_s at h
      have hl : lv_has ls 7 [(0, .ref (ad 0)), (1, .int v1), (2, .int v2), (3, .int v3), (4, .int v4)] := hl
      have hP : va_P (dC, dI) vwCl (wX6 cI cJ ad m_codek m_n m_built m_length m_begin m_many m_leastOf m_sizeOf m_own m_bestRow m_tryRow m_keptRow m_otherRow m_row m_formRowk m_allFormsk m_rowsOf m_intervals m_places m_whole) H := hP
      have hD : va_D A (wX6 cI cJ ad m_codek m_n m_built m_length m_begin m_many m_leastOf m_sizeOf m_own m_bestRow m_tryRow m_keptRow m_otherRow m_row m_formRowk m_allFormsk m_rowsOf m_intervals m_places m_whole) := hD
      have J116 : ∀ (v3 : Int32) (v4 : Int32) (v5 : Int32) (H : Heap) (locs : List Loc) (ls : Array Slot), va_P (dC, dI) vwCl (wX6 cI cJ ad m_codek m_n m_built m_length m_begin m_many m_leastOf m_sizeOf m_own m_bestRow m_tryRow m_keptRow m_otherRow m_row m_formRowk m_allFormsk m_rowsOf m_intervals m_places m_whole) H → va_D A (wX6 cI cJ ad m_codek m_n m_built m_length m_begin m_many m_leastOf m_sizeOf m_own m_bestRow m_tryRow m_keptRow m_otherRow m_row m_formRowk m_allFormsk m_rowsOf m_intervals m_places m_whole) → va_S A s.heap H locs → lv_has ls 7 [(0, .ref (ad 0)), (1, .int v1), (2, .int v2), (3, .int v3), (4, .int v4), (5, .int v5)] → Ho (X6_forms_116 m_codek m_formRowk m_allFormsk v1 v2 v3 v4 v5) Q54 → W p l e rmX6_forms s m args below meth c H locs 0 0 (MQ below (va_Qi (fun (x : Int32) (_ : Unit) => x = r) (fun _ t => va_P (dC, dI) vwCl (wX6 cI cJ ad m_code' m_n m_built m_length m_begin m_many m_leastOf m_sizeOf m_own m_bestRow m_tryRow m_keptRow m_otherRow m_row m_formRow' m_allForms' m_rowsOf m_intervals m_places m_whole) t.heap ∧ vK (dC, dI) [(cI, .int), (cJ, .long)] t ∧ va_D (va_A (wX6 cI cJ ad m_code m_n m_built m_length m_begin m_many m_leastOf m_sizeOf m_own m_bestRow m_tryRow m_keptRow m_otherRow m_row m_formRow m_allForms m_rowsOf m_intervals m_places m_whole) sz) (wX6 cI cJ ad m_code' m_n m_built m_length m_begin m_many m_leastOf m_sizeOf m_own m_bestRow m_tryRow m_keptRow m_otherRow m_row m_formRow' m_allForms' m_rowsOf m_intervals m_places m_whole)) (va_A (wX6 cI cJ ad m_code m_n m_built m_length m_begin m_many m_leastOf m_sizeOf m_own m_bestRow m_tryRow m_keptRow m_otherRow m_row m_formRow m_allForms m_rowsOf m_intervals m_places m_whole) sz)) args s 0 0 A) (F0 m 116 ls []) := by
        intro v3 v4 v5 H locs ls hP hD hS hl h
        unfold X6_forms_116 at h
        refine lv_iload_n hx hb dX6_forms_116 rfl (lv_at hl 3 rfl) ?_
        refine lv_if_eq (tgt := 129) hx hb dX6_forms_117 (by decide) (fun q117 => ?_) (fun q117 => ?_)
        · have h := Ho_t h q117
          refine lv_iconst (v := (0 : Int32)) hx hb dX6_forms_129 (by decide) ?_
          refine lv_istore_n (lv' := [(3, .int (0 : Int32)), (0, .ref (ad 0)), (1, .int v1), (2, .int v2), (4, .int v4), (5, .int v5)]) hx hb dX6_forms_130 rfl hl (by decide) rfl (fun ls hl => ?_)
          refine lv_iinc (v := v4 + 1) (lv' := [(4, .int (v4 + 1)), (3, .int (0 : Int32)), (0, .ref (ad 0)), (1, .int v1), (2, .int v2), (5, .int v5)]) hx hb dX6_forms_131 hl (k := 4) rfl rfl (by decide) rfl (fun ls hl => ?_)
          refine lv_goto (tgt := 54) hx hb dX6_forms_134 (by decide) ?_
          exact hi54 _ (Ho_s h) _ _ ls hP hD hS (lv_sub hl [2, 3, 4, 1, 0] rfl)
        · have h := Ho_f h q117
          refine lv_iload hx hb dX6_forms_120 (lv_at hl 5 rfl) ?_
          refine lv_if_ne (tgt := 129) hx hb dX6_forms_122 (by decide) (fun q122 => ?_) (fun q122 => ?_)
          · have h := Ho_f h q122
            refine lv_iconst (v := (0 : Int32)) hx hb dX6_forms_129 (by decide) ?_
            refine lv_istore_n (lv' := [(3, .int (0 : Int32)), (0, .ref (ad 0)), (1, .int v1), (2, .int v2), (4, .int v4), (5, .int v5)]) hx hb dX6_forms_130 rfl hl (by decide) rfl (fun ls hl => ?_)
            refine lv_iinc (v := v4 + 1) (lv' := [(4, .int (v4 + 1)), (3, .int (0 : Int32)), (0, .ref (ad 0)), (1, .int v1), (2, .int v2), (5, .int v5)]) hx hb dX6_forms_131 hl (k := 4) rfl rfl (by decide) rfl (fun ls hl => ?_)
            refine lv_goto (tgt := 54) hx hb dX6_forms_134 (by decide) ?_
            exact hi54 _ (Ho_s h) _ _ ls hP hD hS (lv_sub hl [2, 3, 4, 1, 0] rfl)
          · have h := Ho_t h q122
            refine lv_iconst (v := (1 : Int32)) hx hb dX6_forms_125 (by decide) ?_
            refine lv_goto (tgt := 130) hx hb dX6_forms_126 (by decide) ?_
            refine lv_istore_n (lv' := [(3, .int (1 : Int32)), (0, .ref (ad 0)), (1, .int v1), (2, .int v2), (4, .int v4), (5, .int v5)]) hx hb dX6_forms_130 rfl hl (by decide) rfl (fun ls hl => ?_)
            refine lv_iinc (v := v4 + 1) (lv' := [(4, .int (v4 + 1)), (3, .int (1 : Int32)), (0, .ref (ad 0)), (1, .int v1), (2, .int v2), (5, .int v5)]) hx hb dX6_forms_131 hl (k := 4) rfl rfl (by decide) rfl (fun ls hl => ?_)
            refine lv_goto (tgt := 54) hx hb dX6_forms_134 (by decide) ?_
            exact hi54 _ (Ho_s h) _ _ ls hP hD hS (lv_sub hl [2, 3, 4, 1, 0] rfl)
      have J66 : ∀ (v3 : Int32) (v4 : Int32) (v5 : Int32) (v6 : Int32) (H : Heap) (locs : List Loc) (ls : Array Slot), va_P (dC, dI) vwCl (wX6 cI cJ ad m_codek m_n m_built m_length m_begin m_many m_leastOf m_sizeOf m_own m_bestRow m_tryRow m_keptRow m_otherRow m_row m_formRowk m_allFormsk m_rowsOf m_intervals m_places m_whole) H → va_D A (wX6 cI cJ ad m_codek m_n m_built m_length m_begin m_many m_leastOf m_sizeOf m_own m_bestRow m_tryRow m_keptRow m_otherRow m_row m_formRowk m_allFormsk m_rowsOf m_intervals m_places m_whole) → va_S A s.heap H locs → lv_has ls 7 [(0, .ref (ad 0)), (1, .int v1), (2, .int v2), (3, .int v3), (4, .int v4), (5, .int v5), (6, .int v6)] → Ho ((X6_forms_66_l m_n m_codek m_formRowk m_allFormsk v1 v2 v3 v4 v5 v6).bind (fun ex => X6_forms_116 m_codek m_formRowk m_allFormsk v1 v2 v3 v4 ex)) Q54 → W p l e rmX6_forms s m args below meth c H locs 0 0 (MQ below (va_Qi (fun (x : Int32) (_ : Unit) => x = r) (fun _ t => va_P (dC, dI) vwCl (wX6 cI cJ ad m_code' m_n m_built m_length m_begin m_many m_leastOf m_sizeOf m_own m_bestRow m_tryRow m_keptRow m_otherRow m_row m_formRow' m_allForms' m_rowsOf m_intervals m_places m_whole) t.heap ∧ vK (dC, dI) [(cI, .int), (cJ, .long)] t ∧ va_D (va_A (wX6 cI cJ ad m_code m_n m_built m_length m_begin m_many m_leastOf m_sizeOf m_own m_bestRow m_tryRow m_keptRow m_otherRow m_row m_formRow m_allForms m_rowsOf m_intervals m_places m_whole) sz) (wX6 cI cJ ad m_code' m_n m_built m_length m_begin m_many m_leastOf m_sizeOf m_own m_bestRow m_tryRow m_keptRow m_otherRow m_row m_formRow' m_allForms' m_rowsOf m_intervals m_places m_whole)) (va_A (wX6 cI cJ ad m_code m_n m_built m_length m_begin m_many m_leastOf m_sizeOf m_own m_bestRow m_tryRow m_keptRow m_otherRow m_row m_formRow m_allForms m_rowsOf m_intervals m_places m_whole) sz)) args s 0 0 A) (F0 m 66 ls []) := by
        intro v3 v4 v5 v6 H locs ls hP hD hS hl h
        refine loop_use2 (fun z : Int32 × Int32 => ∀ (H : Heap) (locs : List Loc) (ls : Array Slot), va_P (dC, dI) vwCl (wX6 cI cJ ad m_codek m_n m_built m_length m_begin m_many m_leastOf m_sizeOf m_own m_bestRow m_tryRow m_keptRow m_otherRow m_row m_formRowk m_allFormsk m_rowsOf m_intervals m_places m_whole) H → va_D A (wX6 cI cJ ad m_codek m_n m_built m_length m_begin m_many m_leastOf m_sizeOf m_own m_bestRow m_tryRow m_keptRow m_otherRow m_row m_formRowk m_allFormsk m_rowsOf m_intervals m_places m_whole) → va_S A s.heap H locs → lv_has ls 7 [(0, .ref (ad 0)), (1, .int v1), (2, .int v2), (3, .int v3), (4, .int v4), (5, .int z.1), (6, .int z.2)] → W p l e rmX6_forms s m args below meth c H locs 0 0 (MQ below (va_Qi (fun (x : Int32) (_ : Unit) => x = r) (fun _ t => va_P (dC, dI) vwCl (wX6 cI cJ ad m_code' m_n m_built m_length m_begin m_many m_leastOf m_sizeOf m_own m_bestRow m_tryRow m_keptRow m_otherRow m_row m_formRow' m_allForms' m_rowsOf m_intervals m_places m_whole) t.heap ∧ vK (dC, dI) [(cI, .int), (cJ, .long)] t ∧ va_D (va_A (wX6 cI cJ ad m_code m_n m_built m_length m_begin m_many m_leastOf m_sizeOf m_own m_bestRow m_tryRow m_keptRow m_otherRow m_row m_formRow m_allForms m_rowsOf m_intervals m_places m_whole) sz) (wX6 cI cJ ad m_code' m_n m_built m_length m_begin m_many m_leastOf m_sizeOf m_own m_bestRow m_tryRow m_keptRow m_otherRow m_row m_formRow' m_allForms' m_rowsOf m_intervals m_places m_whole)) (va_A (wX6 cI cJ ad m_code m_n m_built m_length m_begin m_many m_leastOf m_sizeOf m_own m_bestRow m_tryRow m_keptRow m_otherRow m_row m_formRow m_allForms m_rowsOf m_intervals m_places m_whole) sz)) args s 0 0 A) (F0 m 66 ls [])) ?_ FU _ h H locs ls hP hD hS hl
        intro Q66 hi66 ho66 z h H locs ls hP hD hS hl
        obtain ⟨v5, v6⟩ := z
        have h : Ho (X6_forms_66_s m_n m_codek m_formRowk m_allFormsk v1 v2 v3 v4 v5 v6) Q66 := h
        unfold X6_forms_66_s at h
        have hl : lv_has ls 7 [(0, .ref (ad 0)), (1, .int v1), (2, .int v2), (3, .int v3), (4, .int v4), (5, .int v5), (6, .int v6)] := hl
        have hP : va_P (dC, dI) vwCl (wX6 cI cJ ad m_codek m_n m_built m_length m_begin m_many m_leastOf m_sizeOf m_own m_bestRow m_tryRow m_keptRow m_otherRow m_row m_formRowk m_allFormsk m_rowsOf m_intervals m_places m_whole) H := hP
        have hD : va_D A (wX6 cI cJ ad m_codek m_n m_built m_length m_begin m_many m_leastOf m_sizeOf m_own m_bestRow m_tryRow m_keptRow m_otherRow m_row m_formRowk m_allFormsk m_rowsOf m_intervals m_places m_whole) := hD
        refine lv_iload hx hb dX6_forms_66 (lv_at hl 6 rfl) ?_
        refine lv_aload_n hx hb dX6_forms_68 rfl (lv_at hl 0 rfl) ?_
        refine va_get (D := (dC, dI)) (ci := 6) (v := .int m_n) (C := RX6) (T := TX6) (N := 20) hx hb hts hiX6 hown hK.1 hP 0 rfl rfl 1 (by decide) hf7 (fun _ h9 => h9) rfl dX6_forms_69 ?_
        refine lv_icmp_ge (tgt := 116) hx hb dX6_forms_72 (by decide) (fun q72 => ?_) (fun q72 => ?_)
        · have h := Ho_t h q72
          have h := ho66 _ (Ho_s h)
          exact J116 v3 v4 v5 _ _ ls hP hD hS (lv_sub hl [0, 1, 2, 3, 4, 5] rfl) h
        · have h := Ho_f h q72
          refine lv_iload hx hb dX6_forms_75 (lv_at hl 5 rfl) ?_
          refine lv_if_eq (tgt := 107) hx hb dX6_forms_77 (by decide) (fun q77 => ?_) (fun q77 => ?_)
          · have h := Ho_t h q77
            refine lv_iconst (v := (0 : Int32)) hx hb dX6_forms_107 (by decide) ?_
            refine lv_istore (lv' := [(5, .int (0 : Int32)), (0, .ref (ad 0)), (1, .int v1), (2, .int v2), (3, .int v3), (4, .int v4), (6, .int v6)]) hx hb dX6_forms_108 hl (by decide) rfl (fun ls hl => ?_)
            refine lv_iinc (v := v6 + 1) (lv' := [(6, .int (v6 + 1)), (5, .int (0 : Int32)), (0, .ref (ad 0)), (1, .int v1), (2, .int v2), (3, .int v3), (4, .int v4)]) hx hb dX6_forms_110 hl (k := 6) rfl rfl (by decide) rfl (fun ls hl => ?_)
            refine lv_goto (tgt := 66) hx hb dX6_forms_113 (by decide) ?_
            exact hi66 _ (Ho_s h) _ _ ls hP hD hS (lv_sub hl [2, 3, 4, 5, 6, 1, 0] rfl)
          · have h := Ho_f h q77
            refine lv_aload_n hx hb dX6_forms_80 rfl (lv_at hl 0 rfl) ?_
            refine va_get (D := (dC, dI)) (ci := 6) (v := .ref (ad 10)) (C := RX6) (T := TX6) (N := 20) hx hb hts hiX6 hown hK.1 hP 0 rfl rfl 15 (by decide) hf41 (fun _ h9 => h9) rfl dX6_forms_81 ?_
            refine lv_bipush (v := (12 : Int32)) hx hb dX6_forms_84 (by decide) ?_
            refine lv_iload hx hb dX6_forms_86 (lv_at hl 4 rfl) ?_
            refine lv_imul hx hb dX6_forms_88 ?_
            refine lv_iload hx hb dX6_forms_89 (lv_at hl 6 rfl) ?_
            refine lv_iadd hx hb dX6_forms_91 ?_
            obtain ⟨hz92, h⟩ := Ho_ix h
            refine va_iald hx hb hK.1 hP 10 0 rfl rfl hz92 dX6_forms_92 ?_
            refine lv_aload_n hx hb dX6_forms_93 rfl (lv_at hl 0 rfl) ?_
            refine va_get (D := (dC, dI)) (ci := 6) (v := .ref (ad 9)) (C := RX6) (T := TX6) (N := 20) hx hb hts hiX6 hown hK.1 hP 0 rfl rfl 14 (by decide) hf38 (fun _ h9 => h9) rfl dX6_forms_94 ?_
            refine lv_iload hx hb dX6_forms_97 (lv_at hl 6 rfl) ?_
            obtain ⟨hz99, h⟩ := Ho_ix h
            refine va_iald hx hb hK.1 hP 9 0 rfl rfl hz99 dX6_forms_99 ?_
            refine lv_icmp_ne (tgt := 107) hx hb dX6_forms_100 (by decide) (fun q100 => ?_) (fun q100 => ?_)
            · have h := Ho_f h q100
              refine lv_iconst (v := (0 : Int32)) hx hb dX6_forms_107 (by decide) ?_
              refine lv_istore (lv' := [(5, .int (0 : Int32)), (0, .ref (ad 0)), (1, .int v1), (2, .int v2), (3, .int v3), (4, .int v4), (6, .int v6)]) hx hb dX6_forms_108 hl (by decide) rfl (fun ls hl => ?_)
              refine lv_iinc (v := v6 + 1) (lv' := [(6, .int (v6 + 1)), (5, .int (0 : Int32)), (0, .ref (ad 0)), (1, .int v1), (2, .int v2), (3, .int v3), (4, .int v4)]) hx hb dX6_forms_110 hl (k := 6) rfl rfl (by decide) rfl (fun ls hl => ?_)
              refine lv_goto (tgt := 66) hx hb dX6_forms_113 (by decide) ?_
              exact hi66 _ (Ho_s h) _ _ ls hP hD hS (lv_sub hl [2, 3, 4, 5, 6, 1, 0] rfl)
            · have h := Ho_t h q100
              refine lv_iconst (v := (1 : Int32)) hx hb dX6_forms_103 (by decide) ?_
              refine lv_goto (tgt := 108) hx hb dX6_forms_104 (by decide) ?_
              refine lv_istore (lv' := [(5, .int (1 : Int32)), (0, .ref (ad 0)), (1, .int v1), (2, .int v2), (3, .int v3), (4, .int v4), (6, .int v6)]) hx hb dX6_forms_108 hl (by decide) rfl (fun ls hl => ?_)
              refine lv_iinc (v := v6 + 1) (lv' := [(6, .int (v6 + 1)), (5, .int (1 : Int32)), (0, .ref (ad 0)), (1, .int v1), (2, .int v2), (3, .int v3), (4, .int v4)]) hx hb dX6_forms_110 hl (k := 6) rfl rfl (by decide) rfl (fun ls hl => ?_)
              refine lv_goto (tgt := 66) hx hb dX6_forms_113 (by decide) ?_
              exact hi66 _ (Ho_s h) _ _ ls hP hD hS (lv_sub hl [2, 3, 4, 5, 6, 1, 0] rfl)
      refine lv_iload hx hb dX6_forms_54 (lv_at hl 4 rfl) ?_
      refine lv_iload_n hx hb dX6_forms_56 rfl (lv_at hl 1 rfl) ?_
      refine lv_icmp_ge (tgt := 137) hx hb dX6_forms_57 (by decide) (fun q57 => ?_) (fun q57 => ?_)
      · have h := Ho_t h q57
        have h := ho54 _ (Ho_s h)
        exact J137 m_formRowk m_allFormsk v1 v2 v3 _ _ ls hP hD hS (lv_sub hl [0, 1, 2, 3] rfl) h
      · have h := Ho_f h q57
        refine lv_iconst (v := (1 : Int32)) hx hb dX6_forms_60 (by decide) ?_
        refine lv_istore (lv' := [(5, .int (1 : Int32)), (0, .ref (ad 0)), (1, .int v1), (2, .int v2), (3, .int v3), (4, .int v4)]) hx hb dX6_forms_61 hl (by decide) rfl (fun ls hl => ?_)
        refine lv_iconst (v := (0 : Int32)) hx hb dX6_forms_63 (by decide) ?_
        refine lv_istore (lv' := [(6, .int (0 : Int32)), (5, .int (1 : Int32)), (0, .ref (ad 0)), (1, .int v1), (2, .int v2), (3, .int v3), (4, .int v4)]) hx hb dX6_forms_64 hl (by decide) rfl (fun ls hl => ?_)
        exact J66 v3 v4 (1 : Int32) (0 : Int32) _ _ ls hP hD hS (lv_sub hl [2, 3, 4, 5, 6, 1, 0] rfl) h
    refine lv_iload_n hx hb dX6_forms_23 rfl (lv_at hl 2 rfl) ?_
    refine lv_iconst (v := (4 : Int32)) hx hb dX6_forms_24 (by decide) ?_
    refine lv_aload_n hx hb dX6_forms_25 rfl (lv_at hl 0 rfl) ?_
    refine va_get (D := (dC, dI)) (ci := 6) (v := .int m_n) (C := RX6) (T := TX6) (N := 20) hx hb hts hiX6 hown hK.1 hP 0 rfl rfl 1 (by decide) hf7 (fun _ h9 => h9) rfl dX6_forms_26 ?_
    refine lv_imul hx hb dX6_forms_29 ?_
    refine lv_icmp_ge (tgt := 187) hx hb dX6_forms_30 (by decide) (fun q30 => ?_) (fun q30 => ?_)
    · have h := Ho_t h q30
      have h := ho23 _ (Ho_s h)
      exact J187 m_codek m_formRowk m_allFormsk v1 _ _ ls hP hD hS (lv_sub hl [1] rfl) h
    · have h := Ho_f h q30
      refine lv_aload_n hx hb dX6_forms_33 rfl (lv_at hl 0 rfl) ?_
      refine lv_iload_n hx hb dX6_forms_34 rfl (lv_at hl 2 rfl) ?_
      refine lv_aload_n hx hb dX6_forms_35 rfl (lv_at hl 0 rfl) ?_
      refine va_get (D := (dC, dI)) (ci := 6) (v := .int m_n) (C := RX6) (T := TX6) (N := 20) hx hb hts hiX6 hown hK.1 hP 0 rfl rfl 1 (by decide) hf7 (fun _ h9 => h9) rfl dX6_forms_36 ?_
      obtain ⟨hz39, h⟩ := Ho_nz h
      refine lv_idiv hx hb dX6_forms_39 hz39 ?_
      refine lv_iload_n hx hb dX6_forms_40 rfl (lv_at hl 2 rfl) ?_
      refine lv_aload_n hx hb dX6_forms_41 rfl (lv_at hl 0 rfl) ?_
      refine va_get (D := (dC, dI)) (ci := 6) (v := .int m_n) (C := RX6) (T := TX6) (N := 20) hx hb hts hiX6 hown hK.1 hP 0 rfl rfl 1 (by decide) hf7 (fun _ h9 => h9) rfl dX6_forms_42 ?_
      obtain ⟨hz45, h⟩ := Ho_nz h
      refine lv_irem hx hb dX6_forms_45 hz45 ?_
      obtain ⟨m_formRow_46, hc46, h⟩ := Ho_b h
      have hPc : va_P (dC, dI) vwCl (wX6 cI cJ ad m_codek m_n m_built m_length m_begin m_many m_leastOf m_sizeOf m_own m_bestRow m_tryRow m_keptRow m_otherRow m_row m_formRowk m_allFormsk m_rowsOf m_intervals m_places m_whole) H := hP.sub [0, 1, 2, 3, 4, 5, 6, 7, 8, 9, 10, 11, 12, 13, 14] rfl
      have hDc : va_D A (wX6 cI cJ ad m_codek m_n m_built m_length m_begin m_many m_leastOf m_sizeOf m_own m_bestRow m_tryRow m_keptRow m_otherRow m_row m_formRowk m_allFormsk m_rowsOf m_intervals m_places m_whole) := hD.sub [0, 1, 2, 3, 4, 5, 6, 7, 8, 9, 10, 11, 12, 13, 14] (by decide) rfl
      have hFc := va_free (wc := (wX6 cI cJ ad m_codek m_n m_built m_length m_begin m_many m_leastOf m_sizeOf m_own m_bestRow m_tryRow m_keptRow m_otherRow m_row m_formRowk m_allFormsk m_rowsOf m_intervals m_places m_whole)) hD hS hA [0, 1, 2, 3, 4, 5, 6, 7, 8, 9, 10, 11, 12, 13, 14] rfl
      refine va_callv (va_runV (As := [.int (v2 / m_n), .int (v2 - v2 / m_n * m_n)]) (rest := []) hfix (c_X6_layForm l dC dI cI cJ ad H.size m_codek m_n m_built m_length m_begin m_many m_leastOf m_sizeOf m_own m_bestRow m_tryRow m_keptRow m_otherRow m_row m_formRowk m_allFormsk m_rowsOf m_intervals m_places m_whole (v2 / m_n) (v2 - v2 / m_n * m_n) _ hc46) (cwV 2 hts gX6_forms_X6_layForm rfl rfl rfl (by decide +kernel) ⟨by decide, by decide⟩) (rwP.preV hK hPc hDc rfl (ci := 6) rfl rfl) rfl rfl hl.1 rfl (lv_room (Nat.le_of_ble_eq_true rfl)) dX6_forms_46 ⟨Nat.zero_le _, Nat.zero_le _⟩) hS (fun q _ h => hFc q h) hFc (fun u t H1 locs ht hvm hw hB hz1 hk1 hS => ?_)
      obtain ⟨hP1, -, hD1⟩ := hB
      rw [ht] at hP1
      obtain ⟨hP, hD⟩ := va_join (wr := []) (w1 := (wX6 cI cJ ad m_codek m_n m_built m_length m_begin m_many m_leastOf m_sizeOf m_own m_bestRow m_tryRow m_keptRow m_otherRow m_row m_formRow_46 m_allFormsk m_rowsOf m_intervals m_places m_whole)) hP hD [0, 1, 2, 3, 4, 5, 6, 7, 8, 9, 10, 11, 12, 13, 14] [] rfl rfl (by decide) (by decide) hk1 hFc hP1 hD1
      generalize H1 = H at hP hS ⊢
      have hP : va_P (dC, dI) vwCl (wX6 cI cJ ad m_codek m_n m_built m_length m_begin m_many m_leastOf m_sizeOf m_own m_bestRow m_tryRow m_keptRow m_otherRow m_row m_formRow_46 m_allFormsk m_rowsOf m_intervals m_places m_whole) H := hP.sub [0, 1, 2, 3, 4, 5, 6, 7, 8, 9, 10, 11, 12, 13, 14] rfl
      have hD : va_D A (wX6 cI cJ ad m_codek m_n m_built m_length m_begin m_many m_leastOf m_sizeOf m_own m_bestRow m_tryRow m_keptRow m_otherRow m_row m_formRow_46 m_allFormsk m_rowsOf m_intervals m_places m_whole) := hD.sub [0, 1, 2, 3, 4, 5, 6, 7, 8, 9, 10, 11, 12, 13, 14] (by decide) rfl
      refine lv_iconst (v := (1 : Int32)) hx hb dX6_forms_49 (by decide) ?_
      refine lv_istore_n (lv' := [(3, .int (1 : Int32)), (0, .ref (ad 0)), (1, .int v1), (2, .int v2)]) hx hb dX6_forms_50 rfl hl (by decide) rfl (fun ls hl => ?_)
      refine lv_iconst (v := (0 : Int32)) hx hb dX6_forms_51 (by decide) ?_
      refine lv_istore (lv' := [(4, .int (0 : Int32)), (3, .int (1 : Int32)), (0, .ref (ad 0)), (1, .int v1), (2, .int v2)]) hx hb dX6_forms_52 hl (by decide) rfl (fun ls hl => ?_)
      exact J54 m_formRow_46 m_allFormsk v1 v2 (1 : Int32) (0 : Int32) _ _ ls hP hD hS (lv_sub hl [2, 3, 4, 1, 0] rfl) h
  refine lv_aload_n hx hb dX6_forms_0 rfl (lv_at hl 0 rfl) ?_
  refine lv_iconst (v := (0 : Int32)) hx hb dX6_forms_1 (by decide) ?_
  refine va_put (D := (dC, dI)) (ci := 6) (v := .int (0 : Int32)) (ty := .int) (C := RX6) (T := TX6) (N := 20) hx hb hts hiX6 tyX6 tyX6_ok nmX6 hown hK.1 hP hD hS 0 rfl rfl 0 (by decide) hf57 (fun _ h9 => h9) rfl (by decide +kernel) rfl rfl (Nat.le_of_ble_eq_true rfl) dX6_forms_2 (fun H locs hP hD hS => ?_)
  have hP : va_P (dC, dI) vwCl (wX6 cI cJ ad (0 : Int32) m_n m_built m_length m_begin m_many m_leastOf m_sizeOf m_own m_bestRow m_tryRow m_keptRow m_otherRow m_row m_formRow m_allForms m_rowsOf m_intervals m_places m_whole) H := hP
  have hD : va_D A (wX6 cI cJ ad (0 : Int32) m_n m_built m_length m_begin m_many m_leastOf m_sizeOf m_own m_bestRow m_tryRow m_keptRow m_otherRow m_row m_formRow m_allForms m_rowsOf m_intervals m_places m_whole) := hD
  refine lv_aload_n hx hb dX6_forms_5 rfl (lv_at hl 0 rfl) ?_
  refine va_get (D := (dC, dI)) (ci := 6) (v := .int m_many) (C := RX6) (T := TX6) (N := 20) hx hb hts hiX6 hown hK.1 hP 0 rfl rfl 12 (by decide) hf60 (fun _ h9 => h9) rfl dX6_forms_6 ?_
  refine lv_aload_n hx hb dX6_forms_9 rfl (lv_at hl 0 rfl) ?_
  refine va_get (D := (dC, dI)) (ci := 6) (v := .int m_n) (C := RX6) (T := TX6) (N := 20) hx hb hts hiX6 hown hK.1 hP 0 rfl rfl 1 (by decide) hf7 (fun _ h9 => h9) rfl dX6_forms_10 ?_
  refine lv_icmp_ge (tgt := 19) hx hb dX6_forms_13 (by decide) (fun q13 => ?_) (fun q13 => ?_)
  · have h := Ho_t h q13
    refine lv_iconst (v := (0 : Int32)) hx hb dX6_forms_19 (by decide) ?_
    refine lv_istore_n (lv' := [(1, .int (0 : Int32)), (0, .ref (ad 0))]) hx hb dX6_forms_20 rfl hl (by decide) rfl (fun ls hl => ?_)
    refine lv_iconst (v := (0 : Int32)) hx hb dX6_forms_21 (by decide) ?_
    refine lv_istore_n (lv' := [(2, .int (0 : Int32)), (1, .int (0 : Int32)), (0, .ref (ad 0))]) hx hb dX6_forms_22 rfl hl (by decide) rfl (fun ls hl => ?_)
    exact J23 (0 : Int32) m_formRow m_allForms (0 : Int32) (0 : Int32) _ _ ls hP hD hS (lv_sub hl [2, 1, 0] rfl) h
  · have h := Ho_f h q13
    refine lv_bipush (v := (-3 : Int32)) hx hb dX6_forms_16 (by decide) ?_
    exact W.iret hx hb hr (fun t ht hW => QI (Ho_e h) (by rw [ht]; exact hP) (hK.warm hW) hD (hS.F ht)) hS.2.2 dX6_forms_18 hlk
