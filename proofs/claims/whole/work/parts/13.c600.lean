abbrev rmX6_thrown : Room := { frames := 0, cells := 0, slots := 0, locals := 0 }
set_option maxHeartbeats 4000000 in
set_option maxRecDepth 100000 in
theorem c_X6_thrown (l : Launch) (dC : Nat → ClassId) (dI : Nat → Nat → Nat) (cI cJ : ClassId) (ad : Nat → Nat) (m_code : Int32) (m_n : Int32) (m_built : Int32) (m_length : Int32) (m_begin : Int32) (m_many : Int32) (m_leastOf : Nat → Int32) (m_sizeOf : Nat → Int32) (m_own : Nat → Int32) (m_bestRow : Nat → Int32) (m_tryRow : Nat → Int32) (m_keptRow : Nat → Int32) (m_otherRow : Nat → Int32) (m_row : Nat → Int32) (m_formRow : Nat → Int32) (m_allForms : Nat → Int32) (m_rowsOf : Nat → Int32) (m_intervals : Nat → Int32) (m_places : Nat → Int32) (m_whole : Nat → Int64) (r : Int32) (hF : FX6_thrown m_code = some r) : Met l yX6_thrown wsX6_thrown rmX6_thrown (roP (dC, dI) [(cI, .int), (cJ, .long)] (wX6 cI cJ ad m_code m_n m_built m_length m_begin m_many m_leastOf m_sizeOf m_own m_bestRow m_tryRow m_keptRow m_otherRow m_row m_formRow m_allForms m_rowsOf m_intervals m_places m_whole) [.ref (ad 0)]) (vp_Si (fun x => x = r)) 0 0 (fun _ => False) := by
  refine ro_start (cc := cX6_thrown) (maxL := 1) (ret := (some .int)) (by decide) rfl (Nat.le_of_ble_eq_true rfl) ?_
  intro p e s m args below meth c ls hx hb hml hr hlk hown hts hP hK hl
  have hown : s.vm.findClass RX6 = some m.cls := hown
  have hl : lv_has ls 1 [(0, .ref (ad 0))] := hl
  have h : Ho (FX6_thrown m_code) (fun x => x = r) := ⟨r, hF, rfl⟩
  unfold FX6_thrown at h
  have hfix : CallFix p m c cX6_thrown 1 s args wsX6_thrown RX6 := ⟨hx, hb, hml, hown, hts⟩
  have hiX6 : ∀ w ∈ u_ws RX6 TX6 20, w ∈ wsX6_thrown := by decide +kernel
  have hf57 := hts (.fieldLink RX6 57 "RowClassesModel" "code" "I") (by decide +kernel)
  refine lv_aload_n hx hb dX6_thrown_0 rfl (lv_at hl 0 rfl) ?_
  refine va_get (D := (dC, dI)) (ci := 6) (v := .int m_code) (C := RX6) (T := TX6) (N := 20) hx hb hts hiX6 hown hK.1 hP 0 rfl rfl 0 (by decide) hf57 (fun _ h9 => h9) rfl dX6_thrown_1 ?_
  exact W.iret hx hb hr (fun t ht _ => ro_Si (Ho_e h) ht) ro_nil dX6_thrown_4 hlk
abbrev rmX6_steps : Room := { frames := 0, cells := 0, slots := 0, locals := 0 }
set_option maxHeartbeats 4000000 in
set_option maxRecDepth 100000 in
theorem c_X6_steps (l : Launch) (dC : Nat → ClassId) (dI : Nat → Nat → Nat) (cI cJ : ClassId) (ad : Nat → Nat) (sz : Nat) (m_code : Int32) (m_n : Int32) (m_built : Int32) (m_length : Int32) (m_begin : Int32) (m_many : Int32) (m_leastOf : Nat → Int32) (m_sizeOf : Nat → Int32) (m_own : Nat → Int32) (m_bestRow : Nat → Int32) (m_tryRow : Nat → Int32) (m_keptRow : Nat → Int32) (m_otherRow : Nat → Int32) (m_row : Nat → Int32) (m_formRow : Nat → Int32) (m_allForms : Nat → Int32) (m_rowsOf : Nat → Int32) (m_intervals : Nat → Int32) (m_places : Nat → Int32) (m_whole : Nat → Int64) (x1 : Int32) (r : Int32) (m_code' : Int32) (m_n' : Int32) (m_built' : Int32) (m_many' : Int32) (hF : FX6_steps m_code m_n m_built m_many x1 = some (r, m_code', m_n', m_built', m_many')) : Met l yX6_steps wsX6_steps rmX6_steps (rwP (dC, dI) [(cI, .int), (cJ, .long)] sz (wX6 cI cJ ad m_code m_n m_built m_length m_begin m_many m_leastOf m_sizeOf m_own m_bestRow m_tryRow m_keptRow m_otherRow m_row m_formRow m_allForms m_rowsOf m_intervals m_places m_whole) [.ref (ad 0), .int x1]) (va_Qi (fun (x : Int32) (_ : Unit) => x = r) (fun _ t => va_P (dC, dI) vwCl (wX6 cI cJ ad m_code' m_n' m_built' m_length m_begin m_many' m_leastOf m_sizeOf m_own m_bestRow m_tryRow m_keptRow m_otherRow m_row m_formRow m_allForms m_rowsOf m_intervals m_places m_whole) t.heap ∧ vK (dC, dI) [(cI, .int), (cJ, .long)] t ∧ va_D (va_A (wX6 cI cJ ad m_code m_n m_built m_length m_begin m_many m_leastOf m_sizeOf m_own m_bestRow m_tryRow m_keptRow m_otherRow m_row m_formRow m_allForms m_rowsOf m_intervals m_places m_whole) sz) (wX6 cI cJ ad m_code' m_n' m_built' m_length m_begin m_many' m_leastOf m_sizeOf m_own m_bestRow m_tryRow m_keptRow m_otherRow m_row m_formRow m_allForms m_rowsOf m_intervals m_places m_whole)) (va_A (wX6 cI cJ ad m_code m_n m_built m_length m_begin m_many m_leastOf m_sizeOf m_own m_bestRow m_tryRow m_keptRow m_otherRow m_row m_formRow m_allForms m_rowsOf m_intervals m_places m_whole) sz)) 0 0 (va_A (wX6 cI cJ ad m_code m_n m_built m_length m_begin m_many m_leastOf m_sizeOf m_own m_bestRow m_tryRow m_keptRow m_otherRow m_row m_formRow m_allForms m_rowsOf m_intervals m_places m_whole) sz) := by
  refine rw_start (cc := cX6_steps) (maxL := 3) (ret := (some .int)) (by decide) rfl (Nat.le_of_ble_eq_true rfl) ?_
  intro p e s m args below meth c ls A H locs hx hb hml hr hlk hown hts hsz hP hK hD hA hS hAe hl
  have hown : s.vm.findClass RX6 = some m.cls := hown
  have hl : lv_has ls 3 [(0, .ref (ad 0)), (1, .int x1)] := hl
  have h : Ho (FX6_steps m_code m_n m_built m_many x1) (fun x => x = (r, m_code', m_n', m_built', m_many')) := ⟨_, hF, rfl⟩
  unfold FX6_steps at h
  have QI : ∀ {v0 : Int32} {m_code9 : Int32} {m_n9 : Int32} {m_built9 : Int32} {m_many9 : Int32} {t : State}, (v0, m_code9, m_n9, m_built9, m_many9) = (r, m_code', m_n', m_built', m_many') → va_P (dC, dI) vwCl (wX6 cI cJ ad m_code9 m_n9 m_built9 m_length m_begin m_many9 m_leastOf m_sizeOf m_own m_bestRow m_tryRow m_keptRow m_otherRow m_row m_formRow m_allForms m_rowsOf m_intervals m_places m_whole) t.heap → vK (dC, dI) [(cI, .int), (cJ, .long)] t → va_D A (wX6 cI cJ ad m_code9 m_n9 m_built9 m_length m_begin m_many9 m_leastOf m_sizeOf m_own m_bestRow m_tryRow m_keptRow m_otherRow m_row m_formRow m_allForms m_rowsOf m_intervals m_places m_whole) → va_F A s t → (va_Qi (fun (x : Int32) (_ : Unit) => x = r) (fun _ t => va_P (dC, dI) vwCl (wX6 cI cJ ad m_code' m_n' m_built' m_length m_begin m_many' m_leastOf m_sizeOf m_own m_bestRow m_tryRow m_keptRow m_otherRow m_row m_formRow m_allForms m_rowsOf m_intervals m_places m_whole) t.heap ∧ vK (dC, dI) [(cI, .int), (cJ, .long)] t ∧ va_D (va_A (wX6 cI cJ ad m_code m_n m_built m_length m_begin m_many m_leastOf m_sizeOf m_own m_bestRow m_tryRow m_keptRow m_otherRow m_row m_formRow m_allForms m_rowsOf m_intervals m_places m_whole) sz) (wX6 cI cJ ad m_code' m_n' m_built' m_length m_begin m_many' m_leastOf m_sizeOf m_own m_bestRow m_tryRow m_keptRow m_otherRow m_row m_formRow m_allForms m_rowsOf m_intervals m_places m_whole)) (va_A (wX6 cI cJ ad m_code m_n m_built m_length m_begin m_many m_leastOf m_sizeOf m_own m_bestRow m_tryRow m_keptRow m_otherRow m_row m_formRow m_allForms m_rowsOf m_intervals m_places m_whole) sz)) args s (.returned (some (.int v0))) t := by
    intro v0 m_code9 m_n9 m_built9 m_many9 t e9 q1 q2 q3 q4
    cases e9
    subst hAe
    exact ⟨⟨_, (), rfl, rfl, q1, q2, q3⟩, q4⟩
  have hfix : CallFix p m c cX6_steps 3 s args wsX6_steps RX6 := ⟨hx, hb, hml, hown, hts⟩
  have hiX6 : ∀ w ∈ u_ws RX6 TX6 20, w ∈ wsX6_steps := by decide +kernel
  have hf7 := hts (.fieldLink RX6 7 "RowClassesModel" "n" "I") (by decide +kernel)
  have hf57 := hts (.fieldLink RX6 57 "RowClassesModel" "code" "I") (by decide +kernel)
  have hf60 := hts (.fieldLink RX6 60 "RowClassesModel" "many" "I") (by decide +kernel)
  have hf63 := hts (.fieldLink RX6 63 "RowClassesModel" "built" "Z") (by decide +kernel)
  refine lv_aload_n hx hb dX6_steps_0 rfl (lv_at hl 0 rfl) ?_
  refine lv_iconst (v := (0 : Int32)) hx hb dX6_steps_1 (by decide) ?_
  refine va_put (D := (dC, dI)) (ci := 6) (v := .int (0 : Int32)) (ty := .int) (C := RX6) (T := TX6) (N := 20) hx hb hts hiX6 tyX6 tyX6_ok nmX6 hown hK.1 hP hD hS 0 rfl rfl 0 (by decide) hf57 (fun _ h9 => h9) rfl (by decide +kernel) rfl rfl (Nat.le_of_ble_eq_true rfl) dX6_steps_2 (fun H locs hP hD hS => ?_)
  have hP : va_P (dC, dI) vwCl (wX6 cI cJ ad (0 : Int32) m_n m_built m_length m_begin m_many m_leastOf m_sizeOf m_own m_bestRow m_tryRow m_keptRow m_otherRow m_row m_formRow m_allForms m_rowsOf m_intervals m_places m_whole) H := hP
  have hD : va_D A (wX6 cI cJ ad (0 : Int32) m_n m_built m_length m_begin m_many m_leastOf m_sizeOf m_own m_bestRow m_tryRow m_keptRow m_otherRow m_row m_formRow m_allForms m_rowsOf m_intervals m_places m_whole) := hD
  refine lv_iload_n hx hb dX6_steps_5 rfl (lv_at hl 1 rfl) ?_
  refine lv_if_ne (tgt := 16) hx hb dX6_steps_6 (by decide) (fun q6 => ?_) (fun q6 => ?_)
  · have h := Ho_f h q6
    refine lv_iload_n hx hb dX6_steps_16 rfl (lv_at hl 1 rfl) ?_
    refine lv_if_lt (tgt := 26) hx hb dX6_steps_17 (by decide) (fun q17 => ?_) (fun q17 => ?_)
    · have h := Ho_t h q17
      refine lv_bipush (v := (-2 : Int32)) hx hb dX6_steps_26 (by decide) ?_
      exact W.iret hx hb hr (fun t ht hW => QI (Ho_e h) (by rw [ht]; exact hP) (hK.warm hW) hD (hS.F ht)) hS.2.2 dX6_steps_28 hlk
    · have h := Ho_f h q17
      refine lv_iload_n hx hb dX6_steps_20 rfl (lv_at hl 1 rfl) ?_
      refine lv_bipush (v := (12 : Int32)) hx hb dX6_steps_21 (by decide) ?_
      refine lv_icmp_le (tgt := 29) hx hb dX6_steps_23 (by decide) (fun q23 => ?_) (fun q23 => ?_)
      · have h := Ho_t h q23
        refine lv_aload_n hx hb dX6_steps_29 rfl (lv_at hl 0 rfl) ?_
        refine va_get (D := (dC, dI)) (ci := 6) (v := .int m_n) (C := RX6) (T := TX6) (N := 20) hx hb hts hiX6 hown hK.1 hP 0 rfl rfl 1 (by decide) hf7 (fun _ h9 => h9) rfl dX6_steps_30 ?_
        refine lv_iload_n hx hb dX6_steps_33 rfl (lv_at hl 1 rfl) ?_
        obtain ⟨hz34, h⟩ := Ho_nz h
        refine lv_irem hx hb dX6_steps_34 hz34 ?_
        refine lv_istore_n (lv' := [(2, .int (m_n - m_n / x1 * x1)), (0, .ref (ad 0)), (1, .int x1)]) hx hb dX6_steps_35 rfl hl (by decide) rfl (fun ls hl => ?_)
        refine lv_aload_n hx hb dX6_steps_36 rfl (lv_at hl 1 rfl) ?_
        refine lv_iload_n hx hb dX6_steps_37 rfl (lv_at hl 2 rfl) ?_
        refine va_put (D := (dC, dI)) (ci := 6) (v := .int x1) (ty := .int) (C := RX6) (T := TX6) (N := 20) hx hb hts hiX6 tyX6 tyX6_ok nmX6 hown hK.1 hP hD hS 0 rfl rfl 1 (by decide) hf7 (fun _ h9 => h9) rfl (by decide +kernel) rfl rfl (Nat.le_of_ble_eq_true rfl) dX6_steps_38 (fun H locs hP hD hS => ?_)
        have hP : va_P (dC, dI) vwCl (wX6 cI cJ ad (0 : Int32) x1 m_built m_length m_begin m_many m_leastOf m_sizeOf m_own m_bestRow m_tryRow m_keptRow m_otherRow m_row m_formRow m_allForms m_rowsOf m_intervals m_places m_whole) H := hP
        have hD : va_D A (wX6 cI cJ ad (0 : Int32) x1 m_built m_length m_begin m_many m_leastOf m_sizeOf m_own m_bestRow m_tryRow m_keptRow m_otherRow m_row m_formRow m_allForms m_rowsOf m_intervals m_places m_whole) := hD
        refine lv_aload_n hx hb dX6_steps_41 rfl (lv_at hl 1 rfl) ?_
        refine lv_iconst (v := (0 : Int32)) hx hb dX6_steps_42 (by decide) ?_
        refine va_put (D := (dC, dI)) (ci := 6) (v := .int (0 : Int32)) (ty := .int) (C := RX6) (T := TX6) (N := 20) hx hb hts hiX6 tyX6 tyX6_ok nmX6 hown hK.1 hP hD hS 0 rfl rfl 12 (by decide) hf60 (fun _ h9 => h9) rfl (by decide +kernel) rfl rfl (Nat.le_of_ble_eq_true rfl) dX6_steps_43 (fun H locs hP hD hS => ?_)
        have hP : va_P (dC, dI) vwCl (wX6 cI cJ ad (0 : Int32) x1 m_built m_length m_begin (0 : Int32) m_leastOf m_sizeOf m_own m_bestRow m_tryRow m_keptRow m_otherRow m_row m_formRow m_allForms m_rowsOf m_intervals m_places m_whole) H := hP
        have hD : va_D A (wX6 cI cJ ad (0 : Int32) x1 m_built m_length m_begin (0 : Int32) m_leastOf m_sizeOf m_own m_bestRow m_tryRow m_keptRow m_otherRow m_row m_formRow m_allForms m_rowsOf m_intervals m_places m_whole) := hD
        refine lv_aload_n hx hb dX6_steps_46 rfl (lv_at hl 1 rfl) ?_
        refine lv_iconst (v := (0 : Int32)) hx hb dX6_steps_47 (by decide) ?_
        refine va_put (D := (dC, dI)) (ci := 6) (v := .int (0 : Int32)) (ty := .boolean) (C := RX6) (T := TX6) (N := 20) hx hb hts hiX6 tyX6 tyX6_ok nmX6 hown hK.1 hP hD hS 0 rfl rfl 2 (by decide) hf63 (fun _ h9 => h9) rfl (by decide +kernel) rfl rfl (Nat.le_of_ble_eq_true rfl) dX6_steps_48 (fun H locs hP hD hS => ?_)
        have hP : va_P (dC, dI) vwCl (wX6 cI cJ ad (0 : Int32) x1 (0 : Int32) m_length m_begin (0 : Int32) m_leastOf m_sizeOf m_own m_bestRow m_tryRow m_keptRow m_otherRow m_row m_formRow m_allForms m_rowsOf m_intervals m_places m_whole) H := hP
        have hD : va_D A (wX6 cI cJ ad (0 : Int32) x1 (0 : Int32) m_length m_begin (0 : Int32) m_leastOf m_sizeOf m_own m_bestRow m_tryRow m_keptRow m_otherRow m_row m_formRow m_allForms m_rowsOf m_intervals m_places m_whole) := hD
        refine lv_iload_n hx hb dX6_steps_51 rfl (lv_at hl 0 rfl) ?_
        exact W.iret hx hb hr (fun t ht hW => QI (Ho_e h) (by rw [ht]; exact hP) (hK.warm hW) hD (hS.F ht)) hS.2.2 dX6_steps_52 hlk
      · have h := Ho_f h q23
        refine lv_bipush (v := (-2 : Int32)) hx hb dX6_steps_26 (by decide) ?_
        exact W.iret hx hb hr (fun t ht hW => QI (Ho_e h) (by rw [ht]; exact hP) (hK.warm hW) hD (hS.F ht)) hS.2.2 dX6_steps_28 hlk
  · have h := Ho_t h q6
    refine lv_aload_n hx hb dX6_steps_9 rfl (lv_at hl 0 rfl) ?_
    refine lv_iconst (v := (1 : Int32)) hx hb dX6_steps_10 (by decide) ?_
    refine va_put (D := (dC, dI)) (ci := 6) (v := .int (1 : Int32)) (ty := .int) (C := RX6) (T := TX6) (N := 20) hx hb hts hiX6 tyX6 tyX6_ok nmX6 hown hK.1 hP hD hS 0 rfl rfl 0 (by decide) hf57 (fun _ h9 => h9) rfl (by decide +kernel) rfl rfl (Nat.le_of_ble_eq_true rfl) dX6_steps_11 (fun H locs hP hD hS => ?_)
    have hP : va_P (dC, dI) vwCl (wX6 cI cJ ad (1 : Int32) m_n m_built m_length m_begin m_many m_leastOf m_sizeOf m_own m_bestRow m_tryRow m_keptRow m_otherRow m_row m_formRow m_allForms m_rowsOf m_intervals m_places m_whole) H := hP
    have hD : va_D A (wX6 cI cJ ad (1 : Int32) m_n m_built m_length m_begin m_many m_leastOf m_sizeOf m_own m_bestRow m_tryRow m_keptRow m_otherRow m_row m_formRow m_allForms m_rowsOf m_intervals m_places m_whole) := hD
    refine lv_iconst (v := (0 : Int32)) hx hb dX6_steps_14 (by decide) ?_
    exact W.iret hx hb hr (fun t ht hW => QI (Ho_e h) (by rw [ht]; exact hP) (hK.warm hW) hD (hS.F ht)) hS.2.2 dX6_steps_15 hlk
abbrev rmX6_common : Room := { frames := 0, cells := 0, slots := 0, locals := 0 }
set_option maxHeartbeats 4000000 in
set_option maxRecDepth 100000 in
theorem c_X6_common (l : Launch) (dC : Nat → ClassId) (dI : Nat → Nat → Nat) (cI cJ : ClassId) (x0 : Int32) (x1 : Int32) (r : Int32) (hF : FX6_common x0 x1 = some r) : Met l yX6_common wsX6_common rmX6_common (roP (dC, dI) [(cI, .int), (cJ, .long)] [] [.int x0, .int x1]) (vp_Si (fun x => x = r)) 0 0 (fun _ => False) := by
  refine ro_start (cc := cX6_common) (maxL := 5) (ret := (some .int)) (by decide) rfl (Nat.le_of_ble_eq_true rfl) ?_
  intro p e s m args below meth c ls hx hb hml hr hlk hown hts hP hK hl
  have hown : s.vm.findClass RX6 = some m.cls := hown
  have hl : lv_has ls 5 [(0, .int x0), (1, .int x1)] := hl
  have h : Ho (FX6_common x0 x1) (fun x => x = r) := ⟨r, hF, rfl⟩
  unfold FX6_common at h
  have hfix : CallFix p m c cX6_common 5 s args wsX6_common RX6 := ⟨hx, hb, hml, hown, hts⟩
  have J21 : ∀ (v2 : Int32) (ls : Array Slot), lv_has ls 5 [(2, .int v2)] → Ho (X6_common_21 v2) (fun x => x = r) → W p l e rmX6_common s m args below meth c s.heap [] 0 0 (MQ below (vp_Si (fun x => x = r)) args s 0 0 (fun _ => False)) (F0 m 21 ls []) := by
    intro v2 ls hl h
    unfold X6_common_21 at h
    refine lv_iload_n hx hb dX6_common_21 rfl (lv_at hl 0 rfl) ?_
    exact W.iret hx hb hr (fun t ht _ => ro_Si (Ho_e h) ht) ro_nil dX6_common_22 hlk
  have J4 : ∀ (v2 : Int32) (v3 : Int32) (ls : Array Slot), lv_has ls 5 [(2, .int v2), (3, .int v3)] → Ho ((X6_common_4_l v2 v3).bind (fun ex => X6_common_21 ex)) (fun x => x = r) → W p l e rmX6_common s m args below meth c s.heap [] 0 0 (MQ below (vp_Si (fun x => x = r)) args s 0 0 (fun _ => False)) (F0 m 4 ls []) := by
    intro v2 v3 ls hl h
    refine loop_use2 (fun z : Int32 × Int32 => ∀ (ls : Array Slot), lv_has ls 5 [(2, .int z.1), (3, .int z.2)] → W p l e rmX6_common s m args below meth c s.heap [] 0 0 (MQ below (vp_Si (fun x => x = r)) args s 0 0 (fun _ => False)) (F0 m 4 ls [])) ?_ FU _ h ls hl
    intro Q4 hi4 ho4 z h ls hl
    obtain ⟨v2, v3⟩ := z
    have h : Ho (X6_common_4_s v2 v3) Q4 := h
    unfold X6_common_4_s at h
    have hl : lv_has ls 5 [(2, .int v2), (3, .int v3)] := hl
    refine lv_iload_n hx hb dX6_common_4 rfl (lv_at hl 1 rfl) ?_
    refine lv_if_eq (tgt := 21) hx hb dX6_common_5 (by decide) (fun q5 => ?_) (fun q5 => ?_)
    · have h := Ho_t h q5
      have h := ho4 _ (Ho_s h)
      exact J21 v2 ls (lv_sub hl [0] rfl) h
    · have h := Ho_f h q5
      refine lv_iload_n hx hb dX6_common_8 rfl (lv_at hl 0 rfl) ?_
      refine lv_iload_n hx hb dX6_common_9 rfl (lv_at hl 1 rfl) ?_
      obtain ⟨hz10, h⟩ := Ho_nz h
      refine lv_irem hx hb dX6_common_10 hz10 ?_
      refine lv_istore (lv' := [(4, .int (v2 - v2 / v3 * v3)), (2, .int v2), (3, .int v3)]) hx hb dX6_common_11 hl (by decide) rfl (fun ls hl => ?_)
      refine lv_iload_n hx hb dX6_common_13 rfl (lv_at hl 2 rfl) ?_
      refine lv_istore_n (lv' := [(2, .int v3), (4, .int (v2 - v2 / v3 * v3)), (3, .int v3)]) hx hb dX6_common_14 rfl hl (by decide) rfl (fun ls hl => ?_)
      refine lv_iload hx hb dX6_common_15 (lv_at hl 1 rfl) ?_
      refine lv_istore_n (lv' := [(3, .int (v2 - v2 / v3 * v3)), (2, .int v3), (4, .int (v2 - v2 / v3 * v3))]) hx hb dX6_common_17 rfl hl (by decide) rfl (fun ls hl => ?_)
      refine lv_goto (tgt := 4) hx hb dX6_common_18 (by decide) ?_
      exact hi4 _ (Ho_s h) ls (lv_sub hl [1, 0] rfl)
  refine lv_iload_n hx hb dX6_common_0 rfl (lv_at hl 0 rfl) ?_
  refine lv_istore_n (lv' := [(2, .int x0), (0, .int x0), (1, .int x1)]) hx hb dX6_common_1 rfl hl (by decide) rfl (fun ls hl => ?_)
  refine lv_iload_n hx hb dX6_common_2 rfl (lv_at hl 2 rfl) ?_
  refine lv_istore_n (lv' := [(3, .int x1), (2, .int x0), (0, .int x0), (1, .int x1)]) hx hb dX6_common_3 rfl hl (by decide) rfl (fun ls hl => ?_)
  exact J4 x0 x1 ls (lv_sub hl [1, 0] rfl) h
abbrev rmX6_isSet : Room := { frames := 0, cells := 0, slots := 0, locals := 0 }
set_option maxHeartbeats 4000000 in
set_option maxRecDepth 100000 in
theorem c_X6_isSet (l : Launch) (dC : Nat → ClassId) (dI : Nat → Nat → Nat) (cI cJ : ClassId) (ad : Nat → Nat) (m_code : Int32) (m_n : Int32) (m_built : Int32) (m_length : Int32) (m_begin : Int32) (m_many : Int32) (m_leastOf : Nat → Int32) (m_sizeOf : Nat → Int32) (m_own : Nat → Int32) (m_bestRow : Nat → Int32) (m_tryRow : Nat → Int32) (m_keptRow : Nat → Int32) (m_otherRow : Nat → Int32) (m_row : Nat → Int32) (m_formRow : Nat → Int32) (m_allForms : Nat → Int32) (m_rowsOf : Nat → Int32) (m_intervals : Nat → Int32) (m_places : Nat → Int32) (m_whole : Nat → Int64) (x1 : Int32) (r : Int32) (hF : FX6_isSet m_n x1 = some r) : Met l yX6_isSet wsX6_isSet rmX6_isSet (roP (dC, dI) [(cI, .int), (cJ, .long)] (wX6 cI cJ ad m_code m_n m_built m_length m_begin m_many m_leastOf m_sizeOf m_own m_bestRow m_tryRow m_keptRow m_otherRow m_row m_formRow m_allForms m_rowsOf m_intervals m_places m_whole) [.ref (ad 0), .int x1]) (vp_Si (fun x => x = r)) 0 0 (fun _ => False) := by
  refine ro_start (cc := cX6_isSet) (maxL := 2) (ret := (some .boolean)) (by decide) rfl (Nat.le_of_ble_eq_true rfl) ?_
  intro p e s m args below meth c ls hx hb hml hr hlk hown hts hP hK hl
  have hown : s.vm.findClass RX6 = some m.cls := hown
  have hl : lv_has ls 2 [(0, .ref (ad 0)), (1, .int x1)] := hl
  have h : Ho (FX6_isSet m_n x1) (fun x => x = r) := ⟨r, hF, rfl⟩
  unfold FX6_isSet at h
  have hfix : CallFix p m c cX6_isSet 2 s args wsX6_isSet RX6 := ⟨hx, hb, hml, hown, hts⟩
  have hiX6 : ∀ w ∈ u_ws RX6 TX6 20, w ∈ wsX6_isSet := by decide +kernel
  have hf7 := hts (.fieldLink RX6 7 "RowClassesModel" "n" "I") (by decide +kernel)
  refine lv_iload_n hx hb dX6_isSet_0 rfl (lv_at hl 1 rfl) ?_
  refine lv_if_lt (tgt := 18) hx hb dX6_isSet_1 (by decide) (fun q1 => ?_) (fun q1 => ?_)
  · have h := Ho_t h q1
    refine lv_iconst (v := (0 : Int32)) hx hb dX6_isSet_18 (by decide) ?_
    exact W.zret (ty := .boolean) hx hb hr rfl (fun t ht _ => ro_Si (Ho_e h) ht) ro_nil dX6_isSet_19 hlk
  · have h := Ho_f h q1
    refine lv_iload_n hx hb dX6_isSet_4 rfl (lv_at hl 1 rfl) ?_
    refine lv_iconst (v := (1 : Int32)) hx hb dX6_isSet_5 (by decide) ?_
    refine lv_aload_n hx hb dX6_isSet_6 rfl (lv_at hl 0 rfl) ?_
    refine va_get (D := (dC, dI)) (ci := 6) (v := .int m_n) (C := RX6) (T := TX6) (N := 20) hx hb hts hiX6 hown hK.1 hP 0 rfl rfl 1 (by decide) hf7 (fun _ h9 => h9) rfl dX6_isSet_7 ?_
    refine lv_ishl hx hb dX6_isSet_10 ?_
    refine lv_icmp_ge (tgt := 18) hx hb dX6_isSet_11 (by decide) (fun q11 => ?_) (fun q11 => ?_)
    · have h := Ho_t h q11
      refine lv_iconst (v := (0 : Int32)) hx hb dX6_isSet_18 (by decide) ?_
      exact W.zret (ty := .boolean) hx hb hr rfl (fun t ht _ => ro_Si (Ho_e h) ht) ro_nil dX6_isSet_19 hlk
    · have h := Ho_f h q11
      refine lv_iconst (v := (1 : Int32)) hx hb dX6_isSet_14 (by decide) ?_
      refine lv_goto (tgt := 19) hx hb dX6_isSet_15 (by decide) ?_
      exact W.zret (ty := .boolean) hx hb hr rfl (fun t ht _ => ro_Si (Ho_e h) ht) ro_nil dX6_isSet_19 hlk
abbrev rmX6_isStep : Room := { frames := 0, cells := 0, slots := 0, locals := 0 }
set_option maxHeartbeats 4000000 in
set_option maxRecDepth 100000 in
theorem c_X6_isStep (l : Launch) (dC : Nat → ClassId) (dI : Nat → Nat → Nat) (cI cJ : ClassId) (ad : Nat → Nat) (m_code : Int32) (m_n : Int32) (m_built : Int32) (m_length : Int32) (m_begin : Int32) (m_many : Int32) (m_leastOf : Nat → Int32) (m_sizeOf : Nat → Int32) (m_own : Nat → Int32) (m_bestRow : Nat → Int32) (m_tryRow : Nat → Int32) (m_keptRow : Nat → Int32) (m_otherRow : Nat → Int32) (m_row : Nat → Int32) (m_formRow : Nat → Int32) (m_allForms : Nat → Int32) (m_rowsOf : Nat → Int32) (m_intervals : Nat → Int32) (m_places : Nat → Int32) (m_whole : Nat → Int64) (x1 : Int32) (r : Int32) (hF : FX6_isStep m_n x1 = some r) : Met l yX6_isStep wsX6_isStep rmX6_isStep (roP (dC, dI) [(cI, .int), (cJ, .long)] (wX6 cI cJ ad m_code m_n m_built m_length m_begin m_many m_leastOf m_sizeOf m_own m_bestRow m_tryRow m_keptRow m_otherRow m_row m_formRow m_allForms m_rowsOf m_intervals m_places m_whole) [.ref (ad 0), .int x1]) (vp_Si (fun x => x = r)) 0 0 (fun _ => False) := by
  refine ro_start (cc := cX6_isStep) (maxL := 2) (ret := (some .boolean)) (by decide) rfl (Nat.le_of_ble_eq_true rfl) ?_
  intro p e s m args below meth c ls hx hb hml hr hlk hown hts hP hK hl
  have hown : s.vm.findClass RX6 = some m.cls := hown
  have hl : lv_has ls 2 [(0, .ref (ad 0)), (1, .int x1)] := hl
  have h : Ho (FX6_isStep m_n x1) (fun x => x = r) := ⟨r, hF, rfl⟩
  unfold FX6_isStep at h
  have hfix : CallFix p m c cX6_isStep 2 s args wsX6_isStep RX6 := ⟨hx, hb, hml, hown, hts⟩
  have hiX6 : ∀ w ∈ u_ws RX6 TX6 20, w ∈ wsX6_isStep := by decide +kernel
  have hf7 := hts (.fieldLink RX6 7 "RowClassesModel" "n" "I") (by decide +kernel)
  refine lv_iload_n hx hb dX6_isStep_0 rfl (lv_at hl 1 rfl) ?_
  refine lv_if_lt (tgt := 16) hx hb dX6_isStep_1 (by decide) (fun q1 => ?_) (fun q1 => ?_)
  · have h := Ho_t h q1
    refine lv_iconst (v := (0 : Int32)) hx hb dX6_isStep_16 (by decide) ?_
    exact W.zret (ty := .boolean) hx hb hr rfl (fun t ht _ => ro_Si (Ho_e h) ht) ro_nil dX6_isStep_17 hlk
  · have h := Ho_f h q1
    refine lv_iload_n hx hb dX6_isStep_4 rfl (lv_at hl 1 rfl) ?_
    refine lv_aload_n hx hb dX6_isStep_5 rfl (lv_at hl 0 rfl) ?_
    refine va_get (D := (dC, dI)) (ci := 6) (v := .int m_n) (C := RX6) (T := TX6) (N := 20) hx hb hts hiX6 hown hK.1 hP 0 rfl rfl 1 (by decide) hf7 (fun _ h9 => h9) rfl dX6_isStep_6 ?_
    refine lv_icmp_ge (tgt := 16) hx hb dX6_isStep_9 (by decide) (fun q9 => ?_) (fun q9 => ?_)
    · have h := Ho_t h q9
      refine lv_iconst (v := (0 : Int32)) hx hb dX6_isStep_16 (by decide) ?_
      exact W.zret (ty := .boolean) hx hb hr rfl (fun t ht _ => ro_Si (Ho_e h) ht) ro_nil dX6_isStep_17 hlk
    · have h := Ho_f h q9
      refine lv_iconst (v := (1 : Int32)) hx hb dX6_isStep_12 (by decide) ?_
      refine lv_goto (tgt := 17) hx hb dX6_isStep_13 (by decide) ?_
      exact W.zret (ty := .boolean) hx hb hr rfl (fun t ht _ => ro_Si (Ho_e h) ht) ro_nil dX6_isStep_17 hlk
abbrev rmX6_isIn : Room := { frames := 0, cells := 0, slots := 0, locals := 0 }
set_option maxHeartbeats 4000000 in
set_option maxRecDepth 100000 in
theorem c_X6_isIn (l : Launch) (dC : Nat → ClassId) (dI : Nat → Nat → Nat) (cI cJ : ClassId) (x0 : Int32) (x1 : Int32) (x2 : Int32) (r : Int32) (hF : FX6_isIn x0 x1 x2 = some r) : Met l yX6_isIn wsX6_isIn rmX6_isIn (roP (dC, dI) [(cI, .int), (cJ, .long)] [] [.int x0, .int x1, .int x2]) (vp_Si (fun x => x = r)) 0 0 (fun _ => False) := by
  refine ro_start (cc := cX6_isIn) (maxL := 3) (ret := (some .boolean)) (by decide) rfl (Nat.le_of_ble_eq_true rfl) ?_
  intro p e s m args below meth c ls hx hb hml hr hlk hown hts hP hK hl
  have hown : s.vm.findClass RX6 = some m.cls := hown
  have hl : lv_has ls 3 [(0, .int x0), (1, .int x1), (2, .int x2)] := hl
  have h : Ho (FX6_isIn x0 x1 x2) (fun x => x = r) := ⟨r, hF, rfl⟩
  unfold FX6_isIn at h
  have hfix : CallFix p m c cX6_isIn 3 s args wsX6_isIn RX6 := ⟨hx, hb, hml, hown, hts⟩
  refine lv_iload_n hx hb dX6_isIn_0 rfl (lv_at hl 0 rfl) ?_
  refine lv_iload_n hx hb dX6_isIn_1 rfl (lv_at hl 1 rfl) ?_
  refine lv_icmp_lt (tgt := 14) hx hb dX6_isIn_2 (by decide) (fun q2 => ?_) (fun q2 => ?_)
  · have h := Ho_t h q2
    refine lv_iconst (v := (0 : Int32)) hx hb dX6_isIn_14 (by decide) ?_
    exact W.zret (ty := .boolean) hx hb hr rfl (fun t ht _ => ro_Si (Ho_e h) ht) ro_nil dX6_isIn_15 hlk
  · have h := Ho_f h q2
    refine lv_iload_n hx hb dX6_isIn_5 rfl (lv_at hl 0 rfl) ?_
    refine lv_iload_n hx hb dX6_isIn_6 rfl (lv_at hl 2 rfl) ?_
    refine lv_icmp_gt (tgt := 14) hx hb dX6_isIn_7 (by decide) (fun q7 => ?_) (fun q7 => ?_)
    · have h := Ho_t h q7
      refine lv_iconst (v := (0 : Int32)) hx hb dX6_isIn_14 (by decide) ?_
      exact W.zret (ty := .boolean) hx hb hr rfl (fun t ht _ => ro_Si (Ho_e h) ht) ro_nil dX6_isIn_15 hlk
    · have h := Ho_f h q7
      refine lv_iconst (v := (1 : Int32)) hx hb dX6_isIn_10 (by decide) ?_
      refine lv_goto (tgt := 15) hx hb dX6_isIn_11 (by decide) ?_
      exact W.zret (ty := .boolean) hx hb hr rfl (fun t ht _ => ro_Si (Ho_e h) ht) ro_nil dX6_isIn_15 hlk
abbrev rmX6_moved : Room := { frames := 0, cells := 0, slots := 0, locals := 0 }
set_option maxHeartbeats 4000000 in
set_option maxRecDepth 100000 in
theorem c_X6_moved (l : Launch) (dC : Nat → ClassId) (dI : Nat → Nat → Nat) (cI cJ : ClassId) (ad : Nat → Nat) (m_code : Int32) (m_n : Int32) (m_built : Int32) (m_length : Int32) (m_begin : Int32) (m_many : Int32) (m_leastOf : Nat → Int32) (m_sizeOf : Nat → Int32) (m_own : Nat → Int32) (m_bestRow : Nat → Int32) (m_tryRow : Nat → Int32) (m_keptRow : Nat → Int32) (m_otherRow : Nat → Int32) (m_row : Nat → Int32) (m_formRow : Nat → Int32) (m_allForms : Nat → Int32) (m_rowsOf : Nat → Int32) (m_intervals : Nat → Int32) (m_places : Nat → Int32) (m_whole : Nat → Int64) (x1 : Int32) (x2 : Int32) (x3 : Int32) (r : Int32) (hF : FX6_moved m_n x1 x2 x3 = some r) : Met l yX6_moved wsX6_moved rmX6_moved (roP (dC, dI) [(cI, .int), (cJ, .long)] (wX6 cI cJ ad m_code m_n m_built m_length m_begin m_many m_leastOf m_sizeOf m_own m_bestRow m_tryRow m_keptRow m_otherRow m_row m_formRow m_allForms m_rowsOf m_intervals m_places m_whole) [.ref (ad 0), .int x1, .int x2, .int x3]) (vp_Si (fun x => x = r)) 0 0 (fun _ => False) := by
  refine ro_start (cc := cX6_moved) (maxL := 6) (ret := (some .int)) (by decide) rfl (Nat.le_of_ble_eq_true rfl) ?_
  intro p e s m args below meth c ls hx hb hml hr hlk hown hts hP hK hl
  have hown : s.vm.findClass RX6 = some m.cls := hown
  have hl : lv_has ls 6 [(0, .ref (ad 0)), (1, .int x1), (2, .int x2), (3, .int x3)] := hl
  have h : Ho (FX6_moved m_n x1 x2 x3) (fun x => x = r) := ⟨r, hF, rfl⟩
  unfold FX6_moved at h
  have hfix : CallFix p m c cX6_moved 6 s args wsX6_moved RX6 := ⟨hx, hb, hml, hown, hts⟩
  have hiX6 : ∀ w ∈ u_ws RX6 TX6 20, w ∈ wsX6_moved := by decide +kernel
  have hf7 := hts (.fieldLink RX6 7 "RowClassesModel" "n" "I") (by decide +kernel)
  have J49 : ∀ (v4 : Int32) (ls : Array Slot), lv_has ls 6 [(4, .int v4)] → Ho (X6_moved_49 v4) (fun x => x = r) → W p l e rmX6_moved s m args below meth c s.heap [] 0 0 (MQ below (vp_Si (fun x => x = r)) args s 0 0 (fun _ => False)) (F0 m 49 ls []) := by
    intro v4 ls hl h
    unfold X6_moved_49 at h
    refine lv_iload hx hb dX6_moved_49 (lv_at hl 0 rfl) ?_
    exact W.iret hx hb hr (fun t ht _ => ro_Si (Ho_e h) ht) ro_nil dX6_moved_51 hlk
  have J6 : ∀ (v4 : Int32) (v5 : Int32) (ls : Array Slot), lv_has ls 6 [(0, .ref (ad 0)), (1, .int x1), (2, .int x2), (3, .int x3), (4, .int v4), (5, .int v5)] → Ho ((X6_moved_6_l m_n x1 x2 x3 v4 v5).bind (fun ex => X6_moved_49 ex)) (fun x => x = r) → W p l e rmX6_moved s m args below meth c s.heap [] 0 0 (MQ below (vp_Si (fun x => x = r)) args s 0 0 (fun _ => False)) (F0 m 6 ls []) := by
    intro v4 v5 ls hl h
    refine loop_use2 (fun z : Int32 × Int32 => ∀ (ls : Array Slot), lv_has ls 6 [(0, .ref (ad 0)), (1, .int x1), (2, .int x2), (3, .int x3), (4, .int z.1), (5, .int z.2)] → W p l e rmX6_moved s m args below meth c s.heap [] 0 0 (MQ below (vp_Si (fun x => x = r)) args s 0 0 (fun _ => False)) (F0 m 6 ls [])) ?_ FU _ h ls hl
    intro Q6 hi6 ho6 z h ls hl
    obtain ⟨v4, v5⟩ := z
    have h : Ho (X6_moved_6_s m_n x1 x2 x3 v4 v5) Q6 := h
    unfold X6_moved_6_s at h
    have hl : lv_has ls 6 [(0, .ref (ad 0)), (1, .int x1), (2, .int x2), (3, .int x3), (4, .int v4), (5, .int v5)] := hl
    refine lv_iload hx hb dX6_moved_6 (lv_at hl 5 rfl) ?_
    refine lv_aload_n hx hb dX6_moved_8 rfl (lv_at hl 0 rfl) ?_
    refine va_get (D := (dC, dI)) (ci := 6) (v := .int m_n) (C := RX6) (T := TX6) (N := 20) hx hb hts hiX6 hown hK.1 hP 0 rfl rfl 1 (by decide) hf7 (fun _ h9 => h9) rfl dX6_moved_9 ?_
    refine lv_icmp_ge (tgt := 49) hx hb dX6_moved_12 (by decide) (fun q12 => ?_) (fun q12 => ?_)
    · have h := Ho_t h q12
      have h := ho6 _ (Ho_s h)
      exact J49 v4 ls (lv_sub hl [4] rfl) h
    · have h := Ho_f h q12
      refine lv_iload_n hx hb dX6_moved_15 rfl (lv_at hl 1 rfl) ?_
      refine lv_iload hx hb dX6_moved_16 (lv_at hl 5 rfl) ?_
      refine lv_ishr hx hb dX6_moved_18 ?_
      refine lv_iconst (v := (1 : Int32)) hx hb dX6_moved_19 (by decide) ?_
      refine lv_iand hx hb dX6_moved_20 ?_
      refine lv_iconst (v := (1 : Int32)) hx hb dX6_moved_21 (by decide) ?_
      refine lv_icmp_ne (tgt := 43) hx hb dX6_moved_22 (by decide) (fun q22 => ?_) (fun q22 => ?_)
      · have h := Ho_f h q22
        refine lv_iinc (v := v5 + 1) (lv' := [(5, .int (v5 + 1)), (0, .ref (ad 0)), (1, .int x1), (2, .int x2), (3, .int x3), (4, .int v4)]) hx hb dX6_moved_43 hl (k := 5) rfl rfl (by decide) rfl (fun ls hl => ?_)
        refine lv_goto (tgt := 6) hx hb dX6_moved_46 (by decide) ?_
        exact hi6 _ (Ho_s h) ls (lv_sub hl [1, 2, 3, 4, 5, 0] rfl)
      · have h := Ho_t h q22
        refine lv_iload hx hb dX6_moved_25 (lv_at hl 4 rfl) ?_
        refine lv_iconst (v := (1 : Int32)) hx hb dX6_moved_27 (by decide) ?_
        refine lv_iload_n hx hb dX6_moved_28 rfl (lv_at hl 2 rfl) ?_
        refine lv_iload hx hb dX6_moved_29 (lv_at hl 5 rfl) ?_
        refine lv_imul hx hb dX6_moved_31 ?_
        refine lv_iload_n hx hb dX6_moved_32 rfl (lv_at hl 3 rfl) ?_
        refine lv_iadd hx hb dX6_moved_33 ?_
        refine lv_aload_n hx hb dX6_moved_34 rfl (lv_at hl 0 rfl) ?_
        refine va_get (D := (dC, dI)) (ci := 6) (v := .int m_n) (C := RX6) (T := TX6) (N := 20) hx hb hts hiX6 hown hK.1 hP 0 rfl rfl 1 (by decide) hf7 (fun _ h9 => h9) rfl dX6_moved_35 ?_
        obtain ⟨hz38, h⟩ := Ho_nz h
        refine lv_irem hx hb dX6_moved_38 hz38 ?_
        refine lv_ishl hx hb dX6_moved_39 ?_
        refine lv_ior hx hb dX6_moved_40 ?_
        refine lv_istore (lv' := [(4, .int (v4 ||| ((1 : Int32) <<< ((((x2 * v5) + x3) - ((x2 * v5) + x3) / m_n * m_n) &&& 31)))), (0, .ref (ad 0)), (1, .int x1), (2, .int x2), (3, .int x3), (5, .int v5)]) hx hb dX6_moved_41 hl (by decide) rfl (fun ls hl => ?_)
        refine lv_iinc (v := v5 + 1) (lv' := [(5, .int (v5 + 1)), (4, .int (v4 ||| ((1 : Int32) <<< ((((x2 * v5) + x3) - ((x2 * v5) + x3) / m_n * m_n) &&& 31)))), (0, .ref (ad 0)), (1, .int x1), (2, .int x2), (3, .int x3)]) hx hb dX6_moved_43 hl (k := 5) rfl rfl (by decide) rfl (fun ls hl => ?_)
        refine lv_goto (tgt := 6) hx hb dX6_moved_46 (by decide) ?_
        exact hi6 _ (Ho_s h) ls (lv_sub hl [2, 3, 4, 5, 1, 0] rfl)
  refine lv_iconst (v := (0 : Int32)) hx hb dX6_moved_0 (by decide) ?_
  refine lv_istore (lv' := [(4, .int (0 : Int32)), (0, .ref (ad 0)), (1, .int x1), (2, .int x2), (3, .int x3)]) hx hb dX6_moved_1 hl (by decide) rfl (fun ls hl => ?_)
  refine lv_iconst (v := (0 : Int32)) hx hb dX6_moved_3 (by decide) ?_
  refine lv_istore (lv' := [(5, .int (0 : Int32)), (4, .int (0 : Int32)), (0, .ref (ad 0)), (1, .int x1), (2, .int x2), (3, .int x3)]) hx hb dX6_moved_4 hl (by decide) rfl (fun ls hl => ?_)
  exact J6 (0 : Int32) (0 : Int32) ls (lv_sub hl [2, 3, 4, 5, 1, 0] rfl) h
abbrev rmX6_count : Room := { frames := 0, cells := 0, slots := 0, locals := 0 }
set_option maxHeartbeats 4000000 in
set_option maxRecDepth 100000 in
theorem c_X6_count (l : Launch) (dC : Nat → ClassId) (dI : Nat → Nat → Nat) (cI cJ : ClassId) (x0 : Int32) (r : Int32) (hF : FX6_count x0 = some r) : Met l yX6_count wsX6_count rmX6_count (roP (dC, dI) [(cI, .int), (cJ, .long)] [] [.int x0]) (vp_Si (fun x => x = r)) 0 0 (fun _ => False) := by
  refine ro_start (cc := cX6_count) (maxL := 3) (ret := (some .int)) (by decide) rfl (Nat.le_of_ble_eq_true rfl) ?_
  intro p e s m args below meth c ls hx hb hml hr hlk hown hts hP hK hl
  have hown : s.vm.findClass RX6 = some m.cls := hown
  have hl : lv_has ls 3 [(0, .int x0)] := hl
  have h : Ho (FX6_count x0) (fun x => x = r) := ⟨r, hF, rfl⟩
  unfold FX6_count at h
  have hfix : CallFix p m c cX6_count 3 s args wsX6_count RX6 := ⟨hx, hb, hml, hown, hts⟩
  have J24 : ∀ (v1 : Int32) (ls : Array Slot), lv_has ls 3 [(1, .int v1)] → Ho (X6_count_24 v1) (fun x => x = r) → W p l e rmX6_count s m args below meth c s.heap [] 0 0 (MQ below (vp_Si (fun x => x = r)) args s 0 0 (fun _ => False)) (F0 m 24 ls []) := by
    intro v1 ls hl h
    unfold X6_count_24 at h
    refine lv_iload_n hx hb dX6_count_24 rfl (lv_at hl 0 rfl) ?_
    exact W.iret hx hb hr (fun t ht _ => ro_Si (Ho_e h) ht) ro_nil dX6_count_25 hlk
  have J4 : ∀ (v1 : Int32) (v2 : Int32) (ls : Array Slot), lv_has ls 3 [(0, .int x0), (1, .int v1), (2, .int v2)] → Ho ((X6_count_4_l x0 v1 v2).bind (fun ex => X6_count_24 ex)) (fun x => x = r) → W p l e rmX6_count s m args below meth c s.heap [] 0 0 (MQ below (vp_Si (fun x => x = r)) args s 0 0 (fun _ => False)) (F0 m 4 ls []) := by
    intro v1 v2 ls hl h
    refine loop_use2 (fun z : Int32 × Int32 => ∀ (ls : Array Slot), lv_has ls 3 [(0, .int x0), (1, .int z.1), (2, .int z.2)] → W p l e rmX6_count s m args below meth c s.heap [] 0 0 (MQ below (vp_Si (fun x => x = r)) args s 0 0 (fun _ => False)) (F0 m 4 ls [])) ?_ FU _ h ls hl
    intro Q4 hi4 ho4 z h ls hl
    obtain ⟨v1, v2⟩ := z
    have h : Ho (X6_count_4_s x0 v1 v2) Q4 := h
    unfold X6_count_4_s at h
    have hl : lv_has ls 3 [(0, .int x0), (1, .int v1), (2, .int v2)] := hl
    refine lv_iload_n hx hb dX6_count_4 rfl (lv_at hl 2 rfl) ?_
    refine lv_bipush (v := (12 : Int32)) hx hb dX6_count_5 (by decide) ?_
    refine lv_icmp_ge (tgt := 24) hx hb dX6_count_7 (by decide) (fun q7 => ?_) (fun q7 => ?_)
    · have h := Ho_t h q7
      have h := ho4 _ (Ho_s h)
      exact J24 v1 ls (lv_sub hl [1] rfl) h
    · have h := Ho_f h q7
      refine lv_iload_n hx hb dX6_count_10 rfl (lv_at hl 1 rfl) ?_
      refine lv_iload_n hx hb dX6_count_11 rfl (lv_at hl 0 rfl) ?_
      refine lv_iload_n hx hb dX6_count_12 rfl (lv_at hl 2 rfl) ?_
      refine lv_ishr hx hb dX6_count_13 ?_
      refine lv_iconst (v := (1 : Int32)) hx hb dX6_count_14 (by decide) ?_
      refine lv_iand hx hb dX6_count_15 ?_
      refine lv_iadd hx hb dX6_count_16 ?_
      refine lv_istore_n (lv' := [(1, .int (v1 + ((x0 >>> (v2 &&& 31)) &&& (1 : Int32)))), (0, .int x0), (2, .int v2)]) hx hb dX6_count_17 rfl hl (by decide) rfl (fun ls hl => ?_)
      refine lv_iinc (v := v2 + 1) (lv' := [(2, .int (v2 + 1)), (1, .int (v1 + ((x0 >>> (v2 &&& 31)) &&& (1 : Int32)))), (0, .int x0)]) hx hb dX6_count_18 hl (k := 2) rfl rfl (by decide) rfl (fun ls hl => ?_)
      refine lv_goto (tgt := 4) hx hb dX6_count_21 (by decide) ?_
      exact hi4 _ (Ho_s h) ls (lv_sub hl [2, 1, 0] rfl)
  refine lv_iconst (v := (0 : Int32)) hx hb dX6_count_0 (by decide) ?_
  refine lv_istore_n (lv' := [(1, .int (0 : Int32)), (0, .int x0)]) hx hb dX6_count_1 rfl hl (by decide) rfl (fun ls hl => ?_)
  refine lv_iconst (v := (0 : Int32)) hx hb dX6_count_2 (by decide) ?_
  refine lv_istore_n (lv' := [(2, .int (0 : Int32)), (1, .int (0 : Int32)), (0, .int x0)]) hx hb dX6_count_3 rfl hl (by decide) rfl (fun ls hl => ?_)
  exact J4 (0 : Int32) (0 : Int32) ls (lv_sub hl [2, 1, 0] rfl) h
abbrev rmX6_isMultiplier : Room := { frames := 1, cells := 0, slots := 0, locals := 24 }
set_option maxHeartbeats 4000000 in
set_option maxRecDepth 100000 in
theorem c_X6_isMultiplier (l : Launch) (dC : Nat → ClassId) (dI : Nat → Nat → Nat) (cI cJ : ClassId) (ad : Nat → Nat) (m_code : Int32) (m_n : Int32) (m_built : Int32) (m_length : Int32) (m_begin : Int32) (m_many : Int32) (m_leastOf : Nat → Int32) (m_sizeOf : Nat → Int32) (m_own : Nat → Int32) (m_bestRow : Nat → Int32) (m_tryRow : Nat → Int32) (m_keptRow : Nat → Int32) (m_otherRow : Nat → Int32) (m_row : Nat → Int32) (m_formRow : Nat → Int32) (m_allForms : Nat → Int32) (m_rowsOf : Nat → Int32) (m_intervals : Nat → Int32) (m_places : Nat → Int32) (m_whole : Nat → Int64) (x1 : Int32) (x2 : Int32) (r : Int32) (hF : FX6_isMultiplier m_n x1 x2 = some r) : Met l yX6_isMultiplier wsX6_isMultiplier rmX6_isMultiplier (roP (dC, dI) [(cI, .int), (cJ, .long)] (wX6 cI cJ ad m_code m_n m_built m_length m_begin m_many m_leastOf m_sizeOf m_own m_bestRow m_tryRow m_keptRow m_otherRow m_row m_formRow m_allForms m_rowsOf m_intervals m_places m_whole) [.ref (ad 0), .int x1, .int x2]) (vp_Si (fun x => x = r)) 0 0 (fun _ => False) := by
  refine ro_start (cc := cX6_isMultiplier) (maxL := 3) (ret := (some .boolean)) (by decide) rfl (Nat.le_of_ble_eq_true rfl) ?_
  intro p e s m args below meth c ls hx hb hml hr hlk hown hts hP hK hl
  have hown : s.vm.findClass RX6 = some m.cls := hown
  have hl : lv_has ls 3 [(0, .ref (ad 0)), (1, .int x1), (2, .int x2)] := hl
  have h : Ho (FX6_isMultiplier m_n x1 x2) (fun x => x = r) := ⟨r, hF, rfl⟩
  unfold FX6_isMultiplier at h
  have hfix : CallFix p m c cX6_isMultiplier 3 s args wsX6_isMultiplier RX6 := ⟨hx, hb, hml, hown, hts⟩
  have hiX6 : ∀ w ∈ u_ws RX6 TX6 20, w ∈ wsX6_isMultiplier := by decide +kernel
  have hf7 := hts (.fieldLink RX6 7 "RowClassesModel" "n" "I") (by decide +kernel)
  refine lv_iload_n hx hb dX6_isMultiplier_0 rfl (lv_at hl 1 rfl) ?_
  refine lv_if_ne (tgt := 22) hx hb dX6_isMultiplier_1 (by decide) (fun q1 => ?_) (fun q1 => ?_)
  · have h := Ho_f h q1
    refine lv_iload_n hx hb dX6_isMultiplier_22 rfl (lv_at hl 1 rfl) ?_
    refine lv_iconst (v := (1 : Int32)) hx hb dX6_isMultiplier_23 (by decide) ?_
    refine lv_icmp_ne (tgt := 55) hx hb dX6_isMultiplier_24 (by decide) (fun q24 => ?_) (fun q24 => ?_)
    · have h := Ho_f h q24
      refine lv_iload_n hx hb dX6_isMultiplier_55 rfl (lv_at hl 2 rfl) ?_
      refine lv_aload_n hx hb dX6_isMultiplier_56 rfl (lv_at hl 0 rfl) ?_
      refine va_get (D := (dC, dI)) (ci := 6) (v := .int m_n) (C := RX6) (T := TX6) (N := 20) hx hb hts hiX6 hown hK.1 hP 0 rfl rfl 1 (by decide) hf7 (fun _ h9 => h9) rfl dX6_isMultiplier_57 ?_
      obtain ⟨r60, hc60, h⟩ := Ho_b h
      refine cs_i (va_runS (As := [.int x2, .int m_n]) (rest := []) hfix (c_X6_common l dC dI cI cJ  x2 m_n _ hc60) (va_cwS 2 hts gX6_isMultiplier_X6_common rfl rfl rfl (by decide +kernel) ⟨by decide, by decide⟩) (roP.preS hK va_Pnil) rfl rfl hl.1 rfl (lv_room (Nat.le_of_ble_eq_true rfl)) dX6_isMultiplier_60 ⟨Nat.zero_le _, Nat.zero_le _⟩) ?_
      refine lv_iconst (v := (1 : Int32)) hx hb dX6_isMultiplier_63 (by decide) ?_
      refine lv_icmp_ne (tgt := 71) hx hb dX6_isMultiplier_64 (by decide) (fun q64 => ?_) (fun q64 => ?_)
      · have h := Ho_f h q64
        refine lv_iconst (v := (0 : Int32)) hx hb dX6_isMultiplier_71 (by decide) ?_
        exact W.zret (ty := .boolean) hx hb hr rfl (fun t ht _ => ro_Si (Ho_e h) ht) ro_nil dX6_isMultiplier_72 hlk
      · have h := Ho_t h q64
        refine lv_iconst (v := (1 : Int32)) hx hb dX6_isMultiplier_67 (by decide) ?_
        refine lv_goto (tgt := 72) hx hb dX6_isMultiplier_68 (by decide) ?_
        exact W.zret (ty := .boolean) hx hb hr rfl (fun t ht _ => ro_Si (Ho_e h) ht) ro_nil dX6_isMultiplier_72 hlk
    · have h := Ho_t h q24
      refine lv_iload_n hx hb dX6_isMultiplier_27 rfl (lv_at hl 2 rfl) ?_
      refine lv_iconst (v := (1 : Int32)) hx hb dX6_isMultiplier_28 (by decide) ?_
      refine lv_aload_n hx hb dX6_isMultiplier_29 rfl (lv_at hl 0 rfl) ?_
      refine va_get (D := (dC, dI)) (ci := 6) (v := .int m_n) (C := RX6) (T := TX6) (N := 20) hx hb hts hiX6 hown hK.1 hP 0 rfl rfl 1 (by decide) hf7 (fun _ h9 => h9) rfl dX6_isMultiplier_30 ?_
      obtain ⟨hz33, h⟩ := Ho_nz h
      refine lv_irem hx hb dX6_isMultiplier_33 hz33 ?_
      refine lv_icmp_eq (tgt := 47) hx hb dX6_isMultiplier_34 (by decide) (fun q34 => ?_) (fun q34 => ?_)
      · have h := Ho_t h q34
        refine lv_iconst (v := (1 : Int32)) hx hb dX6_isMultiplier_47 (by decide) ?_
        refine lv_goto (tgt := 72) hx hb dX6_isMultiplier_48 (by decide) ?_
        exact W.zret (ty := .boolean) hx hb hr rfl (fun t ht _ => ro_Si (Ho_e h) ht) ro_nil dX6_isMultiplier_72 hlk
      · have h := Ho_f h q34
        refine lv_iload_n hx hb dX6_isMultiplier_37 rfl (lv_at hl 2 rfl) ?_
        refine lv_aload_n hx hb dX6_isMultiplier_38 rfl (lv_at hl 0 rfl) ?_
        refine va_get (D := (dC, dI)) (ci := 6) (v := .int m_n) (C := RX6) (T := TX6) (N := 20) hx hb hts hiX6 hown hK.1 hP 0 rfl rfl 1 (by decide) hf7 (fun _ h9 => h9) rfl dX6_isMultiplier_39 ?_
        refine lv_iconst (v := (1 : Int32)) hx hb dX6_isMultiplier_42 (by decide) ?_
        refine lv_isub hx hb dX6_isMultiplier_43 ?_
        refine lv_icmp_ne (tgt := 51) hx hb dX6_isMultiplier_44 (by decide) (fun q44 => ?_) (fun q44 => ?_)
        · have h := Ho_f h q44
          refine lv_iconst (v := (0 : Int32)) hx hb dX6_isMultiplier_51 (by decide) ?_
          refine lv_goto (tgt := 72) hx hb dX6_isMultiplier_52 (by decide) ?_
          exact W.zret (ty := .boolean) hx hb hr rfl (fun t ht _ => ro_Si (Ho_e h) ht) ro_nil dX6_isMultiplier_72 hlk
        · have h := Ho_t h q44
          refine lv_iconst (v := (1 : Int32)) hx hb dX6_isMultiplier_47 (by decide) ?_
          refine lv_goto (tgt := 72) hx hb dX6_isMultiplier_48 (by decide) ?_
          exact W.zret (ty := .boolean) hx hb hr rfl (fun t ht _ => ro_Si (Ho_e h) ht) ro_nil dX6_isMultiplier_72 hlk
  · have h := Ho_t h q1
    refine lv_iload_n hx hb dX6_isMultiplier_4 rfl (lv_at hl 2 rfl) ?_
    refine lv_iconst (v := (1 : Int32)) hx hb dX6_isMultiplier_5 (by decide) ?_
    refine lv_aload_n hx hb dX6_isMultiplier_6 rfl (lv_at hl 0 rfl) ?_
    refine va_get (D := (dC, dI)) (ci := 6) (v := .int m_n) (C := RX6) (T := TX6) (N := 20) hx hb hts hiX6 hown hK.1 hP 0 rfl rfl 1 (by decide) hf7 (fun _ h9 => h9) rfl dX6_isMultiplier_7 ?_
    obtain ⟨hz10, h⟩ := Ho_nz h
    refine lv_irem hx hb dX6_isMultiplier_10 hz10 ?_
    refine lv_icmp_ne (tgt := 18) hx hb dX6_isMultiplier_11 (by decide) (fun q11 => ?_) (fun q11 => ?_)
    · have h := Ho_f h q11
      refine lv_iconst (v := (0 : Int32)) hx hb dX6_isMultiplier_18 (by decide) ?_
      refine lv_goto (tgt := 72) hx hb dX6_isMultiplier_19 (by decide) ?_
      exact W.zret (ty := .boolean) hx hb hr rfl (fun t ht _ => ro_Si (Ho_e h) ht) ro_nil dX6_isMultiplier_72 hlk
    · have h := Ho_t h q11
      refine lv_iconst (v := (1 : Int32)) hx hb dX6_isMultiplier_14 (by decide) ?_
      refine lv_goto (tgt := 72) hx hb dX6_isMultiplier_15 (by decide) ?_
      exact W.zret (ty := .boolean) hx hb hr rfl (fun t ht _ => ro_Si (Ho_e h) ht) ro_nil dX6_isMultiplier_72 hlk
abbrev rmX6_flood : Room := { frames := 2, cells := 0, slots := 0, locals := 46 }
set_option maxHeartbeats 4000000 in
set_option maxRecDepth 100000 in
theorem c_X6_flood (l : Launch) (dC : Nat → ClassId) (dI : Nat → Nat → Nat) (cI cJ : ClassId) (ad : Nat → Nat) (sz : Nat) (m_code : Int32) (m_n : Int32) (m_built : Int32) (m_length : Int32) (m_begin : Int32) (m_many : Int32) (m_leastOf : Nat → Int32) (m_sizeOf : Nat → Int32) (m_own : Nat → Int32) (m_bestRow : Nat → Int32) (m_tryRow : Nat → Int32) (m_keptRow : Nat → Int32) (m_otherRow : Nat → Int32) (m_row : Nat → Int32) (m_formRow : Nat → Int32) (m_allForms : Nat → Int32) (m_rowsOf : Nat → Int32) (m_intervals : Nat → Int32) (m_places : Nat → Int32) (m_whole : Nat → Int64) (x1 : Int32) (x2 : Int32) (m_leastOf' : Nat → Int32) (m_sizeOf' : Nat → Int32) (hF : FX6_flood m_n m_leastOf m_sizeOf x1 x2 = some (m_leastOf', m_sizeOf')) : Met l yX6_flood wsX6_flood rmX6_flood (rwP (dC, dI) [(cI, .int), (cJ, .long)] sz (wX6 cI cJ ad m_code m_n m_built m_length m_begin m_many m_leastOf m_sizeOf m_own m_bestRow m_tryRow m_keptRow m_otherRow m_row m_formRow m_allForms m_rowsOf m_intervals m_places m_whole) [.ref (ad 0), .int x1, .int x2]) (va_Qv (fun _ : Unit => True) (fun _ t => va_P (dC, dI) vwCl (wX6 cI cJ ad m_code m_n m_built m_length m_begin m_many m_leastOf' m_sizeOf' m_own m_bestRow m_tryRow m_keptRow m_otherRow m_row m_formRow m_allForms m_rowsOf m_intervals m_places m_whole) t.heap ∧ vK (dC, dI) [(cI, .int), (cJ, .long)] t ∧ va_D (va_A (wX6 cI cJ ad m_code m_n m_built m_length m_begin m_many m_leastOf m_sizeOf m_own m_bestRow m_tryRow m_keptRow m_otherRow m_row m_formRow m_allForms m_rowsOf m_intervals m_places m_whole) sz) (wX6 cI cJ ad m_code m_n m_built m_length m_begin m_many m_leastOf' m_sizeOf' m_own m_bestRow m_tryRow m_keptRow m_otherRow m_row m_formRow m_allForms m_rowsOf m_intervals m_places m_whole)) (va_A (wX6 cI cJ ad m_code m_n m_built m_length m_begin m_many m_leastOf m_sizeOf m_own m_bestRow m_tryRow m_keptRow m_otherRow m_row m_formRow m_allForms m_rowsOf m_intervals m_places m_whole) sz)) 0 0 (va_A (wX6 cI cJ ad m_code m_n m_built m_length m_begin m_many m_leastOf m_sizeOf m_own m_bestRow m_tryRow m_keptRow m_otherRow m_row m_formRow m_allForms m_rowsOf m_intervals m_places m_whole) sz) := by
  refine rw_start (cc := cX6_flood) (maxL := 6) (ret := none) (by decide) rfl (Nat.le_of_ble_eq_true rfl) ?_
  intro p e s m args below meth c ls A H locs hx hb hml hr hlk hown hts hsz hP hK hD hA hS hAe hl
  have hown : s.vm.findClass RX6 = some m.cls := hown
  have hl : lv_has ls 6 [(0, .ref (ad 0)), (1, .int x1), (2, .int x2)] := hl
  have h : Ho (FX6_flood m_n m_leastOf m_sizeOf x1 x2) (fun x => x = (m_leastOf', m_sizeOf')) := ⟨_, hF, rfl⟩
  unfold FX6_flood at h
  have QI : ∀ {m_leastOf9 : Nat → Int32} {m_sizeOf9 : Nat → Int32} {t : State}, (m_leastOf9, m_sizeOf9) = (m_leastOf', m_sizeOf') → va_P (dC, dI) vwCl (wX6 cI cJ ad m_code m_n m_built m_length m_begin m_many m_leastOf9 m_sizeOf9 m_own m_bestRow m_tryRow m_keptRow m_otherRow m_row m_formRow m_allForms m_rowsOf m_intervals m_places m_whole) t.heap → vK (dC, dI) [(cI, .int), (cJ, .long)] t → va_D A (wX6 cI cJ ad m_code m_n m_built m_length m_begin m_many m_leastOf9 m_sizeOf9 m_own m_bestRow m_tryRow m_keptRow m_otherRow m_row m_formRow m_allForms m_rowsOf m_intervals m_places m_whole) → va_F A s t → (va_Qv (fun _ : Unit => True) (fun _ t => va_P (dC, dI) vwCl (wX6 cI cJ ad m_code m_n m_built m_length m_begin m_many m_leastOf' m_sizeOf' m_own m_bestRow m_tryRow m_keptRow m_otherRow m_row m_formRow m_allForms m_rowsOf m_intervals m_places m_whole) t.heap ∧ vK (dC, dI) [(cI, .int), (cJ, .long)] t ∧ va_D (va_A (wX6 cI cJ ad m_code m_n m_built m_length m_begin m_many m_leastOf m_sizeOf m_own m_bestRow m_tryRow m_keptRow m_otherRow m_row m_formRow m_allForms m_rowsOf m_intervals m_places m_whole) sz) (wX6 cI cJ ad m_code m_n m_built m_length m_begin m_many m_leastOf' m_sizeOf' m_own m_bestRow m_tryRow m_keptRow m_otherRow m_row m_formRow m_allForms m_rowsOf m_intervals m_places m_whole)) (va_A (wX6 cI cJ ad m_code m_n m_built m_length m_begin m_many m_leastOf m_sizeOf m_own m_bestRow m_tryRow m_keptRow m_otherRow m_row m_formRow m_allForms m_rowsOf m_intervals m_places m_whole) sz)) args s (.returned none) t := by
    intro m_leastOf9 m_sizeOf9 t e9 q1 q2 q3 q4
    cases e9
    subst hAe
    exact ⟨⟨(), rfl, trivial, q1, q2, q3⟩, q4⟩
  have hfix : CallFix p m c cX6_flood 6 s args wsX6_flood RX6 := ⟨hx, hb, hml, hown, hts⟩
  have hiX6 : ∀ w ∈ u_ws RX6 TX6 20, w ∈ wsX6_flood := by decide +kernel
  have hf7 := hts (.fieldLink RX6 7 "RowClassesModel" "n" "I") (by decide +kernel)
  have hf13 := hts (.fieldLink RX6 13 "RowClassesModel" "leastOf" "[I") (by decide +kernel)
  have hf17 := hts (.fieldLink RX6 17 "RowClassesModel" "sizeOf" "[I") (by decide +kernel)
  have J102 : ∀ (m_leastOfk : Nat → Int32) (m_sizeOfk : Nat → Int32) (H : Heap) (locs : List Loc) (ls : Array Slot), va_P (dC, dI) vwCl (wX6 cI cJ ad m_code m_n m_built m_length m_begin m_many m_leastOfk m_sizeOfk m_own m_bestRow m_tryRow m_keptRow m_otherRow m_row m_formRow m_allForms m_rowsOf m_intervals m_places m_whole) H → va_D A (wX6 cI cJ ad m_code m_n m_built m_length m_begin m_many m_leastOfk m_sizeOfk m_own m_bestRow m_tryRow m_keptRow m_otherRow m_row m_formRow m_allForms m_rowsOf m_intervals m_places m_whole) → va_S A s.heap H locs → lv_has ls 6 [] → Ho (X6_flood_102 m_leastOfk m_sizeOfk) (fun x => x = (m_leastOf', m_sizeOf')) → W p l e rmX6_flood s m args below meth c H locs 0 0 (MQ below (va_Qv (fun _ : Unit => True) (fun _ t => va_P (dC, dI) vwCl (wX6 cI cJ ad m_code m_n m_built m_length m_begin m_many m_leastOf' m_sizeOf' m_own m_bestRow m_tryRow m_keptRow m_otherRow m_row m_formRow m_allForms m_rowsOf m_intervals m_places m_whole) t.heap ∧ vK (dC, dI) [(cI, .int), (cJ, .long)] t ∧ va_D (va_A (wX6 cI cJ ad m_code m_n m_built m_length m_begin m_many m_leastOf m_sizeOf m_own m_bestRow m_tryRow m_keptRow m_otherRow m_row m_formRow m_allForms m_rowsOf m_intervals m_places m_whole) sz) (wX6 cI cJ ad m_code m_n m_built m_length m_begin m_many m_leastOf' m_sizeOf' m_own m_bestRow m_tryRow m_keptRow m_otherRow m_row m_formRow m_allForms m_rowsOf m_intervals m_places m_whole)) (va_A (wX6 cI cJ ad m_code m_n m_built m_length m_begin m_many m_leastOf m_sizeOf m_own m_bestRow m_tryRow m_keptRow m_otherRow m_row m_formRow m_allForms m_rowsOf m_intervals m_places m_whole) sz)) args s 0 0 A) (F0 m 102 ls []) := by
    intro m_leastOfk m_sizeOfk H locs ls hP hD hS hl h
    unfold X6_flood_102 at h
    exact W.vret hx hb hr (fun t ht hW => QI (Ho_e h) (by rw [ht]; exact hP) (hK.warm hW) hD (hS.F ht)) hS.2.2 dX6_flood_102 hlk
  have J2 : ∀ (m_leastOfk : Nat → Int32) (m_sizeOfk : Nat → Int32) (v3 : Int32) (H : Heap) (locs : List Loc) (ls : Array Slot), va_P (dC, dI) vwCl (wX6 cI cJ ad m_code m_n m_built m_length m_begin m_many m_leastOfk m_sizeOfk m_own m_bestRow m_tryRow m_keptRow m_otherRow m_row m_formRow m_allForms m_rowsOf m_intervals m_places m_whole) H → va_D A (wX6 cI cJ ad m_code m_n m_built m_length m_begin m_many m_leastOfk m_sizeOfk m_own m_bestRow m_tryRow m_keptRow m_otherRow m_row m_formRow m_allForms m_rowsOf m_intervals m_places m_whole) → va_S A s.heap H locs → lv_has ls 6 [(0, .ref (ad 0)), (1, .int x1), (2, .int x2), (3, .int v3)] → Ho ((X6_flood_2_l m_n x1 x2 m_leastOfk m_sizeOfk v3).bind (fun ex => X6_flood_102 ex.1 ex.2)) (fun x => x = (m_leastOf', m_sizeOf')) → W p l e rmX6_flood s m args below meth c H locs 0 0 (MQ below (va_Qv (fun _ : Unit => True) (fun _ t => va_P (dC, dI) vwCl (wX6 cI cJ ad m_code m_n m_built m_length m_begin m_many m_leastOf' m_sizeOf' m_own m_bestRow m_tryRow m_keptRow m_otherRow m_row m_formRow m_allForms m_rowsOf m_intervals m_places m_whole) t.heap ∧ vK (dC, dI) [(cI, .int), (cJ, .long)] t ∧ va_D (va_A (wX6 cI cJ ad m_code m_n m_built m_length m_begin m_many m_leastOf m_sizeOf m_own m_bestRow m_tryRow m_keptRow m_otherRow m_row m_formRow m_allForms m_rowsOf m_intervals m_places m_whole) sz) (wX6 cI cJ ad m_code m_n m_built m_length m_begin m_many m_leastOf' m_sizeOf' m_own m_bestRow m_tryRow m_keptRow m_otherRow m_row m_formRow m_allForms m_rowsOf m_intervals m_places m_whole)) (va_A (wX6 cI cJ ad m_code m_n m_built m_length m_begin m_many m_leastOf m_sizeOf m_own m_bestRow m_tryRow m_keptRow m_otherRow m_row m_formRow m_allForms m_rowsOf m_intervals m_places m_whole) sz)) args s 0 0 A) (F0 m 2 ls []) := by
    intro m_leastOfk m_sizeOfk v3 H locs ls hP hD hS hl h
    refine loop_use2 (fun z : (Nat → Int32) × (Nat → Int32) × Int32 => ∀ (H : Heap) (locs : List Loc) (ls : Array Slot), va_P (dC, dI) vwCl (wX6 cI cJ ad m_code m_n m_built m_length m_begin m_many z.1 z.2.1 m_own m_bestRow m_tryRow m_keptRow m_otherRow m_row m_formRow m_allForms m_rowsOf m_intervals m_places m_whole) H → va_D A (wX6 cI cJ ad m_code m_n m_built m_length m_begin m_many z.1 z.2.1 m_own m_bestRow m_tryRow m_keptRow m_otherRow m_row m_formRow m_allForms m_rowsOf m_intervals m_places m_whole) → va_S A s.heap H locs → lv_has ls 6 [(0, .ref (ad 0)), (1, .int x1), (2, .int x2), (3, .int z.2.2)] → W p l e rmX6_flood s m args below meth c H locs 0 0 (MQ below (va_Qv (fun _ : Unit => True) (fun _ t => va_P (dC, dI) vwCl (wX6 cI cJ ad m_code m_n m_built m_length m_begin m_many m_leastOf' m_sizeOf' m_own m_bestRow m_tryRow m_keptRow m_otherRow m_row m_formRow m_allForms m_rowsOf m_intervals m_places m_whole) t.heap ∧ vK (dC, dI) [(cI, .int), (cJ, .long)] t ∧ va_D (va_A (wX6 cI cJ ad m_code m_n m_built m_length m_begin m_many m_leastOf m_sizeOf m_own m_bestRow m_tryRow m_keptRow m_otherRow m_row m_formRow m_allForms m_rowsOf m_intervals m_places m_whole) sz) (wX6 cI cJ ad m_code m_n m_built m_length m_begin m_many m_leastOf' m_sizeOf' m_own m_bestRow m_tryRow m_keptRow m_otherRow m_row m_formRow m_allForms m_rowsOf m_intervals m_places m_whole)) (va_A (wX6 cI cJ ad m_code m_n m_built m_length m_begin m_many m_leastOf m_sizeOf m_own m_bestRow m_tryRow m_keptRow m_otherRow m_row m_formRow m_allForms m_rowsOf m_intervals m_places m_whole) sz)) args s 0 0 A) (F0 m 2 ls [])) ?_ FU _ h H locs ls hP hD hS hl
    intro Q2 hi2 ho2 z h H locs ls hP hD hS hl
    obtain ⟨m_leastOfk, m_sizeOfk, v3⟩ := z
    have h : Ho (X6_flood_2_s m_n x1 x2 m_leastOfk m_sizeOfk v3) Q2 := h
    unfold X6_flood_2_s at h
    have hl : lv_has ls 6 [(0, .ref (ad 0)), (1, .int x1), (2, .int x2), (3, .int v3)] := hl
    have hP : va_P (dC, dI) vwCl (wX6 cI cJ ad m_code m_n m_built m_length m_begin m_many m_leastOfk m_sizeOfk m_own m_bestRow m_tryRow m_keptRow m_otherRow m_row m_formRow m_allForms m_rowsOf m_intervals m_places m_whole) H := hP
    have hD : va_D A (wX6 cI cJ ad m_code m_n m_built m_length m_begin m_many m_leastOfk m_sizeOfk m_own m_bestRow m_tryRow m_keptRow m_otherRow m_row m_formRow m_allForms m_rowsOf m_intervals m_places m_whole) := hD
    have J96 : ∀ (m_leastOfk : Nat → Int32) (m_sizeOfk : Nat → Int32) (v3 : Int32) (H : Heap) (locs : List Loc) (ls : Array Slot), va_P (dC, dI) vwCl (wX6 cI cJ ad m_code m_n m_built m_length m_begin m_many m_leastOfk m_sizeOfk m_own m_bestRow m_tryRow m_keptRow m_otherRow m_row m_formRow m_allForms m_rowsOf m_intervals m_places m_whole) H → va_D A (wX6 cI cJ ad m_code m_n m_built m_length m_begin m_many m_leastOfk m_sizeOfk m_own m_bestRow m_tryRow m_keptRow m_otherRow m_row m_formRow m_allForms m_rowsOf m_intervals m_places m_whole) → va_S A s.heap H locs → lv_has ls 6 [(0, .ref (ad 0)), (1, .int x1), (2, .int x2), (3, .int v3)] → Ho (X6_flood_96 m_leastOfk m_sizeOfk v3) Q2 → W p l e rmX6_flood s m args below meth c H locs 0 0 (MQ below (va_Qv (fun _ : Unit => True) (fun _ t => va_P (dC, dI) vwCl (wX6 cI cJ ad m_code m_n m_built m_length m_begin m_many m_leastOf' m_sizeOf' m_own m_bestRow m_tryRow m_keptRow m_otherRow m_row m_formRow m_allForms m_rowsOf m_intervals m_places m_whole) t.heap ∧ vK (dC, dI) [(cI, .int), (cJ, .long)] t ∧ va_D (va_A (wX6 cI cJ ad m_code m_n m_built m_length m_begin m_many m_leastOf m_sizeOf m_own m_bestRow m_tryRow m_keptRow m_otherRow m_row m_formRow m_allForms m_rowsOf m_intervals m_places m_whole) sz) (wX6 cI cJ ad m_code m_n m_built m_length m_begin m_many m_leastOf' m_sizeOf' m_own m_bestRow m_tryRow m_keptRow m_otherRow m_row m_formRow m_allForms m_rowsOf m_intervals m_places m_whole)) (va_A (wX6 cI cJ ad m_code m_n m_built m_length m_begin m_many m_leastOf m_sizeOf m_own m_bestRow m_tryRow m_keptRow m_otherRow m_row m_formRow m_allForms m_rowsOf m_intervals m_places m_whole) sz)) args s 0 0 A) (F0 m 96 ls []) := by
      intro m_leastOfk m_sizeOfk v3 H locs ls hP hD hS hl h
      unfold X6_flood_96 at h
      refine lv_iinc (v := v3 + 1) (lv' := [(3, .int (v3 + 1)), (0, .ref (ad 0)), (1, .int x1), (2, .int x2)]) hx hb dX6_flood_96 hl (k := 3) rfl rfl (by decide) rfl (fun ls hl => ?_)
      refine lv_goto (tgt := 2) hx hb dX6_flood_99 (by decide) ?_
      exact hi2 _ (Ho_s h) _ _ ls hP hD hS (lv_sub hl [1, 2, 3, 0] rfl)
    have J25 : ∀ (m_leastOfk : Nat → Int32) (m_sizeOfk : Nat → Int32) (v3 : Int32) (v4 : Int32) (H : Heap) (locs : List Loc) (ls : Array Slot), va_P (dC, dI) vwCl (wX6 cI cJ ad m_code m_n m_built m_length m_begin m_many m_leastOfk m_sizeOfk m_own m_bestRow m_tryRow m_keptRow m_otherRow m_row m_formRow m_allForms m_rowsOf m_intervals m_places m_whole) H → va_D A (wX6 cI cJ ad m_code m_n m_built m_length m_begin m_many m_leastOfk m_sizeOfk m_own m_bestRow m_tryRow m_keptRow m_otherRow m_row m_formRow m_allForms m_rowsOf m_intervals m_places m_whole) → va_S A s.heap H locs → lv_has ls 6 [(0, .ref (ad 0)), (1, .int x1), (2, .int x2), (3, .int v3), (4, .int v4)] → Ho ((X6_flood_25_l m_n x1 x2 v3 m_leastOfk m_sizeOfk v4).bind (fun ex => X6_flood_96 ex.1 ex.2 v3)) Q2 → W p l e rmX6_flood s m args below meth c H locs 0 0 (MQ below (va_Qv (fun _ : Unit => True) (fun _ t => va_P (dC, dI) vwCl (wX6 cI cJ ad m_code m_n m_built m_length m_begin m_many m_leastOf' m_sizeOf' m_own m_bestRow m_tryRow m_keptRow m_otherRow m_row m_formRow m_allForms m_rowsOf m_intervals m_places m_whole) t.heap ∧ vK (dC, dI) [(cI, .int), (cJ, .long)] t ∧ va_D (va_A (wX6 cI cJ ad m_code m_n m_built m_length m_begin m_many m_leastOf m_sizeOf m_own m_bestRow m_tryRow m_keptRow m_otherRow m_row m_formRow m_allForms m_rowsOf m_intervals m_places m_whole) sz) (wX6 cI cJ ad m_code m_n m_built m_length m_begin m_many m_leastOf' m_sizeOf' m_own m_bestRow m_tryRow m_keptRow m_otherRow m_row m_formRow m_allForms m_rowsOf m_intervals m_places m_whole)) (va_A (wX6 cI cJ ad m_code m_n m_built m_length m_begin m_many m_leastOf m_sizeOf m_own m_bestRow m_tryRow m_keptRow m_otherRow m_row m_formRow m_allForms m_rowsOf m_intervals m_places m_whole) sz)) args s 0 0 A) (F0 m 25 ls []) := by
      intro m_leastOfk m_sizeOfk v3 v4 H locs ls hP hD hS hl h
      refine loop_use2 (fun z : (Nat → Int32) × (Nat → Int32) × Int32 => ∀ (H : Heap) (locs : List Loc) (ls : Array Slot), va_P (dC, dI) vwCl (wX6 cI cJ ad m_code m_n m_built m_length m_begin m_many z.1 z.2.1 m_own m_bestRow m_tryRow m_keptRow m_otherRow m_row m_formRow m_allForms m_rowsOf m_intervals m_places m_whole) H → va_D A (wX6 cI cJ ad m_code m_n m_built m_length m_begin m_many z.1 z.2.1 m_own m_bestRow m_tryRow m_keptRow m_otherRow m_row m_formRow m_allForms m_rowsOf m_intervals m_places m_whole) → va_S A s.heap H locs → lv_has ls 6 [(0, .ref (ad 0)), (1, .int x1), (2, .int x2), (3, .int v3), (4, .int z.2.2)] → W p l e rmX6_flood s m args below meth c H locs 0 0 (MQ below (va_Qv (fun _ : Unit => True) (fun _ t => va_P (dC, dI) vwCl (wX6 cI cJ ad m_code m_n m_built m_length m_begin m_many m_leastOf' m_sizeOf' m_own m_bestRow m_tryRow m_keptRow m_otherRow m_row m_formRow m_allForms m_rowsOf m_intervals m_places m_whole) t.heap ∧ vK (dC, dI) [(cI, .int), (cJ, .long)] t ∧ va_D (va_A (wX6 cI cJ ad m_code m_n m_built m_length m_begin m_many m_leastOf m_sizeOf m_own m_bestRow m_tryRow m_keptRow m_otherRow m_row m_formRow m_allForms m_rowsOf m_intervals m_places m_whole) sz) (wX6 cI cJ ad m_code m_n m_built m_length m_begin m_many m_leastOf' m_sizeOf' m_own m_bestRow m_tryRow m_keptRow m_otherRow m_row m_formRow m_allForms m_rowsOf m_intervals m_places m_whole)) (va_A (wX6 cI cJ ad m_code m_n m_built m_length m_begin m_many m_leastOf m_sizeOf m_own m_bestRow m_tryRow m_keptRow m_otherRow m_row m_formRow m_allForms m_rowsOf m_intervals m_places m_whole) sz)) args s 0 0 A) (F0 m 25 ls [])) ?_ FU _ h H locs ls hP hD hS hl
      intro Q25 hi25 ho25 z h H locs ls hP hD hS hl
      obtain ⟨m_leastOfk, m_sizeOfk, v4⟩ := z
      have h : Ho (X6_flood_25_s m_n x1 x2 v3 m_leastOfk m_sizeOfk v4) Q25 := h
      unfold X6_flood_25_s at h
      have hl : lv_has ls 6 [(0, .ref (ad 0)), (1, .int x1), (2, .int x2), (3, .int v3), (4, .int v4)] := hl
      have hP : va_P (dC, dI) vwCl (wX6 cI cJ ad m_code m_n m_built m_length m_begin m_many m_leastOfk m_sizeOfk m_own m_bestRow m_tryRow m_keptRow m_otherRow m_row m_formRow m_allForms m_rowsOf m_intervals m_places m_whole) H := hP
      have hD : va_D A (wX6 cI cJ ad m_code m_n m_built m_length m_begin m_many m_leastOfk m_sizeOfk m_own m_bestRow m_tryRow m_keptRow m_otherRow m_row m_formRow m_allForms m_rowsOf m_intervals m_places m_whole) := hD
      refine lv_iload hx hb dX6_flood_25 (lv_at hl 4 rfl) ?_
      refine lv_aload_n hx hb dX6_flood_27 rfl (lv_at hl 0 rfl) ?_
      refine va_get (D := (dC, dI)) (ci := 6) (v := .int m_n) (C := RX6) (T := TX6) (N := 20) hx hb hts hiX6 hown hK.1 hP 0 rfl rfl 1 (by decide) hf7 (fun _ h9 => h9) rfl dX6_flood_28 ?_
      refine lv_icmp_ge (tgt := 96) hx hb dX6_flood_31 (by decide) (fun q31 => ?_) (fun q31 => ?_)
      · have h := Ho_t h q31
        have h := ho25 _ (Ho_s h)
        exact J96 m_leastOfk m_sizeOfk v3 _ _ ls hP hD hS (lv_sub hl [0, 1, 2, 3] rfl) h
      · have h := Ho_f h q31
        refine lv_aload_n hx hb dX6_flood_34 rfl (lv_at hl 0 rfl) ?_
        refine lv_iload_n hx hb dX6_flood_35 rfl (lv_at hl 2 rfl) ?_
        refine lv_iload_n hx hb dX6_flood_36 rfl (lv_at hl 3 rfl) ?_
        refine lv_iload hx hb dX6_flood_37 (lv_at hl 4 rfl) ?_
        obtain ⟨r39, hc39, h⟩ := Ho_b h
        have hPc : va_P (dC, dI) vwCl (wX6 cI cJ ad m_code m_n m_built m_length m_begin m_many m_leastOfk m_sizeOfk m_own m_bestRow m_tryRow m_keptRow m_otherRow m_row m_formRow m_allForms m_rowsOf m_intervals m_places m_whole) H := hP.sub [0, 1, 2, 3, 4, 5, 6, 7, 8, 9, 10, 11, 12, 13, 14] rfl
        refine cs_i (va_runV (As := [.int x2, .int v3, .int v4]) (rest := []) hfix (c_X6_moved l dC dI cI cJ ad m_code m_n m_built m_length m_begin m_many m_leastOfk m_sizeOfk m_own m_bestRow m_tryRow m_keptRow m_otherRow m_row m_formRow m_allForms m_rowsOf m_intervals m_places m_whole x2 v3 v4 _ hc39) (cwV 3 hts gX6_flood_X6_moved rfl rfl rfl (by decide +kernel) ⟨by decide, by decide⟩) (roP.preV hK hPc (ci := 6) rfl rfl) rfl rfl hl.1 rfl (lv_room (Nat.le_of_ble_eq_true rfl)) dX6_flood_39 ⟨Nat.zero_le _, Nat.zero_le _⟩) ?_
        refine lv_istore (lv' := [(5, .int r39), (0, .ref (ad 0)), (1, .int x1), (2, .int x2), (3, .int v3), (4, .int v4)]) hx hb dX6_flood_42 hl (by decide) rfl (fun ls hl => ?_)
        refine lv_aload_n hx hb dX6_flood_44 rfl (lv_at hl 1 rfl) ?_
        refine va_get (D := (dC, dI)) (ci := 6) (v := .ref (ad 1)) (C := RX6) (T := TX6) (N := 20) hx hb hts hiX6 hown hK.1 hP 0 rfl rfl 3 (by decide) hf13 (fun _ h9 => h9) rfl dX6_flood_45 ?_
        refine lv_sipush (v := (4096 : Int32)) hx hb dX6_flood_48 (by decide) ?_
        refine lv_iload_n hx hb dX6_flood_51 rfl (lv_at hl 2 rfl) ?_
        refine lv_imul hx hb dX6_flood_52 ?_
        refine lv_iload hx hb dX6_flood_53 (lv_at hl 0 rfl) ?_
        refine lv_iadd hx hb dX6_flood_55 ?_
        obtain ⟨hz56, h⟩ := Ho_ix h
        refine va_iald hx hb hK.1 hP 1 0 rfl rfl hz56 dX6_flood_56 ?_
        refine lv_if_ge (tgt := 90) hx hb dX6_flood_57 (by decide) (fun q57 => ?_) (fun q57 => ?_)
        · have h := Ho_t h q57
          refine lv_iinc (v := v4 + 1) (lv' := [(4, .int (v4 + 1)), (5, .int r39), (0, .ref (ad 0)), (1, .int x1), (2, .int x2), (3, .int v3)]) hx hb dX6_flood_90 hl (k := 5) rfl rfl (by decide) rfl (fun ls hl => ?_)
          refine lv_goto (tgt := 25) hx hb dX6_flood_93 (by decide) ?_
          exact hi25 _ (Ho_s h) _ _ ls hP hD hS (lv_sub hl [2, 3, 4, 5, 0] rfl)
        · have h := Ho_f h q57
          refine lv_aload_n hx hb dX6_flood_60 rfl (lv_at hl 1 rfl) ?_
          refine va_get (D := (dC, dI)) (ci := 6) (v := .ref (ad 1)) (C := RX6) (T := TX6) (N := 20) hx hb hts hiX6 hown hK.1 hP 0 rfl rfl 3 (by decide) hf13 (fun _ h9 => h9) rfl dX6_flood_61 ?_
          refine lv_sipush (v := (4096 : Int32)) hx hb dX6_flood_64 (by decide) ?_
          refine lv_iload_n hx hb dX6_flood_67 rfl (lv_at hl 2 rfl) ?_
          refine lv_imul hx hb dX6_flood_68 ?_
          refine lv_iload hx hb dX6_flood_69 (lv_at hl 0 rfl) ?_
          refine lv_iadd hx hb dX6_flood_71 ?_
          refine lv_iload_n hx hb dX6_flood_72 rfl (lv_at hl 3 rfl) ?_
          obtain ⟨hz73, h⟩ := Ho_ix h
          refine va_iast hx hb hK.1 hP hD hS 1 0 rfl rfl hz73 dX6_flood_73 (fun H locs hP hD hS => ?_)
          have hP : va_P (dC, dI) vwCl (wX6 cI cJ ad m_code m_n m_built m_length m_begin m_many (upd m_leastOfk (((4096 : Int32) * x1) + r39).toNatClampNeg x2) m_sizeOfk m_own m_bestRow m_tryRow m_keptRow m_otherRow m_row m_formRow m_allForms m_rowsOf m_intervals m_places m_whole) H := hP
          have hD : va_D A (wX6 cI cJ ad m_code m_n m_built m_length m_begin m_many (upd m_leastOfk (((4096 : Int32) * x1) + r39).toNatClampNeg x2) m_sizeOfk m_own m_bestRow m_tryRow m_keptRow m_otherRow m_row m_formRow m_allForms m_rowsOf m_intervals m_places m_whole) := hD
          refine lv_aload_n hx hb dX6_flood_74 rfl (lv_at hl 1 rfl) ?_
          refine va_get (D := (dC, dI)) (ci := 6) (v := .ref (ad 2)) (C := RX6) (T := TX6) (N := 20) hx hb hts hiX6 hown hK.1 hP 0 rfl rfl 4 (by decide) hf17 (fun _ h9 => h9) rfl dX6_flood_75 ?_
          refine lv_sipush (v := (4096 : Int32)) hx hb dX6_flood_78 (by decide) ?_
          refine lv_iload_n hx hb dX6_flood_81 rfl (lv_at hl 2 rfl) ?_
          refine lv_imul hx hb dX6_flood_82 ?_
          refine lv_iload_n hx hb dX6_flood_83 rfl (lv_at hl 3 rfl) ?_
          refine lv_iadd hx hb dX6_flood_84 ?_
          refine lv_dup2_11 hx hb dX6_flood_85 rfl rfl ?_
          obtain ⟨hz86, h⟩ := Ho_ix h
          refine va_iald hx hb hK.1 hP 2 0 rfl rfl hz86 dX6_flood_86 ?_
          refine lv_iconst (v := (1 : Int32)) hx hb dX6_flood_87 (by decide) ?_
          refine lv_iadd hx hb dX6_flood_88 ?_
          obtain ⟨hz89, h⟩ := Ho_ix h
          refine va_iast hx hb hK.1 hP hD hS 2 0 rfl rfl hz89 dX6_flood_89 (fun H locs hP hD hS => ?_)
          have hP : va_P (dC, dI) vwCl (wX6 cI cJ ad m_code m_n m_built m_length m_begin m_many (upd m_leastOfk (((4096 : Int32) * x1) + r39).toNatClampNeg x2) (upd m_sizeOfk (((4096 : Int32) * x1) + x2).toNatClampNeg ((m_sizeOfk (((4096 : Int32) * x1) + x2).toNatClampNeg) + (1 : Int32))) m_own m_bestRow m_tryRow m_keptRow m_otherRow m_row m_formRow m_allForms m_rowsOf m_intervals m_places m_whole) H := hP
          have hD : va_D A (wX6 cI cJ ad m_code m_n m_built m_length m_begin m_many (upd m_leastOfk (((4096 : Int32) * x1) + r39).toNatClampNeg x2) (upd m_sizeOfk (((4096 : Int32) * x1) + x2).toNatClampNeg ((m_sizeOfk (((4096 : Int32) * x1) + x2).toNatClampNeg) + (1 : Int32))) m_own m_bestRow m_tryRow m_keptRow m_otherRow m_row m_formRow m_allForms m_rowsOf m_intervals m_places m_whole) := hD
          refine lv_iinc (v := v4 + 1) (lv' := [(4, .int (v4 + 1)), (5, .int r39), (0, .ref (ad 0)), (1, .int x1), (2, .int x2), (3, .int v3)]) hx hb dX6_flood_90 hl (k := 5) rfl rfl (by decide) rfl (fun ls hl => ?_)
          refine lv_goto (tgt := 25) hx hb dX6_flood_93 (by decide) ?_
          exact hi25 _ (Ho_s h) _ _ ls hP hD hS (lv_sub hl [2, 3, 4, 5, 0] rfl)
    refine lv_iload_n hx hb dX6_flood_2 rfl (lv_at hl 3 rfl) ?_
    refine lv_aload_n hx hb dX6_flood_3 rfl (lv_at hl 0 rfl) ?_
    refine va_get (D := (dC, dI)) (ci := 6) (v := .int m_n) (C := RX6) (T := TX6) (N := 20) hx hb hts hiX6 hown hK.1 hP 0 rfl rfl 1 (by decide) hf7 (fun _ h9 => h9) rfl dX6_flood_4 ?_
    refine lv_icmp_ge (tgt := 102) hx hb dX6_flood_7 (by decide) (fun q7 => ?_) (fun q7 => ?_)
    · have h := Ho_t h q7
      have h := ho2 _ (Ho_s h)
      exact J102 m_leastOfk m_sizeOfk _ _ ls hP hD hS (lv_sub hl [] rfl) h
    · have h := Ho_f h q7
      refine lv_aload_n hx hb dX6_flood_10 rfl (lv_at hl 0 rfl) ?_
      refine lv_iload_n hx hb dX6_flood_11 rfl (lv_at hl 1 rfl) ?_
      refine lv_iload_n hx hb dX6_flood_12 rfl (lv_at hl 3 rfl) ?_
      obtain ⟨r13, hc13, h⟩ := Ho_b h
      have hPc : va_P (dC, dI) vwCl (wX6 cI cJ ad m_code m_n m_built m_length m_begin m_many m_leastOfk m_sizeOfk m_own m_bestRow m_tryRow m_keptRow m_otherRow m_row m_formRow m_allForms m_rowsOf m_intervals m_places m_whole) H := hP.sub [0, 1, 2, 3, 4, 5, 6, 7, 8, 9, 10, 11, 12, 13, 14] rfl
      refine cs_i (va_runV (As := [.int x1, .int v3]) (rest := []) hfix (c_X6_isMultiplier l dC dI cI cJ ad m_code m_n m_built m_length m_begin m_many m_leastOfk m_sizeOfk m_own m_bestRow m_tryRow m_keptRow m_otherRow m_row m_formRow m_allForms m_rowsOf m_intervals m_places m_whole x1 v3 _ hc13) (cwV 2 hts gX6_flood_X6_isMultiplier rfl rfl rfl (by decide +kernel) ⟨by decide, by decide⟩) (roP.preV hK hPc (ci := 6) rfl rfl) rfl rfl hl.1 rfl (lv_room (Nat.le_of_ble_eq_true rfl)) dX6_flood_13 ⟨Nat.zero_le _, Nat.zero_le _⟩) ?_
      refine lv_if_ne (tgt := 22) hx hb dX6_flood_16 (by decide) (fun q16 => ?_) (fun q16 => ?_)
      · have h := Ho_f h q16
        refine lv_iconst (v := (0 : Int32)) hx hb dX6_flood_22 (by decide) ?_
        refine lv_istore (lv' := [(4, .int (0 : Int32)), (0, .ref (ad 0)), (1, .int x1), (2, .int x2), (3, .int v3)]) hx hb dX6_flood_23 hl (by decide) rfl (fun ls hl => ?_)
        exact J25 m_leastOfk m_sizeOfk v3 (0 : Int32) _ _ ls hP hD hS (lv_sub hl [1, 2, 3, 4, 0] rfl) h
      · have h := Ho_t h q16
        refine lv_goto (tgt := 96) hx hb dX6_flood_19 (by decide) ?_
        exact J96 m_leastOfk m_sizeOfk v3 _ _ ls hP hD hS (lv_sub hl [0, 1, 2, 3] rfl) h
  refine lv_iconst (v := (0 : Int32)) hx hb dX6_flood_0 (by decide) ?_
  refine lv_istore_n (lv' := [(3, .int (0 : Int32)), (0, .ref (ad 0)), (1, .int x1), (2, .int x2)]) hx hb dX6_flood_1 rfl hl (by decide) rfl (fun ls hl => ?_)
  exact J2 m_leastOf m_sizeOf (0 : Int32) _ _ ls hP hD hS (lv_sub hl [1, 2, 3, 0] rfl) h
