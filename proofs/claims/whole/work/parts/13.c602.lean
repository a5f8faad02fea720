abbrev rmX6_size : Room := { frames := 5, cells := 0, slots := 0, locals := 115 }
set_option maxHeartbeats 4000000 in
set_option maxRecDepth 100000 in
theorem c_X6_size (l : Launch) (dC : Nat → ClassId) (dI : Nat → Nat → Nat) (cI cJ : ClassId) (ad : Nat → Nat) (sz : Nat) (m_code : Int32) (m_n : Int32) (m_built : Int32) (m_length : Int32) (m_begin : Int32) (m_many : Int32) (m_leastOf : Nat → Int32) (m_sizeOf : Nat → Int32) (m_own : Nat → Int32) (m_bestRow : Nat → Int32) (m_tryRow : Nat → Int32) (m_keptRow : Nat → Int32) (m_otherRow : Nat → Int32) (m_row : Nat → Int32) (m_formRow : Nat → Int32) (m_allForms : Nat → Int32) (m_rowsOf : Nat → Int32) (m_intervals : Nat → Int32) (m_places : Nat → Int32) (m_whole : Nat → Int64) (x1 : Int32) (x2 : Int32) (r : Int32) (m_code' : Int32) (m_built' : Int32) (m_leastOf' : Nat → Int32) (m_sizeOf' : Nat → Int32) (hF : FX6_size m_code m_n m_built m_leastOf m_sizeOf x1 x2 = some (r, m_code', m_built', m_leastOf', m_sizeOf')) : Met l yX6_size wsX6_size rmX6_size (rwP (dC, dI) [(cI, .int), (cJ, .long)] sz (wX6 cI cJ ad m_code m_n m_built m_length m_begin m_many m_leastOf m_sizeOf m_own m_bestRow m_tryRow m_keptRow m_otherRow m_row m_formRow m_allForms m_rowsOf m_intervals m_places m_whole) [.ref (ad 0), .int x1, .int x2]) (va_Qi (fun (x : Int32) (_ : Unit) => x = r) (fun _ t => va_P (dC, dI) vwCl (wX6 cI cJ ad m_code' m_n m_built' m_length m_begin m_many m_leastOf' m_sizeOf' m_own m_bestRow m_tryRow m_keptRow m_otherRow m_row m_formRow m_allForms m_rowsOf m_intervals m_places m_whole) t.heap ∧ vK (dC, dI) [(cI, .int), (cJ, .long)] t ∧ va_D (va_A (wX6 cI cJ ad m_code m_n m_built m_length m_begin m_many m_leastOf m_sizeOf m_own m_bestRow m_tryRow m_keptRow m_otherRow m_row m_formRow m_allForms m_rowsOf m_intervals m_places m_whole) sz) (wX6 cI cJ ad m_code' m_n m_built' m_length m_begin m_many m_leastOf' m_sizeOf' m_own m_bestRow m_tryRow m_keptRow m_otherRow m_row m_formRow m_allForms m_rowsOf m_intervals m_places m_whole)) (va_A (wX6 cI cJ ad m_code m_n m_built m_length m_begin m_many m_leastOf m_sizeOf m_own m_bestRow m_tryRow m_keptRow m_otherRow m_row m_formRow m_allForms m_rowsOf m_intervals m_places m_whole) sz)) 0 0 (va_A (wX6 cI cJ ad m_code m_n m_built m_length m_begin m_many m_leastOf m_sizeOf m_own m_bestRow m_tryRow m_keptRow m_otherRow m_row m_formRow m_allForms m_rowsOf m_intervals m_places m_whole) sz) := by
  refine rw_start (cc := cX6_size) (maxL := 3) (ret := (some .int)) (by decide) rfl (Nat.le_of_ble_eq_true rfl) ?_
  intro p e s m args below meth c ls A H locs hx hb hml hr hlk hown hts hsz hP hK hD hA hS hAe hl
  have hown : s.vm.findClass RX6 = some m.cls := hown
  have hl : lv_has ls 3 [(0, .ref (ad 0)), (1, .int x1), (2, .int x2)] := hl
  have h : Ho (FX6_size m_code m_n m_built m_leastOf m_sizeOf x1 x2) (fun x => x = (r, m_code', m_built', m_leastOf', m_sizeOf')) := ⟨_, hF, rfl⟩
  unfold FX6_size at h
  have QI : ∀ {v0 : Int32} {m_code9 : Int32} {m_built9 : Int32} {m_leastOf9 : Nat → Int32} {m_sizeOf9 : Nat → Int32} {t : State}, (v0, m_code9, m_built9, m_leastOf9, m_sizeOf9) = (r, m_code', m_built', m_leastOf', m_sizeOf') → va_P (dC, dI) vwCl (wX6 cI cJ ad m_code9 m_n m_built9 m_length m_begin m_many m_leastOf9 m_sizeOf9 m_own m_bestRow m_tryRow m_keptRow m_otherRow m_row m_formRow m_allForms m_rowsOf m_intervals m_places m_whole) t.heap → vK (dC, dI) [(cI, .int), (cJ, .long)] t → va_D A (wX6 cI cJ ad m_code9 m_n m_built9 m_length m_begin m_many m_leastOf9 m_sizeOf9 m_own m_bestRow m_tryRow m_keptRow m_otherRow m_row m_formRow m_allForms m_rowsOf m_intervals m_places m_whole) → va_F A s t → (va_Qi (fun (x : Int32) (_ : Unit) => x = r) (fun _ t => va_P (dC, dI) vwCl (wX6 cI cJ ad m_code' m_n m_built' m_length m_begin m_many m_leastOf' m_sizeOf' m_own m_bestRow m_tryRow m_keptRow m_otherRow m_row m_formRow m_allForms m_rowsOf m_intervals m_places m_whole) t.heap ∧ vK (dC, dI) [(cI, .int), (cJ, .long)] t ∧ va_D (va_A (wX6 cI cJ ad m_code m_n m_built m_length m_begin m_many m_leastOf m_sizeOf m_own m_bestRow m_tryRow m_keptRow m_otherRow m_row m_formRow m_allForms m_rowsOf m_intervals m_places m_whole) sz) (wX6 cI cJ ad m_code' m_n m_built' m_length m_begin m_many m_leastOf' m_sizeOf' m_own m_bestRow m_tryRow m_keptRow m_otherRow m_row m_formRow m_allForms m_rowsOf m_intervals m_places m_whole)) (va_A (wX6 cI cJ ad m_code m_n m_built m_length m_begin m_many m_leastOf m_sizeOf m_own m_bestRow m_tryRow m_keptRow m_otherRow m_row m_formRow m_allForms m_rowsOf m_intervals m_places m_whole) sz)) args s (.returned (some (.int v0))) t := by
    intro v0 m_code9 m_built9 m_leastOf9 m_sizeOf9 t e9 q1 q2 q3 q4
    cases e9
    subst hAe
    exact ⟨⟨_, (), rfl, rfl, q1, q2, q3⟩, q4⟩
  have hfix : CallFix p m c cX6_size 3 s args wsX6_size RX6 := ⟨hx, hb, hml, hown, hts⟩
  have hiX6 : ∀ w ∈ u_ws RX6 TX6 20, w ∈ wsX6_size := by decide +kernel
  have hf17 := hts (.fieldLink RX6 17 "RowClassesModel" "sizeOf" "[I") (by decide +kernel)
  have hf57 := hts (.fieldLink RX6 57 "RowClassesModel" "code" "I") (by decide +kernel)
  refine lv_aload_n hx hb dX6_size_0 rfl (lv_at hl 0 rfl) ?_
  refine lv_iconst (v := (0 : Int32)) hx hb dX6_size_1 (by decide) ?_
  refine va_put (D := (dC, dI)) (ci := 6) (v := .int (0 : Int32)) (ty := .int) (C := RX6) (T := TX6) (N := 20) hx hb hts hiX6 tyX6 tyX6_ok nmX6 hown hK.1 hP hD hS 0 rfl rfl 0 (by decide) hf57 (fun _ h9 => h9) rfl (by decide +kernel) rfl rfl (Nat.le_of_ble_eq_true rfl) dX6_size_2 (fun H locs hP hD hS => ?_)
  have hP : va_P (dC, dI) vwCl (wX6 cI cJ ad (0 : Int32) m_n m_built m_length m_begin m_many m_leastOf m_sizeOf m_own m_bestRow m_tryRow m_keptRow m_otherRow m_row m_formRow m_allForms m_rowsOf m_intervals m_places m_whole) H := hP
  have hD : va_D A (wX6 cI cJ ad (0 : Int32) m_n m_built m_length m_begin m_many m_leastOf m_sizeOf m_own m_bestRow m_tryRow m_keptRow m_otherRow m_row m_formRow m_allForms m_rowsOf m_intervals m_places m_whole) := hD
  refine lv_aload_n hx hb dX6_size_5 rfl (lv_at hl 0 rfl) ?_
  refine lv_iload_n hx hb dX6_size_6 rfl (lv_at hl 1 rfl) ?_
  obtain ⟨r7, hc7, h⟩ := Ho_b h
  have hPc : va_P (dC, dI) vwCl (wX6 cI cJ ad (0 : Int32) m_n m_built m_length m_begin m_many m_leastOf m_sizeOf m_own m_bestRow m_tryRow m_keptRow m_otherRow m_row m_formRow m_allForms m_rowsOf m_intervals m_places m_whole) H := hP.sub [0, 1, 2, 3, 4, 5, 6, 7, 8, 9, 10, 11, 12, 13, 14] rfl
  refine cs_i (va_runV (As := [.int x1]) (rest := []) hfix (c_X6_isSet l dC dI cI cJ ad (0 : Int32) m_n m_built m_length m_begin m_many m_leastOf m_sizeOf m_own m_bestRow m_tryRow m_keptRow m_otherRow m_row m_formRow m_allForms m_rowsOf m_intervals m_places m_whole x1 _ hc7) (cwV 1 hts gX6_size_X6_isSet rfl rfl rfl (by decide +kernel) ⟨by decide, by decide⟩) (roP.preV hK hPc (ci := 6) rfl rfl) rfl rfl hl.1 rfl (lv_room (Nat.le_of_ble_eq_true rfl)) dX6_size_7 ⟨Nat.zero_le _, Nat.zero_le _⟩) ?_
  refine lv_if_eq (tgt := 42) hx hb dX6_size_10 (by decide) (fun q10 => ?_) (fun q10 => ?_)
  · have h := Ho_t h q10
    refine lv_bipush (v := (-2 : Int32)) hx hb dX6_size_42 (by decide) ?_
    exact W.iret hx hb hr (fun t ht hW => QI (Ho_e h) (by rw [ht]; exact hP) (hK.warm hW) hD (hS.F ht)) hS.2.2 dX6_size_44 hlk
  · have h := Ho_f h q10
    refine lv_iload_n hx hb dX6_size_13 rfl (lv_at hl 2 rfl) ?_
    refine lv_iconst (v := (0 : Int32)) hx hb dX6_size_14 (by decide) ?_
    refine lv_iconst (v := (2 : Int32)) hx hb dX6_size_15 (by decide) ?_
    obtain ⟨r16, hc16, h⟩ := Ho_b h
    refine cs_i (va_runS (As := [.int x2, .int (0 : Int32), .int (2 : Int32)]) (rest := []) hfix (c_X6_isIn l dC dI cI cJ  x2 (0 : Int32) (2 : Int32) _ hc16) (va_cwS 3 hts gX6_size_X6_isIn rfl rfl rfl (by decide +kernel) ⟨by decide, by decide⟩) (roP.preS hK va_Pnil) rfl rfl hl.1 rfl (lv_room (Nat.le_of_ble_eq_true rfl)) dX6_size_16 ⟨Nat.zero_le _, Nat.zero_le _⟩) ?_
    refine lv_if_eq (tgt := 42) hx hb dX6_size_19 (by decide) (fun q19 => ?_) (fun q19 => ?_)
    · have h := Ho_t h q19
      refine lv_bipush (v := (-2 : Int32)) hx hb dX6_size_42 (by decide) ?_
      exact W.iret hx hb hr (fun t ht hW => QI (Ho_e h) (by rw [ht]; exact hP) (hK.warm hW) hD (hS.F ht)) hS.2.2 dX6_size_44 hlk
    · have h := Ho_f h q19
      refine lv_aload_n hx hb dX6_size_22 rfl (lv_at hl 0 rfl) ?_
      refine va_get (D := (dC, dI)) (ci := 6) (v := .ref (ad 2)) (C := RX6) (T := TX6) (N := 20) hx hb hts hiX6 hown hK.1 hP 0 rfl rfl 4 (by decide) hf17 (fun _ h9 => h9) rfl dX6_size_23 ?_
      refine lv_sipush (v := (4096 : Int32)) hx hb dX6_size_26 (by decide) ?_
      refine lv_iload_n hx hb dX6_size_29 rfl (lv_at hl 2 rfl) ?_
      refine lv_imul hx hb dX6_size_30 ?_
      refine lv_aload_n hx hb dX6_size_31 rfl (lv_at hl 0 rfl) ?_
      refine lv_iload_n hx hb dX6_size_32 rfl (lv_at hl 2 rfl) ?_
      refine lv_iload_n hx hb dX6_size_33 rfl (lv_at hl 1 rfl) ?_
      obtain ⟨r34, m_built_34, m_leastOf_34, m_sizeOf_34, hc34, h⟩ := Ho_b4 h
      have hPc : va_P (dC, dI) vwCl (wX6 cI cJ ad (0 : Int32) m_n m_built m_length m_begin m_many m_leastOf m_sizeOf m_own m_bestRow m_tryRow m_keptRow m_otherRow m_row m_formRow m_allForms m_rowsOf m_intervals m_places m_whole) H := hP.sub [0, 1, 2, 3, 4, 5, 6, 7, 8, 9, 10, 11, 12, 13, 14] rfl
      have hDc : va_D A (wX6 cI cJ ad (0 : Int32) m_n m_built m_length m_begin m_many m_leastOf m_sizeOf m_own m_bestRow m_tryRow m_keptRow m_otherRow m_row m_formRow m_allForms m_rowsOf m_intervals m_places m_whole) := hD.sub [0, 1, 2, 3, 4, 5, 6, 7, 8, 9, 10, 11, 12, 13, 14] (by decide) rfl
      have hFc := va_free (wc := (wX6 cI cJ ad (0 : Int32) m_n m_built m_length m_begin m_many m_leastOf m_sizeOf m_own m_bestRow m_tryRow m_keptRow m_otherRow m_row m_formRow m_allForms m_rowsOf m_intervals m_places m_whole)) hD hS hA [0, 1, 2, 3, 4, 5, 6, 7, 8, 9, 10, 11, 12, 13, 14] rfl
      refine va_calli (va_runV (As := [.int x2, .int x1]) (rest := [.int ((4096 : Int32) * x2), .ref (ad 2)]) hfix (c_X6_leastIn l dC dI cI cJ ad H.size (0 : Int32) m_n m_built m_length m_begin m_many m_leastOf m_sizeOf m_own m_bestRow m_tryRow m_keptRow m_otherRow m_row m_formRow m_allForms m_rowsOf m_intervals m_places m_whole x2 x1 _ _ _ _ hc34) (cwV 2 hts gX6_size_X6_leastIn rfl rfl rfl (by decide +kernel) ⟨by decide, by decide⟩) (rwP.preV hK hPc hDc rfl (ci := 6) rfl rfl) rfl rfl hl.1 rfl (lv_room (Nat.le_of_ble_eq_true rfl)) dX6_size_34 ⟨Nat.zero_le _, Nat.zero_le _⟩) hS (fun q _ h => hFc q h) hFc (fun y34 u t H1 locs ht hvm hw hB hz1 hk1 hS => ?_)
      obtain ⟨hP1, -, hD1⟩ := hB
      rw [ht] at hP1
      have hw : y34 = r34 := hw
      rw [hw]
      obtain ⟨hP, hD⟩ := va_join (wr := []) (w1 := (wX6 cI cJ ad (0 : Int32) m_n m_built_34 m_length m_begin m_many m_leastOf_34 m_sizeOf_34 m_own m_bestRow m_tryRow m_keptRow m_otherRow m_row m_formRow m_allForms m_rowsOf m_intervals m_places m_whole)) hP hD [0, 1, 2, 3, 4, 5, 6, 7, 8, 9, 10, 11, 12, 13, 14] [] rfl rfl (by decide) (by decide) hk1 hFc hP1 hD1
      generalize H1 = H at hP hS ⊢
      have hP : va_P (dC, dI) vwCl (wX6 cI cJ ad (0 : Int32) m_n m_built_34 m_length m_begin m_many m_leastOf_34 m_sizeOf_34 m_own m_bestRow m_tryRow m_keptRow m_otherRow m_row m_formRow m_allForms m_rowsOf m_intervals m_places m_whole) H := hP.sub [0, 1, 2, 3, 4, 5, 6, 7, 8, 9, 10, 11, 12, 13, 14] rfl
      have hD : va_D A (wX6 cI cJ ad (0 : Int32) m_n m_built_34 m_length m_begin m_many m_leastOf_34 m_sizeOf_34 m_own m_bestRow m_tryRow m_keptRow m_otherRow m_row m_formRow m_allForms m_rowsOf m_intervals m_places m_whole) := hD.sub [0, 1, 2, 3, 4, 5, 6, 7, 8, 9, 10, 11, 12, 13, 14] (by decide) rfl
      refine lv_iadd hx hb dX6_size_37 ?_
      obtain ⟨hz38, h⟩ := Ho_ix h
      refine va_iald hx hb hK.1 hP 2 0 rfl rfl hz38 dX6_size_38 ?_
      refine lv_goto (tgt := 44) hx hb dX6_size_39 (by decide) ?_
      exact W.iret hx hb hr (fun t ht hW => QI (Ho_e h) (by rw [ht]; exact hP) (hK.warm hW) hD (hS.F ht)) hS.2.2 dX6_size_44 hlk
abbrev rmX6_leads : Room := { frames := 5, cells := 0, slots := 0, locals := 115 }
set_option maxHeartbeats 4000000 in
set_option maxRecDepth 100000 in
theorem c_X6_leads (l : Launch) (dC : Nat → ClassId) (dI : Nat → Nat → Nat) (cI cJ : ClassId) (ad : Nat → Nat) (sz : Nat) (m_code : Int32) (m_n : Int32) (m_built : Int32) (m_length : Int32) (m_begin : Int32) (m_many : Int32) (m_leastOf : Nat → Int32) (m_sizeOf : Nat → Int32) (m_own : Nat → Int32) (m_bestRow : Nat → Int32) (m_tryRow : Nat → Int32) (m_keptRow : Nat → Int32) (m_otherRow : Nat → Int32) (m_row : Nat → Int32) (m_formRow : Nat → Int32) (m_allForms : Nat → Int32) (m_rowsOf : Nat → Int32) (m_intervals : Nat → Int32) (m_places : Nat → Int32) (m_whole : Nat → Int64) (x1 : Int32) (x2 : Int32) (x3 : Int32) (r : Int32) (m_built' : Int32) (m_leastOf' : Nat → Int32) (m_sizeOf' : Nat → Int32) (hF : FX6_leads m_n m_built m_leastOf m_sizeOf x1 x2 x3 = some (r, m_built', m_leastOf', m_sizeOf')) : Met l yX6_leads wsX6_leads rmX6_leads (rwP (dC, dI) [(cI, .int), (cJ, .long)] sz (wX6 cI cJ ad m_code m_n m_built m_length m_begin m_many m_leastOf m_sizeOf m_own m_bestRow m_tryRow m_keptRow m_otherRow m_row m_formRow m_allForms m_rowsOf m_intervals m_places m_whole) [.ref (ad 0), .int x1, .int x2, .int x3]) (va_Qi (fun (x : Int32) (_ : Unit) => x = r) (fun _ t => va_P (dC, dI) vwCl (wX6 cI cJ ad m_code m_n m_built' m_length m_begin m_many m_leastOf' m_sizeOf' m_own m_bestRow m_tryRow m_keptRow m_otherRow m_row m_formRow m_allForms m_rowsOf m_intervals m_places m_whole) t.heap ∧ vK (dC, dI) [(cI, .int), (cJ, .long)] t ∧ va_D (va_A (wX6 cI cJ ad m_code m_n m_built m_length m_begin m_many m_leastOf m_sizeOf m_own m_bestRow m_tryRow m_keptRow m_otherRow m_row m_formRow m_allForms m_rowsOf m_intervals m_places m_whole) sz) (wX6 cI cJ ad m_code m_n m_built' m_length m_begin m_many m_leastOf' m_sizeOf' m_own m_bestRow m_tryRow m_keptRow m_otherRow m_row m_formRow m_allForms m_rowsOf m_intervals m_places m_whole)) (va_A (wX6 cI cJ ad m_code m_n m_built m_length m_begin m_many m_leastOf m_sizeOf m_own m_bestRow m_tryRow m_keptRow m_otherRow m_row m_formRow m_allForms m_rowsOf m_intervals m_places m_whole) sz)) 0 0 (va_A (wX6 cI cJ ad m_code m_n m_built m_length m_begin m_many m_leastOf m_sizeOf m_own m_bestRow m_tryRow m_keptRow m_otherRow m_row m_formRow m_allForms m_rowsOf m_intervals m_places m_whole) sz) := by
  refine rw_start (cc := cX6_leads) (maxL := 4) (ret := (some .boolean)) (by decide) rfl (Nat.le_of_ble_eq_true rfl) ?_
  intro p e s m args below meth c ls A H locs hx hb hml hr hlk hown hts hsz hP hK hD hA hS hAe hl
  have hown : s.vm.findClass RX6 = some m.cls := hown
  have hl : lv_has ls 4 [(0, .ref (ad 0)), (1, .int x1), (2, .int x2), (3, .int x3)] := hl
  have h : Ho (FX6_leads m_n m_built m_leastOf m_sizeOf x1 x2 x3) (fun x => x = (r, m_built', m_leastOf', m_sizeOf')) := ⟨_, hF, rfl⟩
  unfold FX6_leads at h
  have QI : ∀ {v0 : Int32} {m_built9 : Int32} {m_leastOf9 : Nat → Int32} {m_sizeOf9 : Nat → Int32} {t : State}, (v0, m_built9, m_leastOf9, m_sizeOf9) = (r, m_built', m_leastOf', m_sizeOf') → va_P (dC, dI) vwCl (wX6 cI cJ ad m_code m_n m_built9 m_length m_begin m_many m_leastOf9 m_sizeOf9 m_own m_bestRow m_tryRow m_keptRow m_otherRow m_row m_formRow m_allForms m_rowsOf m_intervals m_places m_whole) t.heap → vK (dC, dI) [(cI, .int), (cJ, .long)] t → va_D A (wX6 cI cJ ad m_code m_n m_built9 m_length m_begin m_many m_leastOf9 m_sizeOf9 m_own m_bestRow m_tryRow m_keptRow m_otherRow m_row m_formRow m_allForms m_rowsOf m_intervals m_places m_whole) → va_F A s t → (va_Qi (fun (x : Int32) (_ : Unit) => x = r) (fun _ t => va_P (dC, dI) vwCl (wX6 cI cJ ad m_code m_n m_built' m_length m_begin m_many m_leastOf' m_sizeOf' m_own m_bestRow m_tryRow m_keptRow m_otherRow m_row m_formRow m_allForms m_rowsOf m_intervals m_places m_whole) t.heap ∧ vK (dC, dI) [(cI, .int), (cJ, .long)] t ∧ va_D (va_A (wX6 cI cJ ad m_code m_n m_built m_length m_begin m_many m_leastOf m_sizeOf m_own m_bestRow m_tryRow m_keptRow m_otherRow m_row m_formRow m_allForms m_rowsOf m_intervals m_places m_whole) sz) (wX6 cI cJ ad m_code m_n m_built' m_length m_begin m_many m_leastOf' m_sizeOf' m_own m_bestRow m_tryRow m_keptRow m_otherRow m_row m_formRow m_allForms m_rowsOf m_intervals m_places m_whole)) (va_A (wX6 cI cJ ad m_code m_n m_built m_length m_begin m_many m_leastOf m_sizeOf m_own m_bestRow m_tryRow m_keptRow m_otherRow m_row m_formRow m_allForms m_rowsOf m_intervals m_places m_whole) sz)) args s (.returned (some (.int v0))) t := by
    intro v0 m_built9 m_leastOf9 m_sizeOf9 t e9 q1 q2 q3 q4
    cases e9
    subst hAe
    exact ⟨⟨_, (), rfl, rfl, q1, q2, q3⟩, q4⟩
  have hfix : CallFix p m c cX6_leads 4 s args wsX6_leads RX6 := ⟨hx, hb, hml, hown, hts⟩
  refine lv_iload_n hx hb dX6_leads_0 rfl (lv_at hl 2 rfl) ?_
  obtain ⟨r1, hc1, h⟩ := Ho_b h
  refine cs_i (va_runS (As := [.int x2]) (rest := []) hfix (c_X6_count l dC dI cI cJ  x2 _ hc1) (va_cwS 1 hts gX6_leads_X6_count rfl rfl rfl (by decide +kernel) ⟨by decide, by decide⟩) (roP.preS hK va_Pnil) rfl rfl hl.1 rfl (lv_room (Nat.le_of_ble_eq_true rfl)) dX6_leads_1 ⟨Nat.zero_le _, Nat.zero_le _⟩) ?_
  refine lv_iload_n hx hb dX6_leads_4 rfl (lv_at hl 3 rfl) ?_
  refine lv_icmp_ne (tgt := 22) hx hb dX6_leads_5 (by decide) (fun q5 => ?_) (fun q5 => ?_)
  · have h := Ho_f h q5
    refine lv_iconst (v := (0 : Int32)) hx hb dX6_leads_22 (by decide) ?_
    exact W.zret (ty := .boolean) hx hb hr rfl (fun t ht hW => QI (Ho_e h) (by rw [ht]; exact hP) (hK.warm hW) hD (hS.F ht)) hS.2.2 dX6_leads_23 hlk
  · have h := Ho_t h q5
    refine lv_aload_n hx hb dX6_leads_8 rfl (lv_at hl 0 rfl) ?_
    refine lv_iload_n hx hb dX6_leads_9 rfl (lv_at hl 1 rfl) ?_
    refine lv_iload_n hx hb dX6_leads_10 rfl (lv_at hl 2 rfl) ?_
    obtain ⟨r11, m_built_11, m_leastOf_11, m_sizeOf_11, hc11, h⟩ := Ho_b4 h
    have hPc : va_P (dC, dI) vwCl (wX6 cI cJ ad m_code m_n m_built m_length m_begin m_many m_leastOf m_sizeOf m_own m_bestRow m_tryRow m_keptRow m_otherRow m_row m_formRow m_allForms m_rowsOf m_intervals m_places m_whole) H := hP.sub [0, 1, 2, 3, 4, 5, 6, 7, 8, 9, 10, 11, 12, 13, 14] rfl
    have hDc : va_D A (wX6 cI cJ ad m_code m_n m_built m_length m_begin m_many m_leastOf m_sizeOf m_own m_bestRow m_tryRow m_keptRow m_otherRow m_row m_formRow m_allForms m_rowsOf m_intervals m_places m_whole) := hD.sub [0, 1, 2, 3, 4, 5, 6, 7, 8, 9, 10, 11, 12, 13, 14] (by decide) rfl
    have hFc := va_free (wc := (wX6 cI cJ ad m_code m_n m_built m_length m_begin m_many m_leastOf m_sizeOf m_own m_bestRow m_tryRow m_keptRow m_otherRow m_row m_formRow m_allForms m_rowsOf m_intervals m_places m_whole)) hD hS hA [0, 1, 2, 3, 4, 5, 6, 7, 8, 9, 10, 11, 12, 13, 14] rfl
    refine va_calli (va_runV (As := [.int x1, .int x2]) (rest := []) hfix (c_X6_leastIn l dC dI cI cJ ad H.size m_code m_n m_built m_length m_begin m_many m_leastOf m_sizeOf m_own m_bestRow m_tryRow m_keptRow m_otherRow m_row m_formRow m_allForms m_rowsOf m_intervals m_places m_whole x1 x2 _ _ _ _ hc11) (cwV 2 hts gX6_leads_X6_leastIn rfl rfl rfl (by decide +kernel) ⟨by decide, by decide⟩) (rwP.preV hK hPc hDc rfl (ci := 6) rfl rfl) rfl rfl hl.1 rfl (lv_room (Nat.le_of_ble_eq_true rfl)) dX6_leads_11 ⟨Nat.zero_le _, Nat.zero_le _⟩) hS (fun q _ h => hFc q h) hFc (fun y11 u t H1 locs ht hvm hw hB hz1 hk1 hS => ?_)
    obtain ⟨hP1, -, hD1⟩ := hB
    rw [ht] at hP1
    have hw : y11 = r11 := hw
    rw [hw]
    obtain ⟨hP, hD⟩ := va_join (wr := []) (w1 := (wX6 cI cJ ad m_code m_n m_built_11 m_length m_begin m_many m_leastOf_11 m_sizeOf_11 m_own m_bestRow m_tryRow m_keptRow m_otherRow m_row m_formRow m_allForms m_rowsOf m_intervals m_places m_whole)) hP hD [0, 1, 2, 3, 4, 5, 6, 7, 8, 9, 10, 11, 12, 13, 14] [] rfl rfl (by decide) (by decide) hk1 hFc hP1 hD1
    generalize H1 = H at hP hS ⊢
    have hP : va_P (dC, dI) vwCl (wX6 cI cJ ad m_code m_n m_built_11 m_length m_begin m_many m_leastOf_11 m_sizeOf_11 m_own m_bestRow m_tryRow m_keptRow m_otherRow m_row m_formRow m_allForms m_rowsOf m_intervals m_places m_whole) H := hP.sub [0, 1, 2, 3, 4, 5, 6, 7, 8, 9, 10, 11, 12, 13, 14] rfl
    have hD : va_D A (wX6 cI cJ ad m_code m_n m_built_11 m_length m_begin m_many m_leastOf_11 m_sizeOf_11 m_own m_bestRow m_tryRow m_keptRow m_otherRow m_row m_formRow m_allForms m_rowsOf m_intervals m_places m_whole) := hD.sub [0, 1, 2, 3, 4, 5, 6, 7, 8, 9, 10, 11, 12, 13, 14] (by decide) rfl
    refine lv_iload_n hx hb dX6_leads_14 rfl (lv_at hl 2 rfl) ?_
    refine lv_icmp_ne (tgt := 22) hx hb dX6_leads_15 (by decide) (fun q15 => ?_) (fun q15 => ?_)
    · have h := Ho_f h q15
      refine lv_iconst (v := (0 : Int32)) hx hb dX6_leads_22 (by decide) ?_
      exact W.zret (ty := .boolean) hx hb hr rfl (fun t ht hW => QI (Ho_e h) (by rw [ht]; exact hP) (hK.warm hW) hD (hS.F ht)) hS.2.2 dX6_leads_23 hlk
    · have h := Ho_t h q15
      refine lv_iconst (v := (1 : Int32)) hx hb dX6_leads_18 (by decide) ?_
      refine lv_goto (tgt := 23) hx hb dX6_leads_19 (by decide) ?_
      exact W.zret (ty := .boolean) hx hb hr rfl (fun t ht hW => QI (Ho_e h) (by rw [ht]; exact hP) (hK.warm hW) hD (hS.F ht)) hS.2.2 dX6_leads_23 hlk
abbrev rmX6_classes : Room := { frames := 6, cells := 0, slots := 0, locals := 138 }
set_option maxHeartbeats 4000000 in
set_option maxRecDepth 100000 in
theorem c_X6_classes (l : Launch) (dC : Nat → ClassId) (dI : Nat → Nat → Nat) (cI cJ : ClassId) (ad : Nat → Nat) (sz : Nat) (m_code : Int32) (m_n : Int32) (m_built : Int32) (m_length : Int32) (m_begin : Int32) (m_many : Int32) (m_leastOf : Nat → Int32) (m_sizeOf : Nat → Int32) (m_own : Nat → Int32) (m_bestRow : Nat → Int32) (m_tryRow : Nat → Int32) (m_keptRow : Nat → Int32) (m_otherRow : Nat → Int32) (m_row : Nat → Int32) (m_formRow : Nat → Int32) (m_allForms : Nat → Int32) (m_rowsOf : Nat → Int32) (m_intervals : Nat → Int32) (m_places : Nat → Int32) (m_whole : Nat → Int64) (x1 : Int32) (x2 : Int32) (r : Int32) (m_code' : Int32) (m_built' : Int32) (m_leastOf' : Nat → Int32) (m_sizeOf' : Nat → Int32) (hF : FX6_classes m_code m_n m_built m_leastOf m_sizeOf x1 x2 = some (r, m_code', m_built', m_leastOf', m_sizeOf')) : Met l yX6_classes wsX6_classes rmX6_classes (rwP (dC, dI) [(cI, .int), (cJ, .long)] sz (wX6 cI cJ ad m_code m_n m_built m_length m_begin m_many m_leastOf m_sizeOf m_own m_bestRow m_tryRow m_keptRow m_otherRow m_row m_formRow m_allForms m_rowsOf m_intervals m_places m_whole) [.ref (ad 0), .int x1, .int x2]) (va_Qi (fun (x : Int32) (_ : Unit) => x = r) (fun _ t => va_P (dC, dI) vwCl (wX6 cI cJ ad m_code' m_n m_built' m_length m_begin m_many m_leastOf' m_sizeOf' m_own m_bestRow m_tryRow m_keptRow m_otherRow m_row m_formRow m_allForms m_rowsOf m_intervals m_places m_whole) t.heap ∧ vK (dC, dI) [(cI, .int), (cJ, .long)] t ∧ va_D (va_A (wX6 cI cJ ad m_code m_n m_built m_length m_begin m_many m_leastOf m_sizeOf m_own m_bestRow m_tryRow m_keptRow m_otherRow m_row m_formRow m_allForms m_rowsOf m_intervals m_places m_whole) sz) (wX6 cI cJ ad m_code' m_n m_built' m_length m_begin m_many m_leastOf' m_sizeOf' m_own m_bestRow m_tryRow m_keptRow m_otherRow m_row m_formRow m_allForms m_rowsOf m_intervals m_places m_whole)) (va_A (wX6 cI cJ ad m_code m_n m_built m_length m_begin m_many m_leastOf m_sizeOf m_own m_bestRow m_tryRow m_keptRow m_otherRow m_row m_formRow m_allForms m_rowsOf m_intervals m_places m_whole) sz)) 0 0 (va_A (wX6 cI cJ ad m_code m_n m_built m_length m_begin m_many m_leastOf m_sizeOf m_own m_bestRow m_tryRow m_keptRow m_otherRow m_row m_formRow m_allForms m_rowsOf m_intervals m_places m_whole) sz) := by
  refine rw_start (cc := cX6_classes) (maxL := 5) (ret := (some .int)) (by decide) rfl (Nat.le_of_ble_eq_true rfl) ?_
  intro p e s m args below meth c ls A H locs hx hb hml hr hlk hown hts hsz hP hK hD hA hS hAe hl
  have hown : s.vm.findClass RX6 = some m.cls := hown
  have hl : lv_has ls 5 [(0, .ref (ad 0)), (1, .int x1), (2, .int x2)] := hl
  have h : Ho (FX6_classes m_code m_n m_built m_leastOf m_sizeOf x1 x2) (fun x => x = (r, m_code', m_built', m_leastOf', m_sizeOf')) := ⟨_, hF, rfl⟩
  unfold FX6_classes at h
  have QI : ∀ {v0 : Int32} {m_code9 : Int32} {m_built9 : Int32} {m_leastOf9 : Nat → Int32} {m_sizeOf9 : Nat → Int32} {t : State}, (v0, m_code9, m_built9, m_leastOf9, m_sizeOf9) = (r, m_code', m_built', m_leastOf', m_sizeOf') → va_P (dC, dI) vwCl (wX6 cI cJ ad m_code9 m_n m_built9 m_length m_begin m_many m_leastOf9 m_sizeOf9 m_own m_bestRow m_tryRow m_keptRow m_otherRow m_row m_formRow m_allForms m_rowsOf m_intervals m_places m_whole) t.heap → vK (dC, dI) [(cI, .int), (cJ, .long)] t → va_D A (wX6 cI cJ ad m_code9 m_n m_built9 m_length m_begin m_many m_leastOf9 m_sizeOf9 m_own m_bestRow m_tryRow m_keptRow m_otherRow m_row m_formRow m_allForms m_rowsOf m_intervals m_places m_whole) → va_F A s t → (va_Qi (fun (x : Int32) (_ : Unit) => x = r) (fun _ t => va_P (dC, dI) vwCl (wX6 cI cJ ad m_code' m_n m_built' m_length m_begin m_many m_leastOf' m_sizeOf' m_own m_bestRow m_tryRow m_keptRow m_otherRow m_row m_formRow m_allForms m_rowsOf m_intervals m_places m_whole) t.heap ∧ vK (dC, dI) [(cI, .int), (cJ, .long)] t ∧ va_D (va_A (wX6 cI cJ ad m_code m_n m_built m_length m_begin m_many m_leastOf m_sizeOf m_own m_bestRow m_tryRow m_keptRow m_otherRow m_row m_formRow m_allForms m_rowsOf m_intervals m_places m_whole) sz) (wX6 cI cJ ad m_code' m_n m_built' m_length m_begin m_many m_leastOf' m_sizeOf' m_own m_bestRow m_tryRow m_keptRow m_otherRow m_row m_formRow m_allForms m_rowsOf m_intervals m_places m_whole)) (va_A (wX6 cI cJ ad m_code m_n m_built m_length m_begin m_many m_leastOf m_sizeOf m_own m_bestRow m_tryRow m_keptRow m_otherRow m_row m_formRow m_allForms m_rowsOf m_intervals m_places m_whole) sz)) args s (.returned (some (.int v0))) t := by
    intro v0 m_code9 m_built9 m_leastOf9 m_sizeOf9 t e9 q1 q2 q3 q4
    cases e9
    subst hAe
    exact ⟨⟨_, (), rfl, rfl, q1, q2, q3⟩, q4⟩
  have hfix : CallFix p m c cX6_classes 5 s args wsX6_classes RX6 := ⟨hx, hb, hml, hown, hts⟩
  have hiX6 : ∀ w ∈ u_ws RX6 TX6 20, w ∈ wsX6_classes := by decide +kernel
  have hf7 := hts (.fieldLink RX6 7 "RowClassesModel" "n" "I") (by decide +kernel)
  have hf57 := hts (.fieldLink RX6 57 "RowClassesModel" "code" "I") (by decide +kernel)
  have J70 : ∀ (m_codek : Int32) (m_builtk : Int32) (m_leastOfk : Nat → Int32) (m_sizeOfk : Nat → Int32) (v3 : Int32) (H : Heap) (locs : List Loc) (ls : Array Slot), va_P (dC, dI) vwCl (wX6 cI cJ ad m_codek m_n m_builtk m_length m_begin m_many m_leastOfk m_sizeOfk m_own m_bestRow m_tryRow m_keptRow m_otherRow m_row m_formRow m_allForms m_rowsOf m_intervals m_places m_whole) H → va_D A (wX6 cI cJ ad m_codek m_n m_builtk m_length m_begin m_many m_leastOfk m_sizeOfk m_own m_bestRow m_tryRow m_keptRow m_otherRow m_row m_formRow m_allForms m_rowsOf m_intervals m_places m_whole) → va_S A s.heap H locs → lv_has ls 5 [(3, .int v3)] → Ho (X6_classes_70 m_codek m_builtk m_leastOfk m_sizeOfk v3) (fun x => x = (r, m_code', m_built', m_leastOf', m_sizeOf')) → W p l e rmX6_classes s m args below meth c H locs 0 0 (MQ below (va_Qi (fun (x : Int32) (_ : Unit) => x = r) (fun _ t => va_P (dC, dI) vwCl (wX6 cI cJ ad m_code' m_n m_built' m_length m_begin m_many m_leastOf' m_sizeOf' m_own m_bestRow m_tryRow m_keptRow m_otherRow m_row m_formRow m_allForms m_rowsOf m_intervals m_places m_whole) t.heap ∧ vK (dC, dI) [(cI, .int), (cJ, .long)] t ∧ va_D (va_A (wX6 cI cJ ad m_code m_n m_built m_length m_begin m_many m_leastOf m_sizeOf m_own m_bestRow m_tryRow m_keptRow m_otherRow m_row m_formRow m_allForms m_rowsOf m_intervals m_places m_whole) sz) (wX6 cI cJ ad m_code' m_n m_built' m_length m_begin m_many m_leastOf' m_sizeOf' m_own m_bestRow m_tryRow m_keptRow m_otherRow m_row m_formRow m_allForms m_rowsOf m_intervals m_places m_whole)) (va_A (wX6 cI cJ ad m_code m_n m_built m_length m_begin m_many m_leastOf m_sizeOf m_own m_bestRow m_tryRow m_keptRow m_otherRow m_row m_formRow m_allForms m_rowsOf m_intervals m_places m_whole) sz)) args s 0 0 A) (F0 m 70 ls []) := by
    intro m_codek m_builtk m_leastOfk m_sizeOfk v3 H locs ls hP hD hS hl h
    unfold X6_classes_70 at h
    refine lv_iload_n hx hb dX6_classes_70 rfl (lv_at hl 0 rfl) ?_
    exact W.iret hx hb hr (fun t ht hW => QI (Ho_e h) (by rw [ht]; exact hP) (hK.warm hW) hD (hS.F ht)) hS.2.2 dX6_classes_71 hlk
  have J34 : ∀ (m_codek : Int32) (m_builtk : Int32) (m_leastOfk : Nat → Int32) (m_sizeOfk : Nat → Int32) (v3 : Int32) (v4 : Int32) (H : Heap) (locs : List Loc) (ls : Array Slot), va_P (dC, dI) vwCl (wX6 cI cJ ad m_codek m_n m_builtk m_length m_begin m_many m_leastOfk m_sizeOfk m_own m_bestRow m_tryRow m_keptRow m_otherRow m_row m_formRow m_allForms m_rowsOf m_intervals m_places m_whole) H → va_D A (wX6 cI cJ ad m_codek m_n m_builtk m_length m_begin m_many m_leastOfk m_sizeOfk m_own m_bestRow m_tryRow m_keptRow m_otherRow m_row m_formRow m_allForms m_rowsOf m_intervals m_places m_whole) → va_S A s.heap H locs → lv_has ls 5 [(0, .ref (ad 0)), (1, .int x1), (2, .int x2), (3, .int v3), (4, .int v4)] → Ho ((X6_classes_34_l m_n x1 x2 m_codek m_builtk m_leastOfk m_sizeOfk v3 v4).bind (fun ex => X6_classes_70 m_codek ex.1 ex.2.1 ex.2.2.1 ex.2.2.2)) (fun x => x = (r, m_code', m_built', m_leastOf', m_sizeOf')) → W p l e rmX6_classes s m args below meth c H locs 0 0 (MQ below (va_Qi (fun (x : Int32) (_ : Unit) => x = r) (fun _ t => va_P (dC, dI) vwCl (wX6 cI cJ ad m_code' m_n m_built' m_length m_begin m_many m_leastOf' m_sizeOf' m_own m_bestRow m_tryRow m_keptRow m_otherRow m_row m_formRow m_allForms m_rowsOf m_intervals m_places m_whole) t.heap ∧ vK (dC, dI) [(cI, .int), (cJ, .long)] t ∧ va_D (va_A (wX6 cI cJ ad m_code m_n m_built m_length m_begin m_many m_leastOf m_sizeOf m_own m_bestRow m_tryRow m_keptRow m_otherRow m_row m_formRow m_allForms m_rowsOf m_intervals m_places m_whole) sz) (wX6 cI cJ ad m_code' m_n m_built' m_length m_begin m_many m_leastOf' m_sizeOf' m_own m_bestRow m_tryRow m_keptRow m_otherRow m_row m_formRow m_allForms m_rowsOf m_intervals m_places m_whole)) (va_A (wX6 cI cJ ad m_code m_n m_built m_length m_begin m_many m_leastOf m_sizeOf m_own m_bestRow m_tryRow m_keptRow m_otherRow m_row m_formRow m_allForms m_rowsOf m_intervals m_places m_whole) sz)) args s 0 0 A) (F0 m 34 ls []) := by
    intro m_codek m_builtk m_leastOfk m_sizeOfk v3 v4 H locs ls hP hD hS hl h
    refine loop_use2 (fun z : Int32 × (Nat → Int32) × (Nat → Int32) × Int32 × Int32 => ∀ (H : Heap) (locs : List Loc) (ls : Array Slot), va_P (dC, dI) vwCl (wX6 cI cJ ad m_codek m_n z.1 m_length m_begin m_many z.2.1 z.2.2.1 m_own m_bestRow m_tryRow m_keptRow m_otherRow m_row m_formRow m_allForms m_rowsOf m_intervals m_places m_whole) H → va_D A (wX6 cI cJ ad m_codek m_n z.1 m_length m_begin m_many z.2.1 z.2.2.1 m_own m_bestRow m_tryRow m_keptRow m_otherRow m_row m_formRow m_allForms m_rowsOf m_intervals m_places m_whole) → va_S A s.heap H locs → lv_has ls 5 [(0, .ref (ad 0)), (1, .int x1), (2, .int x2), (3, .int z.2.2.2.1), (4, .int z.2.2.2.2)] → W p l e rmX6_classes s m args below meth c H locs 0 0 (MQ below (va_Qi (fun (x : Int32) (_ : Unit) => x = r) (fun _ t => va_P (dC, dI) vwCl (wX6 cI cJ ad m_code' m_n m_built' m_length m_begin m_many m_leastOf' m_sizeOf' m_own m_bestRow m_tryRow m_keptRow m_otherRow m_row m_formRow m_allForms m_rowsOf m_intervals m_places m_whole) t.heap ∧ vK (dC, dI) [(cI, .int), (cJ, .long)] t ∧ va_D (va_A (wX6 cI cJ ad m_code m_n m_built m_length m_begin m_many m_leastOf m_sizeOf m_own m_bestRow m_tryRow m_keptRow m_otherRow m_row m_formRow m_allForms m_rowsOf m_intervals m_places m_whole) sz) (wX6 cI cJ ad m_code' m_n m_built' m_length m_begin m_many m_leastOf' m_sizeOf' m_own m_bestRow m_tryRow m_keptRow m_otherRow m_row m_formRow m_allForms m_rowsOf m_intervals m_places m_whole)) (va_A (wX6 cI cJ ad m_code m_n m_built m_length m_begin m_many m_leastOf m_sizeOf m_own m_bestRow m_tryRow m_keptRow m_otherRow m_row m_formRow m_allForms m_rowsOf m_intervals m_places m_whole) sz)) args s 0 0 A) (F0 m 34 ls [])) ?_ FU _ h H locs ls hP hD hS hl
    intro Q34 hi34 ho34 z h H locs ls hP hD hS hl
    obtain ⟨m_builtk, m_leastOfk, m_sizeOfk, v3, v4⟩ := z
    have h : Ho (X6_classes_34_s m_n x1 x2 m_codek m_builtk m_leastOfk m_sizeOfk v3 v4) Q34 := h
    unfold X6_classes_34_s at h
    have hl : lv_has ls 5 [(0, .ref (ad 0)), (1, .int x1), (2, .int x2), (3, .int v3), (4, .int v4)] := hl
    have hP : va_P (dC, dI) vwCl (wX6 cI cJ ad m_codek m_n m_builtk m_length m_begin m_many m_leastOfk m_sizeOfk m_own m_bestRow m_tryRow m_keptRow m_otherRow m_row m_formRow m_allForms m_rowsOf m_intervals m_places m_whole) H := hP
    have hD : va_D A (wX6 cI cJ ad m_codek m_n m_builtk m_length m_begin m_many m_leastOfk m_sizeOfk m_own m_bestRow m_tryRow m_keptRow m_otherRow m_row m_formRow m_allForms m_rowsOf m_intervals m_places m_whole) := hD
    refine lv_iload hx hb dX6_classes_34 (lv_at hl 4 rfl) ?_
    refine lv_iconst (v := (1 : Int32)) hx hb dX6_classes_36 (by decide) ?_
    refine lv_aload_n hx hb dX6_classes_37 rfl (lv_at hl 0 rfl) ?_
    refine va_get (D := (dC, dI)) (ci := 6) (v := .int m_n) (C := RX6) (T := TX6) (N := 20) hx hb hts hiX6 hown hK.1 hP 0 rfl rfl 1 (by decide) hf7 (fun _ h9 => h9) rfl dX6_classes_38 ?_
    refine lv_ishl hx hb dX6_classes_41 ?_
    refine lv_icmp_ge (tgt := 70) hx hb dX6_classes_42 (by decide) (fun q42 => ?_) (fun q42 => ?_)
    · have h := Ho_t h q42
      have h := ho34 _ (Ho_s h)
      exact J70 m_codek m_builtk m_leastOfk m_sizeOfk v3 _ _ ls hP hD hS (lv_sub hl [3] rfl) h
    · have h := Ho_f h q42
      refine lv_iload_n hx hb dX6_classes_45 rfl (lv_at hl 3 rfl) ?_
      refine lv_aload_n hx hb dX6_classes_46 rfl (lv_at hl 0 rfl) ?_
      refine lv_iload_n hx hb dX6_classes_47 rfl (lv_at hl 2 rfl) ?_
      refine lv_iload hx hb dX6_classes_48 (lv_at hl 4 rfl) ?_
      refine lv_iload_n hx hb dX6_classes_50 rfl (lv_at hl 1 rfl) ?_
      obtain ⟨r51, m_built_51, m_leastOf_51, m_sizeOf_51, hc51, h⟩ := Ho_b4 h
      have hPc : va_P (dC, dI) vwCl (wX6 cI cJ ad m_codek m_n m_builtk m_length m_begin m_many m_leastOfk m_sizeOfk m_own m_bestRow m_tryRow m_keptRow m_otherRow m_row m_formRow m_allForms m_rowsOf m_intervals m_places m_whole) H := hP.sub [0, 1, 2, 3, 4, 5, 6, 7, 8, 9, 10, 11, 12, 13, 14] rfl
      have hDc : va_D A (wX6 cI cJ ad m_codek m_n m_builtk m_length m_begin m_many m_leastOfk m_sizeOfk m_own m_bestRow m_tryRow m_keptRow m_otherRow m_row m_formRow m_allForms m_rowsOf m_intervals m_places m_whole) := hD.sub [0, 1, 2, 3, 4, 5, 6, 7, 8, 9, 10, 11, 12, 13, 14] (by decide) rfl
      have hFc := va_free (wc := (wX6 cI cJ ad m_codek m_n m_builtk m_length m_begin m_many m_leastOfk m_sizeOfk m_own m_bestRow m_tryRow m_keptRow m_otherRow m_row m_formRow m_allForms m_rowsOf m_intervals m_places m_whole)) hD hS hA [0, 1, 2, 3, 4, 5, 6, 7, 8, 9, 10, 11, 12, 13, 14] rfl
      refine va_calli (va_runV (As := [.int x2, .int v4, .int x1]) (rest := [.int v3]) hfix (c_X6_leads l dC dI cI cJ ad H.size m_codek m_n m_builtk m_length m_begin m_many m_leastOfk m_sizeOfk m_own m_bestRow m_tryRow m_keptRow m_otherRow m_row m_formRow m_allForms m_rowsOf m_intervals m_places m_whole x2 v4 x1 _ _ _ _ hc51) (cwV 3 hts gX6_classes_X6_leads rfl rfl rfl (by decide +kernel) ⟨by decide, by decide⟩) (rwP.preV hK hPc hDc rfl (ci := 6) rfl rfl) rfl rfl hl.1 rfl (lv_room (Nat.le_of_ble_eq_true rfl)) dX6_classes_51 ⟨Nat.zero_le _, Nat.zero_le _⟩) hS (fun q _ h => hFc q h) hFc (fun y51 u t H1 locs ht hvm hw hB hz1 hk1 hS => ?_)
      obtain ⟨hP1, -, hD1⟩ := hB
      rw [ht] at hP1
      have hw : y51 = r51 := hw
      rw [hw]
      obtain ⟨hP, hD⟩ := va_join (wr := []) (w1 := (wX6 cI cJ ad m_codek m_n m_built_51 m_length m_begin m_many m_leastOf_51 m_sizeOf_51 m_own m_bestRow m_tryRow m_keptRow m_otherRow m_row m_formRow m_allForms m_rowsOf m_intervals m_places m_whole)) hP hD [0, 1, 2, 3, 4, 5, 6, 7, 8, 9, 10, 11, 12, 13, 14] [] rfl rfl (by decide) (by decide) hk1 hFc hP1 hD1
      generalize H1 = H at hP hS ⊢
      have hP : va_P (dC, dI) vwCl (wX6 cI cJ ad m_codek m_n m_built_51 m_length m_begin m_many m_leastOf_51 m_sizeOf_51 m_own m_bestRow m_tryRow m_keptRow m_otherRow m_row m_formRow m_allForms m_rowsOf m_intervals m_places m_whole) H := hP.sub [0, 1, 2, 3, 4, 5, 6, 7, 8, 9, 10, 11, 12, 13, 14] rfl
      have hD : va_D A (wX6 cI cJ ad m_codek m_n m_built_51 m_length m_begin m_many m_leastOf_51 m_sizeOf_51 m_own m_bestRow m_tryRow m_keptRow m_otherRow m_row m_formRow m_allForms m_rowsOf m_intervals m_places m_whole) := hD.sub [0, 1, 2, 3, 4, 5, 6, 7, 8, 9, 10, 11, 12, 13, 14] (by decide) rfl
      refine lv_if_eq (tgt := 61) hx hb dX6_classes_54 (by decide) (fun q54 => ?_) (fun q54 => ?_)
      · have h := Ho_t h q54
        refine lv_iconst (v := (0 : Int32)) hx hb dX6_classes_61 (by decide) ?_
        refine lv_iadd hx hb dX6_classes_62 ?_
        refine lv_istore_n (lv' := [(3, .int (v3 + (0 : Int32))), (0, .ref (ad 0)), (1, .int x1), (2, .int x2), (4, .int v4)]) hx hb dX6_classes_63 rfl hl (by decide) rfl (fun ls hl => ?_)
        refine lv_iinc (v := v4 + 1) (lv' := [(4, .int (v4 + 1)), (3, .int (v3 + (0 : Int32))), (0, .ref (ad 0)), (1, .int x1), (2, .int x2)]) hx hb dX6_classes_64 hl (k := 4) rfl rfl (by decide) rfl (fun ls hl => ?_)
        refine lv_goto (tgt := 34) hx hb dX6_classes_67 (by decide) ?_
        exact hi34 _ (Ho_s h) _ _ ls hP hD hS (lv_sub hl [2, 3, 4, 1, 0] rfl)
      · have h := Ho_f h q54
        refine lv_iconst (v := (1 : Int32)) hx hb dX6_classes_57 (by decide) ?_
        refine lv_goto (tgt := 62) hx hb dX6_classes_58 (by decide) ?_
        refine lv_iadd hx hb dX6_classes_62 ?_
        refine lv_istore_n (lv' := [(3, .int (v3 + (1 : Int32))), (0, .ref (ad 0)), (1, .int x1), (2, .int x2), (4, .int v4)]) hx hb dX6_classes_63 rfl hl (by decide) rfl (fun ls hl => ?_)
        refine lv_iinc (v := v4 + 1) (lv' := [(4, .int (v4 + 1)), (3, .int (v3 + (1 : Int32))), (0, .ref (ad 0)), (1, .int x1), (2, .int x2)]) hx hb dX6_classes_64 hl (k := 4) rfl rfl (by decide) rfl (fun ls hl => ?_)
        refine lv_goto (tgt := 34) hx hb dX6_classes_67 (by decide) ?_
        exact hi34 _ (Ho_s h) _ _ ls hP hD hS (lv_sub hl [2, 3, 4, 1, 0] rfl)
  refine lv_aload_n hx hb dX6_classes_0 rfl (lv_at hl 0 rfl) ?_
  refine lv_iconst (v := (0 : Int32)) hx hb dX6_classes_1 (by decide) ?_
  refine va_put (D := (dC, dI)) (ci := 6) (v := .int (0 : Int32)) (ty := .int) (C := RX6) (T := TX6) (N := 20) hx hb hts hiX6 tyX6 tyX6_ok nmX6 hown hK.1 hP hD hS 0 rfl rfl 0 (by decide) hf57 (fun _ h9 => h9) rfl (by decide +kernel) rfl rfl (Nat.le_of_ble_eq_true rfl) dX6_classes_2 (fun H locs hP hD hS => ?_)
  have hP : va_P (dC, dI) vwCl (wX6 cI cJ ad (0 : Int32) m_n m_built m_length m_begin m_many m_leastOf m_sizeOf m_own m_bestRow m_tryRow m_keptRow m_otherRow m_row m_formRow m_allForms m_rowsOf m_intervals m_places m_whole) H := hP
  have hD : va_D A (wX6 cI cJ ad (0 : Int32) m_n m_built m_length m_begin m_many m_leastOf m_sizeOf m_own m_bestRow m_tryRow m_keptRow m_otherRow m_row m_formRow m_allForms m_rowsOf m_intervals m_places m_whole) := hD
  refine lv_iload_n hx hb dX6_classes_5 rfl (lv_at hl 1 rfl) ?_
  refine lv_iconst (v := (0 : Int32)) hx hb dX6_classes_6 (by decide) ?_
  refine lv_aload_n hx hb dX6_classes_7 rfl (lv_at hl 0 rfl) ?_
  refine va_get (D := (dC, dI)) (ci := 6) (v := .int m_n) (C := RX6) (T := TX6) (N := 20) hx hb hts hiX6 hown hK.1 hP 0 rfl rfl 1 (by decide) hf7 (fun _ h9 => h9) rfl dX6_classes_8 ?_
  obtain ⟨r11, hc11, h⟩ := Ho_b h
  refine cs_i (va_runS (As := [.int x1, .int (0 : Int32), .int m_n]) (rest := []) hfix (c_X6_isIn l dC dI cI cJ  x1 (0 : Int32) m_n _ hc11) (va_cwS 3 hts gX6_classes_X6_isIn rfl rfl rfl (by decide +kernel) ⟨by decide, by decide⟩) (roP.preS hK va_Pnil) rfl rfl hl.1 rfl (lv_room (Nat.le_of_ble_eq_true rfl)) dX6_classes_11 ⟨Nat.zero_le _, Nat.zero_le _⟩) ?_
  refine lv_if_eq (tgt := 26) hx hb dX6_classes_14 (by decide) (fun q14 => ?_) (fun q14 => ?_)
  · have h := Ho_t h q14
    refine lv_bipush (v := (-2 : Int32)) hx hb dX6_classes_26 (by decide) ?_
    exact W.iret hx hb hr (fun t ht hW => QI (Ho_e h) (by rw [ht]; exact hP) (hK.warm hW) hD (hS.F ht)) hS.2.2 dX6_classes_28 hlk
  · have h := Ho_f h q14
    refine lv_iload_n hx hb dX6_classes_17 rfl (lv_at hl 2 rfl) ?_
    refine lv_iconst (v := (0 : Int32)) hx hb dX6_classes_18 (by decide) ?_
    refine lv_iconst (v := (2 : Int32)) hx hb dX6_classes_19 (by decide) ?_
    obtain ⟨r20, hc20, h⟩ := Ho_b h
    refine cs_i (va_runS (As := [.int x2, .int (0 : Int32), .int (2 : Int32)]) (rest := []) hfix (c_X6_isIn l dC dI cI cJ  x2 (0 : Int32) (2 : Int32) _ hc20) (va_cwS 3 hts gX6_classes_X6_isIn rfl rfl rfl (by decide +kernel) ⟨by decide, by decide⟩) (roP.preS hK va_Pnil) rfl rfl hl.1 rfl (lv_room (Nat.le_of_ble_eq_true rfl)) dX6_classes_20 ⟨Nat.zero_le _, Nat.zero_le _⟩) ?_
    refine lv_if_ne (tgt := 29) hx hb dX6_classes_23 (by decide) (fun q23 => ?_) (fun q23 => ?_)
    · have h := Ho_f h q23
      refine lv_iconst (v := (0 : Int32)) hx hb dX6_classes_29 (by decide) ?_
      refine lv_istore_n (lv' := [(3, .int (0 : Int32)), (0, .ref (ad 0)), (1, .int x1), (2, .int x2)]) hx hb dX6_classes_30 rfl hl (by decide) rfl (fun ls hl => ?_)
      refine lv_iconst (v := (0 : Int32)) hx hb dX6_classes_31 (by decide) ?_
      refine lv_istore (lv' := [(4, .int (0 : Int32)), (3, .int (0 : Int32)), (0, .ref (ad 0)), (1, .int x1), (2, .int x2)]) hx hb dX6_classes_32 hl (by decide) rfl (fun ls hl => ?_)
      exact J34 (0 : Int32) m_built m_leastOf m_sizeOf (0 : Int32) (0 : Int32) _ _ ls hP hD hS (lv_sub hl [2, 3, 4, 1, 0] rfl) h
    · have h := Ho_t h q23
      refine lv_bipush (v := (-2 : Int32)) hx hb dX6_classes_26 (by decide) ?_
      exact W.iret hx hb hr (fun t ht hW => QI (Ho_e h) (by rw [ht]; exact hP) (hK.warm hW) hD (hS.F ht)) hS.2.2 dX6_classes_28 hlk
abbrev rmX6_nth : Room := { frames := 6, cells := 0, slots := 0, locals := 138 }
set_option maxHeartbeats 4000000 in
set_option maxRecDepth 100000 in
theorem c_X6_nth (l : Launch) (dC : Nat → ClassId) (dI : Nat → Nat → Nat) (cI cJ : ClassId) (ad : Nat → Nat) (sz : Nat) (m_code : Int32) (m_n : Int32) (m_built : Int32) (m_length : Int32) (m_begin : Int32) (m_many : Int32) (m_leastOf : Nat → Int32) (m_sizeOf : Nat → Int32) (m_own : Nat → Int32) (m_bestRow : Nat → Int32) (m_tryRow : Nat → Int32) (m_keptRow : Nat → Int32) (m_otherRow : Nat → Int32) (m_row : Nat → Int32) (m_formRow : Nat → Int32) (m_allForms : Nat → Int32) (m_rowsOf : Nat → Int32) (m_intervals : Nat → Int32) (m_places : Nat → Int32) (m_whole : Nat → Int64) (x1 : Int32) (x2 : Int32) (x3 : Int32) (r : Int32) (m_code' : Int32) (m_built' : Int32) (m_leastOf' : Nat → Int32) (m_sizeOf' : Nat → Int32) (hF : FX6_nth m_code m_n m_built m_leastOf m_sizeOf x1 x2 x3 = some (r, m_code', m_built', m_leastOf', m_sizeOf')) : Met l yX6_nth wsX6_nth rmX6_nth (rwP (dC, dI) [(cI, .int), (cJ, .long)] sz (wX6 cI cJ ad m_code m_n m_built m_length m_begin m_many m_leastOf m_sizeOf m_own m_bestRow m_tryRow m_keptRow m_otherRow m_row m_formRow m_allForms m_rowsOf m_intervals m_places m_whole) [.ref (ad 0), .int x1, .int x2, .int x3]) (va_Qi (fun (x : Int32) (_ : Unit) => x = r) (fun _ t => va_P (dC, dI) vwCl (wX6 cI cJ ad m_code' m_n m_built' m_length m_begin m_many m_leastOf' m_sizeOf' m_own m_bestRow m_tryRow m_keptRow m_otherRow m_row m_formRow m_allForms m_rowsOf m_intervals m_places m_whole) t.heap ∧ vK (dC, dI) [(cI, .int), (cJ, .long)] t ∧ va_D (va_A (wX6 cI cJ ad m_code m_n m_built m_length m_begin m_many m_leastOf m_sizeOf m_own m_bestRow m_tryRow m_keptRow m_otherRow m_row m_formRow m_allForms m_rowsOf m_intervals m_places m_whole) sz) (wX6 cI cJ ad m_code' m_n m_built' m_length m_begin m_many m_leastOf' m_sizeOf' m_own m_bestRow m_tryRow m_keptRow m_otherRow m_row m_formRow m_allForms m_rowsOf m_intervals m_places m_whole)) (va_A (wX6 cI cJ ad m_code m_n m_built m_length m_begin m_many m_leastOf m_sizeOf m_own m_bestRow m_tryRow m_keptRow m_otherRow m_row m_formRow m_allForms m_rowsOf m_intervals m_places m_whole) sz)) 0 0 (va_A (wX6 cI cJ ad m_code m_n m_built m_length m_begin m_many m_leastOf m_sizeOf m_own m_bestRow m_tryRow m_keptRow m_otherRow m_row m_formRow m_allForms m_rowsOf m_intervals m_places m_whole) sz) := by
  refine rw_start (cc := cX6_nth) (maxL := 6) (ret := (some .int)) (by decide) rfl (Nat.le_of_ble_eq_true rfl) ?_
  intro p e s m args below meth c ls A H locs hx hb hml hr hlk hown hts hsz hP hK hD hA hS hAe hl
  have hown : s.vm.findClass RX6 = some m.cls := hown
  have hl : lv_has ls 6 [(0, .ref (ad 0)), (1, .int x1), (2, .int x2), (3, .int x3)] := hl
  have h : Ho (FX6_nth m_code m_n m_built m_leastOf m_sizeOf x1 x2 x3) (fun x => x = (r, m_code', m_built', m_leastOf', m_sizeOf')) := ⟨_, hF, rfl⟩
  unfold FX6_nth at h
  have QI : ∀ {v0 : Int32} {m_code9 : Int32} {m_built9 : Int32} {m_leastOf9 : Nat → Int32} {m_sizeOf9 : Nat → Int32} {t : State}, (v0, m_code9, m_built9, m_leastOf9, m_sizeOf9) = (r, m_code', m_built', m_leastOf', m_sizeOf') → va_P (dC, dI) vwCl (wX6 cI cJ ad m_code9 m_n m_built9 m_length m_begin m_many m_leastOf9 m_sizeOf9 m_own m_bestRow m_tryRow m_keptRow m_otherRow m_row m_formRow m_allForms m_rowsOf m_intervals m_places m_whole) t.heap → vK (dC, dI) [(cI, .int), (cJ, .long)] t → va_D A (wX6 cI cJ ad m_code9 m_n m_built9 m_length m_begin m_many m_leastOf9 m_sizeOf9 m_own m_bestRow m_tryRow m_keptRow m_otherRow m_row m_formRow m_allForms m_rowsOf m_intervals m_places m_whole) → va_F A s t → (va_Qi (fun (x : Int32) (_ : Unit) => x = r) (fun _ t => va_P (dC, dI) vwCl (wX6 cI cJ ad m_code' m_n m_built' m_length m_begin m_many m_leastOf' m_sizeOf' m_own m_bestRow m_tryRow m_keptRow m_otherRow m_row m_formRow m_allForms m_rowsOf m_intervals m_places m_whole) t.heap ∧ vK (dC, dI) [(cI, .int), (cJ, .long)] t ∧ va_D (va_A (wX6 cI cJ ad m_code m_n m_built m_length m_begin m_many m_leastOf m_sizeOf m_own m_bestRow m_tryRow m_keptRow m_otherRow m_row m_formRow m_allForms m_rowsOf m_intervals m_places m_whole) sz) (wX6 cI cJ ad m_code' m_n m_built' m_length m_begin m_many m_leastOf' m_sizeOf' m_own m_bestRow m_tryRow m_keptRow m_otherRow m_row m_formRow m_allForms m_rowsOf m_intervals m_places m_whole)) (va_A (wX6 cI cJ ad m_code m_n m_built m_length m_begin m_many m_leastOf m_sizeOf m_own m_bestRow m_tryRow m_keptRow m_otherRow m_row m_formRow m_allForms m_rowsOf m_intervals m_places m_whole) sz)) args s (.returned (some (.int v0))) t := by
    intro v0 m_code9 m_built9 m_leastOf9 m_sizeOf9 t e9 q1 q2 q3 q4
    cases e9
    subst hAe
    exact ⟨⟨_, (), rfl, rfl, q1, q2, q3⟩, q4⟩
  have hfix : CallFix p m c cX6_nth 6 s args wsX6_nth RX6 := ⟨hx, hb, hml, hown, hts⟩
  have hiX6 : ∀ w ∈ u_ws RX6 TX6 20, w ∈ wsX6_nth := by decide +kernel
  have hf7 := hts (.fieldLink RX6 7 "RowClassesModel" "n" "I") (by decide +kernel)
  have hf57 := hts (.fieldLink RX6 57 "RowClassesModel" "code" "I") (by decide +kernel)
  have J79 : ∀ (m_codek : Int32) (m_builtk : Int32) (m_leastOfk : Nat → Int32) (m_sizeOfk : Nat → Int32) (H : Heap) (locs : List Loc) (ls : Array Slot), va_P (dC, dI) vwCl (wX6 cI cJ ad m_codek m_n m_builtk m_length m_begin m_many m_leastOfk m_sizeOfk m_own m_bestRow m_tryRow m_keptRow m_otherRow m_row m_formRow m_allForms m_rowsOf m_intervals m_places m_whole) H → va_D A (wX6 cI cJ ad m_codek m_n m_builtk m_length m_begin m_many m_leastOfk m_sizeOfk m_own m_bestRow m_tryRow m_keptRow m_otherRow m_row m_formRow m_allForms m_rowsOf m_intervals m_places m_whole) → va_S A s.heap H locs → lv_has ls 6 [] → Ho (X6_nth_79 m_codek m_builtk m_leastOfk m_sizeOfk) (fun x => x = (r, m_code', m_built', m_leastOf', m_sizeOf')) → W p l e rmX6_nth s m args below meth c H locs 0 0 (MQ below (va_Qi (fun (x : Int32) (_ : Unit) => x = r) (fun _ t => va_P (dC, dI) vwCl (wX6 cI cJ ad m_code' m_n m_built' m_length m_begin m_many m_leastOf' m_sizeOf' m_own m_bestRow m_tryRow m_keptRow m_otherRow m_row m_formRow m_allForms m_rowsOf m_intervals m_places m_whole) t.heap ∧ vK (dC, dI) [(cI, .int), (cJ, .long)] t ∧ va_D (va_A (wX6 cI cJ ad m_code m_n m_built m_length m_begin m_many m_leastOf m_sizeOf m_own m_bestRow m_tryRow m_keptRow m_otherRow m_row m_formRow m_allForms m_rowsOf m_intervals m_places m_whole) sz) (wX6 cI cJ ad m_code' m_n m_built' m_length m_begin m_many m_leastOf' m_sizeOf' m_own m_bestRow m_tryRow m_keptRow m_otherRow m_row m_formRow m_allForms m_rowsOf m_intervals m_places m_whole)) (va_A (wX6 cI cJ ad m_code m_n m_built m_length m_begin m_many m_leastOf m_sizeOf m_own m_bestRow m_tryRow m_keptRow m_otherRow m_row m_formRow m_allForms m_rowsOf m_intervals m_places m_whole) sz)) args s 0 0 A) (F0 m 79 ls []) := by
    intro m_codek m_builtk m_leastOfk m_sizeOfk H locs ls hP hD hS hl h
    unfold X6_nth_79 at h
    refine lv_iconst (v := (-1 : Int32)) hx hb dX6_nth_79 (by decide) ?_
    exact W.iret hx hb hr (fun t ht hW => QI (Ho_e h) (by rw [ht]; exact hP) (hK.warm hW) hD (hS.F ht)) hS.2.2 dX6_nth_80 hlk
  have J67 : ∀ (m_codek : Int32) (m_builtk : Int32) (m_leastOfk : Nat → Int32) (m_sizeOfk : Nat → Int32) (v5 : Int32) (H : Heap) (locs : List Loc) (ls : Array Slot), va_P (dC, dI) vwCl (wX6 cI cJ ad m_codek m_n m_builtk m_length m_begin m_many m_leastOfk m_sizeOfk m_own m_bestRow m_tryRow m_keptRow m_otherRow m_row m_formRow m_allForms m_rowsOf m_intervals m_places m_whole) H → va_D A (wX6 cI cJ ad m_codek m_n m_builtk m_length m_begin m_many m_leastOfk m_sizeOfk m_own m_bestRow m_tryRow m_keptRow m_otherRow m_row m_formRow m_allForms m_rowsOf m_intervals m_places m_whole) → va_S A s.heap H locs → lv_has ls 6 [(5, .int v5)] → Ho (X6_nth_67 m_codek m_builtk m_leastOfk m_sizeOfk v5) (fun x => x = (r, m_code', m_built', m_leastOf', m_sizeOf')) → W p l e rmX6_nth s m args below meth c H locs 0 0 (MQ below (va_Qi (fun (x : Int32) (_ : Unit) => x = r) (fun _ t => va_P (dC, dI) vwCl (wX6 cI cJ ad m_code' m_n m_built' m_length m_begin m_many m_leastOf' m_sizeOf' m_own m_bestRow m_tryRow m_keptRow m_otherRow m_row m_formRow m_allForms m_rowsOf m_intervals m_places m_whole) t.heap ∧ vK (dC, dI) [(cI, .int), (cJ, .long)] t ∧ va_D (va_A (wX6 cI cJ ad m_code m_n m_built m_length m_begin m_many m_leastOf m_sizeOf m_own m_bestRow m_tryRow m_keptRow m_otherRow m_row m_formRow m_allForms m_rowsOf m_intervals m_places m_whole) sz) (wX6 cI cJ ad m_code' m_n m_built' m_length m_begin m_many m_leastOf' m_sizeOf' m_own m_bestRow m_tryRow m_keptRow m_otherRow m_row m_formRow m_allForms m_rowsOf m_intervals m_places m_whole)) (va_A (wX6 cI cJ ad m_code m_n m_built m_length m_begin m_many m_leastOf m_sizeOf m_own m_bestRow m_tryRow m_keptRow m_otherRow m_row m_formRow m_allForms m_rowsOf m_intervals m_places m_whole) sz)) args s 0 0 A) (F0 m 67 ls []) := by
    intro m_codek m_builtk m_leastOfk m_sizeOfk v5 H locs ls hP hD hS hl h
    unfold X6_nth_67 at h
    refine lv_iload hx hb dX6_nth_67 (lv_at hl 0 rfl) ?_
    exact W.iret hx hb hr (fun t ht hW => QI (Ho_e h) (by rw [ht]; exact hP) (hK.warm hW) hD (hS.F ht)) hS.2.2 dX6_nth_69 hlk
  have J35 : ∀ (m_codek : Int32) (m_builtk : Int32) (m_leastOfk : Nat → Int32) (m_sizeOfk : Nat → Int32) (v4 : Int32) (v5 : Int32) (H : Heap) (locs : List Loc) (ls : Array Slot), va_P (dC, dI) vwCl (wX6 cI cJ ad m_codek m_n m_builtk m_length m_begin m_many m_leastOfk m_sizeOfk m_own m_bestRow m_tryRow m_keptRow m_otherRow m_row m_formRow m_allForms m_rowsOf m_intervals m_places m_whole) H → va_D A (wX6 cI cJ ad m_codek m_n m_builtk m_length m_begin m_many m_leastOfk m_sizeOfk m_own m_bestRow m_tryRow m_keptRow m_otherRow m_row m_formRow m_allForms m_rowsOf m_intervals m_places m_whole) → va_S A s.heap H locs → lv_has ls 6 [(0, .ref (ad 0)), (1, .int x1), (2, .int x2), (3, .int x3), (4, .int v4), (5, .int v5)] → Ho ((X6_nth_35_l m_n x1 x2 x3 m_codek m_builtk m_leastOfk m_sizeOfk v4 v5).bind (fun ex => Sum.elim (fun xy => X6_nth_67 m_codek xy.1 xy.2.1 xy.2.2.1 xy.2.2.2) (fun xy => X6_nth_79 m_codek xy.1 xy.2.1 xy.2.2) ex)) (fun x => x = (r, m_code', m_built', m_leastOf', m_sizeOf')) → W p l e rmX6_nth s m args below meth c H locs 0 0 (MQ below (va_Qi (fun (x : Int32) (_ : Unit) => x = r) (fun _ t => va_P (dC, dI) vwCl (wX6 cI cJ ad m_code' m_n m_built' m_length m_begin m_many m_leastOf' m_sizeOf' m_own m_bestRow m_tryRow m_keptRow m_otherRow m_row m_formRow m_allForms m_rowsOf m_intervals m_places m_whole) t.heap ∧ vK (dC, dI) [(cI, .int), (cJ, .long)] t ∧ va_D (va_A (wX6 cI cJ ad m_code m_n m_built m_length m_begin m_many m_leastOf m_sizeOf m_own m_bestRow m_tryRow m_keptRow m_otherRow m_row m_formRow m_allForms m_rowsOf m_intervals m_places m_whole) sz) (wX6 cI cJ ad m_code' m_n m_built' m_length m_begin m_many m_leastOf' m_sizeOf' m_own m_bestRow m_tryRow m_keptRow m_otherRow m_row m_formRow m_allForms m_rowsOf m_intervals m_places m_whole)) (va_A (wX6 cI cJ ad m_code m_n m_built m_length m_begin m_many m_leastOf m_sizeOf m_own m_bestRow m_tryRow m_keptRow m_otherRow m_row m_formRow m_allForms m_rowsOf m_intervals m_places m_whole) sz)) args s 0 0 A) (F0 m 35 ls []) := by
    intro m_codek m_builtk m_leastOfk m_sizeOfk v4 v5 H locs ls hP hD hS hl h
    refine loop_use2 (fun z : Int32 × (Nat → Int32) × (Nat → Int32) × Int32 × Int32 => ∀ (H : Heap) (locs : List Loc) (ls : Array Slot), va_P (dC, dI) vwCl (wX6 cI cJ ad m_codek m_n z.1 m_length m_begin m_many z.2.1 z.2.2.1 m_own m_bestRow m_tryRow m_keptRow m_otherRow m_row m_formRow m_allForms m_rowsOf m_intervals m_places m_whole) H → va_D A (wX6 cI cJ ad m_codek m_n z.1 m_length m_begin m_many z.2.1 z.2.2.1 m_own m_bestRow m_tryRow m_keptRow m_otherRow m_row m_formRow m_allForms m_rowsOf m_intervals m_places m_whole) → va_S A s.heap H locs → lv_has ls 6 [(0, .ref (ad 0)), (1, .int x1), (2, .int x2), (3, .int x3), (4, .int z.2.2.2.1), (5, .int z.2.2.2.2)] → W p l e rmX6_nth s m args below meth c H locs 0 0 (MQ below (va_Qi (fun (x : Int32) (_ : Unit) => x = r) (fun _ t => va_P (dC, dI) vwCl (wX6 cI cJ ad m_code' m_n m_built' m_length m_begin m_many m_leastOf' m_sizeOf' m_own m_bestRow m_tryRow m_keptRow m_otherRow m_row m_formRow m_allForms m_rowsOf m_intervals m_places m_whole) t.heap ∧ vK (dC, dI) [(cI, .int), (cJ, .long)] t ∧ va_D (va_A (wX6 cI cJ ad m_code m_n m_built m_length m_begin m_many m_leastOf m_sizeOf m_own m_bestRow m_tryRow m_keptRow m_otherRow m_row m_formRow m_allForms m_rowsOf m_intervals m_places m_whole) sz) (wX6 cI cJ ad m_code' m_n m_built' m_length m_begin m_many m_leastOf' m_sizeOf' m_own m_bestRow m_tryRow m_keptRow m_otherRow m_row m_formRow m_allForms m_rowsOf m_intervals m_places m_whole)) (va_A (wX6 cI cJ ad m_code m_n m_built m_length m_begin m_many m_leastOf m_sizeOf m_own m_bestRow m_tryRow m_keptRow m_otherRow m_row m_formRow m_allForms m_rowsOf m_intervals m_places m_whole) sz)) args s 0 0 A) (F0 m 35 ls [])) ?_ FU _ h H locs ls hP hD hS hl
    intro Q35 hi35 ho35 z h H locs ls hP hD hS hl
    obtain ⟨m_builtk, m_leastOfk, m_sizeOfk, v4, v5⟩ := z
    have h : Ho (X6_nth_35_s m_n x1 x2 x3 m_codek m_builtk m_leastOfk m_sizeOfk v4 v5) Q35 := h
    unfold X6_nth_35_s at h
    have hl : lv_has ls 6 [(0, .ref (ad 0)), (1, .int x1), (2, .int x2), (3, .int x3), (4, .int v4), (5, .int v5)] := hl
    have hP : va_P (dC, dI) vwCl (wX6 cI cJ ad m_codek m_n m_builtk m_length m_begin m_many m_leastOfk m_sizeOfk m_own m_bestRow m_tryRow m_keptRow m_otherRow m_row m_formRow m_allForms m_rowsOf m_intervals m_places m_whole) H := hP
    have hD : va_D A (wX6 cI cJ ad m_codek m_n m_builtk m_length m_begin m_many m_leastOfk m_sizeOfk m_own m_bestRow m_tryRow m_keptRow m_otherRow m_row m_formRow m_allForms m_rowsOf m_intervals m_places m_whole) := hD
    refine lv_iload hx hb dX6_nth_35 (lv_at hl 5 rfl) ?_
    refine lv_iconst (v := (1 : Int32)) hx hb dX6_nth_37 (by decide) ?_
    refine lv_aload_n hx hb dX6_nth_38 rfl (lv_at hl 0 rfl) ?_
    refine va_get (D := (dC, dI)) (ci := 6) (v := .int m_n) (C := RX6) (T := TX6) (N := 20) hx hb hts hiX6 hown hK.1 hP 0 rfl rfl 1 (by decide) hf7 (fun _ h9 => h9) rfl dX6_nth_39 ?_
    refine lv_ishl hx hb dX6_nth_42 ?_
    refine lv_icmp_ge (tgt := 79) hx hb dX6_nth_43 (by decide) (fun q43 => ?_) (fun q43 => ?_)
    · have h := Ho_t h q43
      have h := ho35 _ (Ho_s h)
      exact J79 m_codek m_builtk m_leastOfk m_sizeOfk _ _ ls hP hD hS (lv_sub hl [] rfl) h
    · have h := Ho_f h q43
      refine lv_iload_n hx hb dX6_nth_46 rfl (lv_at hl 3 rfl) ?_
      refine lv_if_lt (tgt := 79) hx hb dX6_nth_47 (by decide) (fun q47 => ?_) (fun q47 => ?_)
      · have h := Ho_t h q47
        have h := ho35 _ (Ho_s h)
        exact J79 m_codek m_builtk m_leastOfk m_sizeOfk _ _ ls hP hD hS (lv_sub hl [] rfl) h
      · have h := Ho_f h q47
        refine lv_aload_n hx hb dX6_nth_50 rfl (lv_at hl 0 rfl) ?_
        refine lv_iload_n hx hb dX6_nth_51 rfl (lv_at hl 2 rfl) ?_
        refine lv_iload hx hb dX6_nth_52 (lv_at hl 5 rfl) ?_
        refine lv_iload_n hx hb dX6_nth_54 rfl (lv_at hl 1 rfl) ?_
        obtain ⟨r55, m_built_55, m_leastOf_55, m_sizeOf_55, hc55, h⟩ := Ho_b4 h
        have hPc : va_P (dC, dI) vwCl (wX6 cI cJ ad m_codek m_n m_builtk m_length m_begin m_many m_leastOfk m_sizeOfk m_own m_bestRow m_tryRow m_keptRow m_otherRow m_row m_formRow m_allForms m_rowsOf m_intervals m_places m_whole) H := hP.sub [0, 1, 2, 3, 4, 5, 6, 7, 8, 9, 10, 11, 12, 13, 14] rfl
        have hDc : va_D A (wX6 cI cJ ad m_codek m_n m_builtk m_length m_begin m_many m_leastOfk m_sizeOfk m_own m_bestRow m_tryRow m_keptRow m_otherRow m_row m_formRow m_allForms m_rowsOf m_intervals m_places m_whole) := hD.sub [0, 1, 2, 3, 4, 5, 6, 7, 8, 9, 10, 11, 12, 13, 14] (by decide) rfl
        have hFc := va_free (wc := (wX6 cI cJ ad m_codek m_n m_builtk m_length m_begin m_many m_leastOfk m_sizeOfk m_own m_bestRow m_tryRow m_keptRow m_otherRow m_row m_formRow m_allForms m_rowsOf m_intervals m_places m_whole)) hD hS hA [0, 1, 2, 3, 4, 5, 6, 7, 8, 9, 10, 11, 12, 13, 14] rfl
        refine va_calli (va_runV (As := [.int x2, .int v5, .int x1]) (rest := []) hfix (c_X6_leads l dC dI cI cJ ad H.size m_codek m_n m_builtk m_length m_begin m_many m_leastOfk m_sizeOfk m_own m_bestRow m_tryRow m_keptRow m_otherRow m_row m_formRow m_allForms m_rowsOf m_intervals m_places m_whole x2 v5 x1 _ _ _ _ hc55) (cwV 3 hts gX6_nth_X6_leads rfl rfl rfl (by decide +kernel) ⟨by decide, by decide⟩) (rwP.preV hK hPc hDc rfl (ci := 6) rfl rfl) rfl rfl hl.1 rfl (lv_room (Nat.le_of_ble_eq_true rfl)) dX6_nth_55 ⟨Nat.zero_le _, Nat.zero_le _⟩) hS (fun q _ h => hFc q h) hFc (fun y55 u t H1 locs ht hvm hw hB hz1 hk1 hS => ?_)
        obtain ⟨hP1, -, hD1⟩ := hB
        rw [ht] at hP1
        have hw : y55 = r55 := hw
        rw [hw]
        obtain ⟨hP, hD⟩ := va_join (wr := []) (w1 := (wX6 cI cJ ad m_codek m_n m_built_55 m_length m_begin m_many m_leastOf_55 m_sizeOf_55 m_own m_bestRow m_tryRow m_keptRow m_otherRow m_row m_formRow m_allForms m_rowsOf m_intervals m_places m_whole)) hP hD [0, 1, 2, 3, 4, 5, 6, 7, 8, 9, 10, 11, 12, 13, 14] [] rfl rfl (by decide) (by decide) hk1 hFc hP1 hD1
        generalize H1 = H at hP hS ⊢
        have hP : va_P (dC, dI) vwCl (wX6 cI cJ ad m_codek m_n m_built_55 m_length m_begin m_many m_leastOf_55 m_sizeOf_55 m_own m_bestRow m_tryRow m_keptRow m_otherRow m_row m_formRow m_allForms m_rowsOf m_intervals m_places m_whole) H := hP.sub [0, 1, 2, 3, 4, 5, 6, 7, 8, 9, 10, 11, 12, 13, 14] rfl
        have hD : va_D A (wX6 cI cJ ad m_codek m_n m_built_55 m_length m_begin m_many m_leastOf_55 m_sizeOf_55 m_own m_bestRow m_tryRow m_keptRow m_otherRow m_row m_formRow m_allForms m_rowsOf m_intervals m_places m_whole) := hD.sub [0, 1, 2, 3, 4, 5, 6, 7, 8, 9, 10, 11, 12, 13, 14] (by decide) rfl
        refine lv_if_eq (tgt := 73) hx hb dX6_nth_58 (by decide) (fun q58 => ?_) (fun q58 => ?_)
        · have h := Ho_t h q58
          refine lv_iinc (v := v5 + 1) (lv' := [(5, .int (v5 + 1)), (0, .ref (ad 0)), (1, .int x1), (2, .int x2), (3, .int x3), (4, .int v4)]) hx hb dX6_nth_73 hl (k := 5) rfl rfl (by decide) rfl (fun ls hl => ?_)
          refine lv_goto (tgt := 35) hx hb dX6_nth_76 (by decide) ?_
          exact hi35 _ (Ho_s h) _ _ ls hP hD hS (lv_sub hl [1, 2, 3, 4, 5, 0] rfl)
        · have h := Ho_f h q58
          refine lv_iload hx hb dX6_nth_61 (lv_at hl 4 rfl) ?_
          refine lv_iload_n hx hb dX6_nth_63 rfl (lv_at hl 3 rfl) ?_
          refine lv_icmp_ne (tgt := 70) hx hb dX6_nth_64 (by decide) (fun q64 => ?_) (fun q64 => ?_)
          · have h := Ho_f h q64
            refine lv_iinc (v := v4 + 1) (lv' := [(4, .int (v4 + 1)), (0, .ref (ad 0)), (1, .int x1), (2, .int x2), (3, .int x3), (5, .int v5)]) hx hb dX6_nth_70 hl (k := 4) rfl rfl (by decide) rfl (fun ls hl => ?_)
            refine lv_iinc (v := v5 + 1) (lv' := [(5, .int (v5 + 1)), (4, .int (v4 + 1)), (0, .ref (ad 0)), (1, .int x1), (2, .int x2), (3, .int x3)]) hx hb dX6_nth_73 hl (k := 5) rfl rfl (by decide) rfl (fun ls hl => ?_)
            refine lv_goto (tgt := 35) hx hb dX6_nth_76 (by decide) ?_
            exact hi35 _ (Ho_s h) _ _ ls hP hD hS (lv_sub hl [2, 3, 4, 5, 1, 0] rfl)
          · have h := Ho_t h q64
            have h := ho35 _ (Ho_s h)
            exact J67 m_codek m_built_55 m_leastOf_55 m_sizeOf_55 v5 _ _ ls hP hD hS (lv_sub hl [5] rfl) h
  refine lv_aload_n hx hb dX6_nth_0 rfl (lv_at hl 0 rfl) ?_
  refine lv_iconst (v := (0 : Int32)) hx hb dX6_nth_1 (by decide) ?_
  refine va_put (D := (dC, dI)) (ci := 6) (v := .int (0 : Int32)) (ty := .int) (C := RX6) (T := TX6) (N := 20) hx hb hts hiX6 tyX6 tyX6_ok nmX6 hown hK.1 hP hD hS 0 rfl rfl 0 (by decide) hf57 (fun _ h9 => h9) rfl (by decide +kernel) rfl rfl (Nat.le_of_ble_eq_true rfl) dX6_nth_2 (fun H locs hP hD hS => ?_)
  have hP : va_P (dC, dI) vwCl (wX6 cI cJ ad (0 : Int32) m_n m_built m_length m_begin m_many m_leastOf m_sizeOf m_own m_bestRow m_tryRow m_keptRow m_otherRow m_row m_formRow m_allForms m_rowsOf m_intervals m_places m_whole) H := hP
  have hD : va_D A (wX6 cI cJ ad (0 : Int32) m_n m_built m_length m_begin m_many m_leastOf m_sizeOf m_own m_bestRow m_tryRow m_keptRow m_otherRow m_row m_formRow m_allForms m_rowsOf m_intervals m_places m_whole) := hD
  refine lv_iload_n hx hb dX6_nth_5 rfl (lv_at hl 1 rfl) ?_
  refine lv_iconst (v := (0 : Int32)) hx hb dX6_nth_6 (by decide) ?_
  refine lv_aload_n hx hb dX6_nth_7 rfl (lv_at hl 0 rfl) ?_
  refine va_get (D := (dC, dI)) (ci := 6) (v := .int m_n) (C := RX6) (T := TX6) (N := 20) hx hb hts hiX6 hown hK.1 hP 0 rfl rfl 1 (by decide) hf7 (fun _ h9 => h9) rfl dX6_nth_8 ?_
  obtain ⟨r11, hc11, h⟩ := Ho_b h
  refine cs_i (va_runS (As := [.int x1, .int (0 : Int32), .int m_n]) (rest := []) hfix (c_X6_isIn l dC dI cI cJ  x1 (0 : Int32) m_n _ hc11) (va_cwS 3 hts gX6_nth_X6_isIn rfl rfl rfl (by decide +kernel) ⟨by decide, by decide⟩) (roP.preS hK va_Pnil) rfl rfl hl.1 rfl (lv_room (Nat.le_of_ble_eq_true rfl)) dX6_nth_11 ⟨Nat.zero_le _, Nat.zero_le _⟩) ?_
  refine lv_if_eq (tgt := 26) hx hb dX6_nth_14 (by decide) (fun q14 => ?_) (fun q14 => ?_)
  · have h := Ho_t h q14
    refine lv_bipush (v := (-2 : Int32)) hx hb dX6_nth_26 (by decide) ?_
    exact W.iret hx hb hr (fun t ht hW => QI (Ho_e h) (by rw [ht]; exact hP) (hK.warm hW) hD (hS.F ht)) hS.2.2 dX6_nth_28 hlk
  · have h := Ho_f h q14
    refine lv_iload_n hx hb dX6_nth_17 rfl (lv_at hl 2 rfl) ?_
    refine lv_iconst (v := (0 : Int32)) hx hb dX6_nth_18 (by decide) ?_
    refine lv_iconst (v := (2 : Int32)) hx hb dX6_nth_19 (by decide) ?_
    obtain ⟨r20, hc20, h⟩ := Ho_b h
    refine cs_i (va_runS (As := [.int x2, .int (0 : Int32), .int (2 : Int32)]) (rest := []) hfix (c_X6_isIn l dC dI cI cJ  x2 (0 : Int32) (2 : Int32) _ hc20) (va_cwS 3 hts gX6_nth_X6_isIn rfl rfl rfl (by decide +kernel) ⟨by decide, by decide⟩) (roP.preS hK va_Pnil) rfl rfl hl.1 rfl (lv_room (Nat.le_of_ble_eq_true rfl)) dX6_nth_20 ⟨Nat.zero_le _, Nat.zero_le _⟩) ?_
    refine lv_if_ne (tgt := 29) hx hb dX6_nth_23 (by decide) (fun q23 => ?_) (fun q23 => ?_)
    · have h := Ho_f h q23
      refine lv_iconst (v := (0 : Int32)) hx hb dX6_nth_29 (by decide) ?_
      refine lv_istore (lv' := [(4, .int (0 : Int32)), (0, .ref (ad 0)), (1, .int x1), (2, .int x2), (3, .int x3)]) hx hb dX6_nth_30 hl (by decide) rfl (fun ls hl => ?_)
      refine lv_iconst (v := (0 : Int32)) hx hb dX6_nth_32 (by decide) ?_
      refine lv_istore (lv' := [(5, .int (0 : Int32)), (4, .int (0 : Int32)), (0, .ref (ad 0)), (1, .int x1), (2, .int x2), (3, .int x3)]) hx hb dX6_nth_33 hl (by decide) rfl (fun ls hl => ?_)
      exact J35 (0 : Int32) m_built m_leastOf m_sizeOf (0 : Int32) (0 : Int32) _ _ ls hP hD hS (lv_sub hl [2, 3, 4, 5, 1, 0] rfl) h
    · have h := Ho_t h q23
      refine lv_bipush (v := (-2 : Int32)) hx hb dX6_nth_26 (by decide) ?_
      exact W.iret hx hb hr (fun t ht hW => QI (Ho_e h) (by rw [ht]; exact hP) (hK.warm hW) hD (hS.F ht)) hS.2.2 dX6_nth_28 hlk
