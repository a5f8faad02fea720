abbrev rmX6_rows : Room := { frames := 1, cells := 0, slots := 0, locals := 26 }
set_option maxHeartbeats 4000000 in
set_option maxRecDepth 100000 in
theorem c_X6_rows (l : Launch) (dC : Nat → ClassId) (dI : Nat → Nat → Nat) (cI cJ : ClassId) (ad : Nat → Nat) (sz : Nat) (m_code : Int32) (m_n : Int32) (m_built : Int32) (m_length : Int32) (m_begin : Int32) (m_many : Int32) (m_leastOf : Nat → Int32) (m_sizeOf : Nat → Int32) (m_own : Nat → Int32) (m_bestRow : Nat → Int32) (m_tryRow : Nat → Int32) (m_keptRow : Nat → Int32) (m_otherRow : Nat → Int32) (m_row : Nat → Int32) (m_formRow : Nat → Int32) (m_allForms : Nat → Int32) (m_rowsOf : Nat → Int32) (m_intervals : Nat → Int32) (m_places : Nat → Int32) (m_whole : Nat → Int64) (r : Int32) (m_code' : Int32) (m_rowsOf' : Nat → Int32) (m_intervals' : Nat → Int32) (m_places' : Nat → Int32) (hF : FX6_rows m_code m_n m_rowsOf m_intervals m_places = some (r, m_code', m_rowsOf', m_intervals', m_places')) : Met l yX6_rows wsX6_rows rmX6_rows (rwP (dC, dI) [(cI, .int), (cJ, .long)] sz (wX6 cI cJ ad m_code m_n m_built m_length m_begin m_many m_leastOf m_sizeOf m_own m_bestRow m_tryRow m_keptRow m_otherRow m_row m_formRow m_allForms m_rowsOf m_intervals m_places m_whole) [.ref (ad 0)]) (va_Qi (fun (x : Int32) (_ : Unit) => x = r) (fun _ t => va_P (dC, dI) vwCl (wX6 cI cJ ad m_code' m_n m_built m_length m_begin m_many m_leastOf m_sizeOf m_own m_bestRow m_tryRow m_keptRow m_otherRow m_row m_formRow m_allForms m_rowsOf' m_intervals' m_places' m_whole) t.heap ∧ vK (dC, dI) [(cI, .int), (cJ, .long)] t ∧ va_D (va_A (wX6 cI cJ ad m_code m_n m_built m_length m_begin m_many m_leastOf m_sizeOf m_own m_bestRow m_tryRow m_keptRow m_otherRow m_row m_formRow m_allForms m_rowsOf m_intervals m_places m_whole) sz) (wX6 cI cJ ad m_code' m_n m_built m_length m_begin m_many m_leastOf m_sizeOf m_own m_bestRow m_tryRow m_keptRow m_otherRow m_row m_formRow m_allForms m_rowsOf' m_intervals' m_places' m_whole)) (va_A (wX6 cI cJ ad m_code m_n m_built m_length m_begin m_many m_leastOf m_sizeOf m_own m_bestRow m_tryRow m_keptRow m_otherRow m_row m_formRow m_allForms m_rowsOf m_intervals m_places m_whole) sz)) 0 0 (va_A (wX6 cI cJ ad m_code m_n m_built m_length m_begin m_many m_leastOf m_sizeOf m_own m_bestRow m_tryRow m_keptRow m_otherRow m_row m_formRow m_allForms m_rowsOf m_intervals m_places m_whole) sz) := by
  refine rw_start (cc := cX6_rows) (maxL := 1) (ret := (some .int)) (by decide) rfl (Nat.le_of_ble_eq_true rfl) ?_
  intro p e s m args below meth c ls A H locs hx hb hml hr hlk hown hts hsz hP hK hD hA hS hAe hl
  have hown : s.vm.findClass RX6 = some m.cls := hown
  have hl : lv_has ls 1 [(0, .ref (ad 0))] := hl
  have h : Ho (FX6_rows m_code m_n m_rowsOf m_intervals m_places) (fun x => x = (r, m_code', m_rowsOf', m_intervals', m_places')) := ⟨_, hF, rfl⟩
  unfold FX6_rows at h
  have QI : ∀ {v0 : Int32} {m_code9 : Int32} {m_rowsOf9 : Nat → Int32} {m_intervals9 : Nat → Int32} {m_places9 : Nat → Int32} {t : State}, (v0, m_code9, m_rowsOf9, m_intervals9, m_places9) = (r, m_code', m_rowsOf', m_intervals', m_places') → va_P (dC, dI) vwCl (wX6 cI cJ ad m_code9 m_n m_built m_length m_begin m_many m_leastOf m_sizeOf m_own m_bestRow m_tryRow m_keptRow m_otherRow m_row m_formRow m_allForms m_rowsOf9 m_intervals9 m_places9 m_whole) t.heap → vK (dC, dI) [(cI, .int), (cJ, .long)] t → va_D A (wX6 cI cJ ad m_code9 m_n m_built m_length m_begin m_many m_leastOf m_sizeOf m_own m_bestRow m_tryRow m_keptRow m_otherRow m_row m_formRow m_allForms m_rowsOf9 m_intervals9 m_places9 m_whole) → va_F A s t → (va_Qi (fun (x : Int32) (_ : Unit) => x = r) (fun _ t => va_P (dC, dI) vwCl (wX6 cI cJ ad m_code' m_n m_built m_length m_begin m_many m_leastOf m_sizeOf m_own m_bestRow m_tryRow m_keptRow m_otherRow m_row m_formRow m_allForms m_rowsOf' m_intervals' m_places' m_whole) t.heap ∧ vK (dC, dI) [(cI, .int), (cJ, .long)] t ∧ va_D (va_A (wX6 cI cJ ad m_code m_n m_built m_length m_begin m_many m_leastOf m_sizeOf m_own m_bestRow m_tryRow m_keptRow m_otherRow m_row m_formRow m_allForms m_rowsOf m_intervals m_places m_whole) sz) (wX6 cI cJ ad m_code' m_n m_built m_length m_begin m_many m_leastOf m_sizeOf m_own m_bestRow m_tryRow m_keptRow m_otherRow m_row m_formRow m_allForms m_rowsOf' m_intervals' m_places' m_whole)) (va_A (wX6 cI cJ ad m_code m_n m_built m_length m_begin m_many m_leastOf m_sizeOf m_own m_bestRow m_tryRow m_keptRow m_otherRow m_row m_formRow m_allForms m_rowsOf m_intervals m_places m_whole) sz)) args s (.returned (some (.int v0))) t := by
    intro v0 m_code9 m_rowsOf9 m_intervals9 m_places9 t e9 q1 q2 q3 q4
    cases e9
    subst hAe
    exact ⟨⟨_, (), rfl, rfl, q1, q2, q3⟩, q4⟩
  have hfix : CallFix p m c cX6_rows 1 s args wsX6_rows RX6 := ⟨hx, hb, hml, hown, hts⟩
  have hiX6 : ∀ w ∈ u_ws RX6 TX6 20, w ∈ wsX6_rows := by decide +kernel
  have hf7 := hts (.fieldLink RX6 7 "RowClassesModel" "n" "I") (by decide +kernel)
  have hf44 := hts (.fieldLink RX6 44 "RowClassesModel" "rowsOf" "[I") (by decide +kernel)
  have hf57 := hts (.fieldLink RX6 57 "RowClassesModel" "code" "I") (by decide +kernel)
  have J21 : ∀ (m_codek : Int32) (m_rowsOfk : Nat → Int32) (m_intervalsk : Nat → Int32) (m_placesk : Nat → Int32) (H : Heap) (locs : List Loc) (ls : Array Slot), va_P (dC, dI) vwCl (wX6 cI cJ ad m_codek m_n m_built m_length m_begin m_many m_leastOf m_sizeOf m_own m_bestRow m_tryRow m_keptRow m_otherRow m_row m_formRow m_allForms m_rowsOfk m_intervalsk m_placesk m_whole) H → va_D A (wX6 cI cJ ad m_codek m_n m_built m_length m_begin m_many m_leastOf m_sizeOf m_own m_bestRow m_tryRow m_keptRow m_otherRow m_row m_formRow m_allForms m_rowsOfk m_intervalsk m_placesk m_whole) → va_S A s.heap H locs → lv_has ls 1 [(0, .ref (ad 0))] → Ho (X6_rows_21 m_n m_codek m_rowsOfk m_intervalsk m_placesk) (fun x => x = (r, m_code', m_rowsOf', m_intervals', m_places')) → W p l e rmX6_rows s m args below meth c H locs 0 0 (MQ below (va_Qi (fun (x : Int32) (_ : Unit) => x = r) (fun _ t => va_P (dC, dI) vwCl (wX6 cI cJ ad m_code' m_n m_built m_length m_begin m_many m_leastOf m_sizeOf m_own m_bestRow m_tryRow m_keptRow m_otherRow m_row m_formRow m_allForms m_rowsOf' m_intervals' m_places' m_whole) t.heap ∧ vK (dC, dI) [(cI, .int), (cJ, .long)] t ∧ va_D (va_A (wX6 cI cJ ad m_code m_n m_built m_length m_begin m_many m_leastOf m_sizeOf m_own m_bestRow m_tryRow m_keptRow m_otherRow m_row m_formRow m_allForms m_rowsOf m_intervals m_places m_whole) sz) (wX6 cI cJ ad m_code' m_n m_built m_length m_begin m_many m_leastOf m_sizeOf m_own m_bestRow m_tryRow m_keptRow m_otherRow m_row m_formRow m_allForms m_rowsOf' m_intervals' m_places' m_whole)) (va_A (wX6 cI cJ ad m_code m_n m_built m_length m_begin m_many m_leastOf m_sizeOf m_own m_bestRow m_tryRow m_keptRow m_otherRow m_row m_formRow m_allForms m_rowsOf m_intervals m_places m_whole) sz)) args s 0 0 A) (F0 m 21 ls []) := by
    intro m_codek m_rowsOfk m_intervalsk m_placesk H locs ls hP hD hS hl h
    unfold X6_rows_21 at h
    refine lv_aload_n hx hb dX6_rows_21 rfl (lv_at hl 0 rfl) ?_
    refine va_get (D := (dC, dI)) (ci := 6) (v := .ref (ad 11)) (C := RX6) (T := TX6) (N := 20) hx hb hts hiX6 hown hK.1 hP 0 rfl rfl 16 (by decide) hf44 (fun _ h9 => h9) rfl dX6_rows_22 ?_
    refine lv_aload_n hx hb dX6_rows_25 rfl (lv_at hl 0 rfl) ?_
    refine va_get (D := (dC, dI)) (ci := 6) (v := .int m_n) (C := RX6) (T := TX6) (N := 20) hx hb hts hiX6 hown hK.1 hP 0 rfl rfl 1 (by decide) hf7 (fun _ h9 => h9) rfl dX6_rows_26 ?_
    obtain ⟨hz29, h⟩ := Ho_ix h
    refine va_iald hx hb hK.1 hP 11 0 rfl rfl hz29 dX6_rows_29 ?_
    refine lv_iconst (v := (1 : Int32)) hx hb dX6_rows_30 (by decide) ?_
    refine lv_isub hx hb dX6_rows_31 ?_
    exact W.iret hx hb hr (fun t ht hW => QI (Ho_e h) (by rw [ht]; exact hP) (hK.warm hW) hD (hS.F ht)) hS.2.2 dX6_rows_32 hlk
  refine lv_aload_n hx hb dX6_rows_0 rfl (lv_at hl 0 rfl) ?_
  refine lv_iconst (v := (0 : Int32)) hx hb dX6_rows_1 (by decide) ?_
  refine va_put (D := (dC, dI)) (ci := 6) (v := .int (0 : Int32)) (ty := .int) (C := RX6) (T := TX6) (N := 20) hx hb hts hiX6 tyX6 tyX6_ok nmX6 hown hK.1 hP hD hS 0 rfl rfl 0 (by decide) hf57 (fun _ h9 => h9) rfl (by decide +kernel) rfl rfl (Nat.le_of_ble_eq_true rfl) dX6_rows_2 (fun H locs hP hD hS => ?_)
  have hP : va_P (dC, dI) vwCl (wX6 cI cJ ad (0 : Int32) m_n m_built m_length m_begin m_many m_leastOf m_sizeOf m_own m_bestRow m_tryRow m_keptRow m_otherRow m_row m_formRow m_allForms m_rowsOf m_intervals m_places m_whole) H := hP
  have hD : va_D A (wX6 cI cJ ad (0 : Int32) m_n m_built m_length m_begin m_many m_leastOf m_sizeOf m_own m_bestRow m_tryRow m_keptRow m_otherRow m_row m_formRow m_allForms m_rowsOf m_intervals m_places m_whole) := hD
  refine lv_aload_n hx hb dX6_rows_5 rfl (lv_at hl 0 rfl) ?_
  refine va_get (D := (dC, dI)) (ci := 6) (v := .ref (ad 11)) (C := RX6) (T := TX6) (N := 20) hx hb hts hiX6 hown hK.1 hP 0 rfl rfl 16 (by decide) hf44 (fun _ h9 => h9) rfl dX6_rows_6 ?_
  refine lv_aload_n hx hb dX6_rows_9 rfl (lv_at hl 0 rfl) ?_
  refine va_get (D := (dC, dI)) (ci := 6) (v := .int m_n) (C := RX6) (T := TX6) (N := 20) hx hb hts hiX6 hown hK.1 hP 0 rfl rfl 1 (by decide) hf7 (fun _ h9 => h9) rfl dX6_rows_10 ?_
  obtain ⟨hz13, h⟩ := Ho_ix h
  refine va_iald hx hb hK.1 hP 11 0 rfl rfl hz13 dX6_rows_13 ?_
  refine lv_if_ne (tgt := 21) hx hb dX6_rows_14 (by decide) (fun q14 => ?_) (fun q14 => ?_)
  · have h := Ho_f h q14
    exact J21 (0 : Int32) m_rowsOf m_intervals m_places _ _ ls hP hD hS (lv_sub hl [0] rfl) h
  · have h := Ho_t h q14
    refine lv_aload_n hx hb dX6_rows_17 rfl (lv_at hl 0 rfl) ?_
    obtain ⟨m_rowsOf_18, m_intervals_18, m_places_18, hc18, h⟩ := Ho_b3 h
    have hPc : va_P (dC, dI) vwCl (wX6 cI cJ ad (0 : Int32) m_n m_built m_length m_begin m_many m_leastOf m_sizeOf m_own m_bestRow m_tryRow m_keptRow m_otherRow m_row m_formRow m_allForms m_rowsOf m_intervals m_places m_whole) H := hP.sub [0, 1, 2, 3, 4, 5, 6, 7, 8, 9, 10, 11, 12, 13, 14] rfl
    have hDc : va_D A (wX6 cI cJ ad (0 : Int32) m_n m_built m_length m_begin m_many m_leastOf m_sizeOf m_own m_bestRow m_tryRow m_keptRow m_otherRow m_row m_formRow m_allForms m_rowsOf m_intervals m_places m_whole) := hD.sub [0, 1, 2, 3, 4, 5, 6, 7, 8, 9, 10, 11, 12, 13, 14] (by decide) rfl
    have hFc := va_free (wc := (wX6 cI cJ ad (0 : Int32) m_n m_built m_length m_begin m_many m_leastOf m_sizeOf m_own m_bestRow m_tryRow m_keptRow m_otherRow m_row m_formRow m_allForms m_rowsOf m_intervals m_places m_whole)) hD hS hA [0, 1, 2, 3, 4, 5, 6, 7, 8, 9, 10, 11, 12, 13, 14] rfl
    refine va_callv (va_runV (As := []) (rest := []) hfix (c_X6_countRows l dC dI cI cJ ad H.size (0 : Int32) m_n m_built m_length m_begin m_many m_leastOf m_sizeOf m_own m_bestRow m_tryRow m_keptRow m_otherRow m_row m_formRow m_allForms m_rowsOf m_intervals m_places m_whole _ _ _ hc18) (cwV 0 hts gX6_rows_X6_countRows rfl rfl rfl (by decide +kernel) ⟨by decide, by decide⟩) (rwP.preV hK hPc hDc rfl (ci := 6) rfl rfl) rfl rfl hl.1 rfl (lv_room (Nat.le_of_ble_eq_true rfl)) dX6_rows_18 ⟨Nat.zero_le _, Nat.zero_le _⟩) hS (fun q _ h => hFc q h) hFc (fun u t H1 locs ht hvm hw hB hz1 hk1 hS => ?_)
    obtain ⟨hP1, -, hD1⟩ := hB
    rw [ht] at hP1
    obtain ⟨hP, hD⟩ := va_join (wr := []) (w1 := (wX6 cI cJ ad (0 : Int32) m_n m_built m_length m_begin m_many m_leastOf m_sizeOf m_own m_bestRow m_tryRow m_keptRow m_otherRow m_row m_formRow m_allForms m_rowsOf_18 m_intervals_18 m_places_18 m_whole)) hP hD [0, 1, 2, 3, 4, 5, 6, 7, 8, 9, 10, 11, 12, 13, 14] [] rfl rfl (by decide) (by decide) hk1 hFc hP1 hD1
    generalize H1 = H at hP hS ⊢
    have hP : va_P (dC, dI) vwCl (wX6 cI cJ ad (0 : Int32) m_n m_built m_length m_begin m_many m_leastOf m_sizeOf m_own m_bestRow m_tryRow m_keptRow m_otherRow m_row m_formRow m_allForms m_rowsOf_18 m_intervals_18 m_places_18 m_whole) H := hP.sub [0, 1, 2, 3, 4, 5, 6, 7, 8, 9, 10, 11, 12, 13, 14] rfl
    have hD : va_D A (wX6 cI cJ ad (0 : Int32) m_n m_built m_length m_begin m_many m_leastOf m_sizeOf m_own m_bestRow m_tryRow m_keptRow m_otherRow m_row m_formRow m_allForms m_rowsOf_18 m_intervals_18 m_places_18 m_whole) := hD.sub [0, 1, 2, 3, 4, 5, 6, 7, 8, 9, 10, 11, 12, 13, 14] (by decide) rfl
    exact J21 (0 : Int32) m_rowsOf_18 m_intervals_18 m_places_18 _ _ ls hP hD hS (lv_sub hl [0] rfl) h
abbrev rmX6_fills : Room := { frames := 1, cells := 0, slots := 0, locals := 25 }
set_option maxHeartbeats 4000000 in
set_option maxRecDepth 100000 in
theorem c_X6_fills (l : Launch) (dC : Nat → ClassId) (dI : Nat → Nat → Nat) (cI cJ : ClassId) (ad : Nat → Nat) (sz : Nat) (m_code : Int32) (m_n : Int32) (m_built : Int32) (m_length : Int32) (m_begin : Int32) (m_many : Int32) (m_leastOf : Nat → Int32) (m_sizeOf : Nat → Int32) (m_own : Nat → Int32) (m_bestRow : Nat → Int32) (m_tryRow : Nat → Int32) (m_keptRow : Nat → Int32) (m_otherRow : Nat → Int32) (m_row : Nat → Int32) (m_formRow : Nat → Int32) (m_allForms : Nat → Int32) (m_rowsOf : Nat → Int32) (m_intervals : Nat → Int32) (m_places : Nat → Int32) (m_whole : Nat → Int64) (x1 : Int32) (x2 : Int32) (r : Int32) (m_code' : Int32) (m_formRow' : Nat → Int32) (hF : FX6_fills m_code m_n m_many m_row m_formRow x1 x2 = some (r, m_code', m_formRow')) : Met l yX6_fills wsX6_fills rmX6_fills (rwP (dC, dI) [(cI, .int), (cJ, .long)] sz (wX6 cI cJ ad m_code m_n m_built m_length m_begin m_many m_leastOf m_sizeOf m_own m_bestRow m_tryRow m_keptRow m_otherRow m_row m_formRow m_allForms m_rowsOf m_intervals m_places m_whole) [.ref (ad 0), .int x1, .int x2]) (va_Qi (fun (x : Int32) (_ : Unit) => x = r) (fun _ t => va_P (dC, dI) vwCl (wX6 cI cJ ad m_code' m_n m_built m_length m_begin m_many m_leastOf m_sizeOf m_own m_bestRow m_tryRow m_keptRow m_otherRow m_row m_formRow' m_allForms m_rowsOf m_intervals m_places m_whole) t.heap ∧ vK (dC, dI) [(cI, .int), (cJ, .long)] t ∧ va_D (va_A (wX6 cI cJ ad m_code m_n m_built m_length m_begin m_many m_leastOf m_sizeOf m_own m_bestRow m_tryRow m_keptRow m_otherRow m_row m_formRow m_allForms m_rowsOf m_intervals m_places m_whole) sz) (wX6 cI cJ ad m_code' m_n m_built m_length m_begin m_many m_leastOf m_sizeOf m_own m_bestRow m_tryRow m_keptRow m_otherRow m_row m_formRow' m_allForms m_rowsOf m_intervals m_places m_whole)) (va_A (wX6 cI cJ ad m_code m_n m_built m_length m_begin m_many m_leastOf m_sizeOf m_own m_bestRow m_tryRow m_keptRow m_otherRow m_row m_formRow m_allForms m_rowsOf m_intervals m_places m_whole) sz)) 0 0 (va_A (wX6 cI cJ ad m_code m_n m_built m_length m_begin m_many m_leastOf m_sizeOf m_own m_bestRow m_tryRow m_keptRow m_otherRow m_row m_formRow m_allForms m_rowsOf m_intervals m_places m_whole) sz) := by
  refine rw_start (cc := cX6_fills) (maxL := 8) (ret := (some .int)) (by decide) rfl (Nat.le_of_ble_eq_true rfl) ?_
  intro p e s m args below meth c ls A H locs hx hb hml hr hlk hown hts hsz hP hK hD hA hS hAe hl
  have hown : s.vm.findClass RX6 = some m.cls := hown
  have hl : lv_has ls 8 [(0, .ref (ad 0)), (1, .int x1), (2, .int x2)] := hl
  have h : Ho (FX6_fills m_code m_n m_many m_row m_formRow x1 x2) (fun x => x = (r, m_code', m_formRow')) := ⟨_, hF, rfl⟩
  unfold FX6_fills at h
  have QI : ∀ {v0 : Int32} {m_code9 : Int32} {m_formRow9 : Nat → Int32} {t : State}, (v0, m_code9, m_formRow9) = (r, m_code', m_formRow') → va_P (dC, dI) vwCl (wX6 cI cJ ad m_code9 m_n m_built m_length m_begin m_many m_leastOf m_sizeOf m_own m_bestRow m_tryRow m_keptRow m_otherRow m_row m_formRow9 m_allForms m_rowsOf m_intervals m_places m_whole) t.heap → vK (dC, dI) [(cI, .int), (cJ, .long)] t → va_D A (wX6 cI cJ ad m_code9 m_n m_built m_length m_begin m_many m_leastOf m_sizeOf m_own m_bestRow m_tryRow m_keptRow m_otherRow m_row m_formRow9 m_allForms m_rowsOf m_intervals m_places m_whole) → va_F A s t → (va_Qi (fun (x : Int32) (_ : Unit) => x = r) (fun _ t => va_P (dC, dI) vwCl (wX6 cI cJ ad m_code' m_n m_built m_length m_begin m_many m_leastOf m_sizeOf m_own m_bestRow m_tryRow m_keptRow m_otherRow m_row m_formRow' m_allForms m_rowsOf m_intervals m_places m_whole) t.heap ∧ vK (dC, dI) [(cI, .int), (cJ, .long)] t ∧ va_D (va_A (wX6 cI cJ ad m_code m_n m_built m_length m_begin m_many m_leastOf m_sizeOf m_own m_bestRow m_tryRow m_keptRow m_otherRow m_row m_formRow m_allForms m_rowsOf m_intervals m_places m_whole) sz) (wX6 cI cJ ad m_code' m_n m_built m_length m_begin m_many m_leastOf m_sizeOf m_own m_bestRow m_tryRow m_keptRow m_otherRow m_row m_formRow' m_allForms m_rowsOf m_intervals m_places m_whole)) (va_A (wX6 cI cJ ad m_code m_n m_built m_length m_begin m_many m_leastOf m_sizeOf m_own m_bestRow m_tryRow m_keptRow m_otherRow m_row m_formRow m_allForms m_rowsOf m_intervals m_places m_whole) sz)) args s (.returned (some (.int v0))) t := by
    intro v0 m_code9 m_formRow9 t e9 q1 q2 q3 q4
    cases e9
    subst hAe
    exact ⟨⟨_, (), rfl, rfl, q1, q2, q3⟩, q4⟩
  have hfix : CallFix p m c cX6_fills 8 s args wsX6_fills RX6 := ⟨hx, hb, hml, hown, hts⟩
  have hiX6 : ∀ w ∈ u_ws RX6 TX6 20, w ∈ wsX6_fills := by decide +kernel
  have hf7 := hts (.fieldLink RX6 7 "RowClassesModel" "n" "I") (by decide +kernel)
  have hf35 := hts (.fieldLink RX6 35 "RowClassesModel" "row" "[I") (by decide +kernel)
  have hf38 := hts (.fieldLink RX6 38 "RowClassesModel" "formRow" "[I") (by decide +kernel)
  have hf57 := hts (.fieldLink RX6 57 "RowClassesModel" "code" "I") (by decide +kernel)
  have hf60 := hts (.fieldLink RX6 60 "RowClassesModel" "many" "I") (by decide +kernel)
  have J160 : ∀ (m_codek : Int32) (m_formRowk : Nat → Int32) (H : Heap) (locs : List Loc) (ls : Array Slot), va_P (dC, dI) vwCl (wX6 cI cJ ad m_codek m_n m_built m_length m_begin m_many m_leastOf m_sizeOf m_own m_bestRow m_tryRow m_keptRow m_otherRow m_row m_formRowk m_allForms m_rowsOf m_intervals m_places m_whole) H → va_D A (wX6 cI cJ ad m_codek m_n m_built m_length m_begin m_many m_leastOf m_sizeOf m_own m_bestRow m_tryRow m_keptRow m_otherRow m_row m_formRowk m_allForms m_rowsOf m_intervals m_places m_whole) → va_S A s.heap H locs → lv_has ls 8 [] → Ho (X6_fills_160 m_codek m_formRowk) (fun x => x = (r, m_code', m_formRow')) → W p l e rmX6_fills s m args below meth c H locs 0 0 (MQ below (va_Qi (fun (x : Int32) (_ : Unit) => x = r) (fun _ t => va_P (dC, dI) vwCl (wX6 cI cJ ad m_code' m_n m_built m_length m_begin m_many m_leastOf m_sizeOf m_own m_bestRow m_tryRow m_keptRow m_otherRow m_row m_formRow' m_allForms m_rowsOf m_intervals m_places m_whole) t.heap ∧ vK (dC, dI) [(cI, .int), (cJ, .long)] t ∧ va_D (va_A (wX6 cI cJ ad m_code m_n m_built m_length m_begin m_many m_leastOf m_sizeOf m_own m_bestRow m_tryRow m_keptRow m_otherRow m_row m_formRow m_allForms m_rowsOf m_intervals m_places m_whole) sz) (wX6 cI cJ ad m_code' m_n m_built m_length m_begin m_many m_leastOf m_sizeOf m_own m_bestRow m_tryRow m_keptRow m_otherRow m_row m_formRow' m_allForms m_rowsOf m_intervals m_places m_whole)) (va_A (wX6 cI cJ ad m_code m_n m_built m_length m_begin m_many m_leastOf m_sizeOf m_own m_bestRow m_tryRow m_keptRow m_otherRow m_row m_formRow m_allForms m_rowsOf m_intervals m_places m_whole) sz)) args s 0 0 A) (F0 m 160 ls []) := by
    intro m_codek m_formRowk H locs ls hP hD hS hl h
    unfold X6_fills_160 at h
    refine lv_iconst (v := (-1 : Int32)) hx hb dX6_fills_160 (by decide) ?_
    exact W.iret hx hb hr (fun t ht hW => QI (Ho_e h) (by rw [ht]; exact hP) (hK.warm hW) hD (hS.F ht)) hS.2.2 dX6_fills_161 hlk
  have J148 : ∀ (m_codek : Int32) (m_formRowk : Nat → Int32) (v4 : Int32) (H : Heap) (locs : List Loc) (ls : Array Slot), va_P (dC, dI) vwCl (wX6 cI cJ ad m_codek m_n m_built m_length m_begin m_many m_leastOf m_sizeOf m_own m_bestRow m_tryRow m_keptRow m_otherRow m_row m_formRowk m_allForms m_rowsOf m_intervals m_places m_whole) H → va_D A (wX6 cI cJ ad m_codek m_n m_built m_length m_begin m_many m_leastOf m_sizeOf m_own m_bestRow m_tryRow m_keptRow m_otherRow m_row m_formRowk m_allForms m_rowsOf m_intervals m_places m_whole) → va_S A s.heap H locs → lv_has ls 8 [(4, .int v4)] → Ho (X6_fills_148 m_codek m_formRowk v4) (fun x => x = (r, m_code', m_formRow')) → W p l e rmX6_fills s m args below meth c H locs 0 0 (MQ below (va_Qi (fun (x : Int32) (_ : Unit) => x = r) (fun _ t => va_P (dC, dI) vwCl (wX6 cI cJ ad m_code' m_n m_built m_length m_begin m_many m_leastOf m_sizeOf m_own m_bestRow m_tryRow m_keptRow m_otherRow m_row m_formRow' m_allForms m_rowsOf m_intervals m_places m_whole) t.heap ∧ vK (dC, dI) [(cI, .int), (cJ, .long)] t ∧ va_D (va_A (wX6 cI cJ ad m_code m_n m_built m_length m_begin m_many m_leastOf m_sizeOf m_own m_bestRow m_tryRow m_keptRow m_otherRow m_row m_formRow m_allForms m_rowsOf m_intervals m_places m_whole) sz) (wX6 cI cJ ad m_code' m_n m_built m_length m_begin m_many m_leastOf m_sizeOf m_own m_bestRow m_tryRow m_keptRow m_otherRow m_row m_formRow' m_allForms m_rowsOf m_intervals m_places m_whole)) (va_A (wX6 cI cJ ad m_code m_n m_built m_length m_begin m_many m_leastOf m_sizeOf m_own m_bestRow m_tryRow m_keptRow m_otherRow m_row m_formRow m_allForms m_rowsOf m_intervals m_places m_whole) sz)) args s 0 0 A) (F0 m 148 ls []) := by
    intro m_codek m_formRowk v4 H locs ls hP hD hS hl h
    unfold X6_fills_148 at h
    refine lv_iload hx hb dX6_fills_148 (lv_at hl 0 rfl) ?_
    exact W.iret hx hb hr (fun t ht hW => QI (Ho_e h) (by rw [ht]; exact hP) (hK.warm hW) hD (hS.F ht)) hS.2.2 dX6_fills_150 hlk
  have J46 : ∀ (m_codek : Int32) (m_formRowk : Nat → Int32) (v3 : Int32) (v4 : Int32) (H : Heap) (locs : List Loc) (ls : Array Slot), va_P (dC, dI) vwCl (wX6 cI cJ ad m_codek m_n m_built m_length m_begin m_many m_leastOf m_sizeOf m_own m_bestRow m_tryRow m_keptRow m_otherRow m_row m_formRowk m_allForms m_rowsOf m_intervals m_places m_whole) H → va_D A (wX6 cI cJ ad m_codek m_n m_built m_length m_begin m_many m_leastOf m_sizeOf m_own m_bestRow m_tryRow m_keptRow m_otherRow m_row m_formRowk m_allForms m_rowsOf m_intervals m_places m_whole) → va_S A s.heap H locs → lv_has ls 8 [(0, .ref (ad 0)), (1, .int x1), (2, .int x2), (3, .int v3), (4, .int v4)] → Ho ((X6_fills_46_l m_n m_row x1 x2 m_codek m_formRowk v3 v4).bind (fun ex => Sum.elim (fun xy => X6_fills_148 m_codek xy.1 xy.2) (fun xy => X6_fills_160 m_codek xy) ex)) (fun x => x = (r, m_code', m_formRow')) → W p l e rmX6_fills s m args below meth c H locs 0 0 (MQ below (va_Qi (fun (x : Int32) (_ : Unit) => x = r) (fun _ t => va_P (dC, dI) vwCl (wX6 cI cJ ad m_code' m_n m_built m_length m_begin m_many m_leastOf m_sizeOf m_own m_bestRow m_tryRow m_keptRow m_otherRow m_row m_formRow' m_allForms m_rowsOf m_intervals m_places m_whole) t.heap ∧ vK (dC, dI) [(cI, .int), (cJ, .long)] t ∧ va_D (va_A (wX6 cI cJ ad m_code m_n m_built m_length m_begin m_many m_leastOf m_sizeOf m_own m_bestRow m_tryRow m_keptRow m_otherRow m_row m_formRow m_allForms m_rowsOf m_intervals m_places m_whole) sz) (wX6 cI cJ ad m_code' m_n m_built m_length m_begin m_many m_leastOf m_sizeOf m_own m_bestRow m_tryRow m_keptRow m_otherRow m_row m_formRow' m_allForms m_rowsOf m_intervals m_places m_whole)) (va_A (wX6 cI cJ ad m_code m_n m_built m_length m_begin m_many m_leastOf m_sizeOf m_own m_bestRow m_tryRow m_keptRow m_otherRow m_row m_formRow m_allForms m_rowsOf m_intervals m_places m_whole) sz)) args s 0 0 A) (F0 m 46 ls []) := by
    intro m_codek m_formRowk v3 v4 H locs ls hP hD hS hl h
    refine loop_use2 (fun z : (Nat → Int32) × Int32 × Int32 => ∀ (H : Heap) (locs : List Loc) (ls : Array Slot), va_P (dC, dI) vwCl (wX6 cI cJ ad m_codek m_n m_built m_length m_begin m_many m_leastOf m_sizeOf m_own m_bestRow m_tryRow m_keptRow m_otherRow m_row z.1 m_allForms m_rowsOf m_intervals m_places m_whole) H → va_D A (wX6 cI cJ ad m_codek m_n m_built m_length m_begin m_many m_leastOf m_sizeOf m_own m_bestRow m_tryRow m_keptRow m_otherRow m_row z.1 m_allForms m_rowsOf m_intervals m_places m_whole) → va_S A s.heap H locs → lv_has ls 8 [(0, .ref (ad 0)), (1, .int x1), (2, .int x2), (3, .int z.2.1), (4, .int z.2.2)] → W p l e rmX6_fills s m args below meth c H locs 0 0 (MQ below (va_Qi (fun (x : Int32) (_ : Unit) => x = r) (fun _ t => va_P (dC, dI) vwCl (wX6 cI cJ ad m_code' m_n m_built m_length m_begin m_many m_leastOf m_sizeOf m_own m_bestRow m_tryRow m_keptRow m_otherRow m_row m_formRow' m_allForms m_rowsOf m_intervals m_places m_whole) t.heap ∧ vK (dC, dI) [(cI, .int), (cJ, .long)] t ∧ va_D (va_A (wX6 cI cJ ad m_code m_n m_built m_length m_begin m_many m_leastOf m_sizeOf m_own m_bestRow m_tryRow m_keptRow m_otherRow m_row m_formRow m_allForms m_rowsOf m_intervals m_places m_whole) sz) (wX6 cI cJ ad m_code' m_n m_built m_length m_begin m_many m_leastOf m_sizeOf m_own m_bestRow m_tryRow m_keptRow m_otherRow m_row m_formRow' m_allForms m_rowsOf m_intervals m_places m_whole)) (va_A (wX6 cI cJ ad m_code m_n m_built m_length m_begin m_many m_leastOf m_sizeOf m_own m_bestRow m_tryRow m_keptRow m_otherRow m_row m_formRow m_allForms m_rowsOf m_intervals m_places m_whole) sz)) args s 0 0 A) (F0 m 46 ls [])) ?_ FU _ h H locs ls hP hD hS hl
    intro Q46 hi46 ho46 z h H locs ls hP hD hS hl
    obtain ⟨m_formRowk, v3, v4⟩ := z
    have h : Ho (X6_fills_46_s m_n m_row x1 x2 m_codek m_formRowk v3 v4) Q46 := h
    unfold X6_fills_46_s at h
    have hl : lv_has ls 8 [(0, .ref (ad 0)), (1, .int x1), (2, .int x2), (3, .int v3), (4, .int v4)] := hl
    have hP : va_P (dC, dI) vwCl (wX6 cI cJ ad m_codek m_n m_built m_length m_begin m_many m_leastOf m_sizeOf m_own m_bestRow m_tryRow m_keptRow m_otherRow m_row m_formRowk m_allForms m_rowsOf m_intervals m_places m_whole) H := hP
    have hD : va_D A (wX6 cI cJ ad m_codek m_n m_built m_length m_begin m_many m_leastOf m_sizeOf m_own m_bestRow m_tryRow m_keptRow m_otherRow m_row m_formRowk m_allForms m_rowsOf m_intervals m_places m_whole) := hD
    have J138 : ∀ (m_formRowk : Nat → Int32) (v3 : Int32) (v4 : Int32) (v5 : Int32) (H : Heap) (locs : List Loc) (ls : Array Slot), va_P (dC, dI) vwCl (wX6 cI cJ ad m_codek m_n m_built m_length m_begin m_many m_leastOf m_sizeOf m_own m_bestRow m_tryRow m_keptRow m_otherRow m_row m_formRowk m_allForms m_rowsOf m_intervals m_places m_whole) H → va_D A (wX6 cI cJ ad m_codek m_n m_built m_length m_begin m_many m_leastOf m_sizeOf m_own m_bestRow m_tryRow m_keptRow m_otherRow m_row m_formRowk m_allForms m_rowsOf m_intervals m_places m_whole) → va_S A s.heap H locs → lv_has ls 8 [(0, .ref (ad 0)), (1, .int x1), (2, .int x2), (3, .int v3), (4, .int v4), (5, .int v5)] → Ho (X6_fills_138 x2 m_codek m_formRowk v3 v4 v5) Q46 → W p l e rmX6_fills s m args below meth c H locs 0 0 (MQ below (va_Qi (fun (x : Int32) (_ : Unit) => x = r) (fun _ t => va_P (dC, dI) vwCl (wX6 cI cJ ad m_code' m_n m_built m_length m_begin m_many m_leastOf m_sizeOf m_own m_bestRow m_tryRow m_keptRow m_otherRow m_row m_formRow' m_allForms m_rowsOf m_intervals m_places m_whole) t.heap ∧ vK (dC, dI) [(cI, .int), (cJ, .long)] t ∧ va_D (va_A (wX6 cI cJ ad m_code m_n m_built m_length m_begin m_many m_leastOf m_sizeOf m_own m_bestRow m_tryRow m_keptRow m_otherRow m_row m_formRow m_allForms m_rowsOf m_intervals m_places m_whole) sz) (wX6 cI cJ ad m_code' m_n m_built m_length m_begin m_many m_leastOf m_sizeOf m_own m_bestRow m_tryRow m_keptRow m_otherRow m_row m_formRow' m_allForms m_rowsOf m_intervals m_places m_whole)) (va_A (wX6 cI cJ ad m_code m_n m_built m_length m_begin m_many m_leastOf m_sizeOf m_own m_bestRow m_tryRow m_keptRow m_otherRow m_row m_formRow m_allForms m_rowsOf m_intervals m_places m_whole) sz)) args s 0 0 A) (F0 m 138 ls []) := by
      intro m_formRowk v3 v4 v5 H locs ls hP hD hS hl h
      unfold X6_fills_138 at h
      refine lv_iload hx hb dX6_fills_138 (lv_at hl 5 rfl) ?_
      refine lv_if_eq (tgt := 154) hx hb dX6_fills_140 (by decide) (fun q140 => ?_) (fun q140 => ?_)
      · have h := Ho_t h q140
        refine lv_iinc (v := v4 + 1) (lv' := [(4, .int (v4 + 1)), (0, .ref (ad 0)), (1, .int x1), (2, .int x2), (3, .int v3), (5, .int v5)]) hx hb dX6_fills_154 hl (k := 4) rfl rfl (by decide) rfl (fun ls hl => ?_)
        refine lv_goto (tgt := 46) hx hb dX6_fills_157 (by decide) ?_
        exact hi46 _ (Ho_s h) _ _ ls hP hD hS (lv_sub hl [1, 2, 3, 4, 0] rfl)
      · have h := Ho_f h q140
        refine lv_iload_n hx hb dX6_fills_143 rfl (lv_at hl 3 rfl) ?_
        refine lv_iload_n hx hb dX6_fills_144 rfl (lv_at hl 2 rfl) ?_
        refine lv_icmp_ne (tgt := 151) hx hb dX6_fills_145 (by decide) (fun q145 => ?_) (fun q145 => ?_)
        · have h := Ho_f h q145
          refine lv_iinc (v := v3 + 1) (lv' := [(3, .int (v3 + 1)), (0, .ref (ad 0)), (1, .int x1), (2, .int x2), (4, .int v4), (5, .int v5)]) hx hb dX6_fills_151 hl (k := 3) rfl rfl (by decide) rfl (fun ls hl => ?_)
          refine lv_iinc (v := v4 + 1) (lv' := [(4, .int (v4 + 1)), (3, .int (v3 + 1)), (0, .ref (ad 0)), (1, .int x1), (2, .int x2), (5, .int v5)]) hx hb dX6_fills_154 hl (k := 4) rfl rfl (by decide) rfl (fun ls hl => ?_)
          refine lv_goto (tgt := 46) hx hb dX6_fills_157 (by decide) ?_
          exact hi46 _ (Ho_s h) _ _ ls hP hD hS (lv_sub hl [2, 3, 4, 1, 0] rfl)
        · have h := Ho_t h q145
          have h := ho46 _ (Ho_s h)
          exact J148 m_codek m_formRowk v4 _ _ ls hP hD hS (lv_sub hl [4] rfl) h
    have J72 : ∀ (m_formRowk : Nat → Int32) (v3 : Int32) (v4 : Int32) (v5 : Int32) (v6 : Int32) (H : Heap) (locs : List Loc) (ls : Array Slot), va_P (dC, dI) vwCl (wX6 cI cJ ad m_codek m_n m_built m_length m_begin m_many m_leastOf m_sizeOf m_own m_bestRow m_tryRow m_keptRow m_otherRow m_row m_formRowk m_allForms m_rowsOf m_intervals m_places m_whole) H → va_D A (wX6 cI cJ ad m_codek m_n m_built m_length m_begin m_many m_leastOf m_sizeOf m_own m_bestRow m_tryRow m_keptRow m_otherRow m_row m_formRowk m_allForms m_rowsOf m_intervals m_places m_whole) → va_S A s.heap H locs → lv_has ls 8 [(0, .ref (ad 0)), (1, .int x1), (2, .int x2), (3, .int v3), (4, .int v4), (5, .int v5), (6, .int v6)] → Ho ((X6_fills_72_l m_n m_row m_codek m_formRowk v3 v4 v5 v6).bind (fun ex => X6_fills_138 x2 m_codek m_formRowk v3 v4 ex)) Q46 → W p l e rmX6_fills s m args below meth c H locs 0 0 (MQ below (va_Qi (fun (x : Int32) (_ : Unit) => x = r) (fun _ t => va_P (dC, dI) vwCl (wX6 cI cJ ad m_code' m_n m_built m_length m_begin m_many m_leastOf m_sizeOf m_own m_bestRow m_tryRow m_keptRow m_otherRow m_row m_formRow' m_allForms m_rowsOf m_intervals m_places m_whole) t.heap ∧ vK (dC, dI) [(cI, .int), (cJ, .long)] t ∧ va_D (va_A (wX6 cI cJ ad m_code m_n m_built m_length m_begin m_many m_leastOf m_sizeOf m_own m_bestRow m_tryRow m_keptRow m_otherRow m_row m_formRow m_allForms m_rowsOf m_intervals m_places m_whole) sz) (wX6 cI cJ ad m_code' m_n m_built m_length m_begin m_many m_leastOf m_sizeOf m_own m_bestRow m_tryRow m_keptRow m_otherRow m_row m_formRow' m_allForms m_rowsOf m_intervals m_places m_whole)) (va_A (wX6 cI cJ ad m_code m_n m_built m_length m_begin m_many m_leastOf m_sizeOf m_own m_bestRow m_tryRow m_keptRow m_otherRow m_row m_formRow m_allForms m_rowsOf m_intervals m_places m_whole) sz)) args s 0 0 A) (F0 m 72 ls []) := by
      intro m_formRowk v3 v4 v5 v6 H locs ls hP hD hS hl h
      refine loop_use2 (fun z : Int32 × Int32 => ∀ (H : Heap) (locs : List Loc) (ls : Array Slot), va_P (dC, dI) vwCl (wX6 cI cJ ad m_codek m_n m_built m_length m_begin m_many m_leastOf m_sizeOf m_own m_bestRow m_tryRow m_keptRow m_otherRow m_row m_formRowk m_allForms m_rowsOf m_intervals m_places m_whole) H → va_D A (wX6 cI cJ ad m_codek m_n m_built m_length m_begin m_many m_leastOf m_sizeOf m_own m_bestRow m_tryRow m_keptRow m_otherRow m_row m_formRowk m_allForms m_rowsOf m_intervals m_places m_whole) → va_S A s.heap H locs → lv_has ls 8 [(0, .ref (ad 0)), (1, .int x1), (2, .int x2), (3, .int v3), (4, .int v4), (5, .int z.1), (6, .int z.2)] → W p l e rmX6_fills s m args below meth c H locs 0 0 (MQ below (va_Qi (fun (x : Int32) (_ : Unit) => x = r) (fun _ t => va_P (dC, dI) vwCl (wX6 cI cJ ad m_code' m_n m_built m_length m_begin m_many m_leastOf m_sizeOf m_own m_bestRow m_tryRow m_keptRow m_otherRow m_row m_formRow' m_allForms m_rowsOf m_intervals m_places m_whole) t.heap ∧ vK (dC, dI) [(cI, .int), (cJ, .long)] t ∧ va_D (va_A (wX6 cI cJ ad m_code m_n m_built m_length m_begin m_many m_leastOf m_sizeOf m_own m_bestRow m_tryRow m_keptRow m_otherRow m_row m_formRow m_allForms m_rowsOf m_intervals m_places m_whole) sz) (wX6 cI cJ ad m_code' m_n m_built m_length m_begin m_many m_leastOf m_sizeOf m_own m_bestRow m_tryRow m_keptRow m_otherRow m_row m_formRow' m_allForms m_rowsOf m_intervals m_places m_whole)) (va_A (wX6 cI cJ ad m_code m_n m_built m_length m_begin m_many m_leastOf m_sizeOf m_own m_bestRow m_tryRow m_keptRow m_otherRow m_row m_formRow m_allForms m_rowsOf m_intervals m_places m_whole) sz)) args s 0 0 A) (F0 m 72 ls [])) ?_ FU _ h H locs ls hP hD hS hl
      intro Q72 hi72 ho72 z h H locs ls hP hD hS hl
      obtain ⟨v5, v6⟩ := z
      have h : Ho (X6_fills_72_s m_n m_row m_codek m_formRowk v3 v4 v5 v6) Q72 := h
      unfold X6_fills_72_s at h
      have hl : lv_has ls 8 [(0, .ref (ad 0)), (1, .int x1), (2, .int x2), (3, .int v3), (4, .int v4), (5, .int v5), (6, .int v6)] := hl
      have hP : va_P (dC, dI) vwCl (wX6 cI cJ ad m_codek m_n m_built m_length m_begin m_many m_leastOf m_sizeOf m_own m_bestRow m_tryRow m_keptRow m_otherRow m_row m_formRowk m_allForms m_rowsOf m_intervals m_places m_whole) H := hP
      have hD : va_D A (wX6 cI cJ ad m_codek m_n m_built m_length m_begin m_many m_leastOf m_sizeOf m_own m_bestRow m_tryRow m_keptRow m_otherRow m_row m_formRowk m_allForms m_rowsOf m_intervals m_places m_whole) := hD
      have J132 : ∀ (v5 : Int32) (v6 : Int32) (H : Heap) (locs : List Loc) (ls : Array Slot), va_P (dC, dI) vwCl (wX6 cI cJ ad m_codek m_n m_built m_length m_begin m_many m_leastOf m_sizeOf m_own m_bestRow m_tryRow m_keptRow m_otherRow m_row m_formRowk m_allForms m_rowsOf m_intervals m_places m_whole) H → va_D A (wX6 cI cJ ad m_codek m_n m_built m_length m_begin m_many m_leastOf m_sizeOf m_own m_bestRow m_tryRow m_keptRow m_otherRow m_row m_formRowk m_allForms m_rowsOf m_intervals m_places m_whole) → va_S A s.heap H locs → lv_has ls 8 [(0, .ref (ad 0)), (1, .int x1), (2, .int x2), (3, .int v3), (4, .int v4), (5, .int v5), (6, .int v6)] → Ho (X6_fills_132 m_codek m_formRowk v3 v4 v5 v6) Q72 → W p l e rmX6_fills s m args below meth c H locs 0 0 (MQ below (va_Qi (fun (x : Int32) (_ : Unit) => x = r) (fun _ t => va_P (dC, dI) vwCl (wX6 cI cJ ad m_code' m_n m_built m_length m_begin m_many m_leastOf m_sizeOf m_own m_bestRow m_tryRow m_keptRow m_otherRow m_row m_formRow' m_allForms m_rowsOf m_intervals m_places m_whole) t.heap ∧ vK (dC, dI) [(cI, .int), (cJ, .long)] t ∧ va_D (va_A (wX6 cI cJ ad m_code m_n m_built m_length m_begin m_many m_leastOf m_sizeOf m_own m_bestRow m_tryRow m_keptRow m_otherRow m_row m_formRow m_allForms m_rowsOf m_intervals m_places m_whole) sz) (wX6 cI cJ ad m_code' m_n m_built m_length m_begin m_many m_leastOf m_sizeOf m_own m_bestRow m_tryRow m_keptRow m_otherRow m_row m_formRow' m_allForms m_rowsOf m_intervals m_places m_whole)) (va_A (wX6 cI cJ ad m_code m_n m_built m_length m_begin m_many m_leastOf m_sizeOf m_own m_bestRow m_tryRow m_keptRow m_otherRow m_row m_formRow m_allForms m_rowsOf m_intervals m_places m_whole) sz)) args s 0 0 A) (F0 m 132 ls []) := by
        intro v5 v6 H locs ls hP hD hS hl h
        unfold X6_fills_132 at h
        refine lv_iinc (v := v6 + 1) (lv' := [(6, .int (v6 + 1)), (0, .ref (ad 0)), (1, .int x1), (2, .int x2), (3, .int v3), (4, .int v4), (5, .int v5)]) hx hb dX6_fills_132 hl (k := 6) rfl rfl (by decide) rfl (fun ls hl => ?_)
        refine lv_goto (tgt := 72) hx hb dX6_fills_135 (by decide) ?_
        exact hi72 _ (Ho_s h) _ _ ls hP hD hS (lv_sub hl [1, 2, 3, 4, 5, 6, 0] rfl)
      have J86 : ∀ (v5 : Int32) (v6 : Int32) (v7 : Int32) (H : Heap) (locs : List Loc) (ls : Array Slot), va_P (dC, dI) vwCl (wX6 cI cJ ad m_codek m_n m_built m_length m_begin m_many m_leastOf m_sizeOf m_own m_bestRow m_tryRow m_keptRow m_otherRow m_row m_formRowk m_allForms m_rowsOf m_intervals m_places m_whole) H → va_D A (wX6 cI cJ ad m_codek m_n m_built m_length m_begin m_many m_leastOf m_sizeOf m_own m_bestRow m_tryRow m_keptRow m_otherRow m_row m_formRowk m_allForms m_rowsOf m_intervals m_places m_whole) → va_S A s.heap H locs → lv_has ls 8 [(0, .ref (ad 0)), (1, .int x1), (2, .int x2), (3, .int v3), (4, .int v4), (5, .int v5), (6, .int v6), (7, .int v7)] → Ho ((X6_fills_86_l m_n m_row m_codek m_formRowk v3 v4 v6 v5 v7).bind (fun ex => X6_fills_132 m_codek m_formRowk v3 v4 ex v6)) Q72 → W p l e rmX6_fills s m args below meth c H locs 0 0 (MQ below (va_Qi (fun (x : Int32) (_ : Unit) => x = r) (fun _ t => va_P (dC, dI) vwCl (wX6 cI cJ ad m_code' m_n m_built m_length m_begin m_many m_leastOf m_sizeOf m_own m_bestRow m_tryRow m_keptRow m_otherRow m_row m_formRow' m_allForms m_rowsOf m_intervals m_places m_whole) t.heap ∧ vK (dC, dI) [(cI, .int), (cJ, .long)] t ∧ va_D (va_A (wX6 cI cJ ad m_code m_n m_built m_length m_begin m_many m_leastOf m_sizeOf m_own m_bestRow m_tryRow m_keptRow m_otherRow m_row m_formRow m_allForms m_rowsOf m_intervals m_places m_whole) sz) (wX6 cI cJ ad m_code' m_n m_built m_length m_begin m_many m_leastOf m_sizeOf m_own m_bestRow m_tryRow m_keptRow m_otherRow m_row m_formRow' m_allForms m_rowsOf m_intervals m_places m_whole)) (va_A (wX6 cI cJ ad m_code m_n m_built m_length m_begin m_many m_leastOf m_sizeOf m_own m_bestRow m_tryRow m_keptRow m_otherRow m_row m_formRow m_allForms m_rowsOf m_intervals m_places m_whole) sz)) args s 0 0 A) (F0 m 86 ls []) := by
        intro v5 v6 v7 H locs ls hP hD hS hl h
        refine loop_use2 (fun z : Int32 × Int32 => ∀ (H : Heap) (locs : List Loc) (ls : Array Slot), va_P (dC, dI) vwCl (wX6 cI cJ ad m_codek m_n m_built m_length m_begin m_many m_leastOf m_sizeOf m_own m_bestRow m_tryRow m_keptRow m_otherRow m_row m_formRowk m_allForms m_rowsOf m_intervals m_places m_whole) H → va_D A (wX6 cI cJ ad m_codek m_n m_built m_length m_begin m_many m_leastOf m_sizeOf m_own m_bestRow m_tryRow m_keptRow m_otherRow m_row m_formRowk m_allForms m_rowsOf m_intervals m_places m_whole) → va_S A s.heap H locs → lv_has ls 8 [(0, .ref (ad 0)), (1, .int x1), (2, .int x2), (3, .int v3), (4, .int v4), (5, .int z.1), (6, .int v6), (7, .int z.2)] → W p l e rmX6_fills s m args below meth c H locs 0 0 (MQ below (va_Qi (fun (x : Int32) (_ : Unit) => x = r) (fun _ t => va_P (dC, dI) vwCl (wX6 cI cJ ad m_code' m_n m_built m_length m_begin m_many m_leastOf m_sizeOf m_own m_bestRow m_tryRow m_keptRow m_otherRow m_row m_formRow' m_allForms m_rowsOf m_intervals m_places m_whole) t.heap ∧ vK (dC, dI) [(cI, .int), (cJ, .long)] t ∧ va_D (va_A (wX6 cI cJ ad m_code m_n m_built m_length m_begin m_many m_leastOf m_sizeOf m_own m_bestRow m_tryRow m_keptRow m_otherRow m_row m_formRow m_allForms m_rowsOf m_intervals m_places m_whole) sz) (wX6 cI cJ ad m_code' m_n m_built m_length m_begin m_many m_leastOf m_sizeOf m_own m_bestRow m_tryRow m_keptRow m_otherRow m_row m_formRow' m_allForms m_rowsOf m_intervals m_places m_whole)) (va_A (wX6 cI cJ ad m_code m_n m_built m_length m_begin m_many m_leastOf m_sizeOf m_own m_bestRow m_tryRow m_keptRow m_otherRow m_row m_formRow m_allForms m_rowsOf m_intervals m_places m_whole) sz)) args s 0 0 A) (F0 m 86 ls [])) ?_ FU _ h H locs ls hP hD hS hl
        intro Q86 hi86 ho86 z h H locs ls hP hD hS hl
        obtain ⟨v5, v7⟩ := z
        have h : Ho (X6_fills_86_s m_n m_row m_codek m_formRowk v3 v4 v6 v5 v7) Q86 := h
        unfold X6_fills_86_s at h
        have hl : lv_has ls 8 [(0, .ref (ad 0)), (1, .int x1), (2, .int x2), (3, .int v3), (4, .int v4), (5, .int v5), (6, .int v6), (7, .int v7)] := hl
        have hP : va_P (dC, dI) vwCl (wX6 cI cJ ad m_codek m_n m_built m_length m_begin m_many m_leastOf m_sizeOf m_own m_bestRow m_tryRow m_keptRow m_otherRow m_row m_formRowk m_allForms m_rowsOf m_intervals m_places m_whole) H := hP
        have hD : va_D A (wX6 cI cJ ad m_codek m_n m_built m_length m_begin m_many m_leastOf m_sizeOf m_own m_bestRow m_tryRow m_keptRow m_otherRow m_row m_formRowk m_allForms m_rowsOf m_intervals m_places m_whole) := hD
        refine lv_iload hx hb dX6_fills_86 (lv_at hl 7 rfl) ?_
        refine lv_aload_n hx hb dX6_fills_88 rfl (lv_at hl 0 rfl) ?_
        refine va_get (D := (dC, dI)) (ci := 6) (v := .int m_n) (C := RX6) (T := TX6) (N := 20) hx hb hts hiX6 hown hK.1 hP 0 rfl rfl 1 (by decide) hf7 (fun _ h9 => h9) rfl dX6_fills_89 ?_
        refine lv_iconst (v := (2 : Int32)) hx hb dX6_fills_92 (by decide) ?_
        refine lv_idiv hx hb dX6_fills_93 (by decide) ?_
        refine lv_icmp_ge (tgt := 132) hx hb dX6_fills_94 (by decide) (fun q94 => ?_) (fun q94 => ?_)
        · have h := Ho_t h q94
          have h := ho86 _ (Ho_s h)
          exact J132 v5 v6 _ _ ls hP hD hS (lv_sub hl [0, 1, 2, 3, 4, 5, 6] rfl) h
        · have h := Ho_f h q94
          refine lv_iload hx hb dX6_fills_97 (lv_at hl 5 rfl) ?_
          refine lv_if_eq (tgt := 123) hx hb dX6_fills_99 (by decide) (fun q99 => ?_) (fun q99 => ?_)
          · have h := Ho_t h q99
            refine lv_iconst (v := (0 : Int32)) hx hb dX6_fills_123 (by decide) ?_
            refine lv_istore (lv' := [(5, .int (0 : Int32)), (0, .ref (ad 0)), (1, .int x1), (2, .int x2), (3, .int v3), (4, .int v4), (6, .int v6), (7, .int v7)]) hx hb dX6_fills_124 hl (by decide) rfl (fun ls hl => ?_)
            refine lv_iinc (v := v7 + 1) (lv' := [(7, .int (v7 + 1)), (5, .int (0 : Int32)), (0, .ref (ad 0)), (1, .int x1), (2, .int x2), (3, .int v3), (4, .int v4), (6, .int v6)]) hx hb dX6_fills_126 hl (k := 7) rfl rfl (by decide) rfl (fun ls hl => ?_)
            refine lv_goto (tgt := 86) hx hb dX6_fills_129 (by decide) ?_
            exact hi86 _ (Ho_s h) _ _ ls hP hD hS (lv_sub hl [2, 3, 4, 5, 6, 1, 7, 0] rfl)
          · have h := Ho_f h q99
            refine lv_aload_n hx hb dX6_fills_102 rfl (lv_at hl 0 rfl) ?_
            refine va_get (D := (dC, dI)) (ci := 6) (v := .ref (ad 8)) (C := RX6) (T := TX6) (N := 20) hx hb hts hiX6 hown hK.1 hP 0 rfl rfl 13 (by decide) hf35 (fun _ h9 => h9) rfl dX6_fills_103 ?_
            refine lv_iload hx hb dX6_fills_106 (lv_at hl 6 rfl) ?_
            obtain ⟨hz108, h⟩ := Ho_ix h
            refine va_iald hx hb hK.1 hP 8 0 rfl rfl hz108 dX6_fills_108 ?_
            refine lv_aload_n hx hb dX6_fills_109 rfl (lv_at hl 0 rfl) ?_
            refine va_get (D := (dC, dI)) (ci := 6) (v := .ref (ad 9)) (C := RX6) (T := TX6) (N := 20) hx hb hts hiX6 hown hK.1 hP 0 rfl rfl 14 (by decide) hf38 (fun _ h9 => h9) rfl dX6_fills_110 ?_
            refine lv_iload hx hb dX6_fills_113 (lv_at hl 7 rfl) ?_
            obtain ⟨hz115, h⟩ := Ho_ix h
            refine va_iald hx hb hK.1 hP 9 0 rfl rfl hz115 dX6_fills_115 ?_
            refine lv_icmp_eq (tgt := 123) hx hb dX6_fills_116 (by decide) (fun q116 => ?_) (fun q116 => ?_)
            · have h := Ho_t h q116
              refine lv_iconst (v := (0 : Int32)) hx hb dX6_fills_123 (by decide) ?_
              refine lv_istore (lv' := [(5, .int (0 : Int32)), (0, .ref (ad 0)), (1, .int x1), (2, .int x2), (3, .int v3), (4, .int v4), (6, .int v6), (7, .int v7)]) hx hb dX6_fills_124 hl (by decide) rfl (fun ls hl => ?_)
              refine lv_iinc (v := v7 + 1) (lv' := [(7, .int (v7 + 1)), (5, .int (0 : Int32)), (0, .ref (ad 0)), (1, .int x1), (2, .int x2), (3, .int v3), (4, .int v4), (6, .int v6)]) hx hb dX6_fills_126 hl (k := 7) rfl rfl (by decide) rfl (fun ls hl => ?_)
              refine lv_goto (tgt := 86) hx hb dX6_fills_129 (by decide) ?_
              exact hi86 _ (Ho_s h) _ _ ls hP hD hS (lv_sub hl [2, 3, 4, 5, 6, 1, 7, 0] rfl)
            · have h := Ho_f h q116
              refine lv_iconst (v := (1 : Int32)) hx hb dX6_fills_119 (by decide) ?_
              refine lv_goto (tgt := 124) hx hb dX6_fills_120 (by decide) ?_
              refine lv_istore (lv' := [(5, .int (1 : Int32)), (0, .ref (ad 0)), (1, .int x1), (2, .int x2), (3, .int v3), (4, .int v4), (6, .int v6), (7, .int v7)]) hx hb dX6_fills_124 hl (by decide) rfl (fun ls hl => ?_)
              refine lv_iinc (v := v7 + 1) (lv' := [(7, .int (v7 + 1)), (5, .int (1 : Int32)), (0, .ref (ad 0)), (1, .int x1), (2, .int x2), (3, .int v3), (4, .int v4), (6, .int v6)]) hx hb dX6_fills_126 hl (k := 7) rfl rfl (by decide) rfl (fun ls hl => ?_)
              refine lv_goto (tgt := 86) hx hb dX6_fills_129 (by decide) ?_
              exact hi86 _ (Ho_s h) _ _ ls hP hD hS (lv_sub hl [2, 3, 4, 5, 6, 1, 7, 0] rfl)
      refine lv_iload hx hb dX6_fills_72 (lv_at hl 6 rfl) ?_
      refine lv_aload_n hx hb dX6_fills_74 rfl (lv_at hl 0 rfl) ?_
      refine va_get (D := (dC, dI)) (ci := 6) (v := .int m_n) (C := RX6) (T := TX6) (N := 20) hx hb hts hiX6 hown hK.1 hP 0 rfl rfl 1 (by decide) hf7 (fun _ h9 => h9) rfl dX6_fills_75 ?_
      refine lv_iconst (v := (2 : Int32)) hx hb dX6_fills_78 (by decide) ?_
      refine lv_idiv hx hb dX6_fills_79 (by decide) ?_
      refine lv_icmp_ge (tgt := 138) hx hb dX6_fills_80 (by decide) (fun q80 => ?_) (fun q80 => ?_)
      · have h := Ho_t h q80
        have h := ho72 _ (Ho_s h)
        exact J138 m_formRowk v3 v4 v5 _ _ ls hP hD hS (lv_sub hl [0, 1, 2, 3, 4, 5] rfl) h
      · have h := Ho_f h q80
        refine lv_iconst (v := (0 : Int32)) hx hb dX6_fills_83 (by decide) ?_
        refine lv_istore (lv' := [(7, .int (0 : Int32)), (0, .ref (ad 0)), (1, .int x1), (2, .int x2), (3, .int v3), (4, .int v4), (5, .int v5), (6, .int v6)]) hx hb dX6_fills_84 hl (by decide) rfl (fun ls hl => ?_)
        exact J86 v5 v6 (0 : Int32) _ _ ls hP hD hS (lv_sub hl [1, 2, 3, 4, 5, 6, 7, 0] rfl) h
    refine lv_iload hx hb dX6_fills_46 (lv_at hl 4 rfl) ?_
    refine lv_aload_n hx hb dX6_fills_48 rfl (lv_at hl 0 rfl) ?_
    refine va_get (D := (dC, dI)) (ci := 6) (v := .int m_n) (C := RX6) (T := TX6) (N := 20) hx hb hts hiX6 hown hK.1 hP 0 rfl rfl 1 (by decide) hf7 (fun _ h9 => h9) rfl dX6_fills_49 ?_
    refine lv_icmp_ge (tgt := 160) hx hb dX6_fills_52 (by decide) (fun q52 => ?_) (fun q52 => ?_)
    · have h := Ho_t h q52
      have h := ho46 _ (Ho_s h)
      exact J160 m_codek m_formRowk _ _ ls hP hD hS (lv_sub hl [] rfl) h
    · have h := Ho_f h q52
      refine lv_iload_n hx hb dX6_fills_55 rfl (lv_at hl 2 rfl) ?_
      refine lv_if_lt (tgt := 160) hx hb dX6_fills_56 (by decide) (fun q56 => ?_) (fun q56 => ?_)
      · have h := Ho_t h q56
        have h := ho46 _ (Ho_s h)
        exact J160 m_codek m_formRowk _ _ ls hP hD hS (lv_sub hl [] rfl) h
      · have h := Ho_f h q56
        refine lv_aload_n hx hb dX6_fills_59 rfl (lv_at hl 0 rfl) ?_
        refine lv_iload_n hx hb dX6_fills_60 rfl (lv_at hl 1 rfl) ?_
        refine lv_iload hx hb dX6_fills_61 (lv_at hl 4 rfl) ?_
        obtain ⟨m_formRow_63, hc63, h⟩ := Ho_b h
        have hPc : va_P (dC, dI) vwCl (wX6 cI cJ ad m_codek m_n m_built m_length m_begin m_many m_leastOf m_sizeOf m_own m_bestRow m_tryRow m_keptRow m_otherRow m_row m_formRowk m_allForms m_rowsOf m_intervals m_places m_whole) H := hP.sub [0, 1, 2, 3, 4, 5, 6, 7, 8, 9, 10, 11, 12, 13, 14] rfl
        have hDc : va_D A (wX6 cI cJ ad m_codek m_n m_built m_length m_begin m_many m_leastOf m_sizeOf m_own m_bestRow m_tryRow m_keptRow m_otherRow m_row m_formRowk m_allForms m_rowsOf m_intervals m_places m_whole) := hD.sub [0, 1, 2, 3, 4, 5, 6, 7, 8, 9, 10, 11, 12, 13, 14] (by decide) rfl
        have hFc := va_free (wc := (wX6 cI cJ ad m_codek m_n m_built m_length m_begin m_many m_leastOf m_sizeOf m_own m_bestRow m_tryRow m_keptRow m_otherRow m_row m_formRowk m_allForms m_rowsOf m_intervals m_places m_whole)) hD hS hA [0, 1, 2, 3, 4, 5, 6, 7, 8, 9, 10, 11, 12, 13, 14] rfl
        refine va_callv (va_runV (As := [.int x1, .int v4]) (rest := []) hfix (c_X6_layForm l dC dI cI cJ ad H.size m_codek m_n m_built m_length m_begin m_many m_leastOf m_sizeOf m_own m_bestRow m_tryRow m_keptRow m_otherRow m_row m_formRowk m_allForms m_rowsOf m_intervals m_places m_whole x1 v4 _ hc63) (cwV 2 hts gX6_fills_X6_layForm rfl rfl rfl (by decide +kernel) ⟨by decide, by decide⟩) (rwP.preV hK hPc hDc rfl (ci := 6) rfl rfl) rfl rfl hl.1 rfl (lv_room (Nat.le_of_ble_eq_true rfl)) dX6_fills_63 ⟨Nat.zero_le _, Nat.zero_le _⟩) hS (fun q _ h => hFc q h) hFc (fun u t H1 locs ht hvm hw hB hz1 hk1 hS => ?_)
        obtain ⟨hP1, -, hD1⟩ := hB
        rw [ht] at hP1
        obtain ⟨hP, hD⟩ := va_join (wr := []) (w1 := (wX6 cI cJ ad m_codek m_n m_built m_length m_begin m_many m_leastOf m_sizeOf m_own m_bestRow m_tryRow m_keptRow m_otherRow m_row m_formRow_63 m_allForms m_rowsOf m_intervals m_places m_whole)) hP hD [0, 1, 2, 3, 4, 5, 6, 7, 8, 9, 10, 11, 12, 13, 14] [] rfl rfl (by decide) (by decide) hk1 hFc hP1 hD1
        generalize H1 = H at hP hS ⊢
        have hP : va_P (dC, dI) vwCl (wX6 cI cJ ad m_codek m_n m_built m_length m_begin m_many m_leastOf m_sizeOf m_own m_bestRow m_tryRow m_keptRow m_otherRow m_row m_formRow_63 m_allForms m_rowsOf m_intervals m_places m_whole) H := hP.sub [0, 1, 2, 3, 4, 5, 6, 7, 8, 9, 10, 11, 12, 13, 14] rfl
        have hD : va_D A (wX6 cI cJ ad m_codek m_n m_built m_length m_begin m_many m_leastOf m_sizeOf m_own m_bestRow m_tryRow m_keptRow m_otherRow m_row m_formRow_63 m_allForms m_rowsOf m_intervals m_places m_whole) := hD.sub [0, 1, 2, 3, 4, 5, 6, 7, 8, 9, 10, 11, 12, 13, 14] (by decide) rfl
        refine lv_iconst (v := (1 : Int32)) hx hb dX6_fills_66 (by decide) ?_
        refine lv_istore (lv' := [(5, .int (1 : Int32)), (0, .ref (ad 0)), (1, .int x1), (2, .int x2), (3, .int v3), (4, .int v4)]) hx hb dX6_fills_67 hl (by decide) rfl (fun ls hl => ?_)
        refine lv_iconst (v := (0 : Int32)) hx hb dX6_fills_69 (by decide) ?_
        refine lv_istore (lv' := [(6, .int (0 : Int32)), (5, .int (1 : Int32)), (0, .ref (ad 0)), (1, .int x1), (2, .int x2), (3, .int v3), (4, .int v4)]) hx hb dX6_fills_70 hl (by decide) rfl (fun ls hl => ?_)
        exact J72 m_formRow_63 v3 v4 (1 : Int32) (0 : Int32) _ _ ls hP hD hS (lv_sub hl [2, 3, 4, 5, 6, 1, 0] rfl) h
  refine lv_aload_n hx hb dX6_fills_0 rfl (lv_at hl 0 rfl) ?_
  refine lv_iconst (v := (0 : Int32)) hx hb dX6_fills_1 (by decide) ?_
  refine va_put (D := (dC, dI)) (ci := 6) (v := .int (0 : Int32)) (ty := .int) (C := RX6) (T := TX6) (N := 20) hx hb hts hiX6 tyX6 tyX6_ok nmX6 hown hK.1 hP hD hS 0 rfl rfl 0 (by decide) hf57 (fun _ h9 => h9) rfl (by decide +kernel) rfl rfl (Nat.le_of_ble_eq_true rfl) dX6_fills_2 (fun H locs hP hD hS => ?_)
  have hP : va_P (dC, dI) vwCl (wX6 cI cJ ad (0 : Int32) m_n m_built m_length m_begin m_many m_leastOf m_sizeOf m_own m_bestRow m_tryRow m_keptRow m_otherRow m_row m_formRow m_allForms m_rowsOf m_intervals m_places m_whole) H := hP
  have hD : va_D A (wX6 cI cJ ad (0 : Int32) m_n m_built m_length m_begin m_many m_leastOf m_sizeOf m_own m_bestRow m_tryRow m_keptRow m_otherRow m_row m_formRow m_allForms m_rowsOf m_intervals m_places m_whole) := hD
  refine lv_iload_n hx hb dX6_fills_5 rfl (lv_at hl 1 rfl) ?_
  refine lv_iconst (v := (0 : Int32)) hx hb dX6_fills_6 (by decide) ?_
  refine lv_iconst (v := (3 : Int32)) hx hb dX6_fills_7 (by decide) ?_
  obtain ⟨r8, hc8, h⟩ := Ho_b h
  refine cs_i (va_runS (As := [.int x1, .int (0 : Int32), .int (3 : Int32)]) (rest := []) hfix (c_X6_isIn l dC dI cI cJ  x1 (0 : Int32) (3 : Int32) _ hc8) (va_cwS 3 hts gX6_fills_X6_isIn rfl rfl rfl (by decide +kernel) ⟨by decide, by decide⟩) (roP.preS hK va_Pnil) rfl rfl hl.1 rfl (lv_room (Nat.le_of_ble_eq_true rfl)) dX6_fills_8 ⟨Nat.zero_le _, Nat.zero_le _⟩) ?_
  refine lv_if_ne (tgt := 17) hx hb dX6_fills_11 (by decide) (fun q11 => ?_) (fun q11 => ?_)
  · have h := Ho_f h q11
    refine lv_aload_n hx hb dX6_fills_17 rfl (lv_at hl 0 rfl) ?_
    refine va_get (D := (dC, dI)) (ci := 6) (v := .int m_many) (C := RX6) (T := TX6) (N := 20) hx hb hts hiX6 hown hK.1 hP 0 rfl rfl 12 (by decide) hf60 (fun _ h9 => h9) rfl dX6_fills_18 ?_
    refine lv_aload_n hx hb dX6_fills_21 rfl (lv_at hl 0 rfl) ?_
    refine va_get (D := (dC, dI)) (ci := 6) (v := .int m_n) (C := RX6) (T := TX6) (N := 20) hx hb hts hiX6 hown hK.1 hP 0 rfl rfl 1 (by decide) hf7 (fun _ h9 => h9) rfl dX6_fills_22 ?_
    refine lv_icmp_lt (tgt := 38) hx hb dX6_fills_25 (by decide) (fun q25 => ?_) (fun q25 => ?_)
    · have h := Ho_t h q25
      refine lv_bipush (v := (-3 : Int32)) hx hb dX6_fills_38 (by decide) ?_
      exact W.iret hx hb hr (fun t ht hW => QI (Ho_e h) (by rw [ht]; exact hP) (hK.warm hW) hD (hS.F ht)) hS.2.2 dX6_fills_40 hlk
    · have h := Ho_f h q25
      refine lv_aload_n hx hb dX6_fills_28 rfl (lv_at hl 0 rfl) ?_
      refine va_get (D := (dC, dI)) (ci := 6) (v := .int m_n) (C := RX6) (T := TX6) (N := 20) hx hb hts hiX6 hown hK.1 hP 0 rfl rfl 1 (by decide) hf7 (fun _ h9 => h9) rfl dX6_fills_29 ?_
      refine lv_iconst (v := (2 : Int32)) hx hb dX6_fills_32 (by decide) ?_
      refine lv_irem hx hb dX6_fills_33 (by decide) ?_
      refine lv_iconst (v := (1 : Int32)) hx hb dX6_fills_34 (by decide) ?_
      refine lv_icmp_ne (tgt := 41) hx hb dX6_fills_35 (by decide) (fun q35 => ?_) (fun q35 => ?_)
      · have h := Ho_f h q35
        refine lv_iconst (v := (0 : Int32)) hx hb dX6_fills_41 (by decide) ?_
        refine lv_istore_n (lv' := [(3, .int (0 : Int32)), (0, .ref (ad 0)), (1, .int x1), (2, .int x2)]) hx hb dX6_fills_42 rfl hl (by decide) rfl (fun ls hl => ?_)
        refine lv_iconst (v := (0 : Int32)) hx hb dX6_fills_43 (by decide) ?_
        refine lv_istore (lv' := [(4, .int (0 : Int32)), (3, .int (0 : Int32)), (0, .ref (ad 0)), (1, .int x1), (2, .int x2)]) hx hb dX6_fills_44 hl (by decide) rfl (fun ls hl => ?_)
        exact J46 (0 : Int32) m_formRow (0 : Int32) (0 : Int32) _ _ ls hP hD hS (lv_sub hl [2, 3, 4, 1, 0] rfl) h
      · have h := Ho_t h q35
        refine lv_bipush (v := (-3 : Int32)) hx hb dX6_fills_38 (by decide) ?_
        exact W.iret hx hb hr (fun t ht hW => QI (Ho_e h) (by rw [ht]; exact hP) (hK.warm hW) hD (hS.F ht)) hS.2.2 dX6_fills_40 hlk
  · have h := Ho_t h q11
    refine lv_bipush (v := (-2 : Int32)) hx hb dX6_fills_14 (by decide) ?_
    exact W.iret hx hb hr (fun t ht hW => QI (Ho_e h) (by rw [ht]; exact hP) (hK.warm hW) hD (hS.F ht)) hS.2.2 dX6_fills_16 hlk
