abbrev rmX6_table : Room := { frames := 1, cells := 0, slots := 0, locals := 25 }
set_option maxHeartbeats 4000000 in
set_option maxRecDepth 100000 in
theorem c_X6_table (l : Launch) (dC : Nat → ClassId) (dI : Nat → Nat → Nat) (cI cJ : ClassId) (ad : Nat → Nat) (sz : Nat) (m_code : Int32) (m_n : Int32) (m_built : Int32) (m_length : Int32) (m_begin : Int32) (m_many : Int32) (m_leastOf : Nat → Int32) (m_sizeOf : Nat → Int32) (m_own : Nat → Int32) (m_bestRow : Nat → Int32) (m_tryRow : Nat → Int32) (m_keptRow : Nat → Int32) (m_otherRow : Nat → Int32) (m_row : Nat → Int32) (m_formRow : Nat → Int32) (m_allForms : Nat → Int32) (m_rowsOf : Nat → Int32) (m_intervals : Nat → Int32) (m_places : Nat → Int32) (m_whole : Nat → Int64) (x1 : Int32) (x2 : Int32) (r : Int32) (m_code' : Int32) (m_formRow' : Nat → Int32) (hF : FX6_table m_code m_n m_many m_row m_formRow x1 x2 = some (r, m_code', m_formRow')) : Met l yX6_table wsX6_table rmX6_table (rwP (dC, dI) [(cI, .int), (cJ, .long)] sz (wX6 cI cJ ad m_code m_n m_built m_length m_begin m_many m_leastOf m_sizeOf m_own m_bestRow m_tryRow m_keptRow m_otherRow m_row m_formRow m_allForms m_rowsOf m_intervals m_places m_whole) [.ref (ad 0), .int x1, .int x2]) (va_Qi (fun (x : Int32) (_ : Unit) => x = r) (fun _ t => va_P (dC, dI) vwCl (wX6 cI cJ ad m_code' m_n m_built m_length m_begin m_many m_leastOf m_sizeOf m_own m_bestRow m_tryRow m_keptRow m_otherRow m_row m_formRow' m_allForms m_rowsOf m_intervals m_places m_whole) t.heap ∧ vK (dC, dI) [(cI, .int), (cJ, .long)] t ∧ va_D (va_A (wX6 cI cJ ad m_code m_n m_built m_length m_begin m_many m_leastOf m_sizeOf m_own m_bestRow m_tryRow m_keptRow m_otherRow m_row m_formRow m_allForms m_rowsOf m_intervals m_places m_whole) sz) (wX6 cI cJ ad m_code' m_n m_built m_length m_begin m_many m_leastOf m_sizeOf m_own m_bestRow m_tryRow m_keptRow m_otherRow m_row m_formRow' m_allForms m_rowsOf m_intervals m_places m_whole)) (va_A (wX6 cI cJ ad m_code m_n m_built m_length m_begin m_many m_leastOf m_sizeOf m_own m_bestRow m_tryRow m_keptRow m_otherRow m_row m_formRow m_allForms m_rowsOf m_intervals m_places m_whole) sz)) 0 0 (va_A (wX6 cI cJ ad m_code m_n m_built m_length m_begin m_many m_leastOf m_sizeOf m_own m_bestRow m_tryRow m_keptRow m_otherRow m_row m_formRow m_allForms m_rowsOf m_intervals m_places m_whole) sz) := by
  refine rw_start (cc := cX6_table) (maxL := 4) (ret := (some .int)) (by decide) rfl (Nat.le_of_ble_eq_true rfl) ?_
  intro p e s m args below meth c ls A H locs hx hb hml hr hlk hown hts hsz hP hK hD hA hS hAe hl
  have hown : s.vm.findClass RX6 = some m.cls := hown
  have hl : lv_has ls 4 [(0, .ref (ad 0)), (1, .int x1), (2, .int x2)] := hl
  have h : Ho (FX6_table m_code m_n m_many m_row m_formRow x1 x2) (fun x => x = (r, m_code', m_formRow')) := ⟨_, hF, rfl⟩
  unfold FX6_table at h
  have QI : ∀ {v0 : Int32} {m_code9 : Int32} {m_formRow9 : Nat → Int32} {t : State}, (v0, m_code9, m_formRow9) = (r, m_code', m_formRow') → va_P (dC, dI) vwCl (wX6 cI cJ ad m_code9 m_n m_built m_length m_begin m_many m_leastOf m_sizeOf m_own m_bestRow m_tryRow m_keptRow m_otherRow m_row m_formRow9 m_allForms m_rowsOf m_intervals m_places m_whole) t.heap → vK (dC, dI) [(cI, .int), (cJ, .long)] t → va_D A (wX6 cI cJ ad m_code9 m_n m_built m_length m_begin m_many m_leastOf m_sizeOf m_own m_bestRow m_tryRow m_keptRow m_otherRow m_row m_formRow9 m_allForms m_rowsOf m_intervals m_places m_whole) → va_F A s t → (va_Qi (fun (x : Int32) (_ : Unit) => x = r) (fun _ t => va_P (dC, dI) vwCl (wX6 cI cJ ad m_code' m_n m_built m_length m_begin m_many m_leastOf m_sizeOf m_own m_bestRow m_tryRow m_keptRow m_otherRow m_row m_formRow' m_allForms m_rowsOf m_intervals m_places m_whole) t.heap ∧ vK (dC, dI) [(cI, .int), (cJ, .long)] t ∧ va_D (va_A (wX6 cI cJ ad m_code m_n m_built m_length m_begin m_many m_leastOf m_sizeOf m_own m_bestRow m_tryRow m_keptRow m_otherRow m_row m_formRow m_allForms m_rowsOf m_intervals m_places m_whole) sz) (wX6 cI cJ ad m_code' m_n m_built m_length m_begin m_many m_leastOf m_sizeOf m_own m_bestRow m_tryRow m_keptRow m_otherRow m_row m_formRow' m_allForms m_rowsOf m_intervals m_places m_whole)) (va_A (wX6 cI cJ ad m_code m_n m_built m_length m_begin m_many m_leastOf m_sizeOf m_own m_bestRow m_tryRow m_keptRow m_otherRow m_row m_formRow m_allForms m_rowsOf m_intervals m_places m_whole) sz)) args s (.returned (some (.int v0))) t := by
    intro v0 m_code9 m_formRow9 t e9 q1 q2 q3 q4
    cases e9
    subst hAe
    exact ⟨⟨_, (), rfl, rfl, q1, q2, q3⟩, q4⟩
  have hfix : CallFix p m c cX6_table 4 s args wsX6_table RX6 := ⟨hx, hb, hml, hown, hts⟩
  have hiX6 : ∀ w ∈ u_ws RX6 TX6 20, w ∈ wsX6_table := by decide +kernel
  have hf7 := hts (.fieldLink RX6 7 "RowClassesModel" "n" "I") (by decide +kernel)
  have hf35 := hts (.fieldLink RX6 35 "RowClassesModel" "row" "[I") (by decide +kernel)
  have hf38 := hts (.fieldLink RX6 38 "RowClassesModel" "formRow" "[I") (by decide +kernel)
  have hf57 := hts (.fieldLink RX6 57 "RowClassesModel" "code" "I") (by decide +kernel)
  have hf60 := hts (.fieldLink RX6 60 "RowClassesModel" "many" "I") (by decide +kernel)
  refine lv_aload_n hx hb dX6_table_0 rfl (lv_at hl 0 rfl) ?_
  refine lv_iconst (v := (0 : Int32)) hx hb dX6_table_1 (by decide) ?_
  refine va_put (D := (dC, dI)) (ci := 6) (v := .int (0 : Int32)) (ty := .int) (C := RX6) (T := TX6) (N := 20) hx hb hts hiX6 tyX6 tyX6_ok nmX6 hown hK.1 hP hD hS 0 rfl rfl 0 (by decide) hf57 (fun _ h9 => h9) rfl (by decide +kernel) rfl rfl (Nat.le_of_ble_eq_true rfl) dX6_table_2 (fun H locs hP hD hS => ?_)
  have hP : va_P (dC, dI) vwCl (wX6 cI cJ ad (0 : Int32) m_n m_built m_length m_begin m_many m_leastOf m_sizeOf m_own m_bestRow m_tryRow m_keptRow m_otherRow m_row m_formRow m_allForms m_rowsOf m_intervals m_places m_whole) H := hP
  have hD : va_D A (wX6 cI cJ ad (0 : Int32) m_n m_built m_length m_begin m_many m_leastOf m_sizeOf m_own m_bestRow m_tryRow m_keptRow m_otherRow m_row m_formRow m_allForms m_rowsOf m_intervals m_places m_whole) := hD
  refine lv_aload_n hx hb dX6_table_5 rfl (lv_at hl 0 rfl) ?_
  refine va_get (D := (dC, dI)) (ci := 6) (v := .int m_many) (C := RX6) (T := TX6) (N := 20) hx hb hts hiX6 hown hK.1 hP 0 rfl rfl 12 (by decide) hf60 (fun _ h9 => h9) rfl dX6_table_6 ?_
  refine lv_aload_n hx hb dX6_table_9 rfl (lv_at hl 0 rfl) ?_
  refine va_get (D := (dC, dI)) (ci := 6) (v := .int m_n) (C := RX6) (T := TX6) (N := 20) hx hb hts hiX6 hown hK.1 hP 0 rfl rfl 1 (by decide) hf7 (fun _ h9 => h9) rfl dX6_table_10 ?_
  refine lv_icmp_ge (tgt := 19) hx hb dX6_table_13 (by decide) (fun q13 => ?_) (fun q13 => ?_)
  · have h := Ho_t h q13
    refine lv_aload_n hx hb dX6_table_19 rfl (lv_at hl 0 rfl) ?_
    refine lv_iload_n hx hb dX6_table_20 rfl (lv_at hl 1 rfl) ?_
    obtain ⟨r21, hc21, h⟩ := Ho_b h
    have hPc : va_P (dC, dI) vwCl (wX6 cI cJ ad (0 : Int32) m_n m_built m_length m_begin m_many m_leastOf m_sizeOf m_own m_bestRow m_tryRow m_keptRow m_otherRow m_row m_formRow m_allForms m_rowsOf m_intervals m_places m_whole) H := hP.sub [0, 1, 2, 3, 4, 5, 6, 7, 8, 9, 10, 11, 12, 13, 14] rfl
    refine cs_i (va_runV (As := [.int x1]) (rest := []) hfix (c_X6_isStep l dC dI cI cJ ad (0 : Int32) m_n m_built m_length m_begin m_many m_leastOf m_sizeOf m_own m_bestRow m_tryRow m_keptRow m_otherRow m_row m_formRow m_allForms m_rowsOf m_intervals m_places m_whole x1 _ hc21) (cwV 1 hts gX6_table_X6_isStep rfl rfl rfl (by decide +kernel) ⟨by decide, by decide⟩) (roP.preV hK hPc (ci := 6) rfl rfl) rfl rfl hl.1 rfl (lv_room (Nat.le_of_ble_eq_true rfl)) dX6_table_21 ⟨Nat.zero_le _, Nat.zero_le _⟩) ?_
    refine lv_if_eq (tgt := 35) hx hb dX6_table_24 (by decide) (fun q24 => ?_) (fun q24 => ?_)
    · have h := Ho_t h q24
      refine lv_iconst (v := (-1 : Int32)) hx hb dX6_table_35 (by decide) ?_
      exact W.iret hx hb hr (fun t ht hW => QI (Ho_e h) (by rw [ht]; exact hP) (hK.warm hW) hD (hS.F ht)) hS.2.2 dX6_table_36 hlk
    · have h := Ho_f h q24
      refine lv_aload_n hx hb dX6_table_27 rfl (lv_at hl 0 rfl) ?_
      refine lv_iload_n hx hb dX6_table_28 rfl (lv_at hl 2 rfl) ?_
      obtain ⟨r29, hc29, h⟩ := Ho_b h
      have hPc : va_P (dC, dI) vwCl (wX6 cI cJ ad (0 : Int32) m_n m_built m_length m_begin m_many m_leastOf m_sizeOf m_own m_bestRow m_tryRow m_keptRow m_otherRow m_row m_formRow m_allForms m_rowsOf m_intervals m_places m_whole) H := hP.sub [0, 1, 2, 3, 4, 5, 6, 7, 8, 9, 10, 11, 12, 13, 14] rfl
      refine cs_i (va_runV (As := [.int x2]) (rest := []) hfix (c_X6_isStep l dC dI cI cJ ad (0 : Int32) m_n m_built m_length m_begin m_many m_leastOf m_sizeOf m_own m_bestRow m_tryRow m_keptRow m_otherRow m_row m_formRow m_allForms m_rowsOf m_intervals m_places m_whole x2 _ hc29) (cwV 1 hts gX6_table_X6_isStep rfl rfl rfl (by decide +kernel) ⟨by decide, by decide⟩) (roP.preV hK hPc (ci := 6) rfl rfl) rfl rfl hl.1 rfl (lv_room (Nat.le_of_ble_eq_true rfl)) dX6_table_29 ⟨Nat.zero_le _, Nat.zero_le _⟩) ?_
      refine lv_if_ne (tgt := 37) hx hb dX6_table_32 (by decide) (fun q32 => ?_) (fun q32 => ?_)
      · have h := Ho_f h q32
        refine lv_aload_n hx hb dX6_table_37 rfl (lv_at hl 0 rfl) ?_
        refine lv_iconst (v := (1 : Int32)) hx hb dX6_table_38 (by decide) ?_
        refine lv_aload_n hx hb dX6_table_39 rfl (lv_at hl 0 rfl) ?_
        refine va_get (D := (dC, dI)) (ci := 6) (v := .ref (ad 8)) (C := RX6) (T := TX6) (N := 20) hx hb hts hiX6 hown hK.1 hP 0 rfl rfl 13 (by decide) hf35 (fun _ h9 => h9) rfl dX6_table_40 ?_
        refine lv_iconst (v := (0 : Int32)) hx hb dX6_table_43 (by decide) ?_
        refine va_iald hx hb hK.1 hP 8 0 rfl rfl (vp_in_lit (by decide) (by decide)) dX6_table_44 ?_
        obtain ⟨m_formRow_45, hc45, h⟩ := Ho_b h
        have hPc : va_P (dC, dI) vwCl (wX6 cI cJ ad (0 : Int32) m_n m_built m_length m_begin m_many m_leastOf m_sizeOf m_own m_bestRow m_tryRow m_keptRow m_otherRow m_row m_formRow m_allForms m_rowsOf m_intervals m_places m_whole) H := hP.sub [0, 1, 2, 3, 4, 5, 6, 7, 8, 9, 10, 11, 12, 13, 14] rfl
        have hDc : va_D A (wX6 cI cJ ad (0 : Int32) m_n m_built m_length m_begin m_many m_leastOf m_sizeOf m_own m_bestRow m_tryRow m_keptRow m_otherRow m_row m_formRow m_allForms m_rowsOf m_intervals m_places m_whole) := hD.sub [0, 1, 2, 3, 4, 5, 6, 7, 8, 9, 10, 11, 12, 13, 14] (by decide) rfl
        have hFc := va_free (wc := (wX6 cI cJ ad (0 : Int32) m_n m_built m_length m_begin m_many m_leastOf m_sizeOf m_own m_bestRow m_tryRow m_keptRow m_otherRow m_row m_formRow m_allForms m_rowsOf m_intervals m_places m_whole)) hD hS hA [0, 1, 2, 3, 4, 5, 6, 7, 8, 9, 10, 11, 12, 13, 14] rfl
        refine va_callv (va_runV (As := [.int (1 : Int32), .int (m_row (0 : Int32).toNatClampNeg)]) (rest := []) hfix (c_X6_layForm l dC dI cI cJ ad H.size (0 : Int32) m_n m_built m_length m_begin m_many m_leastOf m_sizeOf m_own m_bestRow m_tryRow m_keptRow m_otherRow m_row m_formRow m_allForms m_rowsOf m_intervals m_places m_whole (1 : Int32) (m_row (0 : Int32).toNatClampNeg) _ hc45) (cwV 2 hts gX6_table_X6_layForm rfl rfl rfl (by decide +kernel) ⟨by decide, by decide⟩) (rwP.preV hK hPc hDc rfl (ci := 6) rfl rfl) rfl rfl hl.1 rfl (lv_room (Nat.le_of_ble_eq_true rfl)) dX6_table_45 ⟨Nat.zero_le _, Nat.zero_le _⟩) hS (fun q _ h => hFc q h) hFc (fun u t H1 locs ht hvm hw hB hz1 hk1 hS => ?_)
        obtain ⟨hP1, -, hD1⟩ := hB
        rw [ht] at hP1
        obtain ⟨hP, hD⟩ := va_join (wr := []) (w1 := (wX6 cI cJ ad (0 : Int32) m_n m_built m_length m_begin m_many m_leastOf m_sizeOf m_own m_bestRow m_tryRow m_keptRow m_otherRow m_row m_formRow_45 m_allForms m_rowsOf m_intervals m_places m_whole)) hP hD [0, 1, 2, 3, 4, 5, 6, 7, 8, 9, 10, 11, 12, 13, 14] [] rfl rfl (by decide) (by decide) hk1 hFc hP1 hD1
        generalize H1 = H at hP hS ⊢
        have hP : va_P (dC, dI) vwCl (wX6 cI cJ ad (0 : Int32) m_n m_built m_length m_begin m_many m_leastOf m_sizeOf m_own m_bestRow m_tryRow m_keptRow m_otherRow m_row m_formRow_45 m_allForms m_rowsOf m_intervals m_places m_whole) H := hP.sub [0, 1, 2, 3, 4, 5, 6, 7, 8, 9, 10, 11, 12, 13, 14] rfl
        have hD : va_D A (wX6 cI cJ ad (0 : Int32) m_n m_built m_length m_begin m_many m_leastOf m_sizeOf m_own m_bestRow m_tryRow m_keptRow m_otherRow m_row m_formRow_45 m_allForms m_rowsOf m_intervals m_places m_whole) := hD.sub [0, 1, 2, 3, 4, 5, 6, 7, 8, 9, 10, 11, 12, 13, 14] (by decide) rfl
        refine lv_aload_n hx hb dX6_table_48 rfl (lv_at hl 0 rfl) ?_
        refine va_get (D := (dC, dI)) (ci := 6) (v := .ref (ad 9)) (C := RX6) (T := TX6) (N := 20) hx hb hts hiX6 hown hK.1 hP 0 rfl rfl 14 (by decide) hf38 (fun _ h9 => h9) rfl dX6_table_49 ?_
        refine lv_iload_n hx hb dX6_table_52 rfl (lv_at hl 1 rfl) ?_
        obtain ⟨hz53, h⟩ := Ho_ix h
        refine va_iald hx hb hK.1 hP 9 0 rfl rfl hz53 dX6_table_53 ?_
        refine lv_istore_n (lv' := [(3, .int (m_formRow_45 x1.toNatClampNeg)), (0, .ref (ad 0)), (1, .int x1), (2, .int x2)]) hx hb dX6_table_54 rfl hl (by decide) rfl (fun ls hl => ?_)
        refine lv_aload_n hx hb dX6_table_55 rfl (lv_at hl 1 rfl) ?_
        refine lv_iconst (v := (0 : Int32)) hx hb dX6_table_56 (by decide) ?_
        refine lv_iload_n hx hb dX6_table_57 rfl (lv_at hl 0 rfl) ?_
        obtain ⟨m_formRow_58, hc58, h⟩ := Ho_b h
        have hPc : va_P (dC, dI) vwCl (wX6 cI cJ ad (0 : Int32) m_n m_built m_length m_begin m_many m_leastOf m_sizeOf m_own m_bestRow m_tryRow m_keptRow m_otherRow m_row m_formRow_45 m_allForms m_rowsOf m_intervals m_places m_whole) H := hP.sub [0, 1, 2, 3, 4, 5, 6, 7, 8, 9, 10, 11, 12, 13, 14] rfl
        have hDc : va_D A (wX6 cI cJ ad (0 : Int32) m_n m_built m_length m_begin m_many m_leastOf m_sizeOf m_own m_bestRow m_tryRow m_keptRow m_otherRow m_row m_formRow_45 m_allForms m_rowsOf m_intervals m_places m_whole) := hD.sub [0, 1, 2, 3, 4, 5, 6, 7, 8, 9, 10, 11, 12, 13, 14] (by decide) rfl
        have hFc := va_free (wc := (wX6 cI cJ ad (0 : Int32) m_n m_built m_length m_begin m_many m_leastOf m_sizeOf m_own m_bestRow m_tryRow m_keptRow m_otherRow m_row m_formRow_45 m_allForms m_rowsOf m_intervals m_places m_whole)) hD hS hA [0, 1, 2, 3, 4, 5, 6, 7, 8, 9, 10, 11, 12, 13, 14] rfl
        refine va_callv (va_runV (As := [.int (0 : Int32), .int (m_formRow_45 x1.toNatClampNeg)]) (rest := []) hfix (c_X6_layForm l dC dI cI cJ ad H.size (0 : Int32) m_n m_built m_length m_begin m_many m_leastOf m_sizeOf m_own m_bestRow m_tryRow m_keptRow m_otherRow m_row m_formRow_45 m_allForms m_rowsOf m_intervals m_places m_whole (0 : Int32) (m_formRow_45 x1.toNatClampNeg) _ hc58) (cwV 2 hts gX6_table_X6_layForm rfl rfl rfl (by decide +kernel) ⟨by decide, by decide⟩) (rwP.preV hK hPc hDc rfl (ci := 6) rfl rfl) rfl rfl hl.1 rfl (lv_room (Nat.le_of_ble_eq_true rfl)) dX6_table_58 ⟨Nat.zero_le _, Nat.zero_le _⟩) hS (fun q _ h => hFc q h) hFc (fun u t H1 locs ht hvm hw hB hz1 hk1 hS => ?_)
        obtain ⟨hP1, -, hD1⟩ := hB
        rw [ht] at hP1
        obtain ⟨hP, hD⟩ := va_join (wr := []) (w1 := (wX6 cI cJ ad (0 : Int32) m_n m_built m_length m_begin m_many m_leastOf m_sizeOf m_own m_bestRow m_tryRow m_keptRow m_otherRow m_row m_formRow_58 m_allForms m_rowsOf m_intervals m_places m_whole)) hP hD [0, 1, 2, 3, 4, 5, 6, 7, 8, 9, 10, 11, 12, 13, 14] [] rfl rfl (by decide) (by decide) hk1 hFc hP1 hD1
        generalize H1 = H at hP hS ⊢
        have hP : va_P (dC, dI) vwCl (wX6 cI cJ ad (0 : Int32) m_n m_built m_length m_begin m_many m_leastOf m_sizeOf m_own m_bestRow m_tryRow m_keptRow m_otherRow m_row m_formRow_58 m_allForms m_rowsOf m_intervals m_places m_whole) H := hP.sub [0, 1, 2, 3, 4, 5, 6, 7, 8, 9, 10, 11, 12, 13, 14] rfl
        have hD : va_D A (wX6 cI cJ ad (0 : Int32) m_n m_built m_length m_begin m_many m_leastOf m_sizeOf m_own m_bestRow m_tryRow m_keptRow m_otherRow m_row m_formRow_58 m_allForms m_rowsOf m_intervals m_places m_whole) := hD.sub [0, 1, 2, 3, 4, 5, 6, 7, 8, 9, 10, 11, 12, 13, 14] (by decide) rfl
        refine lv_aload_n hx hb dX6_table_61 rfl (lv_at hl 1 rfl) ?_
        refine va_get (D := (dC, dI)) (ci := 6) (v := .ref (ad 9)) (C := RX6) (T := TX6) (N := 20) hx hb hts hiX6 hown hK.1 hP 0 rfl rfl 14 (by decide) hf38 (fun _ h9 => h9) rfl dX6_table_62 ?_
        refine lv_iload_n hx hb dX6_table_65 rfl (lv_at hl 3 rfl) ?_
        obtain ⟨hz66, h⟩ := Ho_ix h
        refine va_iald hx hb hK.1 hP 9 0 rfl rfl hz66 dX6_table_66 ?_
        exact W.iret hx hb hr (fun t ht hW => QI (Ho_e h) (by rw [ht]; exact hP) (hK.warm hW) hD (hS.F ht)) hS.2.2 dX6_table_67 hlk
      · have h := Ho_t h q32
        refine lv_iconst (v := (-1 : Int32)) hx hb dX6_table_35 (by decide) ?_
        exact W.iret hx hb hr (fun t ht hW => QI (Ho_e h) (by rw [ht]; exact hP) (hK.warm hW) hD (hS.F ht)) hS.2.2 dX6_table_36 hlk
  · have h := Ho_f h q13
    refine lv_bipush (v := (-3 : Int32)) hx hb dX6_table_16 (by decide) ?_
    exact W.iret hx hb hr (fun t ht hW => QI (Ho_e h) (by rw [ht]; exact hP) (hK.warm hW) hD (hS.F ht)) hS.2.2 dX6_table_18 hlk
abbrev rmX6_unlike : Room := { frames := 0, cells := 0, slots := 0, locals := 0 }
set_option maxHeartbeats 4000000 in
set_option maxRecDepth 100000 in
theorem c_X6_unlike (l : Launch) (dC : Nat → ClassId) (dI : Nat → Nat → Nat) (cI cJ : ClassId) (ad : Nat → Nat) (sz : Nat) (m_code : Int32) (m_n : Int32) (m_built : Int32) (m_length : Int32) (m_begin : Int32) (m_many : Int32) (m_leastOf : Nat → Int32) (m_sizeOf : Nat → Int32) (m_own : Nat → Int32) (m_bestRow : Nat → Int32) (m_tryRow : Nat → Int32) (m_keptRow : Nat → Int32) (m_otherRow : Nat → Int32) (m_row : Nat → Int32) (m_formRow : Nat → Int32) (m_allForms : Nat → Int32) (m_rowsOf : Nat → Int32) (m_intervals : Nat → Int32) (m_places : Nat → Int32) (m_whole : Nat → Int64) (r : Int32) (m_code' : Int32) (hF : FX6_unlike m_code m_n m_many m_row = some (r, m_code')) : Met l yX6_unlike wsX6_unlike rmX6_unlike (rwP (dC, dI) [(cI, .int), (cJ, .long)] sz (wX6 cI cJ ad m_code m_n m_built m_length m_begin m_many m_leastOf m_sizeOf m_own m_bestRow m_tryRow m_keptRow m_otherRow m_row m_formRow m_allForms m_rowsOf m_intervals m_places m_whole) [.ref (ad 0)]) (va_Qi (fun (x : Int32) (_ : Unit) => x = r) (fun _ t => va_P (dC, dI) vwCl (wX6 cI cJ ad m_code' m_n m_built m_length m_begin m_many m_leastOf m_sizeOf m_own m_bestRow m_tryRow m_keptRow m_otherRow m_row m_formRow m_allForms m_rowsOf m_intervals m_places m_whole) t.heap ∧ vK (dC, dI) [(cI, .int), (cJ, .long)] t ∧ va_D (va_A (wX6 cI cJ ad m_code m_n m_built m_length m_begin m_many m_leastOf m_sizeOf m_own m_bestRow m_tryRow m_keptRow m_otherRow m_row m_formRow m_allForms m_rowsOf m_intervals m_places m_whole) sz) (wX6 cI cJ ad m_code' m_n m_built m_length m_begin m_many m_leastOf m_sizeOf m_own m_bestRow m_tryRow m_keptRow m_otherRow m_row m_formRow m_allForms m_rowsOf m_intervals m_places m_whole)) (va_A (wX6 cI cJ ad m_code m_n m_built m_length m_begin m_many m_leastOf m_sizeOf m_own m_bestRow m_tryRow m_keptRow m_otherRow m_row m_formRow m_allForms m_rowsOf m_intervals m_places m_whole) sz)) 0 0 (va_A (wX6 cI cJ ad m_code m_n m_built m_length m_begin m_many m_leastOf m_sizeOf m_own m_bestRow m_tryRow m_keptRow m_otherRow m_row m_formRow m_allForms m_rowsOf m_intervals m_places m_whole) sz) := by
  refine rw_start (cc := cX6_unlike) (maxL := 3) (ret := (some .int)) (by decide) rfl (Nat.le_of_ble_eq_true rfl) ?_
  intro p e s m args below meth c ls A H locs hx hb hml hr hlk hown hts hsz hP hK hD hA hS hAe hl
  have hown : s.vm.findClass RX6 = some m.cls := hown
  have hl : lv_has ls 3 [(0, .ref (ad 0))] := hl
  have h : Ho (FX6_unlike m_code m_n m_many m_row) (fun x => x = (r, m_code')) := ⟨_, hF, rfl⟩
  unfold FX6_unlike at h
  have QI : ∀ {v0 : Int32} {m_code9 : Int32} {t : State}, (v0, m_code9) = (r, m_code') → va_P (dC, dI) vwCl (wX6 cI cJ ad m_code9 m_n m_built m_length m_begin m_many m_leastOf m_sizeOf m_own m_bestRow m_tryRow m_keptRow m_otherRow m_row m_formRow m_allForms m_rowsOf m_intervals m_places m_whole) t.heap → vK (dC, dI) [(cI, .int), (cJ, .long)] t → va_D A (wX6 cI cJ ad m_code9 m_n m_built m_length m_begin m_many m_leastOf m_sizeOf m_own m_bestRow m_tryRow m_keptRow m_otherRow m_row m_formRow m_allForms m_rowsOf m_intervals m_places m_whole) → va_F A s t → (va_Qi (fun (x : Int32) (_ : Unit) => x = r) (fun _ t => va_P (dC, dI) vwCl (wX6 cI cJ ad m_code' m_n m_built m_length m_begin m_many m_leastOf m_sizeOf m_own m_bestRow m_tryRow m_keptRow m_otherRow m_row m_formRow m_allForms m_rowsOf m_intervals m_places m_whole) t.heap ∧ vK (dC, dI) [(cI, .int), (cJ, .long)] t ∧ va_D (va_A (wX6 cI cJ ad m_code m_n m_built m_length m_begin m_many m_leastOf m_sizeOf m_own m_bestRow m_tryRow m_keptRow m_otherRow m_row m_formRow m_allForms m_rowsOf m_intervals m_places m_whole) sz) (wX6 cI cJ ad m_code' m_n m_built m_length m_begin m_many m_leastOf m_sizeOf m_own m_bestRow m_tryRow m_keptRow m_otherRow m_row m_formRow m_allForms m_rowsOf m_intervals m_places m_whole)) (va_A (wX6 cI cJ ad m_code m_n m_built m_length m_begin m_many m_leastOf m_sizeOf m_own m_bestRow m_tryRow m_keptRow m_otherRow m_row m_formRow m_allForms m_rowsOf m_intervals m_places m_whole) sz)) args s (.returned (some (.int v0))) t := by
    intro v0 m_code9 t e9 q1 q2 q3 q4
    cases e9
    subst hAe
    exact ⟨⟨_, (), rfl, rfl, q1, q2, q3⟩, q4⟩
  have hfix : CallFix p m c cX6_unlike 3 s args wsX6_unlike RX6 := ⟨hx, hb, hml, hown, hts⟩
  have hiX6 : ∀ w ∈ u_ws RX6 TX6 20, w ∈ wsX6_unlike := by decide +kernel
  have hf7 := hts (.fieldLink RX6 7 "RowClassesModel" "n" "I") (by decide +kernel)
  have hf35 := hts (.fieldLink RX6 35 "RowClassesModel" "row" "[I") (by decide +kernel)
  have hf57 := hts (.fieldLink RX6 57 "RowClassesModel" "code" "I") (by decide +kernel)
  have hf60 := hts (.fieldLink RX6 60 "RowClassesModel" "many" "I") (by decide +kernel)
  have J112 : ∀ (m_codek : Int32) (H : Heap) (locs : List Loc) (ls : Array Slot), va_P (dC, dI) vwCl (wX6 cI cJ ad m_codek m_n m_built m_length m_begin m_many m_leastOf m_sizeOf m_own m_bestRow m_tryRow m_keptRow m_otherRow m_row m_formRow m_allForms m_rowsOf m_intervals m_places m_whole) H → va_D A (wX6 cI cJ ad m_codek m_n m_built m_length m_begin m_many m_leastOf m_sizeOf m_own m_bestRow m_tryRow m_keptRow m_otherRow m_row m_formRow m_allForms m_rowsOf m_intervals m_places m_whole) → va_S A s.heap H locs → lv_has ls 3 [] → Ho (X6_unlike_112 m_codek) (fun x => x = (r, m_code')) → W p l e rmX6_unlike s m args below meth c H locs 0 0 (MQ below (va_Qi (fun (x : Int32) (_ : Unit) => x = r) (fun _ t => va_P (dC, dI) vwCl (wX6 cI cJ ad m_code' m_n m_built m_length m_begin m_many m_leastOf m_sizeOf m_own m_bestRow m_tryRow m_keptRow m_otherRow m_row m_formRow m_allForms m_rowsOf m_intervals m_places m_whole) t.heap ∧ vK (dC, dI) [(cI, .int), (cJ, .long)] t ∧ va_D (va_A (wX6 cI cJ ad m_code m_n m_built m_length m_begin m_many m_leastOf m_sizeOf m_own m_bestRow m_tryRow m_keptRow m_otherRow m_row m_formRow m_allForms m_rowsOf m_intervals m_places m_whole) sz) (wX6 cI cJ ad m_code' m_n m_built m_length m_begin m_many m_leastOf m_sizeOf m_own m_bestRow m_tryRow m_keptRow m_otherRow m_row m_formRow m_allForms m_rowsOf m_intervals m_places m_whole)) (va_A (wX6 cI cJ ad m_code m_n m_built m_length m_begin m_many m_leastOf m_sizeOf m_own m_bestRow m_tryRow m_keptRow m_otherRow m_row m_formRow m_allForms m_rowsOf m_intervals m_places m_whole) sz)) args s 0 0 A) (F0 m 112 ls []) := by
    intro m_codek H locs ls hP hD hS hl h
    unfold X6_unlike_112 at h
    refine lv_iconst (v := (1 : Int32)) hx hb dX6_unlike_112 (by decide) ?_
    exact W.iret hx hb hr (fun t ht hW => QI (Ho_e h) (by rw [ht]; exact hP) (hK.warm hW) hD (hS.F ht)) hS.2.2 dX6_unlike_113 hlk
  have J98 : ∀ (m_codek : Int32) (H : Heap) (locs : List Loc) (ls : Array Slot), va_P (dC, dI) vwCl (wX6 cI cJ ad m_codek m_n m_built m_length m_begin m_many m_leastOf m_sizeOf m_own m_bestRow m_tryRow m_keptRow m_otherRow m_row m_formRow m_allForms m_rowsOf m_intervals m_places m_whole) H → va_D A (wX6 cI cJ ad m_codek m_n m_built m_length m_begin m_many m_leastOf m_sizeOf m_own m_bestRow m_tryRow m_keptRow m_otherRow m_row m_formRow m_allForms m_rowsOf m_intervals m_places m_whole) → va_S A s.heap H locs → lv_has ls 3 [] → Ho (X6_unlike_98 m_codek) (fun x => x = (r, m_code')) → W p l e rmX6_unlike s m args below meth c H locs 0 0 (MQ below (va_Qi (fun (x : Int32) (_ : Unit) => x = r) (fun _ t => va_P (dC, dI) vwCl (wX6 cI cJ ad m_code' m_n m_built m_length m_begin m_many m_leastOf m_sizeOf m_own m_bestRow m_tryRow m_keptRow m_otherRow m_row m_formRow m_allForms m_rowsOf m_intervals m_places m_whole) t.heap ∧ vK (dC, dI) [(cI, .int), (cJ, .long)] t ∧ va_D (va_A (wX6 cI cJ ad m_code m_n m_built m_length m_begin m_many m_leastOf m_sizeOf m_own m_bestRow m_tryRow m_keptRow m_otherRow m_row m_formRow m_allForms m_rowsOf m_intervals m_places m_whole) sz) (wX6 cI cJ ad m_code' m_n m_built m_length m_begin m_many m_leastOf m_sizeOf m_own m_bestRow m_tryRow m_keptRow m_otherRow m_row m_formRow m_allForms m_rowsOf m_intervals m_places m_whole)) (va_A (wX6 cI cJ ad m_code m_n m_built m_length m_begin m_many m_leastOf m_sizeOf m_own m_bestRow m_tryRow m_keptRow m_otherRow m_row m_formRow m_allForms m_rowsOf m_intervals m_places m_whole) sz)) args s 0 0 A) (F0 m 98 ls []) := by
    intro m_codek H locs ls hP hD hS hl h
    unfold X6_unlike_98 at h
    refine lv_iconst (v := (0 : Int32)) hx hb dX6_unlike_98 (by decide) ?_
    exact W.iret hx hb hr (fun t ht hW => QI (Ho_e h) (by rw [ht]; exact hP) (hK.warm hW) hD (hS.F ht)) hS.2.2 dX6_unlike_99 hlk
  have J21 : ∀ (m_codek : Int32) (v1 : Int32) (H : Heap) (locs : List Loc) (ls : Array Slot), va_P (dC, dI) vwCl (wX6 cI cJ ad m_codek m_n m_built m_length m_begin m_many m_leastOf m_sizeOf m_own m_bestRow m_tryRow m_keptRow m_otherRow m_row m_formRow m_allForms m_rowsOf m_intervals m_places m_whole) H → va_D A (wX6 cI cJ ad m_codek m_n m_built m_length m_begin m_many m_leastOf m_sizeOf m_own m_bestRow m_tryRow m_keptRow m_otherRow m_row m_formRow m_allForms m_rowsOf m_intervals m_places m_whole) → va_S A s.heap H locs → lv_has ls 3 [(0, .ref (ad 0)), (1, .int v1)] → Ho ((X6_unlike_21_l m_n m_row m_codek v1).bind (fun ex => Sum.elim (fun xy => X6_unlike_98 m_codek) (fun xy => X6_unlike_112 m_codek) ex)) (fun x => x = (r, m_code')) → W p l e rmX6_unlike s m args below meth c H locs 0 0 (MQ below (va_Qi (fun (x : Int32) (_ : Unit) => x = r) (fun _ t => va_P (dC, dI) vwCl (wX6 cI cJ ad m_code' m_n m_built m_length m_begin m_many m_leastOf m_sizeOf m_own m_bestRow m_tryRow m_keptRow m_otherRow m_row m_formRow m_allForms m_rowsOf m_intervals m_places m_whole) t.heap ∧ vK (dC, dI) [(cI, .int), (cJ, .long)] t ∧ va_D (va_A (wX6 cI cJ ad m_code m_n m_built m_length m_begin m_many m_leastOf m_sizeOf m_own m_bestRow m_tryRow m_keptRow m_otherRow m_row m_formRow m_allForms m_rowsOf m_intervals m_places m_whole) sz) (wX6 cI cJ ad m_code' m_n m_built m_length m_begin m_many m_leastOf m_sizeOf m_own m_bestRow m_tryRow m_keptRow m_otherRow m_row m_formRow m_allForms m_rowsOf m_intervals m_places m_whole)) (va_A (wX6 cI cJ ad m_code m_n m_built m_length m_begin m_many m_leastOf m_sizeOf m_own m_bestRow m_tryRow m_keptRow m_otherRow m_row m_formRow m_allForms m_rowsOf m_intervals m_places m_whole) sz)) args s 0 0 A) (F0 m 21 ls []) := by
    intro m_codek v1 H locs ls hP hD hS hl h
    refine loop_use2 (fun z : Int32 => ∀ (H : Heap) (locs : List Loc) (ls : Array Slot), va_P (dC, dI) vwCl (wX6 cI cJ ad m_codek m_n m_built m_length m_begin m_many m_leastOf m_sizeOf m_own m_bestRow m_tryRow m_keptRow m_otherRow m_row m_formRow m_allForms m_rowsOf m_intervals m_places m_whole) H → va_D A (wX6 cI cJ ad m_codek m_n m_built m_length m_begin m_many m_leastOf m_sizeOf m_own m_bestRow m_tryRow m_keptRow m_otherRow m_row m_formRow m_allForms m_rowsOf m_intervals m_places m_whole) → va_S A s.heap H locs → lv_has ls 3 [(0, .ref (ad 0)), (1, .int z)] → W p l e rmX6_unlike s m args below meth c H locs 0 0 (MQ below (va_Qi (fun (x : Int32) (_ : Unit) => x = r) (fun _ t => va_P (dC, dI) vwCl (wX6 cI cJ ad m_code' m_n m_built m_length m_begin m_many m_leastOf m_sizeOf m_own m_bestRow m_tryRow m_keptRow m_otherRow m_row m_formRow m_allForms m_rowsOf m_intervals m_places m_whole) t.heap ∧ vK (dC, dI) [(cI, .int), (cJ, .long)] t ∧ va_D (va_A (wX6 cI cJ ad m_code m_n m_built m_length m_begin m_many m_leastOf m_sizeOf m_own m_bestRow m_tryRow m_keptRow m_otherRow m_row m_formRow m_allForms m_rowsOf m_intervals m_places m_whole) sz) (wX6 cI cJ ad m_code' m_n m_built m_length m_begin m_many m_leastOf m_sizeOf m_own m_bestRow m_tryRow m_keptRow m_otherRow m_row m_formRow m_allForms m_rowsOf m_intervals m_places m_whole)) (va_A (wX6 cI cJ ad m_code m_n m_built m_length m_begin m_many m_leastOf m_sizeOf m_own m_bestRow m_tryRow m_keptRow m_otherRow m_row m_formRow m_allForms m_rowsOf m_intervals m_places m_whole) sz)) args s 0 0 A) (F0 m 21 ls [])) ?_ FU _ h H locs ls hP hD hS hl
    intro Q21 hi21 ho21 z h H locs ls hP hD hS hl
    obtain ⟨v1, rfl⟩ : ∃ q, q = z := ⟨_, rfl⟩
    have h : Ho (X6_unlike_21_s m_n m_row m_codek v1) Q21 := h
    unfold X6_unlike_21_s at h
    have hl : lv_has ls 3 [(0, .ref (ad 0)), (1, .int v1)] := hl
    have hP : va_P (dC, dI) vwCl (wX6 cI cJ ad m_codek m_n m_built m_length m_begin m_many m_leastOf m_sizeOf m_own m_bestRow m_tryRow m_keptRow m_otherRow m_row m_formRow m_allForms m_rowsOf m_intervals m_places m_whole) H := hP
    have hD : va_D A (wX6 cI cJ ad m_codek m_n m_built m_length m_begin m_many m_leastOf m_sizeOf m_own m_bestRow m_tryRow m_keptRow m_otherRow m_row m_formRow m_allForms m_rowsOf m_intervals m_places m_whole) := hD
    have J106 : ∀ (v1 : Int32) (H : Heap) (locs : List Loc) (ls : Array Slot), va_P (dC, dI) vwCl (wX6 cI cJ ad m_codek m_n m_built m_length m_begin m_many m_leastOf m_sizeOf m_own m_bestRow m_tryRow m_keptRow m_otherRow m_row m_formRow m_allForms m_rowsOf m_intervals m_places m_whole) H → va_D A (wX6 cI cJ ad m_codek m_n m_built m_length m_begin m_many m_leastOf m_sizeOf m_own m_bestRow m_tryRow m_keptRow m_otherRow m_row m_formRow m_allForms m_rowsOf m_intervals m_places m_whole) → va_S A s.heap H locs → lv_has ls 3 [(0, .ref (ad 0)), (1, .int v1)] → Ho (X6_unlike_106 m_codek v1) Q21 → W p l e rmX6_unlike s m args below meth c H locs 0 0 (MQ below (va_Qi (fun (x : Int32) (_ : Unit) => x = r) (fun _ t => va_P (dC, dI) vwCl (wX6 cI cJ ad m_code' m_n m_built m_length m_begin m_many m_leastOf m_sizeOf m_own m_bestRow m_tryRow m_keptRow m_otherRow m_row m_formRow m_allForms m_rowsOf m_intervals m_places m_whole) t.heap ∧ vK (dC, dI) [(cI, .int), (cJ, .long)] t ∧ va_D (va_A (wX6 cI cJ ad m_code m_n m_built m_length m_begin m_many m_leastOf m_sizeOf m_own m_bestRow m_tryRow m_keptRow m_otherRow m_row m_formRow m_allForms m_rowsOf m_intervals m_places m_whole) sz) (wX6 cI cJ ad m_code' m_n m_built m_length m_begin m_many m_leastOf m_sizeOf m_own m_bestRow m_tryRow m_keptRow m_otherRow m_row m_formRow m_allForms m_rowsOf m_intervals m_places m_whole)) (va_A (wX6 cI cJ ad m_code m_n m_built m_length m_begin m_many m_leastOf m_sizeOf m_own m_bestRow m_tryRow m_keptRow m_otherRow m_row m_formRow m_allForms m_rowsOf m_intervals m_places m_whole) sz)) args s 0 0 A) (F0 m 106 ls []) := by
      intro v1 H locs ls hP hD hS hl h
      unfold X6_unlike_106 at h
      refine lv_iinc (v := v1 + 1) (lv' := [(1, .int (v1 + 1)), (0, .ref (ad 0))]) hx hb dX6_unlike_106 hl (k := 1) rfl rfl (by decide) rfl (fun ls hl => ?_)
      refine lv_goto (tgt := 21) hx hb dX6_unlike_109 (by decide) ?_
      exact hi21 _ (Ho_s h) _ _ ls hP hD hS (lv_sub hl [1, 0] rfl)
    have J35 : ∀ (v1 : Int32) (v2 : Int32) (H : Heap) (locs : List Loc) (ls : Array Slot), va_P (dC, dI) vwCl (wX6 cI cJ ad m_codek m_n m_built m_length m_begin m_many m_leastOf m_sizeOf m_own m_bestRow m_tryRow m_keptRow m_otherRow m_row m_formRow m_allForms m_rowsOf m_intervals m_places m_whole) H → va_D A (wX6 cI cJ ad m_codek m_n m_built m_length m_begin m_many m_leastOf m_sizeOf m_own m_bestRow m_tryRow m_keptRow m_otherRow m_row m_formRow m_allForms m_rowsOf m_intervals m_places m_whole) → va_S A s.heap H locs → lv_has ls 3 [(0, .ref (ad 0)), (1, .int v1), (2, .int v2)] → Ho ((X6_unlike_35_l m_n m_row m_codek v1 v2).bind (fun ex => Sum.elim (fun xy => some (.inr (.inl ()))) (fun xy => X6_unlike_106 m_codek v1) ex)) Q21 → W p l e rmX6_unlike s m args below meth c H locs 0 0 (MQ below (va_Qi (fun (x : Int32) (_ : Unit) => x = r) (fun _ t => va_P (dC, dI) vwCl (wX6 cI cJ ad m_code' m_n m_built m_length m_begin m_many m_leastOf m_sizeOf m_own m_bestRow m_tryRow m_keptRow m_otherRow m_row m_formRow m_allForms m_rowsOf m_intervals m_places m_whole) t.heap ∧ vK (dC, dI) [(cI, .int), (cJ, .long)] t ∧ va_D (va_A (wX6 cI cJ ad m_code m_n m_built m_length m_begin m_many m_leastOf m_sizeOf m_own m_bestRow m_tryRow m_keptRow m_otherRow m_row m_formRow m_allForms m_rowsOf m_intervals m_places m_whole) sz) (wX6 cI cJ ad m_code' m_n m_built m_length m_begin m_many m_leastOf m_sizeOf m_own m_bestRow m_tryRow m_keptRow m_otherRow m_row m_formRow m_allForms m_rowsOf m_intervals m_places m_whole)) (va_A (wX6 cI cJ ad m_code m_n m_built m_length m_begin m_many m_leastOf m_sizeOf m_own m_bestRow m_tryRow m_keptRow m_otherRow m_row m_formRow m_allForms m_rowsOf m_intervals m_places m_whole) sz)) args s 0 0 A) (F0 m 35 ls []) := by
      intro v1 v2 H locs ls hP hD hS hl h
      refine loop_use2 (fun z : Int32 => ∀ (H : Heap) (locs : List Loc) (ls : Array Slot), va_P (dC, dI) vwCl (wX6 cI cJ ad m_codek m_n m_built m_length m_begin m_many m_leastOf m_sizeOf m_own m_bestRow m_tryRow m_keptRow m_otherRow m_row m_formRow m_allForms m_rowsOf m_intervals m_places m_whole) H → va_D A (wX6 cI cJ ad m_codek m_n m_built m_length m_begin m_many m_leastOf m_sizeOf m_own m_bestRow m_tryRow m_keptRow m_otherRow m_row m_formRow m_allForms m_rowsOf m_intervals m_places m_whole) → va_S A s.heap H locs → lv_has ls 3 [(0, .ref (ad 0)), (1, .int v1), (2, .int z)] → W p l e rmX6_unlike s m args below meth c H locs 0 0 (MQ below (va_Qi (fun (x : Int32) (_ : Unit) => x = r) (fun _ t => va_P (dC, dI) vwCl (wX6 cI cJ ad m_code' m_n m_built m_length m_begin m_many m_leastOf m_sizeOf m_own m_bestRow m_tryRow m_keptRow m_otherRow m_row m_formRow m_allForms m_rowsOf m_intervals m_places m_whole) t.heap ∧ vK (dC, dI) [(cI, .int), (cJ, .long)] t ∧ va_D (va_A (wX6 cI cJ ad m_code m_n m_built m_length m_begin m_many m_leastOf m_sizeOf m_own m_bestRow m_tryRow m_keptRow m_otherRow m_row m_formRow m_allForms m_rowsOf m_intervals m_places m_whole) sz) (wX6 cI cJ ad m_code' m_n m_built m_length m_begin m_many m_leastOf m_sizeOf m_own m_bestRow m_tryRow m_keptRow m_otherRow m_row m_formRow m_allForms m_rowsOf m_intervals m_places m_whole)) (va_A (wX6 cI cJ ad m_code m_n m_built m_length m_begin m_many m_leastOf m_sizeOf m_own m_bestRow m_tryRow m_keptRow m_otherRow m_row m_formRow m_allForms m_rowsOf m_intervals m_places m_whole) sz)) args s 0 0 A) (F0 m 35 ls [])) ?_ FU _ h H locs ls hP hD hS hl
      intro Q35 hi35 ho35 z h H locs ls hP hD hS hl
      obtain ⟨v2, rfl⟩ : ∃ q, q = z := ⟨_, rfl⟩
      have h : Ho (X6_unlike_35_s m_n m_row m_codek v1 v2) Q35 := h
      unfold X6_unlike_35_s at h
      have hl : lv_has ls 3 [(0, .ref (ad 0)), (1, .int v1), (2, .int v2)] := hl
      have hP : va_P (dC, dI) vwCl (wX6 cI cJ ad m_codek m_n m_built m_length m_begin m_many m_leastOf m_sizeOf m_own m_bestRow m_tryRow m_keptRow m_otherRow m_row m_formRow m_allForms m_rowsOf m_intervals m_places m_whole) H := hP
      have hD : va_D A (wX6 cI cJ ad m_codek m_n m_built m_length m_begin m_many m_leastOf m_sizeOf m_own m_bestRow m_tryRow m_keptRow m_otherRow m_row m_formRow m_allForms m_rowsOf m_intervals m_places m_whole) := hD
      refine lv_iload_n hx hb dX6_unlike_35 rfl (lv_at hl 2 rfl) ?_
      refine lv_iconst (v := (1 : Int32)) hx hb dX6_unlike_36 (by decide) ?_
      refine lv_iadd hx hb dX6_unlike_37 ?_
      refine lv_aload_n hx hb dX6_unlike_38 rfl (lv_at hl 0 rfl) ?_
      refine va_get (D := (dC, dI)) (ci := 6) (v := .int m_n) (C := RX6) (T := TX6) (N := 20) hx hb hts hiX6 hown hK.1 hP 0 rfl rfl 1 (by decide) hf7 (fun _ h9 => h9) rfl dX6_unlike_39 ?_
      refine lv_icmp_ge (tgt := 106) hx hb dX6_unlike_42 (by decide) (fun q42 => ?_) (fun q42 => ?_)
      · have h := Ho_t h q42
        have h := ho35 _ (Ho_s h)
        exact J106 v1 _ _ ls hP hD hS (lv_sub hl [0, 1] rfl) h
      · have h := Ho_f h q42
        refine lv_aload_n hx hb dX6_unlike_45 rfl (lv_at hl 0 rfl) ?_
        refine va_get (D := (dC, dI)) (ci := 6) (v := .ref (ad 8)) (C := RX6) (T := TX6) (N := 20) hx hb hts hiX6 hown hK.1 hP 0 rfl rfl 13 (by decide) hf35 (fun _ h9 => h9) rfl dX6_unlike_46 ?_
        refine lv_iload_n hx hb dX6_unlike_49 rfl (lv_at hl 1 rfl) ?_
        refine lv_iconst (v := (1 : Int32)) hx hb dX6_unlike_50 (by decide) ?_
        refine lv_iadd hx hb dX6_unlike_51 ?_
        obtain ⟨hz52, h⟩ := Ho_ix h
        refine va_iald hx hb hK.1 hP 8 0 rfl rfl hz52 dX6_unlike_52 ?_
        refine lv_aload_n hx hb dX6_unlike_53 rfl (lv_at hl 0 rfl) ?_
        refine va_get (D := (dC, dI)) (ci := 6) (v := .ref (ad 8)) (C := RX6) (T := TX6) (N := 20) hx hb hts hiX6 hown hK.1 hP 0 rfl rfl 13 (by decide) hf35 (fun _ h9 => h9) rfl dX6_unlike_54 ?_
        refine lv_iload_n hx hb dX6_unlike_57 rfl (lv_at hl 1 rfl) ?_
        obtain ⟨hz58, h⟩ := Ho_ix h
        refine va_iald hx hb hK.1 hP 8 0 rfl rfl hz58 dX6_unlike_58 ?_
        refine lv_isub hx hb dX6_unlike_59 ?_
        refine lv_aload_n hx hb dX6_unlike_60 rfl (lv_at hl 0 rfl) ?_
        refine va_get (D := (dC, dI)) (ci := 6) (v := .int m_n) (C := RX6) (T := TX6) (N := 20) hx hb hts hiX6 hown hK.1 hP 0 rfl rfl 1 (by decide) hf7 (fun _ h9 => h9) rfl dX6_unlike_61 ?_
        refine lv_iadd hx hb dX6_unlike_64 ?_
        refine lv_aload_n hx hb dX6_unlike_65 rfl (lv_at hl 0 rfl) ?_
        refine va_get (D := (dC, dI)) (ci := 6) (v := .int m_n) (C := RX6) (T := TX6) (N := 20) hx hb hts hiX6 hown hK.1 hP 0 rfl rfl 1 (by decide) hf7 (fun _ h9 => h9) rfl dX6_unlike_66 ?_
        obtain ⟨hz69, h⟩ := Ho_nz h
        refine lv_irem hx hb dX6_unlike_69 hz69 ?_
        refine lv_aload_n hx hb dX6_unlike_70 rfl (lv_at hl 0 rfl) ?_
        refine va_get (D := (dC, dI)) (ci := 6) (v := .ref (ad 8)) (C := RX6) (T := TX6) (N := 20) hx hb hts hiX6 hown hK.1 hP 0 rfl rfl 13 (by decide) hf35 (fun _ h9 => h9) rfl dX6_unlike_71 ?_
        refine lv_iload_n hx hb dX6_unlike_74 rfl (lv_at hl 2 rfl) ?_
        refine lv_iconst (v := (1 : Int32)) hx hb dX6_unlike_75 (by decide) ?_
        refine lv_iadd hx hb dX6_unlike_76 ?_
        obtain ⟨hz77, h⟩ := Ho_ix h
        refine va_iald hx hb hK.1 hP 8 0 rfl rfl hz77 dX6_unlike_77 ?_
        refine lv_aload_n hx hb dX6_unlike_78 rfl (lv_at hl 0 rfl) ?_
        refine va_get (D := (dC, dI)) (ci := 6) (v := .ref (ad 8)) (C := RX6) (T := TX6) (N := 20) hx hb hts hiX6 hown hK.1 hP 0 rfl rfl 13 (by decide) hf35 (fun _ h9 => h9) rfl dX6_unlike_79 ?_
        refine lv_iload_n hx hb dX6_unlike_82 rfl (lv_at hl 2 rfl) ?_
        obtain ⟨hz83, h⟩ := Ho_ix h
        refine va_iald hx hb hK.1 hP 8 0 rfl rfl hz83 dX6_unlike_83 ?_
        refine lv_isub hx hb dX6_unlike_84 ?_
        refine lv_aload_n hx hb dX6_unlike_85 rfl (lv_at hl 0 rfl) ?_
        refine va_get (D := (dC, dI)) (ci := 6) (v := .int m_n) (C := RX6) (T := TX6) (N := 20) hx hb hts hiX6 hown hK.1 hP 0 rfl rfl 1 (by decide) hf7 (fun _ h9 => h9) rfl dX6_unlike_86 ?_
        refine lv_iadd hx hb dX6_unlike_89 ?_
        refine lv_aload_n hx hb dX6_unlike_90 rfl (lv_at hl 0 rfl) ?_
        refine va_get (D := (dC, dI)) (ci := 6) (v := .int m_n) (C := RX6) (T := TX6) (N := 20) hx hb hts hiX6 hown hK.1 hP 0 rfl rfl 1 (by decide) hf7 (fun _ h9 => h9) rfl dX6_unlike_91 ?_
        obtain ⟨hz94, h⟩ := Ho_nz h
        refine lv_irem hx hb dX6_unlike_94 hz94 ?_
        refine lv_icmp_ne (tgt := 100) hx hb dX6_unlike_95 (by decide) (fun q95 => ?_) (fun q95 => ?_)
        · have h := Ho_f h q95
          refine lv_iinc (v := v2 + 1) (lv' := [(2, .int (v2 + 1)), (0, .ref (ad 0)), (1, .int v1)]) hx hb dX6_unlike_100 hl (k := 2) rfl rfl (by decide) rfl (fun ls hl => ?_)
          refine lv_goto (tgt := 35) hx hb dX6_unlike_103 (by decide) ?_
          exact hi35 _ (Ho_s h) _ _ ls hP hD hS (lv_sub hl [1, 2, 0] rfl)
        · have h := Ho_t h q95
          have h := ho35 _ (Ho_s h)
          have h := ho21 _ (Ho_s h)
          exact J98 m_codek _ _ ls hP hD hS (lv_sub hl [] rfl) h
    refine lv_iload_n hx hb dX6_unlike_21 rfl (lv_at hl 1 rfl) ?_
    refine lv_iconst (v := (1 : Int32)) hx hb dX6_unlike_22 (by decide) ?_
    refine lv_iadd hx hb dX6_unlike_23 ?_
    refine lv_aload_n hx hb dX6_unlike_24 rfl (lv_at hl 0 rfl) ?_
    refine va_get (D := (dC, dI)) (ci := 6) (v := .int m_n) (C := RX6) (T := TX6) (N := 20) hx hb hts hiX6 hown hK.1 hP 0 rfl rfl 1 (by decide) hf7 (fun _ h9 => h9) rfl dX6_unlike_25 ?_
    refine lv_icmp_ge (tgt := 112) hx hb dX6_unlike_28 (by decide) (fun q28 => ?_) (fun q28 => ?_)
    · have h := Ho_t h q28
      have h := ho21 _ (Ho_s h)
      exact J112 m_codek _ _ ls hP hD hS (lv_sub hl [] rfl) h
    · have h := Ho_f h q28
      refine lv_iload_n hx hb dX6_unlike_31 rfl (lv_at hl 1 rfl) ?_
      refine lv_iconst (v := (1 : Int32)) hx hb dX6_unlike_32 (by decide) ?_
      refine lv_iadd hx hb dX6_unlike_33 ?_
      refine lv_istore_n (lv' := [(2, .int (v1 + (1 : Int32))), (0, .ref (ad 0)), (1, .int v1)]) hx hb dX6_unlike_34 rfl hl (by decide) rfl (fun ls hl => ?_)
      exact J35 v1 (v1 + (1 : Int32)) _ _ ls hP hD hS (lv_sub hl [1, 2, 0] rfl) h
  refine lv_aload_n hx hb dX6_unlike_0 rfl (lv_at hl 0 rfl) ?_
  refine lv_iconst (v := (0 : Int32)) hx hb dX6_unlike_1 (by decide) ?_
  refine va_put (D := (dC, dI)) (ci := 6) (v := .int (0 : Int32)) (ty := .int) (C := RX6) (T := TX6) (N := 20) hx hb hts hiX6 tyX6 tyX6_ok nmX6 hown hK.1 hP hD hS 0 rfl rfl 0 (by decide) hf57 (fun _ h9 => h9) rfl (by decide +kernel) rfl rfl (Nat.le_of_ble_eq_true rfl) dX6_unlike_2 (fun H locs hP hD hS => ?_)
  have hP : va_P (dC, dI) vwCl (wX6 cI cJ ad (0 : Int32) m_n m_built m_length m_begin m_many m_leastOf m_sizeOf m_own m_bestRow m_tryRow m_keptRow m_otherRow m_row m_formRow m_allForms m_rowsOf m_intervals m_places m_whole) H := hP
  have hD : va_D A (wX6 cI cJ ad (0 : Int32) m_n m_built m_length m_begin m_many m_leastOf m_sizeOf m_own m_bestRow m_tryRow m_keptRow m_otherRow m_row m_formRow m_allForms m_rowsOf m_intervals m_places m_whole) := hD
  refine lv_aload_n hx hb dX6_unlike_5 rfl (lv_at hl 0 rfl) ?_
  refine va_get (D := (dC, dI)) (ci := 6) (v := .int m_many) (C := RX6) (T := TX6) (N := 20) hx hb hts hiX6 hown hK.1 hP 0 rfl rfl 12 (by decide) hf60 (fun _ h9 => h9) rfl dX6_unlike_6 ?_
  refine lv_aload_n hx hb dX6_unlike_9 rfl (lv_at hl 0 rfl) ?_
  refine va_get (D := (dC, dI)) (ci := 6) (v := .int m_n) (C := RX6) (T := TX6) (N := 20) hx hb hts hiX6 hown hK.1 hP 0 rfl rfl 1 (by decide) hf7 (fun _ h9 => h9) rfl dX6_unlike_10 ?_
  refine lv_icmp_ge (tgt := 19) hx hb dX6_unlike_13 (by decide) (fun q13 => ?_) (fun q13 => ?_)
  · have h := Ho_t h q13
    refine lv_iconst (v := (0 : Int32)) hx hb dX6_unlike_19 (by decide) ?_
    refine lv_istore_n (lv' := [(1, .int (0 : Int32)), (0, .ref (ad 0))]) hx hb dX6_unlike_20 rfl hl (by decide) rfl (fun ls hl => ?_)
    exact J21 (0 : Int32) (0 : Int32) _ _ ls hP hD hS (lv_sub hl [1, 0] rfl) h
  · have h := Ho_f h q13
    refine lv_bipush (v := (-3 : Int32)) hx hb dX6_unlike_16 (by decide) ?_
    exact W.iret hx hb hr (fun t ht hW => QI (Ho_e h) (by rw [ht]; exact hP) (hK.warm hW) hD (hS.F ht)) hS.2.2 dX6_unlike_18 hlk
abbrev rmX6_countRows : Room := { frames := 0, cells := 0, slots := 0, locals := 0 }
set_option maxHeartbeats 4000000 in
set_option maxRecDepth 100000 in
theorem c_X6_countRows (l : Launch) (dC : Nat → ClassId) (dI : Nat → Nat → Nat) (cI cJ : ClassId) (ad : Nat → Nat) (sz : Nat) (m_code : Int32) (m_n : Int32) (m_built : Int32) (m_length : Int32) (m_begin : Int32) (m_many : Int32) (m_leastOf : Nat → Int32) (m_sizeOf : Nat → Int32) (m_own : Nat → Int32) (m_bestRow : Nat → Int32) (m_tryRow : Nat → Int32) (m_keptRow : Nat → Int32) (m_otherRow : Nat → Int32) (m_row : Nat → Int32) (m_formRow : Nat → Int32) (m_allForms : Nat → Int32) (m_rowsOf : Nat → Int32) (m_intervals : Nat → Int32) (m_places : Nat → Int32) (m_whole : Nat → Int64) (m_rowsOf' : Nat → Int32) (m_intervals' : Nat → Int32) (m_places' : Nat → Int32) (hF : FX6_countRows m_n m_rowsOf m_intervals m_places = some (m_rowsOf', m_intervals', m_places')) : Met l yX6_countRows wsX6_countRows rmX6_countRows (rwP (dC, dI) [(cI, .int), (cJ, .long)] sz (wX6 cI cJ ad m_code m_n m_built m_length m_begin m_many m_leastOf m_sizeOf m_own m_bestRow m_tryRow m_keptRow m_otherRow m_row m_formRow m_allForms m_rowsOf m_intervals m_places m_whole) [.ref (ad 0)]) (va_Qv (fun _ : Unit => True) (fun _ t => va_P (dC, dI) vwCl (wX6 cI cJ ad m_code m_n m_built m_length m_begin m_many m_leastOf m_sizeOf m_own m_bestRow m_tryRow m_keptRow m_otherRow m_row m_formRow m_allForms m_rowsOf' m_intervals' m_places' m_whole) t.heap ∧ vK (dC, dI) [(cI, .int), (cJ, .long)] t ∧ va_D (va_A (wX6 cI cJ ad m_code m_n m_built m_length m_begin m_many m_leastOf m_sizeOf m_own m_bestRow m_tryRow m_keptRow m_otherRow m_row m_formRow m_allForms m_rowsOf m_intervals m_places m_whole) sz) (wX6 cI cJ ad m_code m_n m_built m_length m_begin m_many m_leastOf m_sizeOf m_own m_bestRow m_tryRow m_keptRow m_otherRow m_row m_formRow m_allForms m_rowsOf' m_intervals' m_places' m_whole)) (va_A (wX6 cI cJ ad m_code m_n m_built m_length m_begin m_many m_leastOf m_sizeOf m_own m_bestRow m_tryRow m_keptRow m_otherRow m_row m_formRow m_allForms m_rowsOf m_intervals m_places m_whole) sz)) 0 0 (va_A (wX6 cI cJ ad m_code m_n m_built m_length m_begin m_many m_leastOf m_sizeOf m_own m_bestRow m_tryRow m_keptRow m_otherRow m_row m_formRow m_allForms m_rowsOf m_intervals m_places m_whole) sz) := by
  refine rw_start (cc := cX6_countRows) (maxL := 7) (ret := none) (by decide) rfl (Nat.le_of_ble_eq_true rfl) ?_
  intro p e s m args below meth c ls A H locs hx hb hml hr hlk hown hts hsz hP hK hD hA hS hAe hl
  have hown : s.vm.findClass RX6 = some m.cls := hown
  have hl : lv_has ls 7 [(0, .ref (ad 0))] := hl
  have h : Ho (FX6_countRows m_n m_rowsOf m_intervals m_places) (fun x => x = (m_rowsOf', m_intervals', m_places')) := ⟨_, hF, rfl⟩
  unfold FX6_countRows at h
  have QI : ∀ {m_rowsOf9 : Nat → Int32} {m_intervals9 : Nat → Int32} {m_places9 : Nat → Int32} {t : State}, (m_rowsOf9, m_intervals9, m_places9) = (m_rowsOf', m_intervals', m_places') → va_P (dC, dI) vwCl (wX6 cI cJ ad m_code m_n m_built m_length m_begin m_many m_leastOf m_sizeOf m_own m_bestRow m_tryRow m_keptRow m_otherRow m_row m_formRow m_allForms m_rowsOf9 m_intervals9 m_places9 m_whole) t.heap → vK (dC, dI) [(cI, .int), (cJ, .long)] t → va_D A (wX6 cI cJ ad m_code m_n m_built m_length m_begin m_many m_leastOf m_sizeOf m_own m_bestRow m_tryRow m_keptRow m_otherRow m_row m_formRow m_allForms m_rowsOf9 m_intervals9 m_places9 m_whole) → va_F A s t → (va_Qv (fun _ : Unit => True) (fun _ t => va_P (dC, dI) vwCl (wX6 cI cJ ad m_code m_n m_built m_length m_begin m_many m_leastOf m_sizeOf m_own m_bestRow m_tryRow m_keptRow m_otherRow m_row m_formRow m_allForms m_rowsOf' m_intervals' m_places' m_whole) t.heap ∧ vK (dC, dI) [(cI, .int), (cJ, .long)] t ∧ va_D (va_A (wX6 cI cJ ad m_code m_n m_built m_length m_begin m_many m_leastOf m_sizeOf m_own m_bestRow m_tryRow m_keptRow m_otherRow m_row m_formRow m_allForms m_rowsOf m_intervals m_places m_whole) sz) (wX6 cI cJ ad m_code m_n m_built m_length m_begin m_many m_leastOf m_sizeOf m_own m_bestRow m_tryRow m_keptRow m_otherRow m_row m_formRow m_allForms m_rowsOf' m_intervals' m_places' m_whole)) (va_A (wX6 cI cJ ad m_code m_n m_built m_length m_begin m_many m_leastOf m_sizeOf m_own m_bestRow m_tryRow m_keptRow m_otherRow m_row m_formRow m_allForms m_rowsOf m_intervals m_places m_whole) sz)) args s (.returned none) t := by
    intro m_rowsOf9 m_intervals9 m_places9 t e9 q1 q2 q3 q4
    cases e9
    subst hAe
    exact ⟨⟨(), rfl, trivial, q1, q2, q3⟩, q4⟩
  have hfix : CallFix p m c cX6_countRows 7 s args wsX6_countRows RX6 := ⟨hx, hb, hml, hown, hts⟩
  have hiX6 : ∀ w ∈ u_ws RX6 TX6 20, w ∈ wsX6_countRows := by decide +kernel
  have hf7 := hts (.fieldLink RX6 7 "RowClassesModel" "n" "I") (by decide +kernel)
  have hf44 := hts (.fieldLink RX6 44 "RowClassesModel" "rowsOf" "[I") (by decide +kernel)
  have hf47 := hts (.fieldLink RX6 47 "RowClassesModel" "intervals" "[I") (by decide +kernel)
  have hf50 := hts (.fieldLink RX6 50 "RowClassesModel" "places" "[I") (by decide +kernel)
  have J232 : ∀ (m_rowsOfk : Nat → Int32) (m_intervalsk : Nat → Int32) (m_placesk : Nat → Int32) (v1 : Int32) (H : Heap) (locs : List Loc) (ls : Array Slot), va_P (dC, dI) vwCl (wX6 cI cJ ad m_code m_n m_built m_length m_begin m_many m_leastOf m_sizeOf m_own m_bestRow m_tryRow m_keptRow m_otherRow m_row m_formRow m_allForms m_rowsOfk m_intervalsk m_placesk m_whole) H → va_D A (wX6 cI cJ ad m_code m_n m_built m_length m_begin m_many m_leastOf m_sizeOf m_own m_bestRow m_tryRow m_keptRow m_otherRow m_row m_formRow m_allForms m_rowsOfk m_intervalsk m_placesk m_whole) → va_S A s.heap H locs → lv_has ls 7 [(0, .ref (ad 0)), (1, .int v1)] → Ho (X6_countRows_232 m_n m_rowsOfk m_intervalsk m_placesk v1) (fun x => x = (m_rowsOf', m_intervals', m_places')) → W p l e rmX6_countRows s m args below meth c H locs 0 0 (MQ below (va_Qv (fun _ : Unit => True) (fun _ t => va_P (dC, dI) vwCl (wX6 cI cJ ad m_code m_n m_built m_length m_begin m_many m_leastOf m_sizeOf m_own m_bestRow m_tryRow m_keptRow m_otherRow m_row m_formRow m_allForms m_rowsOf' m_intervals' m_places' m_whole) t.heap ∧ vK (dC, dI) [(cI, .int), (cJ, .long)] t ∧ va_D (va_A (wX6 cI cJ ad m_code m_n m_built m_length m_begin m_many m_leastOf m_sizeOf m_own m_bestRow m_tryRow m_keptRow m_otherRow m_row m_formRow m_allForms m_rowsOf m_intervals m_places m_whole) sz) (wX6 cI cJ ad m_code m_n m_built m_length m_begin m_many m_leastOf m_sizeOf m_own m_bestRow m_tryRow m_keptRow m_otherRow m_row m_formRow m_allForms m_rowsOf' m_intervals' m_places' m_whole)) (va_A (wX6 cI cJ ad m_code m_n m_built m_length m_begin m_many m_leastOf m_sizeOf m_own m_bestRow m_tryRow m_keptRow m_otherRow m_row m_formRow m_allForms m_rowsOf m_intervals m_places m_whole) sz)) args s 0 0 A) (F0 m 232 ls []) := by
    intro m_rowsOfk m_intervalsk m_placesk v1 H locs ls hP hD hS hl h
    unfold X6_countRows_232 at h
    refine lv_aload_n hx hb dX6_countRows_232 rfl (lv_at hl 0 rfl) ?_
    refine va_get (D := (dC, dI)) (ci := 6) (v := .ref (ad 11)) (C := RX6) (T := TX6) (N := 20) hx hb hts hiX6 hown hK.1 hP 0 rfl rfl 16 (by decide) hf44 (fun _ h9 => h9) rfl dX6_countRows_233 ?_
    refine lv_aload_n hx hb dX6_countRows_236 rfl (lv_at hl 0 rfl) ?_
    refine va_get (D := (dC, dI)) (ci := 6) (v := .int m_n) (C := RX6) (T := TX6) (N := 20) hx hb hts hiX6 hown hK.1 hP 0 rfl rfl 1 (by decide) hf7 (fun _ h9 => h9) rfl dX6_countRows_237 ?_
    refine lv_iload_n hx hb dX6_countRows_240 rfl (lv_at hl 1 rfl) ?_
    refine lv_iconst (v := (1 : Int32)) hx hb dX6_countRows_241 (by decide) ?_
    refine lv_iadd hx hb dX6_countRows_242 ?_
    obtain ⟨hz243, h⟩ := Ho_ix h
    refine va_iast hx hb hK.1 hP hD hS 11 0 rfl rfl hz243 dX6_countRows_243 (fun H locs hP hD hS => ?_)
    have hP : va_P (dC, dI) vwCl (wX6 cI cJ ad m_code m_n m_built m_length m_begin m_many m_leastOf m_sizeOf m_own m_bestRow m_tryRow m_keptRow m_otherRow m_row m_formRow m_allForms (upd m_rowsOfk m_n.toNatClampNeg (v1 + (1 : Int32))) m_intervalsk m_placesk m_whole) H := hP
    have hD : va_D A (wX6 cI cJ ad m_code m_n m_built m_length m_begin m_many m_leastOf m_sizeOf m_own m_bestRow m_tryRow m_keptRow m_otherRow m_row m_formRow m_allForms (upd m_rowsOfk m_n.toNatClampNeg (v1 + (1 : Int32))) m_intervalsk m_placesk m_whole) := hD
    exact W.vret hx hb hr (fun t ht hW => QI (Ho_e h) (by rw [ht]; exact hP) (hK.warm hW) hD (hS.F ht)) hS.2.2 dX6_countRows_244 hlk
  have J23 : ∀ (m_rowsOfk : Nat → Int32) (m_intervalsk : Nat → Int32) (m_placesk : Nat → Int32) (v1 : Int32) (v2 : Int32) (v3 : Int32) (v4 : Int32) (H : Heap) (locs : List Loc) (ls : Array Slot), va_P (dC, dI) vwCl (wX6 cI cJ ad m_code m_n m_built m_length m_begin m_many m_leastOf m_sizeOf m_own m_bestRow m_tryRow m_keptRow m_otherRow m_row m_formRow m_allForms m_rowsOfk m_intervalsk m_placesk m_whole) H → va_D A (wX6 cI cJ ad m_code m_n m_built m_length m_begin m_many m_leastOf m_sizeOf m_own m_bestRow m_tryRow m_keptRow m_otherRow m_row m_formRow m_allForms m_rowsOfk m_intervalsk m_placesk m_whole) → va_S A s.heap H locs → lv_has ls 7 [(0, .ref (ad 0)), (1, .int v1), (2, .int v2), (3, .int v3), (4, .int v4)] → Ho ((X6_countRows_23_l m_n m_rowsOfk m_intervalsk m_placesk v1 v2 v3 v4).bind (fun ex => X6_countRows_232 m_n m_rowsOfk ex.1 ex.2.1 ex.2.2)) (fun x => x = (m_rowsOf', m_intervals', m_places')) → W p l e rmX6_countRows s m args below meth c H locs 0 0 (MQ below (va_Qv (fun _ : Unit => True) (fun _ t => va_P (dC, dI) vwCl (wX6 cI cJ ad m_code m_n m_built m_length m_begin m_many m_leastOf m_sizeOf m_own m_bestRow m_tryRow m_keptRow m_otherRow m_row m_formRow m_allForms m_rowsOf' m_intervals' m_places' m_whole) t.heap ∧ vK (dC, dI) [(cI, .int), (cJ, .long)] t ∧ va_D (va_A (wX6 cI cJ ad m_code m_n m_built m_length m_begin m_many m_leastOf m_sizeOf m_own m_bestRow m_tryRow m_keptRow m_otherRow m_row m_formRow m_allForms m_rowsOf m_intervals m_places m_whole) sz) (wX6 cI cJ ad m_code m_n m_built m_length m_begin m_many m_leastOf m_sizeOf m_own m_bestRow m_tryRow m_keptRow m_otherRow m_row m_formRow m_allForms m_rowsOf' m_intervals' m_places' m_whole)) (va_A (wX6 cI cJ ad m_code m_n m_built m_length m_begin m_many m_leastOf m_sizeOf m_own m_bestRow m_tryRow m_keptRow m_otherRow m_row m_formRow m_allForms m_rowsOf m_intervals m_places m_whole) sz)) args s 0 0 A) (F0 m 23 ls []) := by
    intro m_rowsOfk m_intervalsk m_placesk v1 v2 v3 v4 H locs ls hP hD hS hl h
    refine loop_use2 (fun z : (Nat → Int32) × (Nat → Int32) × Int32 × Int32 × Int32 × Int32 => ∀ (H : Heap) (locs : List Loc) (ls : Array Slot), va_P (dC, dI) vwCl (wX6 cI cJ ad m_code m_n m_built m_length m_begin m_many m_leastOf m_sizeOf m_own m_bestRow m_tryRow m_keptRow m_otherRow m_row m_formRow m_allForms m_rowsOfk z.1 z.2.1 m_whole) H → va_D A (wX6 cI cJ ad m_code m_n m_built m_length m_begin m_many m_leastOf m_sizeOf m_own m_bestRow m_tryRow m_keptRow m_otherRow m_row m_formRow m_allForms m_rowsOfk z.1 z.2.1 m_whole) → va_S A s.heap H locs → lv_has ls 7 [(0, .ref (ad 0)), (1, .int z.2.2.1), (2, .int z.2.2.2.1), (3, .int z.2.2.2.2.1), (4, .int z.2.2.2.2.2)] → W p l e rmX6_countRows s m args below meth c H locs 0 0 (MQ below (va_Qv (fun _ : Unit => True) (fun _ t => va_P (dC, dI) vwCl (wX6 cI cJ ad m_code m_n m_built m_length m_begin m_many m_leastOf m_sizeOf m_own m_bestRow m_tryRow m_keptRow m_otherRow m_row m_formRow m_allForms m_rowsOf' m_intervals' m_places' m_whole) t.heap ∧ vK (dC, dI) [(cI, .int), (cJ, .long)] t ∧ va_D (va_A (wX6 cI cJ ad m_code m_n m_built m_length m_begin m_many m_leastOf m_sizeOf m_own m_bestRow m_tryRow m_keptRow m_otherRow m_row m_formRow m_allForms m_rowsOf m_intervals m_places m_whole) sz) (wX6 cI cJ ad m_code m_n m_built m_length m_begin m_many m_leastOf m_sizeOf m_own m_bestRow m_tryRow m_keptRow m_otherRow m_row m_formRow m_allForms m_rowsOf' m_intervals' m_places' m_whole)) (va_A (wX6 cI cJ ad m_code m_n m_built m_length m_begin m_many m_leastOf m_sizeOf m_own m_bestRow m_tryRow m_keptRow m_otherRow m_row m_formRow m_allForms m_rowsOf m_intervals m_places m_whole) sz)) args s 0 0 A) (F0 m 23 ls [])) ?_ FU _ h H locs ls hP hD hS hl
    intro Q23 hi23 ho23 z h H locs ls hP hD hS hl
    obtain ⟨m_intervalsk, m_placesk, v1, v2, v3, v4⟩ := z
    have h : Ho (X6_countRows_23_s m_n m_rowsOfk m_intervalsk m_placesk v1 v2 v3 v4) Q23 := h
    unfold X6_countRows_23_s at h
    have hl : lv_has ls 7 [(0, .ref (ad 0)), (1, .int v1), (2, .int v2), (3, .int v3), (4, .int v4)] := hl
    have hP : va_P (dC, dI) vwCl (wX6 cI cJ ad m_code m_n m_built m_length m_begin m_many m_leastOf m_sizeOf m_own m_bestRow m_tryRow m_keptRow m_otherRow m_row m_formRow m_allForms m_rowsOfk m_intervalsk m_placesk m_whole) H := hP
    have hD : va_D A (wX6 cI cJ ad m_code m_n m_built m_length m_begin m_many m_leastOf m_sizeOf m_own m_bestRow m_tryRow m_keptRow m_otherRow m_row m_formRow m_allForms m_rowsOfk m_intervalsk m_placesk m_whole) := hD
    have J182 : ∀ (m_intervalsk : Nat → Int32) (m_placesk : Nat → Int32) (v1 : Int32) (v2 : Int32) (v3 : Int32) (v4 : Int32) (v5 : Int32) (H : Heap) (locs : List Loc) (ls : Array Slot), va_P (dC, dI) vwCl (wX6 cI cJ ad m_code m_n m_built m_length m_begin m_many m_leastOf m_sizeOf m_own m_bestRow m_tryRow m_keptRow m_otherRow m_row m_formRow m_allForms m_rowsOfk m_intervalsk m_placesk m_whole) H → va_D A (wX6 cI cJ ad m_code m_n m_built m_length m_begin m_many m_leastOf m_sizeOf m_own m_bestRow m_tryRow m_keptRow m_otherRow m_row m_formRow m_allForms m_rowsOfk m_intervalsk m_placesk m_whole) → va_S A s.heap H locs → lv_has ls 7 [(0, .ref (ad 0)), (1, .int v1), (2, .int v2), (3, .int v3), (4, .int v4), (5, .int v5)] → Ho (X6_countRows_182 m_rowsOfk m_intervalsk m_placesk v1 v2 v3 v4 v5) Q23 → W p l e rmX6_countRows s m args below meth c H locs 0 0 (MQ below (va_Qv (fun _ : Unit => True) (fun _ t => va_P (dC, dI) vwCl (wX6 cI cJ ad m_code m_n m_built m_length m_begin m_many m_leastOf m_sizeOf m_own m_bestRow m_tryRow m_keptRow m_otherRow m_row m_formRow m_allForms m_rowsOf' m_intervals' m_places' m_whole) t.heap ∧ vK (dC, dI) [(cI, .int), (cJ, .long)] t ∧ va_D (va_A (wX6 cI cJ ad m_code m_n m_built m_length m_begin m_many m_leastOf m_sizeOf m_own m_bestRow m_tryRow m_keptRow m_otherRow m_row m_formRow m_allForms m_rowsOf m_intervals m_places m_whole) sz) (wX6 cI cJ ad m_code m_n m_built m_length m_begin m_many m_leastOf m_sizeOf m_own m_bestRow m_tryRow m_keptRow m_otherRow m_row m_formRow m_allForms m_rowsOf' m_intervals' m_places' m_whole)) (va_A (wX6 cI cJ ad m_code m_n m_built m_length m_begin m_many m_leastOf m_sizeOf m_own m_bestRow m_tryRow m_keptRow m_otherRow m_row m_formRow m_allForms m_rowsOf m_intervals m_places m_whole) sz)) args s 0 0 A) (F0 m 182 ls []) := by
      intro m_intervalsk m_placesk v1 v2 v3 v4 v5 H locs ls hP hD hS hl h
      unfold X6_countRows_182 at h
      refine lv_iload hx hb dX6_countRows_182 (lv_at hl 5 rfl) ?_
      refine lv_if_eq (tgt := 226) hx hb dX6_countRows_184 (by decide) (fun q184 => ?_) (fun q184 => ?_)
      · have h := Ho_t h q184
        refine lv_iinc (v := v2 + (-1)) (lv' := [(2, .int (v2 + (-1))), (0, .ref (ad 0)), (1, .int v1), (3, .int v3), (4, .int v4), (5, .int v5)]) hx hb dX6_countRows_226 hl (k := 2) rfl rfl (by decide) rfl (fun ls hl => ?_)
        refine lv_goto (tgt := 23) hx hb dX6_countRows_229 (by decide) ?_
        exact hi23 _ (Ho_s h) _ _ ls hP hD hS (lv_sub hl [1, 2, 0, 3, 4] rfl)
      · have h := Ho_f h q184
        refine lv_iload_n hx hb dX6_countRows_187 rfl (lv_at hl 3 rfl) ?_
        refine lv_iconst (v := (1 : Int32)) hx hb dX6_countRows_188 (by decide) ?_
        refine lv_aload_n hx hb dX6_countRows_189 rfl (lv_at hl 0 rfl) ?_
        refine va_get (D := (dC, dI)) (ci := 6) (v := .ref (ad 13)) (C := RX6) (T := TX6) (N := 20) hx hb hts hiX6 hown hK.1 hP 0 rfl rfl 18 (by decide) hf50 (fun _ h9 => h9) rfl dX6_countRows_190 ?_
        refine lv_iload_n hx hb dX6_countRows_193 rfl (lv_at hl 2 rfl) ?_
        refine lv_iconst (v := (1 : Int32)) hx hb dX6_countRows_194 (by decide) ?_
        refine lv_iadd hx hb dX6_countRows_195 ?_
        obtain ⟨hz196, h⟩ := Ho_ix h
        refine va_iald hx hb hK.1 hP 13 0 rfl rfl hz196 dX6_countRows_196 ?_
        refine lv_ishl hx hb dX6_countRows_197 ?_
        refine lv_ior hx hb dX6_countRows_198 ?_
        refine lv_istore_n (lv' := [(3, .int (v3 ||| ((1 : Int32) <<< ((m_placesk (v2 + (1 : Int32)).toNatClampNeg) &&& 31)))), (0, .ref (ad 0)), (1, .int v1), (2, .int v2), (4, .int v4), (5, .int v5)]) hx hb dX6_countRows_199 rfl hl (by decide) rfl (fun ls hl => ?_)
        refine lv_iload hx hb dX6_countRows_200 (lv_at hl 4 rfl) ?_
        refine lv_iconst (v := (1 : Int32)) hx hb dX6_countRows_202 (by decide) ?_
        refine lv_aload_n hx hb dX6_countRows_203 rfl (lv_at hl 1 rfl) ?_
        refine va_get (D := (dC, dI)) (ci := 6) (v := .ref (ad 12)) (C := RX6) (T := TX6) (N := 20) hx hb hts hiX6 hown hK.1 hP 0 rfl rfl 17 (by decide) hf47 (fun _ h9 => h9) rfl dX6_countRows_204 ?_
        refine lv_iload_n hx hb dX6_countRows_207 rfl (lv_at hl 3 rfl) ?_
        obtain ⟨hz208, h⟩ := Ho_ix h
        refine va_iald hx hb hK.1 hP 12 0 rfl rfl hz208 dX6_countRows_208 ?_
        refine lv_ishl hx hb dX6_countRows_209 ?_
        refine lv_ior hx hb dX6_countRows_210 ?_
        refine lv_istore (lv' := [(4, .int (v4 ||| ((1 : Int32) <<< ((m_intervalsk v2.toNatClampNeg) &&& 31)))), (3, .int (v3 ||| ((1 : Int32) <<< ((m_placesk (v2 + (1 : Int32)).toNatClampNeg) &&& 31)))), (0, .ref (ad 0)), (1, .int v1), (2, .int v2), (5, .int v5)]) hx hb dX6_countRows_211 hl (by decide) rfl (fun ls hl => ?_)
        refine lv_iinc (v := v2 + 1) (lv' := [(2, .int (v2 + 1)), (4, .int (v4 ||| ((1 : Int32) <<< ((m_intervalsk v2.toNatClampNeg) &&& 31)))), (3, .int (v3 ||| ((1 : Int32) <<< ((m_placesk (v2 + (1 : Int32)).toNatClampNeg) &&& 31)))), (0, .ref (ad 0)), (1, .int v1), (5, .int v5)]) hx hb dX6_countRows_213 hl (k := 4) rfl rfl (by decide) rfl (fun ls hl => ?_)
        refine lv_aload_n hx hb dX6_countRows_216 rfl (lv_at hl 3 rfl) ?_
        refine va_get (D := (dC, dI)) (ci := 6) (v := .ref (ad 12)) (C := RX6) (T := TX6) (N := 20) hx hb hts hiX6 hown hK.1 hP 0 rfl rfl 17 (by decide) hf47 (fun _ h9 => h9) rfl dX6_countRows_217 ?_
        refine lv_iload_n hx hb dX6_countRows_220 rfl (lv_at hl 0 rfl) ?_
        refine lv_iconst (v := (0 : Int32)) hx hb dX6_countRows_221 (by decide) ?_
        obtain ⟨hz222, h⟩ := Ho_ix h
        refine va_iast hx hb hK.1 hP hD hS 12 0 rfl rfl hz222 dX6_countRows_222 (fun H locs hP hD hS => ?_)
        have hP : va_P (dC, dI) vwCl (wX6 cI cJ ad m_code m_n m_built m_length m_begin m_many m_leastOf m_sizeOf m_own m_bestRow m_tryRow m_keptRow m_otherRow m_row m_formRow m_allForms m_rowsOfk (upd m_intervalsk (v2 + 1).toNatClampNeg (0 : Int32)) m_placesk m_whole) H := hP
        have hD : va_D A (wX6 cI cJ ad m_code m_n m_built m_length m_begin m_many m_leastOf m_sizeOf m_own m_bestRow m_tryRow m_keptRow m_otherRow m_row m_formRow m_allForms m_rowsOfk (upd m_intervalsk (v2 + 1).toNatClampNeg (0 : Int32)) m_placesk m_whole) := hD
        refine lv_goto (tgt := 229) hx hb dX6_countRows_223 (by decide) ?_
        refine lv_goto (tgt := 23) hx hb dX6_countRows_229 (by decide) ?_
        exact hi23 _ (Ho_s h) _ _ ls hP hD hS (lv_sub hl [3, 4, 0, 2, 1] rfl)
    have J89 : ∀ (m_intervalsk : Nat → Int32) (m_placesk : Nat → Int32) (v1 : Int32) (v2 : Int32) (v3 : Int32) (v4 : Int32) (v5 : Int32) (H : Heap) (locs : List Loc) (ls : Array Slot), va_P (dC, dI) vwCl (wX6 cI cJ ad m_code m_n m_built m_length m_begin m_many m_leastOf m_sizeOf m_own m_bestRow m_tryRow m_keptRow m_otherRow m_row m_formRow m_allForms m_rowsOfk m_intervalsk m_placesk m_whole) H → va_D A (wX6 cI cJ ad m_code m_n m_built m_length m_begin m_many m_leastOf m_sizeOf m_own m_bestRow m_tryRow m_keptRow m_otherRow m_row m_formRow m_allForms m_rowsOfk m_intervalsk m_placesk m_whole) → va_S A s.heap H locs → lv_has ls 7 [(0, .ref (ad 0)), (1, .int v1), (2, .int v2), (3, .int v3), (4, .int v4), (5, .int v5)] → Ho ((X6_countRows_89_l m_n m_rowsOfk v1 v2 v3 v4 m_intervalsk m_placesk v5).bind (fun ex => X6_countRows_182 m_rowsOfk ex.1 ex.2.1 v1 v2 v3 v4 ex.2.2)) Q23 → W p l e rmX6_countRows s m args below meth c H locs 0 0 (MQ below (va_Qv (fun _ : Unit => True) (fun _ t => va_P (dC, dI) vwCl (wX6 cI cJ ad m_code m_n m_built m_length m_begin m_many m_leastOf m_sizeOf m_own m_bestRow m_tryRow m_keptRow m_otherRow m_row m_formRow m_allForms m_rowsOf' m_intervals' m_places' m_whole) t.heap ∧ vK (dC, dI) [(cI, .int), (cJ, .long)] t ∧ va_D (va_A (wX6 cI cJ ad m_code m_n m_built m_length m_begin m_many m_leastOf m_sizeOf m_own m_bestRow m_tryRow m_keptRow m_otherRow m_row m_formRow m_allForms m_rowsOf m_intervals m_places m_whole) sz) (wX6 cI cJ ad m_code m_n m_built m_length m_begin m_many m_leastOf m_sizeOf m_own m_bestRow m_tryRow m_keptRow m_otherRow m_row m_formRow m_allForms m_rowsOf' m_intervals' m_places' m_whole)) (va_A (wX6 cI cJ ad m_code m_n m_built m_length m_begin m_many m_leastOf m_sizeOf m_own m_bestRow m_tryRow m_keptRow m_otherRow m_row m_formRow m_allForms m_rowsOf m_intervals m_places m_whole) sz)) args s 0 0 A) (F0 m 89 ls []) := by
      intro m_intervalsk m_placesk v1 v2 v3 v4 v5 H locs ls hP hD hS hl h
      refine loop_use2 (fun z : (Nat → Int32) × (Nat → Int32) × Int32 => ∀ (H : Heap) (locs : List Loc) (ls : Array Slot), va_P (dC, dI) vwCl (wX6 cI cJ ad m_code m_n m_built m_length m_begin m_many m_leastOf m_sizeOf m_own m_bestRow m_tryRow m_keptRow m_otherRow m_row m_formRow m_allForms m_rowsOfk z.1 z.2.1 m_whole) H → va_D A (wX6 cI cJ ad m_code m_n m_built m_length m_begin m_many m_leastOf m_sizeOf m_own m_bestRow m_tryRow m_keptRow m_otherRow m_row m_formRow m_allForms m_rowsOfk z.1 z.2.1 m_whole) → va_S A s.heap H locs → lv_has ls 7 [(0, .ref (ad 0)), (1, .int v1), (2, .int v2), (3, .int v3), (4, .int v4), (5, .int z.2.2)] → W p l e rmX6_countRows s m args below meth c H locs 0 0 (MQ below (va_Qv (fun _ : Unit => True) (fun _ t => va_P (dC, dI) vwCl (wX6 cI cJ ad m_code m_n m_built m_length m_begin m_many m_leastOf m_sizeOf m_own m_bestRow m_tryRow m_keptRow m_otherRow m_row m_formRow m_allForms m_rowsOf' m_intervals' m_places' m_whole) t.heap ∧ vK (dC, dI) [(cI, .int), (cJ, .long)] t ∧ va_D (va_A (wX6 cI cJ ad m_code m_n m_built m_length m_begin m_many m_leastOf m_sizeOf m_own m_bestRow m_tryRow m_keptRow m_otherRow m_row m_formRow m_allForms m_rowsOf m_intervals m_places m_whole) sz) (wX6 cI cJ ad m_code m_n m_built m_length m_begin m_many m_leastOf m_sizeOf m_own m_bestRow m_tryRow m_keptRow m_otherRow m_row m_formRow m_allForms m_rowsOf' m_intervals' m_places' m_whole)) (va_A (wX6 cI cJ ad m_code m_n m_built m_length m_begin m_many m_leastOf m_sizeOf m_own m_bestRow m_tryRow m_keptRow m_otherRow m_row m_formRow m_allForms m_rowsOf m_intervals m_places m_whole) sz)) args s 0 0 A) (F0 m 89 ls [])) ?_ FU _ h H locs ls hP hD hS hl
      intro Q89 hi89 ho89 z h H locs ls hP hD hS hl
      obtain ⟨m_intervalsk, m_placesk, v5⟩ := z
      have h : Ho (X6_countRows_89_s m_n m_rowsOfk v1 v2 v3 v4 m_intervalsk m_placesk v5) Q89 := h
      unfold X6_countRows_89_s at h
      have hl : lv_has ls 7 [(0, .ref (ad 0)), (1, .int v1), (2, .int v2), (3, .int v3), (4, .int v4), (5, .int v5)] := hl
      have hP : va_P (dC, dI) vwCl (wX6 cI cJ ad m_code m_n m_built m_length m_begin m_many m_leastOf m_sizeOf m_own m_bestRow m_tryRow m_keptRow m_otherRow m_row m_formRow m_allForms m_rowsOfk m_intervalsk m_placesk m_whole) H := hP
      have hD : va_D A (wX6 cI cJ ad m_code m_n m_built m_length m_begin m_many m_leastOf m_sizeOf m_own m_bestRow m_tryRow m_keptRow m_otherRow m_row m_formRow m_allForms m_rowsOfk m_intervalsk m_placesk m_whole) := hD
      refine lv_iload_n hx hb dX6_countRows_89 rfl (lv_at hl 2 rfl) ?_
      refine lv_if_lt (tgt := 182) hx hb dX6_countRows_90 (by decide) (fun q90 => ?_) (fun q90 => ?_)
      · have h := Ho_t h q90
        have h := ho89 _ (Ho_s h)
        exact J182 m_intervalsk m_placesk v1 v2 v3 v4 v5 _ _ ls hP hD hS (lv_sub hl [0, 1, 2, 3, 4, 5] rfl) h
      · have h := Ho_f h q90
        refine lv_iload hx hb dX6_countRows_93 (lv_at hl 5 rfl) ?_
        refine lv_if_ne (tgt := 182) hx hb dX6_countRows_95 (by decide) (fun q95 => ?_) (fun q95 => ?_)
        · have h := Ho_f h q95
          have h := ho89 _ (Ho_s h)
          exact J182 m_intervalsk m_placesk v1 v2 v3 v4 v5 _ _ ls hP hD hS (lv_sub hl [0, 1, 2, 3, 4, 5] rfl) h
        · have h := Ho_t h q95
          refine lv_aload_n hx hb dX6_countRows_98 rfl (lv_at hl 0 rfl) ?_
          refine va_get (D := (dC, dI)) (ci := 6) (v := .ref (ad 12)) (C := RX6) (T := TX6) (N := 20) hx hb hts hiX6 hown hK.1 hP 0 rfl rfl 17 (by decide) hf47 (fun _ h9 => h9) rfl dX6_countRows_99 ?_
          refine lv_iload_n hx hb dX6_countRows_102 rfl (lv_at hl 2 rfl) ?_
          obtain ⟨hz103, h⟩ := Ho_ix h
          refine va_iald hx hb hK.1 hP 12 0 rfl rfl hz103 dX6_countRows_103 ?_
          refine lv_aload_n hx hb dX6_countRows_104 rfl (lv_at hl 0 rfl) ?_
          refine va_get (D := (dC, dI)) (ci := 6) (v := .int m_n) (C := RX6) (T := TX6) (N := 20) hx hb hts hiX6 hown hK.1 hP 0 rfl rfl 1 (by decide) hf7 (fun _ h9 => h9) rfl dX6_countRows_105 ?_
          refine lv_iconst (v := (1 : Int32)) hx hb dX6_countRows_108 (by decide) ?_
          refine lv_isub hx hb dX6_countRows_109 ?_
          refine lv_icmp_ge (tgt := 182) hx hb dX6_countRows_110 (by decide) (fun q110 => ?_) (fun q110 => ?_)
          · have h := Ho_t h q110
            have h := ho89 _ (Ho_s h)
            exact J182 m_intervalsk m_placesk v1 v2 v3 v4 v5 _ _ ls hP hD hS (lv_sub hl [0, 1, 2, 3, 4, 5] rfl) h
          · have h := Ho_f h q110
            refine lv_aload_n hx hb dX6_countRows_113 rfl (lv_at hl 0 rfl) ?_
            refine va_get (D := (dC, dI)) (ci := 6) (v := .ref (ad 12)) (C := RX6) (T := TX6) (N := 20) hx hb hts hiX6 hown hK.1 hP 0 rfl rfl 17 (by decide) hf47 (fun _ h9 => h9) rfl dX6_countRows_114 ?_
            refine lv_iload_n hx hb dX6_countRows_117 rfl (lv_at hl 2 rfl) ?_
            refine lv_dup2_11 hx hb dX6_countRows_118 rfl rfl ?_
            obtain ⟨hz119, h⟩ := Ho_ix h
            refine va_iald hx hb hK.1 hP 12 0 rfl rfl hz119 dX6_countRows_119 ?_
            refine lv_iconst (v := (1 : Int32)) hx hb dX6_countRows_120 (by decide) ?_
            refine lv_iadd hx hb dX6_countRows_121 ?_
            obtain ⟨hz122, h⟩ := Ho_ix h
            refine va_iast hx hb hK.1 hP hD hS 12 0 rfl rfl hz122 dX6_countRows_122 (fun H locs hP hD hS => ?_)
            have hP : va_P (dC, dI) vwCl (wX6 cI cJ ad m_code m_n m_built m_length m_begin m_many m_leastOf m_sizeOf m_own m_bestRow m_tryRow m_keptRow m_otherRow m_row m_formRow m_allForms m_rowsOfk (upd m_intervalsk v2.toNatClampNeg ((m_intervalsk v2.toNatClampNeg) + (1 : Int32))) m_placesk m_whole) H := hP
            have hD : va_D A (wX6 cI cJ ad m_code m_n m_built m_length m_begin m_many m_leastOf m_sizeOf m_own m_bestRow m_tryRow m_keptRow m_otherRow m_row m_formRow m_allForms m_rowsOfk (upd m_intervalsk v2.toNatClampNeg ((m_intervalsk v2.toNatClampNeg) + (1 : Int32))) m_placesk m_whole) := hD
            refine lv_aload_n hx hb dX6_countRows_123 rfl (lv_at hl 0 rfl) ?_
            refine va_get (D := (dC, dI)) (ci := 6) (v := .ref (ad 13)) (C := RX6) (T := TX6) (N := 20) hx hb hts hiX6 hown hK.1 hP 0 rfl rfl 18 (by decide) hf50 (fun _ h9 => h9) rfl dX6_countRows_124 ?_
            refine lv_iload_n hx hb dX6_countRows_127 rfl (lv_at hl 2 rfl) ?_
            obtain ⟨hz128, h⟩ := Ho_ix h
            refine va_iald hx hb hK.1 hP 13 0 rfl rfl hz128 dX6_countRows_128 ?_
            refine lv_aload_n hx hb dX6_countRows_129 rfl (lv_at hl 0 rfl) ?_
            refine va_get (D := (dC, dI)) (ci := 6) (v := .ref (ad 12)) (C := RX6) (T := TX6) (N := 20) hx hb hts hiX6 hown hK.1 hP 0 rfl rfl 17 (by decide) hf47 (fun _ h9 => h9) rfl dX6_countRows_130 ?_
            refine lv_iload_n hx hb dX6_countRows_133 rfl (lv_at hl 2 rfl) ?_
            obtain ⟨hz134, h⟩ := Ho_ix h
            refine va_iald hx hb hK.1 hP 12 0 rfl rfl hz134 dX6_countRows_134 ?_
            refine lv_iadd hx hb dX6_countRows_135 ?_
            refine lv_aload_n hx hb dX6_countRows_136 rfl (lv_at hl 0 rfl) ?_
            refine va_get (D := (dC, dI)) (ci := 6) (v := .int m_n) (C := RX6) (T := TX6) (N := 20) hx hb hts hiX6 hown hK.1 hP 0 rfl rfl 1 (by decide) hf7 (fun _ h9 => h9) rfl dX6_countRows_137 ?_
            obtain ⟨hz140, h⟩ := Ho_nz h
            refine lv_irem hx hb dX6_countRows_140 hz140 ?_
            refine lv_istore (lv' := [(6, .int (((m_placesk v2.toNatClampNeg) + ((upd m_intervalsk v2.toNatClampNeg ((m_intervalsk v2.toNatClampNeg) + (1 : Int32))) v2.toNatClampNeg)) - ((m_placesk v2.toNatClampNeg) + ((upd m_intervalsk v2.toNatClampNeg ((m_intervalsk v2.toNatClampNeg) + (1 : Int32))) v2.toNatClampNeg)) / m_n * m_n)), (0, .ref (ad 0)), (1, .int v1), (2, .int v2), (3, .int v3), (4, .int v4), (5, .int v5)]) hx hb dX6_countRows_141 hl (by decide) rfl (fun ls hl => ?_)
            refine lv_iload hx hb dX6_countRows_143 (lv_at hl 5 rfl) ?_
            refine lv_aload_n hx hb dX6_countRows_145 rfl (lv_at hl 1 rfl) ?_
            refine va_get (D := (dC, dI)) (ci := 6) (v := .ref (ad 12)) (C := RX6) (T := TX6) (N := 20) hx hb hts hiX6 hown hK.1 hP 0 rfl rfl 17 (by decide) hf47 (fun _ h9 => h9) rfl dX6_countRows_146 ?_
            refine lv_iload_n hx hb dX6_countRows_149 rfl (lv_at hl 3 rfl) ?_
            obtain ⟨hz150, h⟩ := Ho_ix h
            refine va_iald hx hb hK.1 hP 12 0 rfl rfl hz150 dX6_countRows_150 ?_
            refine lv_ishr hx hb dX6_countRows_151 ?_
            refine lv_iconst (v := (1 : Int32)) hx hb dX6_countRows_152 (by decide) ?_
            refine lv_iand hx hb dX6_countRows_153 ?_
            refine lv_if_ne (tgt := 179) hx hb dX6_countRows_154 (by decide) (fun q154 => ?_) (fun q154 => ?_)
            · have h := Ho_f h q154
              refine lv_goto (tgt := 89) hx hb dX6_countRows_179 (by decide) ?_
              exact hi89 _ (Ho_s h) _ _ ls hP hD hS (lv_sub hl [1, 2, 3, 4, 5, 6] rfl)
            · have h := Ho_t h q154
              refine lv_iload_n hx hb dX6_countRows_157 rfl (lv_at hl 4 rfl) ?_
              refine lv_iload hx hb dX6_countRows_158 (lv_at hl 0 rfl) ?_
              refine lv_ishr hx hb dX6_countRows_160 ?_
              refine lv_iconst (v := (1 : Int32)) hx hb dX6_countRows_161 (by decide) ?_
              refine lv_iand hx hb dX6_countRows_162 ?_
              refine lv_if_ne (tgt := 179) hx hb dX6_countRows_163 (by decide) (fun q163 => ?_) (fun q163 => ?_)
              · have h := Ho_f h q163
                refine lv_goto (tgt := 89) hx hb dX6_countRows_179 (by decide) ?_
                exact hi89 _ (Ho_s h) _ _ ls hP hD hS (lv_sub hl [1, 2, 3, 4, 5, 6] rfl)
              · have h := Ho_t h q163
                refine lv_iconst (v := (1 : Int32)) hx hb dX6_countRows_166 (by decide) ?_
                refine lv_istore (lv' := [(5, .int (1 : Int32)), (6, .int (((m_placesk v2.toNatClampNeg) + ((upd m_intervalsk v2.toNatClampNeg ((m_intervalsk v2.toNatClampNeg) + (1 : Int32))) v2.toNatClampNeg)) - ((m_placesk v2.toNatClampNeg) + ((upd m_intervalsk v2.toNatClampNeg ((m_intervalsk v2.toNatClampNeg) + (1 : Int32))) v2.toNatClampNeg)) / m_n * m_n)), (0, .ref (ad 0)), (1, .int v1), (2, .int v2), (3, .int v3), (4, .int v4)]) hx hb dX6_countRows_167 hl (by decide) rfl (fun ls hl => ?_)
                refine lv_aload_n hx hb dX6_countRows_169 rfl (lv_at hl 2 rfl) ?_
                refine va_get (D := (dC, dI)) (ci := 6) (v := .ref (ad 13)) (C := RX6) (T := TX6) (N := 20) hx hb hts hiX6 hown hK.1 hP 0 rfl rfl 18 (by decide) hf50 (fun _ h9 => h9) rfl dX6_countRows_170 ?_
                refine lv_iload_n hx hb dX6_countRows_173 rfl (lv_at hl 4 rfl) ?_
                refine lv_iconst (v := (1 : Int32)) hx hb dX6_countRows_174 (by decide) ?_
                refine lv_iadd hx hb dX6_countRows_175 ?_
                refine lv_iload hx hb dX6_countRows_176 (lv_at hl 1 rfl) ?_
                obtain ⟨hz178, h⟩ := Ho_ix h
                refine va_iast hx hb hK.1 hP hD hS 13 0 rfl rfl hz178 dX6_countRows_178 (fun H locs hP hD hS => ?_)
                have hP : va_P (dC, dI) vwCl (wX6 cI cJ ad m_code m_n m_built m_length m_begin m_many m_leastOf m_sizeOf m_own m_bestRow m_tryRow m_keptRow m_otherRow m_row m_formRow m_allForms m_rowsOfk (upd m_intervalsk v2.toNatClampNeg ((m_intervalsk v2.toNatClampNeg) + (1 : Int32))) (upd m_placesk (v2 + (1 : Int32)).toNatClampNeg (((m_placesk v2.toNatClampNeg) + ((upd m_intervalsk v2.toNatClampNeg ((m_intervalsk v2.toNatClampNeg) + (1 : Int32))) v2.toNatClampNeg)) - ((m_placesk v2.toNatClampNeg) + ((upd m_intervalsk v2.toNatClampNeg ((m_intervalsk v2.toNatClampNeg) + (1 : Int32))) v2.toNatClampNeg)) / m_n * m_n)) m_whole) H := hP
                have hD : va_D A (wX6 cI cJ ad m_code m_n m_built m_length m_begin m_many m_leastOf m_sizeOf m_own m_bestRow m_tryRow m_keptRow m_otherRow m_row m_formRow m_allForms m_rowsOfk (upd m_intervalsk v2.toNatClampNeg ((m_intervalsk v2.toNatClampNeg) + (1 : Int32))) (upd m_placesk (v2 + (1 : Int32)).toNatClampNeg (((m_placesk v2.toNatClampNeg) + ((upd m_intervalsk v2.toNatClampNeg ((m_intervalsk v2.toNatClampNeg) + (1 : Int32))) v2.toNatClampNeg)) - ((m_placesk v2.toNatClampNeg) + ((upd m_intervalsk v2.toNatClampNeg ((m_intervalsk v2.toNatClampNeg) + (1 : Int32))) v2.toNatClampNeg)) / m_n * m_n)) m_whole) := hD
                refine lv_goto (tgt := 89) hx hb dX6_countRows_179 (by decide) ?_
                exact hi89 _ (Ho_s h) _ _ ls hP hD hS (lv_sub hl [2, 3, 4, 5, 6, 0] rfl)
    have J43 : ∀ (m_intervalsk : Nat → Int32) (m_placesk : Nat → Int32) (v1 : Int32) (v2 : Int32) (v3 : Int32) (v4 : Int32) (H : Heap) (locs : List Loc) (ls : Array Slot), va_P (dC, dI) vwCl (wX6 cI cJ ad m_code m_n m_built m_length m_begin m_many m_leastOf m_sizeOf m_own m_bestRow m_tryRow m_keptRow m_otherRow m_row m_formRow m_allForms m_rowsOfk m_intervalsk m_placesk m_whole) H → va_D A (wX6 cI cJ ad m_code m_n m_built m_length m_begin m_many m_leastOf m_sizeOf m_own m_bestRow m_tryRow m_keptRow m_otherRow m_row m_formRow m_allForms m_rowsOfk m_intervalsk m_placesk m_whole) → va_S A s.heap H locs → lv_has ls 7 [(0, .ref (ad 0)), (1, .int v1), (2, .int v2), (3, .int v3), (4, .int v4)] → Ho (X6_countRows_43 m_n m_rowsOfk m_intervalsk m_placesk v1 v2 v3 v4) Q23 → W p l e rmX6_countRows s m args below meth c H locs 0 0 (MQ below (va_Qv (fun _ : Unit => True) (fun _ t => va_P (dC, dI) vwCl (wX6 cI cJ ad m_code m_n m_built m_length m_begin m_many m_leastOf m_sizeOf m_own m_bestRow m_tryRow m_keptRow m_otherRow m_row m_formRow m_allForms m_rowsOf' m_intervals' m_places' m_whole) t.heap ∧ vK (dC, dI) [(cI, .int), (cJ, .long)] t ∧ va_D (va_A (wX6 cI cJ ad m_code m_n m_built m_length m_begin m_many m_leastOf m_sizeOf m_own m_bestRow m_tryRow m_keptRow m_otherRow m_row m_formRow m_allForms m_rowsOf m_intervals m_places m_whole) sz) (wX6 cI cJ ad m_code m_n m_built m_length m_begin m_many m_leastOf m_sizeOf m_own m_bestRow m_tryRow m_keptRow m_otherRow m_row m_formRow m_allForms m_rowsOf' m_intervals' m_places' m_whole)) (va_A (wX6 cI cJ ad m_code m_n m_built m_length m_begin m_many m_leastOf m_sizeOf m_own m_bestRow m_tryRow m_keptRow m_otherRow m_row m_formRow m_allForms m_rowsOf m_intervals m_places m_whole) sz)) args s 0 0 A) (F0 m 43 ls []) := by
      intro m_intervalsk m_placesk v1 v2 v3 v4 H locs ls hP hD hS hl h
      unfold X6_countRows_43 at h
      refine lv_iload_n hx hb dX6_countRows_43 rfl (lv_at hl 2 rfl) ?_
      refine lv_if_lt (tgt := 86) hx hb dX6_countRows_44 (by decide) (fun q44 => ?_) (fun q44 => ?_)
      · have h := Ho_t h q44
        refine lv_iconst (v := (0 : Int32)) hx hb dX6_countRows_86 (by decide) ?_
        refine lv_istore (lv' := [(5, .int (0 : Int32)), (0, .ref (ad 0)), (1, .int v1), (2, .int v2), (3, .int v3), (4, .int v4)]) hx hb dX6_countRows_87 hl (by decide) rfl (fun ls hl => ?_)
        exact J89 m_intervalsk m_placesk v1 v2 v3 v4 (0 : Int32) _ _ ls hP hD hS (lv_sub hl [1, 2, 3, 4, 5, 0] rfl) h
      · have h := Ho_f h q44
        refine lv_aload_n hx hb dX6_countRows_47 rfl (lv_at hl 0 rfl) ?_
        refine va_get (D := (dC, dI)) (ci := 6) (v := .ref (ad 12)) (C := RX6) (T := TX6) (N := 20) hx hb hts hiX6 hown hK.1 hP 0 rfl rfl 17 (by decide) hf47 (fun _ h9 => h9) rfl dX6_countRows_48 ?_
        refine lv_iload_n hx hb dX6_countRows_51 rfl (lv_at hl 2 rfl) ?_
        obtain ⟨hz52, h⟩ := Ho_ix h
        refine va_iald hx hb hK.1 hP 12 0 rfl rfl hz52 dX6_countRows_52 ?_
        refine lv_if_le (tgt := 86) hx hb dX6_countRows_53 (by decide) (fun q53 => ?_) (fun q53 => ?_)
        · have h := Ho_t h q53
          refine lv_iconst (v := (0 : Int32)) hx hb dX6_countRows_86 (by decide) ?_
          refine lv_istore (lv' := [(5, .int (0 : Int32)), (0, .ref (ad 0)), (1, .int v1), (2, .int v2), (3, .int v3), (4, .int v4)]) hx hb dX6_countRows_87 hl (by decide) rfl (fun ls hl => ?_)
          exact J89 m_intervalsk m_placesk v1 v2 v3 v4 (0 : Int32) _ _ ls hP hD hS (lv_sub hl [1, 2, 3, 4, 5, 0] rfl) h
        · have h := Ho_f h q53
          refine lv_iload_n hx hb dX6_countRows_56 rfl (lv_at hl 3 rfl) ?_
          refine lv_iconst (v := (1 : Int32)) hx hb dX6_countRows_57 (by decide) ?_
          refine lv_aload_n hx hb dX6_countRows_58 rfl (lv_at hl 0 rfl) ?_
          refine va_get (D := (dC, dI)) (ci := 6) (v := .ref (ad 13)) (C := RX6) (T := TX6) (N := 20) hx hb hts hiX6 hown hK.1 hP 0 rfl rfl 18 (by decide) hf50 (fun _ h9 => h9) rfl dX6_countRows_59 ?_
          refine lv_iload_n hx hb dX6_countRows_62 rfl (lv_at hl 2 rfl) ?_
          refine lv_iconst (v := (1 : Int32)) hx hb dX6_countRows_63 (by decide) ?_
          refine lv_iadd hx hb dX6_countRows_64 ?_
          obtain ⟨hz65, h⟩ := Ho_ix h
          refine va_iald hx hb hK.1 hP 13 0 rfl rfl hz65 dX6_countRows_65 ?_
          refine lv_ishl hx hb dX6_countRows_66 ?_
          refine lv_iconst (v := (-1 : Int32)) hx hb dX6_countRows_67 (by decide) ?_
          refine lv_ixor hx hb dX6_countRows_68 ?_
          refine lv_iand hx hb dX6_countRows_69 ?_
          refine lv_istore_n (lv' := [(3, .int (v3 &&& (((1 : Int32) <<< ((m_placesk (v2 + (1 : Int32)).toNatClampNeg) &&& 31)) ^^^ (-1 : Int32)))), (0, .ref (ad 0)), (1, .int v1), (2, .int v2), (4, .int v4)]) hx hb dX6_countRows_70 rfl hl (by decide) rfl (fun ls hl => ?_)
          refine lv_iload hx hb dX6_countRows_71 (lv_at hl 4 rfl) ?_
          refine lv_iconst (v := (1 : Int32)) hx hb dX6_countRows_73 (by decide) ?_
          refine lv_aload_n hx hb dX6_countRows_74 rfl (lv_at hl 1 rfl) ?_
          refine va_get (D := (dC, dI)) (ci := 6) (v := .ref (ad 12)) (C := RX6) (T := TX6) (N := 20) hx hb hts hiX6 hown hK.1 hP 0 rfl rfl 17 (by decide) hf47 (fun _ h9 => h9) rfl dX6_countRows_75 ?_
          refine lv_iload_n hx hb dX6_countRows_78 rfl (lv_at hl 3 rfl) ?_
          obtain ⟨hz79, h⟩ := Ho_ix h
          refine va_iald hx hb hK.1 hP 12 0 rfl rfl hz79 dX6_countRows_79 ?_
          refine lv_ishl hx hb dX6_countRows_80 ?_
          refine lv_iconst (v := (-1 : Int32)) hx hb dX6_countRows_81 (by decide) ?_
          refine lv_ixor hx hb dX6_countRows_82 ?_
          refine lv_iand hx hb dX6_countRows_83 ?_
          refine lv_istore (lv' := [(4, .int (v4 &&& (((1 : Int32) <<< ((m_intervalsk v2.toNatClampNeg) &&& 31)) ^^^ (-1 : Int32)))), (3, .int (v3 &&& (((1 : Int32) <<< ((m_placesk (v2 + (1 : Int32)).toNatClampNeg) &&& 31)) ^^^ (-1 : Int32)))), (0, .ref (ad 0)), (1, .int v1), (2, .int v2)]) hx hb dX6_countRows_84 hl (by decide) rfl (fun ls hl => ?_)
          refine lv_iconst (v := (0 : Int32)) hx hb dX6_countRows_86 (by decide) ?_
          refine lv_istore (lv' := [(5, .int (0 : Int32)), (4, .int (v4 &&& (((1 : Int32) <<< ((m_intervalsk v2.toNatClampNeg) &&& 31)) ^^^ (-1 : Int32)))), (3, .int (v3 &&& (((1 : Int32) <<< ((m_placesk (v2 + (1 : Int32)).toNatClampNeg) &&& 31)) ^^^ (-1 : Int32)))), (0, .ref (ad 0)), (1, .int v1), (2, .int v2)]) hx hb dX6_countRows_87 hl (by decide) rfl (fun ls hl => ?_)
          exact J89 m_intervalsk m_placesk v1 v2 (v3 &&& (((1 : Int32) <<< ((m_placesk (v2 + (1 : Int32)).toNatClampNeg) &&& 31)) ^^^ (-1 : Int32))) (v4 &&& (((1 : Int32) <<< ((m_intervalsk v2.toNatClampNeg) &&& 31)) ^^^ (-1 : Int32))) (0 : Int32) _ _ ls hP hD hS (lv_sub hl [3, 4, 5, 2, 1, 0] rfl) h
    refine lv_iload_n hx hb dX6_countRows_23 rfl (lv_at hl 2 rfl) ?_
    refine lv_if_lt (tgt := 232) hx hb dX6_countRows_24 (by decide) (fun q24 => ?_) (fun q24 => ?_)
    · have h := Ho_t h q24
      have h := ho23 _ (Ho_s h)
      exact J232 m_rowsOfk m_intervalsk m_placesk v1 _ _ ls hP hD hS (lv_sub hl [0, 1] rfl) h
    · have h := Ho_f h q24
      refine lv_iload_n hx hb dX6_countRows_27 rfl (lv_at hl 2 rfl) ?_
      refine lv_aload_n hx hb dX6_countRows_28 rfl (lv_at hl 0 rfl) ?_
      refine va_get (D := (dC, dI)) (ci := 6) (v := .int m_n) (C := RX6) (T := TX6) (N := 20) hx hb hts hiX6 hown hK.1 hP 0 rfl rfl 1 (by decide) hf7 (fun _ h9 => h9) rfl dX6_countRows_29 ?_
      refine lv_iconst (v := (1 : Int32)) hx hb dX6_countRows_32 (by decide) ?_
      refine lv_isub hx hb dX6_countRows_33 ?_
      refine lv_icmp_ne (tgt := 43) hx hb dX6_countRows_34 (by decide) (fun q34 => ?_) (fun q34 => ?_)
      · have h := Ho_f h q34
        exact J43 m_intervalsk m_placesk v1 v2 v3 v4 _ _ ls hP hD hS (lv_sub hl [0, 1, 2, 3, 4] rfl) h
      · have h := Ho_t h q34
        refine lv_iinc (v := v1 + 1) (lv' := [(1, .int (v1 + 1)), (0, .ref (ad 0)), (2, .int v2), (3, .int v3), (4, .int v4)]) hx hb dX6_countRows_37 hl (k := 1) rfl rfl (by decide) rfl (fun ls hl => ?_)
        refine lv_iinc (v := v2 + (-1)) (lv' := [(2, .int (v2 + (-1))), (1, .int (v1 + 1)), (0, .ref (ad 0)), (3, .int v3), (4, .int v4)]) hx hb dX6_countRows_40 hl (k := 2) rfl rfl (by decide) rfl (fun ls hl => ?_)
        exact J43 m_intervalsk m_placesk (v1 + 1) (v2 + (-1)) v3 v4 _ _ ls hP hD hS (lv_sub hl [2, 1, 0, 3, 4] rfl) h
  refine lv_iconst (v := (0 : Int32)) hx hb dX6_countRows_0 (by decide) ?_
  refine lv_istore_n (lv' := [(1, .int (0 : Int32)), (0, .ref (ad 0))]) hx hb dX6_countRows_1 rfl hl (by decide) rfl (fun ls hl => ?_)
  refine lv_iconst (v := (0 : Int32)) hx hb dX6_countRows_2 (by decide) ?_
  refine lv_istore_n (lv' := [(2, .int (0 : Int32)), (1, .int (0 : Int32)), (0, .ref (ad 0))]) hx hb dX6_countRows_3 rfl hl (by decide) rfl (fun ls hl => ?_)
  refine lv_iconst (v := (1 : Int32)) hx hb dX6_countRows_4 (by decide) ?_
  refine lv_istore_n (lv' := [(3, .int (1 : Int32)), (2, .int (0 : Int32)), (1, .int (0 : Int32)), (0, .ref (ad 0))]) hx hb dX6_countRows_5 rfl hl (by decide) rfl (fun ls hl => ?_)
  refine lv_iconst (v := (0 : Int32)) hx hb dX6_countRows_6 (by decide) ?_
  refine lv_istore (lv' := [(4, .int (0 : Int32)), (3, .int (1 : Int32)), (2, .int (0 : Int32)), (1, .int (0 : Int32)), (0, .ref (ad 0))]) hx hb dX6_countRows_7 hl (by decide) rfl (fun ls hl => ?_)
  refine lv_aload_n hx hb dX6_countRows_9 rfl (lv_at hl 4 rfl) ?_
  refine va_get (D := (dC, dI)) (ci := 6) (v := .ref (ad 13)) (C := RX6) (T := TX6) (N := 20) hx hb hts hiX6 hown hK.1 hP 0 rfl rfl 18 (by decide) hf50 (fun _ h9 => h9) rfl dX6_countRows_10 ?_
  refine lv_iconst (v := (0 : Int32)) hx hb dX6_countRows_13 (by decide) ?_
  refine lv_iconst (v := (0 : Int32)) hx hb dX6_countRows_14 (by decide) ?_
  refine va_iast hx hb hK.1 hP hD hS 13 0 rfl rfl (vp_in_lit (by decide) (by decide)) dX6_countRows_15 (fun H locs hP hD hS => ?_)
  have hP : va_P (dC, dI) vwCl (wX6 cI cJ ad m_code m_n m_built m_length m_begin m_many m_leastOf m_sizeOf m_own m_bestRow m_tryRow m_keptRow m_otherRow m_row m_formRow m_allForms m_rowsOf m_intervals (upd m_places (0 : Int32).toNatClampNeg (0 : Int32)) m_whole) H := hP
  have hD : va_D A (wX6 cI cJ ad m_code m_n m_built m_length m_begin m_many m_leastOf m_sizeOf m_own m_bestRow m_tryRow m_keptRow m_otherRow m_row m_formRow m_allForms m_rowsOf m_intervals (upd m_places (0 : Int32).toNatClampNeg (0 : Int32)) m_whole) := hD
  refine lv_aload_n hx hb dX6_countRows_16 rfl (lv_at hl 4 rfl) ?_
  refine va_get (D := (dC, dI)) (ci := 6) (v := .ref (ad 12)) (C := RX6) (T := TX6) (N := 20) hx hb hts hiX6 hown hK.1 hP 0 rfl rfl 17 (by decide) hf47 (fun _ h9 => h9) rfl dX6_countRows_17 ?_
  refine lv_iconst (v := (0 : Int32)) hx hb dX6_countRows_20 (by decide) ?_
  refine lv_iconst (v := (0 : Int32)) hx hb dX6_countRows_21 (by decide) ?_
  refine va_iast hx hb hK.1 hP hD hS 12 0 rfl rfl (vp_in_lit (by decide) (by decide)) dX6_countRows_22 (fun H locs hP hD hS => ?_)
  have hP : va_P (dC, dI) vwCl (wX6 cI cJ ad m_code m_n m_built m_length m_begin m_many m_leastOf m_sizeOf m_own m_bestRow m_tryRow m_keptRow m_otherRow m_row m_formRow m_allForms m_rowsOf (upd m_intervals (0 : Int32).toNatClampNeg (0 : Int32)) (upd m_places (0 : Int32).toNatClampNeg (0 : Int32)) m_whole) H := hP
  have hD : va_D A (wX6 cI cJ ad m_code m_n m_built m_length m_begin m_many m_leastOf m_sizeOf m_own m_bestRow m_tryRow m_keptRow m_otherRow m_row m_formRow m_allForms m_rowsOf (upd m_intervals (0 : Int32).toNatClampNeg (0 : Int32)) (upd m_places (0 : Int32).toNatClampNeg (0 : Int32)) m_whole) := hD
  exact J23 m_rowsOf (upd m_intervals (0 : Int32).toNatClampNeg (0 : Int32)) (upd m_places (0 : Int32).toNatClampNeg (0 : Int32)) (0 : Int32) (0 : Int32) (1 : Int32) (0 : Int32) _ _ ls hP hD hS (lv_sub hl [4, 3, 2, 1, 0] rfl) h
