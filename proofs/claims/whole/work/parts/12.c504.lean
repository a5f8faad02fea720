abbrev rmX5_clear : Room := { frames := 1, cells := 0, slots := 0, locals := 20 }
set_option maxHeartbeats 4000000 in
set_option maxRecDepth 100000 in
theorem c_X5_clear (l : Launch) (dC : Nat → ClassId) (dI : Nat → Nat → Nat) (cI cJ : ClassId) (ad : Nat → Nat) (sz : Nat) (n : Int32) (ev : Int32) (ld0 : Int32) (ld1 : Int32) (ld2 : Int32) (tk : Int32) (mb : Int32) (f0 : Nat → Int32) (f1 : Nat → Int32) (f2 : Nat → Int32) (fr : Nat → Int32) (fu : Nat → Int32) (r : Int32) (tk' : Int32) (mb' : Int32) (hF : FX5_clear tk mb = some (r, tk', mb')) : Met l yX5_clear wsX5_clear rmX5_clear (rwP (dC, dI) [(cI, .int), (cJ, .long)] sz (wX5 cI cJ ad n ev ld0 ld1 ld2 tk mb f0 f1 f2 fr fu) [.ref (ad 0)]) (va_Qi (fun (x : Int32) (_ : Unit) => x = r) (fun _ t => va_P (dC, dI) vwCl (wX5 cI cJ ad n ev ld0 ld1 ld2 tk' mb' f0 f1 f2 fr fu) t.heap ∧ vK (dC, dI) [(cI, .int), (cJ, .long)] t ∧ va_D (va_A (wX5 cI cJ ad n ev ld0 ld1 ld2 tk mb f0 f1 f2 fr fu) sz) (wX5 cI cJ ad n ev ld0 ld1 ld2 tk' mb' f0 f1 f2 fr fu)) (va_A (wX5 cI cJ ad n ev ld0 ld1 ld2 tk mb f0 f1 f2 fr fu) sz)) 0 0 (va_A (wX5 cI cJ ad n ev ld0 ld1 ld2 tk mb f0 f1 f2 fr fu) sz) := by
  refine rw_start (cc := cX5_clear) (maxL := 2) (ret := (some .int)) (by decide) rfl (Nat.le_of_ble_eq_true rfl) ?_
  intro p e s m args below meth c ls A H locs hx hb hml hr hlk hown hts hsz hP hK hD hA hS hAe hl
  have hown : s.vm.findClass RX5 = some m.cls := hown
  have hl : lv_has ls 2 [(0, .ref (ad 0))] := hl
  have h : Ho (FX5_clear tk mb) (fun x => x = (r, tk', mb')) := ⟨_, hF, rfl⟩
  unfold FX5_clear at h
  have QI : ∀ {v0 : Int32} {tk9 : Int32} {mb9 : Int32} {t : State}, (v0, tk9, mb9) = (r, tk', mb') → va_P (dC, dI) vwCl (wX5 cI cJ ad n ev ld0 ld1 ld2 tk9 mb9 f0 f1 f2 fr fu) t.heap → vK (dC, dI) [(cI, .int), (cJ, .long)] t → va_D A (wX5 cI cJ ad n ev ld0 ld1 ld2 tk9 mb9 f0 f1 f2 fr fu) → va_F A s t → (va_Qi (fun (x : Int32) (_ : Unit) => x = r) (fun _ t => va_P (dC, dI) vwCl (wX5 cI cJ ad n ev ld0 ld1 ld2 tk' mb' f0 f1 f2 fr fu) t.heap ∧ vK (dC, dI) [(cI, .int), (cJ, .long)] t ∧ va_D (va_A (wX5 cI cJ ad n ev ld0 ld1 ld2 tk mb f0 f1 f2 fr fu) sz) (wX5 cI cJ ad n ev ld0 ld1 ld2 tk' mb' f0 f1 f2 fr fu)) (va_A (wX5 cI cJ ad n ev ld0 ld1 ld2 tk mb f0 f1 f2 fr fu) sz)) args s (.returned (some (.int v0))) t := by
    intro v0 tk9 mb9 t e9 q1 q2 q3 q4
    cases e9
    subst hAe
    exact ⟨⟨_, (), rfl, rfl, q1, q2, q3⟩, q4⟩
  have hfix : CallFix p m c cX5_clear 2 s args wsX5_clear RX5 := ⟨hx, hb, hml, hown, hts⟩
  have hiX5 : ∀ w ∈ u_ws RX5 TX5 7, w ∈ wsX5_clear := by decide +kernel
  have hf43 := hts (.fieldLink RX5 43 "RowClasses" "row" "LRowClasses$Row;") (by decide +kernel)
  refine lv_aload_n hx hb dX5_clear_0 rfl (lv_at hl 0 rfl) ?_
  refine va_get (D := (dC, dI)) (ci := 5) (v := .ref (ad 6)) (C := RX5) (T := TX5) (N := 7) hx hb hts hiX5 hown hK.1 hP 0 rfl rfl 5 (by decide) hf43 (fun _ h9 => h9) rfl dX5_clear_1 ?_
  obtain ⟨r4, hc4, h⟩ := Ho_b h
  have hPc : va_P (dC, dI) vwCl [((ad 6), .inr (3, [.ref (ad 1), .ref (ad 11), .int tk, .int mb])), ((ad 1), .inr (0, [.int n, .int ev])), ((ad 11), .inl (cI, 12, .inl fr))] H := hP.sub [6, 1, 11] rfl
  refine cs_i (va_runV (As := []) (rest := []) hfix (c_X3_length l dC dI cI cJ (ad 6) (ad 1) (ad 11) tk mb n ev fr _ hc4) (cwV 0 hts gX5_clear_X3_length rfl rfl rfl (by decide +kernel) ⟨by decide, by decide⟩) (roP.preV hK hPc (ci := 3) rfl rfl) rfl rfl hl.1 rfl (lv_room (Nat.le_of_ble_eq_true rfl)) dX5_clear_4 ⟨Nat.zero_le _, Nat.zero_le _⟩) ?_
  refine lv_istore_n (lv' := [(1, .int r4), (0, .ref (ad 0))]) hx hb dX5_clear_7 rfl hl (by decide) rfl (fun ls hl => ?_)
  refine lv_aload_n hx hb dX5_clear_8 rfl (lv_at hl 1 rfl) ?_
  refine va_get (D := (dC, dI)) (ci := 5) (v := .ref (ad 6)) (C := RX5) (T := TX5) (N := 7) hx hb hts hiX5 hown hK.1 hP 0 rfl rfl 5 (by decide) hf43 (fun _ h9 => h9) rfl dX5_clear_9 ?_
  obtain ⟨tk_12, mb_12, hc12, h⟩ := Ho_b2 h
  have hPc : va_P (dC, dI) vwCl [((ad 6), .inr (3, [.ref (ad 1), .ref (ad 11), .int tk, .int mb])), ((ad 1), .inr (0, [.int n, .int ev])), ((ad 11), .inl (cI, 12, .inl fr))] H := hP.sub [6, 1, 11] rfl
  have hDc : va_D A [((ad 6), .inr (3, [.ref (ad 1), .ref (ad 11), .int tk, .int mb])), ((ad 1), .inr (0, [.int n, .int ev])), ((ad 11), .inl (cI, 12, .inl fr))] := hD.sub [6, 1, 11] (by decide) rfl
  have hFc := va_free (wc := [((ad 6), .inr (3, [.ref (ad 1), .ref (ad 11), .int tk, .int mb])), ((ad 1), .inr (0, [.int n, .int ev])), ((ad 11), .inl (cI, 12, .inl fr))]) hD hS hA [6, 1, 11] rfl
  refine va_callv (va_runV (As := []) (rest := []) hfix (c_X3_empty l dC dI cI cJ (ad 6) (ad 1) (ad 11) H.size tk mb n ev fr _ _ hc12) (cwV 0 hts gX5_clear_X3_empty rfl rfl rfl (by decide +kernel) ⟨by decide, by decide⟩) (rwP.preV hK hPc hDc rfl (ci := 3) rfl rfl) rfl rfl hl.1 rfl (lv_room (Nat.le_of_ble_eq_true rfl)) dX5_clear_12 ⟨Nat.zero_le _, Nat.zero_le _⟩) hS (fun q _ h => hFc q h) hFc (fun u t H1 locs ht hvm hw hB hz1 hk1 hS => ?_)
  obtain ⟨hP1, -, hD1⟩ := hB
  rw [ht] at hP1
  obtain ⟨hP, hD⟩ := va_join (wr := [((ad 0), .inr (5, [.ref (ad 1), .ref (ad 2), .ref (ad 3), .ref (ad 4), .ref (ad 5), .ref (ad 6), .ref (ad 7)])), ((ad 2), .inr (2, [.ref (ad 1)])), ((ad 3), .inr (1, [.ref (ad 1), .int 0, .ref (ad 8), .int ld0])), ((ad 4), .inr (1, [.ref (ad 1), .int 1, .ref (ad 9), .int ld1])), ((ad 5), .inr (1, [.ref (ad 1), .int 2, .ref (ad 10), .int ld2])), ((ad 7), .inr (4, [.ref (ad 12)])), ((ad 8), .inl (cI, 352, .inl f0)), ((ad 9), .inl (cI, 352, .inl f1)), ((ad 10), .inl (cI, 352, .inl f2)), ((ad 12), .inl (cI, 13, .inl fu))]) (w1 := [((ad 6), .inr (3, [.ref (ad 1), .ref (ad 11), .int tk_12, .int mb_12])), ((ad 1), .inr (0, [.int n, .int ev])), ((ad 11), .inl (cI, 12, .inl fr))]) hP hD [6, 1, 11] [0, 2, 3, 4, 5, 7, 8, 9, 10, 12] rfl rfl (by decide) (by decide) hk1 hFc hP1 hD1
  generalize H1 = H at hP hS ⊢
  have hP : va_P (dC, dI) vwCl (wX5 cI cJ ad n ev ld0 ld1 ld2 tk_12 mb_12 f0 f1 f2 fr fu) H := hP.sub [0, 11, 1, 2, 3, 4, 10, 5, 6, 7, 8, 12, 9] rfl
  have hD : va_D A (wX5 cI cJ ad n ev ld0 ld1 ld2 tk_12 mb_12 f0 f1 f2 fr fu) := hD.sub [0, 11, 1, 2, 3, 4, 10, 5, 6, 7, 8, 12, 9] (by decide) rfl
  refine lv_iload_n hx hb dX5_clear_15 rfl (lv_at hl 0 rfl) ?_
  exact W.iret hx hb hr (fun t ht hW => QI (Ho_e h) (by rw [ht]; exact hP) (hK.warm hW) hD (hS.F ht)) hS.2.2 dX5_clear_16 hlk
abbrev rmX5_isFormKind : Room := { frames := 0, cells := 0, slots := 0, locals := 0 }
set_option maxHeartbeats 4000000 in
set_option maxRecDepth 100000 in
theorem c_X5_isFormKind (l : Launch) (dC : Nat → ClassId) (dI : Nat → Nat → Nat) (cI cJ : ClassId) (x0 : Int32) (r : Int32) (hF : FX5_isFormKind x0 = some r) : Met l yX5_isFormKind wsX5_isFormKind rmX5_isFormKind (roP (dC, dI) [(cI, .int), (cJ, .long)] [] [.int x0]) (vp_Si (fun x => x = r)) 0 0 (fun _ => False) := by
  refine ro_start (cc := cX5_isFormKind) (maxL := 1) (ret := (some .boolean)) (by decide) rfl (Nat.le_of_ble_eq_true rfl) ?_
  intro p e s m args below meth c ls hx hb hml hr hlk hown hts hP hK hl
  have hown : s.vm.findClass RX5 = some m.cls := hown
  have hl : lv_has ls 1 [(0, .int x0)] := hl
  have h : Ho (FX5_isFormKind x0) (fun x => x = r) := ⟨r, hF, rfl⟩
  unfold FX5_isFormKind at h
  have hfix : CallFix p m c cX5_isFormKind 1 s args wsX5_isFormKind RX5 := ⟨hx, hb, hml, hown, hts⟩
  refine lv_iload_n hx hb dX5_isFormKind_0 rfl (lv_at hl 0 rfl) ?_
  refine lv_if_lt (tgt := 13) hx hb dX5_isFormKind_1 (by decide) (fun q1 => ?_) (fun q1 => ?_)
  · have h := Ho_t h q1
    refine lv_iconst (v := (0 : Int32)) hx hb dX5_isFormKind_13 (by decide) ?_
    exact W.zret (ty := .boolean) hx hb hr rfl (fun t ht _ => ro_Si (Ho_e h) ht) ro_nil dX5_isFormKind_14 hlk
  · have h := Ho_f h q1
    refine lv_iload_n hx hb dX5_isFormKind_4 rfl (lv_at hl 0 rfl) ?_
    refine lv_iconst (v := (3 : Int32)) hx hb dX5_isFormKind_5 (by decide) ?_
    refine lv_icmp_gt (tgt := 13) hx hb dX5_isFormKind_6 (by decide) (fun q6 => ?_) (fun q6 => ?_)
    · have h := Ho_t h q6
      refine lv_iconst (v := (0 : Int32)) hx hb dX5_isFormKind_13 (by decide) ?_
      exact W.zret (ty := .boolean) hx hb hr rfl (fun t ht _ => ro_Si (Ho_e h) ht) ro_nil dX5_isFormKind_14 hlk
    · have h := Ho_f h q6
      refine lv_iconst (v := (1 : Int32)) hx hb dX5_isFormKind_9 (by decide) ?_
      refine lv_goto (tgt := 14) hx hb dX5_isFormKind_10 (by decide) ?_
      exact W.zret (ty := .boolean) hx hb hr rfl (fun t ht _ => ro_Si (Ho_e h) ht) ro_nil dX5_isFormKind_14 hlk
abbrev rmX5_form : Room := { frames := 3, cells := 0, slots := 0, locals := 68 }
set_option maxHeartbeats 4000000 in
set_option maxRecDepth 100000 in
theorem c_X5_form (l : Launch) (dC : Nat → ClassId) (dI : Nat → Nat → Nat) (cI cJ : ClassId) (ad : Nat → Nat) (n : Int32) (ev : Int32) (ld0 : Int32) (ld1 : Int32) (ld2 : Int32) (tk : Int32) (mb : Int32) (f0 : Nat → Int32) (f1 : Nat → Int32) (f2 : Nat → Int32) (fr : Nat → Int32) (fu : Nat → Int32) (x1 : Int32) (x2 : Int32) (x3 : Int32) (r : Int32) (hF : FX5_form n tk fr x1 x2 x3 = some r) : Met l yX5_form wsX5_form rmX5_form (roP (dC, dI) [(cI, .int), (cJ, .long)] (wX5 cI cJ ad n ev ld0 ld1 ld2 tk mb f0 f1 f2 fr fu) [.ref (ad 0), .int x1, .int x2, .int x3]) (vp_Si (fun x => x = r)) 0 0 (fun _ => False) := by
  refine ro_start (cc := cX5_form) (maxL := 4) (ret := (some .int)) (by decide) rfl (Nat.le_of_ble_eq_true rfl) ?_
  intro p e s m args below meth c ls hx hb hml hr hlk hown hts hP hK hl
  have hown : s.vm.findClass RX5 = some m.cls := hown
  have hl : lv_has ls 4 [(0, .ref (ad 0)), (1, .int x1), (2, .int x2), (3, .int x3)] := hl
  have h : Ho (FX5_form n tk fr x1 x2 x3) (fun x => x = r) := ⟨r, hF, rfl⟩
  unfold FX5_form at h
  have hfix : CallFix p m c cX5_form 4 s args wsX5_form RX5 := ⟨hx, hb, hml, hown, hts⟩
  have hiX5 : ∀ w ∈ u_ws RX5 TX5 7, w ∈ wsX5_form := by decide +kernel
  have hf10 := hts (.fieldLink RX5 10 "RowClasses" "circle" "LRowClasses$Circle;") (by decide +kernel)
  have hf43 := hts (.fieldLink RX5 43 "RowClasses" "row" "LRowClasses$Row;") (by decide +kernel)
  refine lv_iload_n hx hb dX5_form_0 rfl (lv_at hl 1 rfl) ?_
  obtain ⟨r1, hc1, h⟩ := Ho_b h
  refine cs_i (va_runS (As := [.int x1]) (rest := []) hfix (c_X5_isFormKind l dC dI cI cJ  x1 _ hc1) (va_cwS 1 hts gX5_form_X5_isFormKind rfl rfl rfl (by decide +kernel) ⟨by decide, by decide⟩) (roP.preS hK va_Pnil) rfl rfl hl.1 rfl (lv_room (Nat.le_of_ble_eq_true rfl)) dX5_form_1 ⟨Nat.zero_le _, Nat.zero_le _⟩) ?_
  refine lv_if_eq (tgt := 18) hx hb dX5_form_4 (by decide) (fun q4 => ?_) (fun q4 => ?_)
  · have h := Ho_t h q4
    refine lv_bipush (v := (-2 : Int32)) hx hb dX5_form_18 (by decide) ?_
    exact W.iret hx hb hr (fun t ht _ => ro_Si (Ho_e h) ht) ro_nil dX5_form_20 hlk
  · have h := Ho_f h q4
    refine lv_aload_n hx hb dX5_form_7 rfl (lv_at hl 0 rfl) ?_
    refine va_get (D := (dC, dI)) (ci := 5) (v := .ref (ad 1)) (C := RX5) (T := TX5) (N := 7) hx hb hts hiX5 hown hK.1 hP 0 rfl rfl 0 (by decide) hf10 (fun _ h9 => h9) rfl dX5_form_8 ?_
    refine lv_iload_n hx hb dX5_form_11 rfl (lv_at hl 2 rfl) ?_
    obtain ⟨r12, hc12, h⟩ := Ho_b h
    have hPc : va_P (dC, dI) vwCl [((ad 1), .inr (0, [.int n, .int ev]))] s.heap := hP.sub [1] rfl
    refine cs_i (va_runV (As := [.int x2]) (rest := []) hfix (c_X0_hasStep l dC dI cI cJ (ad 1) n ev x2 _ hc12) (cwV 1 hts gX5_form_X0_hasStep rfl rfl rfl (by decide +kernel) ⟨by decide, by decide⟩) (roP.preV hK hPc (ci := 0) rfl rfl) rfl rfl hl.1 rfl (lv_room (Nat.le_of_ble_eq_true rfl)) dX5_form_12 ⟨Nat.zero_le _, Nat.zero_le _⟩) ?_
    refine lv_if_ne (tgt := 21) hx hb dX5_form_15 (by decide) (fun q15 => ?_) (fun q15 => ?_)
    · have h := Ho_f h q15
      refine lv_aload_n hx hb dX5_form_21 rfl (lv_at hl 0 rfl) ?_
      refine va_get (D := (dC, dI)) (ci := 5) (v := .ref (ad 6)) (C := RX5) (T := TX5) (N := 7) hx hb hts hiX5 hown hK.1 hP 0 rfl rfl 5 (by decide) hf43 (fun _ h9 => h9) rfl dX5_form_22 ?_
      obtain ⟨r25, hc25, h⟩ := Ho_b h
      have hPc : va_P (dC, dI) vwCl [((ad 6), .inr (3, [.ref (ad 1), .ref (ad 11), .int tk, .int mb])), ((ad 1), .inr (0, [.int n, .int ev])), ((ad 11), .inl (cI, 12, .inl fr))] s.heap := hP.sub [6, 1, 11] rfl
      refine cs_i (va_runV (As := []) (rest := []) hfix (c_X3_isWhole l dC dI cI cJ (ad 6) (ad 1) (ad 11) tk mb n ev fr _ hc25) (cwV 0 hts gX5_form_X3_isWhole rfl rfl rfl (by decide +kernel) ⟨by decide, by decide⟩) (roP.preV hK hPc (ci := 3) rfl rfl) rfl rfl hl.1 rfl (lv_room (Nat.le_of_ble_eq_true rfl)) dX5_form_25 ⟨Nat.zero_le _, Nat.zero_le _⟩) ?_
      refine lv_if_ne (tgt := 34) hx hb dX5_form_28 (by decide) (fun q28 => ?_) (fun q28 => ?_)
      · have h := Ho_f h q28
        refine lv_aload_n hx hb dX5_form_34 rfl (lv_at hl 0 rfl) ?_
        refine va_get (D := (dC, dI)) (ci := 5) (v := .ref (ad 6)) (C := RX5) (T := TX5) (N := 7) hx hb hts hiX5 hown hK.1 hP 0 rfl rfl 5 (by decide) hf43 (fun _ h9 => h9) rfl dX5_form_35 ?_
        refine lv_iload_n hx hb dX5_form_38 rfl (lv_at hl 3 rfl) ?_
        obtain ⟨r39, hc39, h⟩ := Ho_b h
        have hPc : va_P (dC, dI) vwCl [((ad 6), .inr (3, [.ref (ad 1), .ref (ad 11), .int tk, .int mb])), ((ad 1), .inr (0, [.int n, .int ev])), ((ad 11), .inl (cI, 12, .inl fr))] s.heap := hP.sub [6, 1, 11] rfl
        refine cs_i (va_runV (As := [.int x3]) (rest := []) hfix (c_X3_hasPlace l dC dI cI cJ (ad 6) (ad 1) (ad 11) tk mb n ev fr x3 _ hc39) (cwV 1 hts gX5_form_X3_hasPlace rfl rfl rfl (by decide +kernel) ⟨by decide, by decide⟩) (roP.preV hK hPc (ci := 3) rfl rfl) rfl rfl hl.1 rfl (lv_room (Nat.le_of_ble_eq_true rfl)) dX5_form_39 ⟨Nat.zero_le _, Nat.zero_le _⟩) ?_
        refine lv_if_ne (tgt := 47) hx hb dX5_form_42 (by decide) (fun q42 => ?_) (fun q42 => ?_)
        · have h := Ho_f h q42
          refine lv_aload_n hx hb dX5_form_47 rfl (lv_at hl 0 rfl) ?_
          refine va_get (D := (dC, dI)) (ci := 5) (v := .ref (ad 6)) (C := RX5) (T := TX5) (N := 7) hx hb hts hiX5 hown hK.1 hP 0 rfl rfl 5 (by decide) hf43 (fun _ h9 => h9) rfl dX5_form_48 ?_
          refine lv_iload_n hx hb dX5_form_51 rfl (lv_at hl 1 rfl) ?_
          refine lv_iload_n hx hb dX5_form_52 rfl (lv_at hl 2 rfl) ?_
          refine lv_iload_n hx hb dX5_form_53 rfl (lv_at hl 3 rfl) ?_
          obtain ⟨r54, hc54, h⟩ := Ho_b h
          have hPc : va_P (dC, dI) vwCl [((ad 6), .inr (3, [.ref (ad 1), .ref (ad 11), .int tk, .int mb])), ((ad 1), .inr (0, [.int n, .int ev])), ((ad 11), .inl (cI, 12, .inl fr))] s.heap := hP.sub [6, 1, 11] rfl
          refine cs_i (va_runV (As := [.int x1, .int x2, .int x3]) (rest := []) hfix (c_X3_formStep l dC dI cI cJ (ad 6) (ad 1) (ad 11) tk mb n ev fr x1 x2 x3 _ hc54) (cwV 3 hts gX5_form_X3_formStep rfl rfl rfl (by decide +kernel) ⟨by decide, by decide⟩) (roP.preV hK hPc (ci := 3) rfl rfl) rfl rfl hl.1 rfl (lv_room (Nat.le_of_ble_eq_true rfl)) dX5_form_54 ⟨Nat.zero_le _, Nat.zero_le _⟩) ?_
          exact W.iret hx hb hr (fun t ht _ => ro_Si (Ho_e h) ht) ro_nil dX5_form_57 hlk
        · have h := Ho_t h q42
          refine lv_iconst (v := (-1 : Int32)) hx hb dX5_form_45 (by decide) ?_
          exact W.iret hx hb hr (fun t ht _ => ro_Si (Ho_e h) ht) ro_nil dX5_form_46 hlk
      · have h := Ho_t h q28
        refine lv_bipush (v := (-3 : Int32)) hx hb dX5_form_31 (by decide) ?_
        exact W.iret hx hb hr (fun t ht _ => ro_Si (Ho_e h) ht) ro_nil dX5_form_33 hlk
    · have h := Ho_t h q15
      refine lv_bipush (v := (-2 : Int32)) hx hb dX5_form_18 (by decide) ?_
      exact W.iret hx hb hr (fun t ht _ => ro_Si (Ho_e h) ht) ro_nil dX5_form_20 hlk
abbrev rmX5_forms : Room := { frames := 4, cells := 0, slots := 0, locals := 91 }
set_option maxHeartbeats 4000000 in
set_option maxRecDepth 100000 in
theorem c_X5_forms (l : Launch) (dC : Nat → ClassId) (dI : Nat → Nat → Nat) (cI cJ : ClassId) (ad : Nat → Nat) (n : Int32) (ev : Int32) (ld0 : Int32) (ld1 : Int32) (ld2 : Int32) (tk : Int32) (mb : Int32) (f0 : Nat → Int32) (f1 : Nat → Int32) (f2 : Nat → Int32) (fr : Nat → Int32) (fu : Nat → Int32) (r : Int32) (hF : FX5_forms n tk fr = some r) : Met l yX5_forms wsX5_forms rmX5_forms (roP (dC, dI) [(cI, .int), (cJ, .long)] (wX5 cI cJ ad n ev ld0 ld1 ld2 tk mb f0 f1 f2 fr fu) [.ref (ad 0)]) (vp_Si (fun x => x = r)) 0 0 (fun _ => False) := by
  refine ro_start (cc := cX5_forms) (maxL := 5) (ret := (some .int)) (by decide) rfl (Nat.le_of_ble_eq_true rfl) ?_
  intro p e s m args below meth c ls hx hb hml hr hlk hown hts hP hK hl
  have hown : s.vm.findClass RX5 = some m.cls := hown
  have hl : lv_has ls 5 [(0, .ref (ad 0))] := hl
  have h : Ho (FX5_forms n tk fr) (fun x => x = r) := ⟨r, hF, rfl⟩
  unfold FX5_forms at h
  have hfix : CallFix p m c cX5_forms 5 s args wsX5_forms RX5 := ⟨hx, hb, hml, hown, hts⟩
  have hiX5 : ∀ w ∈ u_ws RX5 TX5 7, w ∈ wsX5_forms := by decide +kernel
  have hf10 := hts (.fieldLink RX5 10 "RowClasses" "circle" "LRowClasses$Circle;") (by decide +kernel)
  have hf43 := hts (.fieldLink RX5 43 "RowClasses" "row" "LRowClasses$Row;") (by decide +kernel)
  have J70 : ∀ (v1 : Int32) (v2 : Int32) (ls : Array Slot), lv_has ls 5 [(1, .int v1), (2, .int v2)] → Ho (X5_forms_70 v1 v2) (fun x => x = r) → W p l e rmX5_forms s m args below meth c s.heap [] 0 0 (MQ below (vp_Si (fun x => x = r)) args s 0 0 (fun _ => False)) (F0 m 70 ls []) := by
    intro v1 v2 ls hl h
    unfold X5_forms_70 at h
    refine lv_iload_n hx hb dX5_forms_70 rfl (lv_at hl 0 rfl) ?_
    refine lv_iload_n hx hb dX5_forms_71 rfl (lv_at hl 1 rfl) ?_
    obtain ⟨r72, hc72, h⟩ := Ho_b h
    refine cs_i (va_runS (As := [.int v1, .int v2]) (rest := []) hfix (c_X5_quotient l dC dI cI cJ  v1 v2 _ hc72) (va_cwS 2 hts gX5_forms_X5_quotient rfl rfl rfl (by decide +kernel) ⟨by decide, by decide⟩) (roP.preS hK va_Pnil) rfl rfl hl.1 rfl (lv_room (Nat.le_of_ble_eq_true rfl)) dX5_forms_72 ⟨Nat.zero_le _, Nat.zero_le _⟩) ?_
    exact W.iret hx hb hr (fun t ht _ => ro_Si (Ho_e h) ht) ro_nil dX5_forms_75 hlk
  have J19 : ∀ (v1 : Int32) (v2 : Int32) (v3 : Int32) (ls : Array Slot), lv_has ls 5 [(0, .ref (ad 0)), (1, .int v1), (2, .int v2), (3, .int v3)] → Ho ((X5_forms_19_l n tk fr v1 v2 v3).bind (fun ex => X5_forms_70 ex.1 ex.2)) (fun x => x = r) → W p l e rmX5_forms s m args below meth c s.heap [] 0 0 (MQ below (vp_Si (fun x => x = r)) args s 0 0 (fun _ => False)) (F0 m 19 ls []) := by
    intro v1 v2 v3 ls hl h
    refine loop_use2 (fun z : Int32 × Int32 × Int32 => ∀ (ls : Array Slot), lv_has ls 5 [(0, .ref (ad 0)), (1, .int z.1), (2, .int z.2.1), (3, .int z.2.2)] → W p l e rmX5_forms s m args below meth c s.heap [] 0 0 (MQ below (vp_Si (fun x => x = r)) args s 0 0 (fun _ => False)) (F0 m 19 ls [])) ?_ FU _ h ls hl
    intro Q19 hi19 ho19 z h ls hl
    obtain ⟨v1, v2, v3⟩ := z
    have h : Ho (X5_forms_19_s n tk fr v1 v2 v3) Q19 := h
    unfold X5_forms_19_s at h
    have hl : lv_has ls 5 [(0, .ref (ad 0)), (1, .int v1), (2, .int v2), (3, .int v3)] := hl
    have J64 : ∀ (v1 : Int32) (v2 : Int32) (v3 : Int32) (ls : Array Slot), lv_has ls 5 [(0, .ref (ad 0)), (1, .int v1), (2, .int v2), (3, .int v3)] → Ho (X5_forms_64 v1 v2 v3) Q19 → W p l e rmX5_forms s m args below meth c s.heap [] 0 0 (MQ below (vp_Si (fun x => x = r)) args s 0 0 (fun _ => False)) (F0 m 64 ls []) := by
      intro v1 v2 v3 ls hl h
      unfold X5_forms_64 at h
      refine lv_iinc (v := v3 + 1) (lv' := [(3, .int (v3 + 1)), (0, .ref (ad 0)), (1, .int v1), (2, .int v2)]) hx hb dX5_forms_64 hl (k := 3) rfl rfl (by decide) rfl (fun ls hl => ?_)
      refine lv_goto (tgt := 19) hx hb dX5_forms_67 (by decide) ?_
      exact hi19 _ (Ho_s h) ls (lv_sub hl [1, 2, 3, 0] rfl)
    have J27 : ∀ (v1 : Int32) (v2 : Int32) (v3 : Int32) (v4 : Int32) (ls : Array Slot), lv_has ls 5 [(0, .ref (ad 0)), (1, .int v1), (2, .int v2), (3, .int v3), (4, .int v4)] → Ho ((X5_forms_27_l n tk fr v3 v1 v2 v4).bind (fun ex => X5_forms_64 ex.1 ex.2 v3)) Q19 → W p l e rmX5_forms s m args below meth c s.heap [] 0 0 (MQ below (vp_Si (fun x => x = r)) args s 0 0 (fun _ => False)) (F0 m 27 ls []) := by
      intro v1 v2 v3 v4 ls hl h
      refine loop_use2 (fun z : Int32 × Int32 × Int32 => ∀ (ls : Array Slot), lv_has ls 5 [(0, .ref (ad 0)), (1, .int z.1), (2, .int z.2.1), (3, .int v3), (4, .int z.2.2)] → W p l e rmX5_forms s m args below meth c s.heap [] 0 0 (MQ below (vp_Si (fun x => x = r)) args s 0 0 (fun _ => False)) (F0 m 27 ls [])) ?_ FU _ h ls hl
      intro Q27 hi27 ho27 z h ls hl
      obtain ⟨v1, v2, v4⟩ := z
      have h : Ho (X5_forms_27_s n tk fr v3 v1 v2 v4) Q27 := h
      unfold X5_forms_27_s at h
      have hl : lv_has ls 5 [(0, .ref (ad 0)), (1, .int v1), (2, .int v2), (3, .int v3), (4, .int v4)] := hl
      refine lv_iload hx hb dX5_forms_27 (lv_at hl 4 rfl) ?_
      refine lv_aload_n hx hb dX5_forms_29 rfl (lv_at hl 0 rfl) ?_
      refine va_get (D := (dC, dI)) (ci := 5) (v := .ref (ad 1)) (C := RX5) (T := TX5) (N := 7) hx hb hts hiX5 hown hK.1 hP 0 rfl rfl 0 (by decide) hf10 (fun _ h9 => h9) rfl dX5_forms_30 ?_
      obtain ⟨r33, hc33, h⟩ := Ho_b h
      have hPc : va_P (dC, dI) vwCl [((ad 1), .inr (0, [.int n, .int ev]))] s.heap := hP.sub [1] rfl
      refine cs_i (va_runV (As := []) (rest := [.int v4]) hfix (c_X0_count l dC dI cI cJ (ad 1) n ev _ hc33) (cwV 0 hts gX5_forms_X0_count rfl rfl rfl (by decide +kernel) ⟨by decide, by decide⟩) (roP.preV hK hPc (ci := 0) rfl rfl) rfl rfl hl.1 rfl (lv_room (Nat.le_of_ble_eq_true rfl)) dX5_forms_33 ⟨Nat.zero_le _, Nat.zero_le _⟩) ?_
      refine lv_icmp_ge (tgt := 64) hx hb dX5_forms_36 (by decide) (fun q36 => ?_) (fun q36 => ?_)
      · have h := Ho_t h q36
        have h := ho27 _ (Ho_s h)
        exact J64 v1 v2 v3 ls (lv_sub hl [0, 1, 2, 3] rfl) h
      · have h := Ho_f h q36
        refine lv_iinc (v := v1 + 1) (lv' := [(1, .int (v1 + 1)), (0, .ref (ad 0)), (2, .int v2), (3, .int v3), (4, .int v4)]) hx hb dX5_forms_39 hl (k := 1) rfl rfl (by decide) rfl (fun ls hl => ?_)
        refine lv_aload_n hx hb dX5_forms_42 rfl (lv_at hl 1 rfl) ?_
        refine va_get (D := (dC, dI)) (ci := 5) (v := .ref (ad 6)) (C := RX5) (T := TX5) (N := 7) hx hb hts hiX5 hown hK.1 hP 0 rfl rfl 5 (by decide) hf43 (fun _ h9 => h9) rfl dX5_forms_43 ?_
        refine lv_iload_n hx hb dX5_forms_46 rfl (lv_at hl 3 rfl) ?_
        refine lv_iload hx hb dX5_forms_47 (lv_at hl 4 rfl) ?_
        obtain ⟨r49, hc49, h⟩ := Ho_b h
        have hPc : va_P (dC, dI) vwCl [((ad 6), .inr (3, [.ref (ad 1), .ref (ad 11), .int tk, .int mb])), ((ad 1), .inr (0, [.int n, .int ev])), ((ad 11), .inl (cI, 12, .inl fr))] s.heap := hP.sub [6, 1, 11] rfl
        refine cs_i (va_runV (As := [.int v3, .int v4]) (rest := []) hfix (c_X3_isFormItself l dC dI cI cJ (ad 6) (ad 1) (ad 11) tk mb n ev fr v3 v4 _ hc49) (cwV 2 hts gX5_forms_X3_isFormItself rfl rfl rfl (by decide +kernel) ⟨by decide, by decide⟩) (roP.preV hK hPc (ci := 3) rfl rfl) rfl rfl hl.1 rfl (lv_room (Nat.le_of_ble_eq_true rfl)) dX5_forms_49 ⟨Nat.zero_le _, Nat.zero_le _⟩) ?_
        refine lv_if_eq (tgt := 58) hx hb dX5_forms_52 (by decide) (fun q52 => ?_) (fun q52 => ?_)
        · have h := Ho_t h q52
          refine lv_iinc (v := v4 + 1) (lv' := [(4, .int (v4 + 1)), (1, .int (v1 + 1)), (0, .ref (ad 0)), (2, .int v2), (3, .int v3)]) hx hb dX5_forms_58 hl (k := 4) rfl rfl (by decide) rfl (fun ls hl => ?_)
          refine lv_goto (tgt := 27) hx hb dX5_forms_61 (by decide) ?_
          exact hi27 _ (Ho_s h) ls (lv_sub hl [2, 1, 3, 4, 0] rfl)
        · have h := Ho_f h q52
          refine lv_iinc (v := v2 + 1) (lv' := [(2, .int (v2 + 1)), (1, .int (v1 + 1)), (0, .ref (ad 0)), (3, .int v3), (4, .int v4)]) hx hb dX5_forms_55 hl (k := 2) rfl rfl (by decide) rfl (fun ls hl => ?_)
          refine lv_iinc (v := v4 + 1) (lv' := [(4, .int (v4 + 1)), (2, .int (v2 + 1)), (1, .int (v1 + 1)), (0, .ref (ad 0)), (3, .int v3)]) hx hb dX5_forms_58 hl (k := 4) rfl rfl (by decide) rfl (fun ls hl => ?_)
          refine lv_goto (tgt := 27) hx hb dX5_forms_61 (by decide) ?_
          exact hi27 _ (Ho_s h) ls (lv_sub hl [3, 2, 1, 4, 0] rfl)
    refine lv_iload_n hx hb dX5_forms_19 rfl (lv_at hl 3 rfl) ?_
    refine lv_iconst (v := (3 : Int32)) hx hb dX5_forms_20 (by decide) ?_
    refine lv_icmp_gt (tgt := 70) hx hb dX5_forms_21 (by decide) (fun q21 => ?_) (fun q21 => ?_)
    · have h := Ho_t h q21
      have h := ho19 _ (Ho_s h)
      exact J70 v1 v2 ls (lv_sub hl [1, 2] rfl) h
    · have h := Ho_f h q21
      refine lv_iconst (v := (0 : Int32)) hx hb dX5_forms_24 (by decide) ?_
      refine lv_istore (lv' := [(4, .int (0 : Int32)), (0, .ref (ad 0)), (1, .int v1), (2, .int v2), (3, .int v3)]) hx hb dX5_forms_25 hl (by decide) rfl (fun ls hl => ?_)
      exact J27 v1 v2 v3 (0 : Int32) ls (lv_sub hl [1, 2, 3, 4, 0] rfl) h
  refine lv_aload_n hx hb dX5_forms_0 rfl (lv_at hl 0 rfl) ?_
  refine va_get (D := (dC, dI)) (ci := 5) (v := .ref (ad 6)) (C := RX5) (T := TX5) (N := 7) hx hb hts hiX5 hown hK.1 hP 0 rfl rfl 5 (by decide) hf43 (fun _ h9 => h9) rfl dX5_forms_1 ?_
  obtain ⟨r4, hc4, h⟩ := Ho_b h
  have hPc : va_P (dC, dI) vwCl [((ad 6), .inr (3, [.ref (ad 1), .ref (ad 11), .int tk, .int mb])), ((ad 1), .inr (0, [.int n, .int ev])), ((ad 11), .inl (cI, 12, .inl fr))] s.heap := hP.sub [6, 1, 11] rfl
  refine cs_i (va_runV (As := []) (rest := []) hfix (c_X3_isWhole l dC dI cI cJ (ad 6) (ad 1) (ad 11) tk mb n ev fr _ hc4) (cwV 0 hts gX5_forms_X3_isWhole rfl rfl rfl (by decide +kernel) ⟨by decide, by decide⟩) (roP.preV hK hPc (ci := 3) rfl rfl) rfl rfl hl.1 rfl (lv_room (Nat.le_of_ble_eq_true rfl)) dX5_forms_4 ⟨Nat.zero_le _, Nat.zero_le _⟩) ?_
  refine lv_if_ne (tgt := 13) hx hb dX5_forms_7 (by decide) (fun q7 => ?_) (fun q7 => ?_)
  · have h := Ho_f h q7
    refine lv_iconst (v := (0 : Int32)) hx hb dX5_forms_13 (by decide) ?_
    refine lv_istore_n (lv' := [(1, .int (0 : Int32)), (0, .ref (ad 0))]) hx hb dX5_forms_14 rfl hl (by decide) rfl (fun ls hl => ?_)
    refine lv_iconst (v := (0 : Int32)) hx hb dX5_forms_15 (by decide) ?_
    refine lv_istore_n (lv' := [(2, .int (0 : Int32)), (1, .int (0 : Int32)), (0, .ref (ad 0))]) hx hb dX5_forms_16 rfl hl (by decide) rfl (fun ls hl => ?_)
    refine lv_iconst (v := (0 : Int32)) hx hb dX5_forms_17 (by decide) ?_
    refine lv_istore_n (lv' := [(3, .int (0 : Int32)), (2, .int (0 : Int32)), (1, .int (0 : Int32)), (0, .ref (ad 0))]) hx hb dX5_forms_18 rfl hl (by decide) rfl (fun ls hl => ?_)
    exact J19 (0 : Int32) (0 : Int32) (0 : Int32) ls (lv_sub hl [3, 2, 1, 0] rfl) h
  · have h := Ho_t h q7
    refine lv_bipush (v := (-3 : Int32)) hx hb dX5_forms_10 (by decide) ?_
    exact W.iret hx hb hr (fun t ht _ => ro_Si (Ho_e h) ht) ro_nil dX5_forms_12 hlk
abbrev rmX5_table : Room := { frames := 3, cells := 0, slots := 0, locals := 68 }
set_option maxHeartbeats 4000000 in
set_option maxRecDepth 100000 in
theorem c_X5_table (l : Launch) (dC : Nat → ClassId) (dI : Nat → Nat → Nat) (cI cJ : ClassId) (ad : Nat → Nat) (n : Int32) (ev : Int32) (ld0 : Int32) (ld1 : Int32) (ld2 : Int32) (tk : Int32) (mb : Int32) (f0 : Nat → Int32) (f1 : Nat → Int32) (f2 : Nat → Int32) (fr : Nat → Int32) (fu : Nat → Int32) (x1 : Int32) (x2 : Int32) (r : Int32) (hF : FX5_table n tk fr x1 x2 = some r) : Met l yX5_table wsX5_table rmX5_table (roP (dC, dI) [(cI, .int), (cJ, .long)] (wX5 cI cJ ad n ev ld0 ld1 ld2 tk mb f0 f1 f2 fr fu) [.ref (ad 0), .int x1, .int x2]) (vp_Si (fun x => x = r)) 0 0 (fun _ => False) := by
  refine ro_start (cc := cX5_table) (maxL := 3) (ret := (some .int)) (by decide) rfl (Nat.le_of_ble_eq_true rfl) ?_
  intro p e s m args below meth c ls hx hb hml hr hlk hown hts hP hK hl
  have hown : s.vm.findClass RX5 = some m.cls := hown
  have hl : lv_has ls 3 [(0, .ref (ad 0)), (1, .int x1), (2, .int x2)] := hl
  have h : Ho (FX5_table n tk fr x1 x2) (fun x => x = r) := ⟨r, hF, rfl⟩
  unfold FX5_table at h
  have hfix : CallFix p m c cX5_table 3 s args wsX5_table RX5 := ⟨hx, hb, hml, hown, hts⟩
  have hiX5 : ∀ w ∈ u_ws RX5 TX5 7, w ∈ wsX5_table := by decide +kernel
  have hf43 := hts (.fieldLink RX5 43 "RowClasses" "row" "LRowClasses$Row;") (by decide +kernel)
  refine lv_aload_n hx hb dX5_table_0 rfl (lv_at hl 0 rfl) ?_
  refine va_get (D := (dC, dI)) (ci := 5) (v := .ref (ad 6)) (C := RX5) (T := TX5) (N := 7) hx hb hts hiX5 hown hK.1 hP 0 rfl rfl 5 (by decide) hf43 (fun _ h9 => h9) rfl dX5_table_1 ?_
  obtain ⟨r4, hc4, h⟩ := Ho_b h
  have hPc : va_P (dC, dI) vwCl [((ad 6), .inr (3, [.ref (ad 1), .ref (ad 11), .int tk, .int mb])), ((ad 1), .inr (0, [.int n, .int ev])), ((ad 11), .inl (cI, 12, .inl fr))] s.heap := hP.sub [6, 1, 11] rfl
  refine cs_i (va_runV (As := []) (rest := []) hfix (c_X3_isWhole l dC dI cI cJ (ad 6) (ad 1) (ad 11) tk mb n ev fr _ hc4) (cwV 0 hts gX5_table_X3_isWhole rfl rfl rfl (by decide +kernel) ⟨by decide, by decide⟩) (roP.preV hK hPc (ci := 3) rfl rfl) rfl rfl hl.1 rfl (lv_room (Nat.le_of_ble_eq_true rfl)) dX5_table_4 ⟨Nat.zero_le _, Nat.zero_le _⟩) ?_
  refine lv_if_ne (tgt := 13) hx hb dX5_table_7 (by decide) (fun q7 => ?_) (fun q7 => ?_)
  · have h := Ho_f h q7
    refine lv_aload_n hx hb dX5_table_13 rfl (lv_at hl 0 rfl) ?_
    refine va_get (D := (dC, dI)) (ci := 5) (v := .ref (ad 6)) (C := RX5) (T := TX5) (N := 7) hx hb hts hiX5 hown hK.1 hP 0 rfl rfl 5 (by decide) hf43 (fun _ h9 => h9) rfl dX5_table_14 ?_
    refine lv_iload_n hx hb dX5_table_17 rfl (lv_at hl 1 rfl) ?_
    obtain ⟨r18, hc18, h⟩ := Ho_b h
    have hPc : va_P (dC, dI) vwCl [((ad 6), .inr (3, [.ref (ad 1), .ref (ad 11), .int tk, .int mb])), ((ad 1), .inr (0, [.int n, .int ev])), ((ad 11), .inl (cI, 12, .inl fr))] s.heap := hP.sub [6, 1, 11] rfl
    refine cs_i (va_runV (As := [.int x1]) (rest := []) hfix (c_X3_hasPlace l dC dI cI cJ (ad 6) (ad 1) (ad 11) tk mb n ev fr x1 _ hc18) (cwV 1 hts gX5_table_X3_hasPlace rfl rfl rfl (by decide +kernel) ⟨by decide, by decide⟩) (roP.preV hK hPc (ci := 3) rfl rfl) rfl rfl hl.1 rfl (lv_room (Nat.le_of_ble_eq_true rfl)) dX5_table_18 ⟨Nat.zero_le _, Nat.zero_le _⟩) ?_
    refine lv_if_eq (tgt := 35) hx hb dX5_table_21 (by decide) (fun q21 => ?_) (fun q21 => ?_)
    · have h := Ho_t h q21
      refine lv_iconst (v := (-1 : Int32)) hx hb dX5_table_35 (by decide) ?_
      exact W.iret hx hb hr (fun t ht _ => ro_Si (Ho_e h) ht) ro_nil dX5_table_36 hlk
    · have h := Ho_f h q21
      refine lv_aload_n hx hb dX5_table_24 rfl (lv_at hl 0 rfl) ?_
      refine va_get (D := (dC, dI)) (ci := 5) (v := .ref (ad 6)) (C := RX5) (T := TX5) (N := 7) hx hb hts hiX5 hown hK.1 hP 0 rfl rfl 5 (by decide) hf43 (fun _ h9 => h9) rfl dX5_table_25 ?_
      refine lv_iload_n hx hb dX5_table_28 rfl (lv_at hl 2 rfl) ?_
      obtain ⟨r29, hc29, h⟩ := Ho_b h
      have hPc : va_P (dC, dI) vwCl [((ad 6), .inr (3, [.ref (ad 1), .ref (ad 11), .int tk, .int mb])), ((ad 1), .inr (0, [.int n, .int ev])), ((ad 11), .inl (cI, 12, .inl fr))] s.heap := hP.sub [6, 1, 11] rfl
      refine cs_i (va_runV (As := [.int x2]) (rest := []) hfix (c_X3_hasPlace l dC dI cI cJ (ad 6) (ad 1) (ad 11) tk mb n ev fr x2 _ hc29) (cwV 1 hts gX5_table_X3_hasPlace rfl rfl rfl (by decide +kernel) ⟨by decide, by decide⟩) (roP.preV hK hPc (ci := 3) rfl rfl) rfl rfl hl.1 rfl (lv_room (Nat.le_of_ble_eq_true rfl)) dX5_table_29 ⟨Nat.zero_le _, Nat.zero_le _⟩) ?_
      refine lv_if_ne (tgt := 37) hx hb dX5_table_32 (by decide) (fun q32 => ?_) (fun q32 => ?_)
      · have h := Ho_f h q32
        refine lv_aload_n hx hb dX5_table_37 rfl (lv_at hl 0 rfl) ?_
        refine va_get (D := (dC, dI)) (ci := 5) (v := .ref (ad 6)) (C := RX5) (T := TX5) (N := 7) hx hb hts hiX5 hown hK.1 hP 0 rfl rfl 5 (by decide) hf43 (fun _ h9 => h9) rfl dX5_table_38 ?_
        refine lv_iconst (v := (0 : Int32)) hx hb dX5_table_41 (by decide) ?_
        refine lv_aload_n hx hb dX5_table_42 rfl (lv_at hl 0 rfl) ?_
        refine va_get (D := (dC, dI)) (ci := 5) (v := .ref (ad 6)) (C := RX5) (T := TX5) (N := 7) hx hb hts hiX5 hown hK.1 hP 0 rfl rfl 5 (by decide) hf43 (fun _ h9 => h9) rfl dX5_table_43 ?_
        refine lv_iconst (v := (1 : Int32)) hx hb dX5_table_46 (by decide) ?_
        refine lv_aload_n hx hb dX5_table_47 rfl (lv_at hl 0 rfl) ?_
        refine va_get (D := (dC, dI)) (ci := 5) (v := .ref (ad 6)) (C := RX5) (T := TX5) (N := 7) hx hb hts hiX5 hown hK.1 hP 0 rfl rfl 5 (by decide) hf43 (fun _ h9 => h9) rfl dX5_table_48 ?_
        refine lv_iconst (v := (0 : Int32)) hx hb dX5_table_51 (by decide) ?_
        obtain ⟨r52, hc52, h⟩ := Ho_b h
        have hPc : va_P (dC, dI) vwCl [((ad 6), .inr (3, [.ref (ad 1), .ref (ad 11), .int tk, .int mb])), ((ad 1), .inr (0, [.int n, .int ev])), ((ad 11), .inl (cI, 12, .inl fr))] s.heap := hP.sub [6, 1, 11] rfl
        refine cs_i (va_runV (As := [.int (0 : Int32)]) (rest := [.int (1 : Int32), .ref (ad 6), .int (0 : Int32), .ref (ad 6)]) hfix (c_X3_at l dC dI cI cJ (ad 6) (ad 1) (ad 11) tk mb n ev fr (0 : Int32) _ hc52) (cwV 1 hts gX5_table_X3_at rfl rfl rfl (by decide +kernel) ⟨by decide, by decide⟩) (roP.preV hK hPc (ci := 3) rfl rfl) rfl rfl hl.1 rfl (lv_room (Nat.le_of_ble_eq_true rfl)) dX5_table_52 ⟨Nat.zero_le _, Nat.zero_le _⟩) ?_
        refine lv_iload_n hx hb dX5_table_55 rfl (lv_at hl 1 rfl) ?_
        obtain ⟨r56, hc56, h⟩ := Ho_b h
        have hPc : va_P (dC, dI) vwCl [((ad 6), .inr (3, [.ref (ad 1), .ref (ad 11), .int tk, .int mb])), ((ad 1), .inr (0, [.int n, .int ev])), ((ad 11), .inl (cI, 12, .inl fr))] s.heap := hP.sub [6, 1, 11] rfl
        refine cs_i (va_runV (As := [.int (1 : Int32), .int r52, .int x1]) (rest := [.int (0 : Int32), .ref (ad 6)]) hfix (c_X3_formStep l dC dI cI cJ (ad 6) (ad 1) (ad 11) tk mb n ev fr (1 : Int32) r52 x1 _ hc56) (cwV 3 hts gX5_table_X3_formStep rfl rfl rfl (by decide +kernel) ⟨by decide, by decide⟩) (roP.preV hK hPc (ci := 3) rfl rfl) rfl rfl hl.1 rfl (lv_room (Nat.le_of_ble_eq_true rfl)) dX5_table_56 ⟨Nat.zero_le _, Nat.zero_le _⟩) ?_
        refine lv_iload_n hx hb dX5_table_59 rfl (lv_at hl 2 rfl) ?_
        obtain ⟨r60, hc60, h⟩ := Ho_b h
        have hPc : va_P (dC, dI) vwCl [((ad 6), .inr (3, [.ref (ad 1), .ref (ad 11), .int tk, .int mb])), ((ad 1), .inr (0, [.int n, .int ev])), ((ad 11), .inl (cI, 12, .inl fr))] s.heap := hP.sub [6, 1, 11] rfl
        refine cs_i (va_runV (As := [.int (0 : Int32), .int r56, .int x2]) (rest := []) hfix (c_X3_formStep l dC dI cI cJ (ad 6) (ad 1) (ad 11) tk mb n ev fr (0 : Int32) r56 x2 _ hc60) (cwV 3 hts gX5_table_X3_formStep rfl rfl rfl (by decide +kernel) ⟨by decide, by decide⟩) (roP.preV hK hPc (ci := 3) rfl rfl) rfl rfl hl.1 rfl (lv_room (Nat.le_of_ble_eq_true rfl)) dX5_table_60 ⟨Nat.zero_le _, Nat.zero_le _⟩) ?_
        exact W.iret hx hb hr (fun t ht _ => ro_Si (Ho_e h) ht) ro_nil dX5_table_63 hlk
      · have h := Ho_t h q32
        refine lv_iconst (v := (-1 : Int32)) hx hb dX5_table_35 (by decide) ?_
        exact W.iret hx hb hr (fun t ht _ => ro_Si (Ho_e h) ht) ro_nil dX5_table_36 hlk
  · have h := Ho_t h q7
    refine lv_bipush (v := (-3 : Int32)) hx hb dX5_table_10 (by decide) ?_
    exact W.iret hx hb hr (fun t ht _ => ro_Si (Ho_e h) ht) ro_nil dX5_table_12 hlk
abbrev rmX5_unlike : Room := { frames := 3, cells := 0, slots := 0, locals := 65 }
set_option maxHeartbeats 4000000 in
set_option maxRecDepth 100000 in
theorem c_X5_unlike (l : Launch) (dC : Nat → ClassId) (dI : Nat → Nat → Nat) (cI cJ : ClassId) (ad : Nat → Nat) (n : Int32) (ev : Int32) (ld0 : Int32) (ld1 : Int32) (ld2 : Int32) (tk : Int32) (mb : Int32) (f0 : Nat → Int32) (f1 : Nat → Int32) (f2 : Nat → Int32) (fr : Nat → Int32) (fu : Nat → Int32) (r : Int32) (hF : FX5_unlike n tk fr = some r) : Met l yX5_unlike wsX5_unlike rmX5_unlike (roP (dC, dI) [(cI, .int), (cJ, .long)] (wX5 cI cJ ad n ev ld0 ld1 ld2 tk mb f0 f1 f2 fr fu) [.ref (ad 0)]) (vp_Si (fun x => x = r)) 0 0 (fun _ => False) := by
  refine ro_start (cc := cX5_unlike) (maxL := 1) (ret := (some .int)) (by decide) rfl (Nat.le_of_ble_eq_true rfl) ?_
  intro p e s m args below meth c ls hx hb hml hr hlk hown hts hP hK hl
  have hown : s.vm.findClass RX5 = some m.cls := hown
  have hl : lv_has ls 1 [(0, .ref (ad 0))] := hl
  have h : Ho (FX5_unlike n tk fr) (fun x => x = r) := ⟨r, hF, rfl⟩
  unfold FX5_unlike at h
  have hfix : CallFix p m c cX5_unlike 1 s args wsX5_unlike RX5 := ⟨hx, hb, hml, hown, hts⟩
  have hiX5 : ∀ w ∈ u_ws RX5 TX5 7, w ∈ wsX5_unlike := by decide +kernel
  have hf43 := hts (.fieldLink RX5 43 "RowClasses" "row" "LRowClasses$Row;") (by decide +kernel)
  refine lv_aload_n hx hb dX5_unlike_0 rfl (lv_at hl 0 rfl) ?_
  refine va_get (D := (dC, dI)) (ci := 5) (v := .ref (ad 6)) (C := RX5) (T := TX5) (N := 7) hx hb hts hiX5 hown hK.1 hP 0 rfl rfl 5 (by decide) hf43 (fun _ h9 => h9) rfl dX5_unlike_1 ?_
  obtain ⟨r4, hc4, h⟩ := Ho_b h
  have hPc : va_P (dC, dI) vwCl [((ad 6), .inr (3, [.ref (ad 1), .ref (ad 11), .int tk, .int mb])), ((ad 1), .inr (0, [.int n, .int ev])), ((ad 11), .inl (cI, 12, .inl fr))] s.heap := hP.sub [6, 1, 11] rfl
  refine cs_i (va_runV (As := []) (rest := []) hfix (c_X3_isWhole l dC dI cI cJ (ad 6) (ad 1) (ad 11) tk mb n ev fr _ hc4) (cwV 0 hts gX5_unlike_X3_isWhole rfl rfl rfl (by decide +kernel) ⟨by decide, by decide⟩) (roP.preV hK hPc (ci := 3) rfl rfl) rfl rfl hl.1 rfl (lv_room (Nat.le_of_ble_eq_true rfl)) dX5_unlike_4 ⟨Nat.zero_le _, Nat.zero_le _⟩) ?_
  refine lv_if_ne (tgt := 13) hx hb dX5_unlike_7 (by decide) (fun q7 => ?_) (fun q7 => ?_)
  · have h := Ho_f h q7
    refine lv_aload_n hx hb dX5_unlike_13 rfl (lv_at hl 0 rfl) ?_
    refine va_get (D := (dC, dI)) (ci := 5) (v := .ref (ad 6)) (C := RX5) (T := TX5) (N := 7) hx hb hts hiX5 hown hK.1 hP 0 rfl rfl 5 (by decide) hf43 (fun _ h9 => h9) rfl dX5_unlike_14 ?_
    obtain ⟨r17, hc17, h⟩ := Ho_b h
    have hPc : va_P (dC, dI) vwCl [((ad 6), .inr (3, [.ref (ad 1), .ref (ad 11), .int tk, .int mb])), ((ad 1), .inr (0, [.int n, .int ev])), ((ad 11), .inl (cI, 12, .inl fr))] s.heap := hP.sub [6, 1, 11] rfl
    refine cs_i (va_runV (As := []) (rest := []) hfix (c_X3_hasUnlikeIntervals l dC dI cI cJ (ad 6) (ad 1) (ad 11) tk mb n ev fr _ hc17) (cwV 0 hts gX5_unlike_X3_hasUnlikeIntervals rfl rfl rfl (by decide +kernel) ⟨by decide, by decide⟩) (roP.preV hK hPc (ci := 3) rfl rfl) rfl rfl hl.1 rfl (lv_room (Nat.le_of_ble_eq_true rfl)) dX5_unlike_17 ⟨Nat.zero_le _, Nat.zero_le _⟩) ?_
    refine lv_if_eq (tgt := 27) hx hb dX5_unlike_20 (by decide) (fun q20 => ?_) (fun q20 => ?_)
    · have h := Ho_t h q20
      refine lv_iconst (v := (0 : Int32)) hx hb dX5_unlike_27 (by decide) ?_
      exact W.iret hx hb hr (fun t ht _ => ro_Si (Ho_e h) ht) ro_nil dX5_unlike_28 hlk
    · have h := Ho_f h q20
      refine lv_iconst (v := (1 : Int32)) hx hb dX5_unlike_23 (by decide) ?_
      refine lv_goto (tgt := 28) hx hb dX5_unlike_24 (by decide) ?_
      exact W.iret hx hb hr (fun t ht _ => ro_Si (Ho_e h) ht) ro_nil dX5_unlike_28 hlk
  · have h := Ho_t h q7
    refine lv_bipush (v := (-3 : Int32)) hx hb dX5_unlike_10 (by decide) ?_
    exact W.iret hx hb hr (fun t ht _ => ro_Si (Ho_e h) ht) ro_nil dX5_unlike_12 hlk
abbrev rmX5_rows : Room := { frames := 15, cells := 0, slots := 0, locals := 410 }
set_option maxHeartbeats 4000000 in
set_option maxRecDepth 100000 in
theorem c_X5_rows (l : Launch) (dC : Nat → ClassId) (dI : Nat → Nat → Nat) (cI cJ : ClassId) (ad : Nat → Nat) (sz : Nat) (n : Int32) (ev : Int32) (ld0 : Int32) (ld1 : Int32) (ld2 : Int32) (tk : Int32) (mb : Int32) (f0 : Nat → Int32) (f1 : Nat → Int32) (f2 : Nat → Int32) (fr : Nat → Int32) (fu : Nat → Int32) (r : Int32) (fu' : Nat → Int32) (hF : FX5_rows n fu = some (r, fu')) : Met l yX5_rows wsX5_rows rmX5_rows (rwP (dC, dI) [(cI, .int), (cJ, .long)] sz (wX5 cI cJ ad n ev ld0 ld1 ld2 tk mb f0 f1 f2 fr fu) [.ref (ad 0)]) (va_Qi (fun (x : Int32) (_ : Unit) => x = r) (fun _ t => va_P (dC, dI) vwCl (wX5 cI cJ ad n ev ld0 ld1 ld2 tk mb f0 f1 f2 fr fu') t.heap ∧ vK (dC, dI) [(cI, .int), (cJ, .long)] t ∧ va_D (va_A (wX5 cI cJ ad n ev ld0 ld1 ld2 tk mb f0 f1 f2 fr fu) sz) (wX5 cI cJ ad n ev ld0 ld1 ld2 tk mb f0 f1 f2 fr fu')) (va_A (wX5 cI cJ ad n ev ld0 ld1 ld2 tk mb f0 f1 f2 fr fu) sz)) 0 0 (va_A (wX5 cI cJ ad n ev ld0 ld1 ld2 tk mb f0 f1 f2 fr fu) sz) := by
  refine rw_start (cc := cX5_rows) (maxL := 1) (ret := (some .int)) (by decide) rfl (Nat.le_of_ble_eq_true rfl) ?_
  intro p e s m args below meth c ls A H locs hx hb hml hr hlk hown hts hsz hP hK hD hA hS hAe hl
  have hown : s.vm.findClass RX5 = some m.cls := hown
  have hl : lv_has ls 1 [(0, .ref (ad 0))] := hl
  have h : Ho (FX5_rows n fu) (fun x => x = (r, fu')) := ⟨_, hF, rfl⟩
  unfold FX5_rows at h
  have QI : ∀ {v0 : Int32} {fu9 : Nat → Int32} {t : State}, (v0, fu9) = (r, fu') → va_P (dC, dI) vwCl (wX5 cI cJ ad n ev ld0 ld1 ld2 tk mb f0 f1 f2 fr fu9) t.heap → vK (dC, dI) [(cI, .int), (cJ, .long)] t → va_D A (wX5 cI cJ ad n ev ld0 ld1 ld2 tk mb f0 f1 f2 fr fu9) → va_F A s t → (va_Qi (fun (x : Int32) (_ : Unit) => x = r) (fun _ t => va_P (dC, dI) vwCl (wX5 cI cJ ad n ev ld0 ld1 ld2 tk mb f0 f1 f2 fr fu') t.heap ∧ vK (dC, dI) [(cI, .int), (cJ, .long)] t ∧ va_D (va_A (wX5 cI cJ ad n ev ld0 ld1 ld2 tk mb f0 f1 f2 fr fu) sz) (wX5 cI cJ ad n ev ld0 ld1 ld2 tk mb f0 f1 f2 fr fu')) (va_A (wX5 cI cJ ad n ev ld0 ld1 ld2 tk mb f0 f1 f2 fr fu) sz)) args s (.returned (some (.int v0))) t := by
    intro v0 fu9 t e9 q1 q2 q3 q4
    cases e9
    subst hAe
    exact ⟨⟨_, (), rfl, rfl, q1, q2, q3⟩, q4⟩
  have hfix : CallFix p m c cX5_rows 1 s args wsX5_rows RX5 := ⟨hx, hb, hml, hown, hts⟩
  have hiX5 : ∀ w ∈ u_ws RX5 TX5 7, w ∈ wsX5_rows := by decide +kernel
  have hf10 := hts (.fieldLink RX5 10 "RowClasses" "circle" "LRowClasses$Circle;") (by decide +kernel)
  have hf50 := hts (.fieldLink RX5 50 "RowClasses" "unlikeRows" "LRowClasses$UnlikeRows;") (by decide +kernel)
  refine lv_aload_n hx hb dX5_rows_0 rfl (lv_at hl 0 rfl) ?_
  refine va_get (D := (dC, dI)) (ci := 5) (v := .ref (ad 7)) (C := RX5) (T := TX5) (N := 7) hx hb hts hiX5 hown hK.1 hP 0 rfl rfl 6 (by decide) hf50 (fun _ h9 => h9) rfl dX5_rows_1 ?_
  refine lv_aload_n hx hb dX5_rows_4 rfl (lv_at hl 0 rfl) ?_
  refine va_get (D := (dC, dI)) (ci := 5) (v := .ref (ad 1)) (C := RX5) (T := TX5) (N := 7) hx hb hts hiX5 hown hK.1 hP 0 rfl rfl 0 (by decide) hf10 (fun _ h9 => h9) rfl dX5_rows_5 ?_
  obtain ⟨r8, hc8, h⟩ := Ho_b h
  have hPc : va_P (dC, dI) vwCl [((ad 1), .inr (0, [.int n, .int ev]))] H := hP.sub [1] rfl
  refine cs_i (va_runV (As := []) (rest := [.ref (ad 7)]) hfix (c_X0_count l dC dI cI cJ (ad 1) n ev _ hc8) (cwV 0 hts gX5_rows_X0_count rfl rfl rfl (by decide +kernel) ⟨by decide, by decide⟩) (roP.preV hK hPc (ci := 0) rfl rfl) rfl rfl hl.1 rfl (lv_room (Nat.le_of_ble_eq_true rfl)) dX5_rows_8 ⟨Nat.zero_le _, Nat.zero_le _⟩) ?_
  obtain ⟨r11, fu_11, hc11, h⟩ := Ho_b2 h
  have hPc : va_P (dC, dI) vwCl [((ad 7), .inr (4, [.ref (ad 12)])), ((ad 12), .inl (cI, 13, .inl fu))] H := hP.sub [7, 12] rfl
  have hDc : va_D A [((ad 7), .inr (4, [.ref (ad 12)])), ((ad 12), .inl (cI, 13, .inl fu))] := hD.sub [7, 12] (by decide) rfl
  have hFc := va_free (wc := [((ad 7), .inr (4, [.ref (ad 12)])), ((ad 12), .inl (cI, 13, .inl fu))]) hD hS hA [7, 12] rfl
  refine va_calli (va_runV (As := [.int r8]) (rest := []) hfix (c_X4_countFor l dC dI cI cJ (ad 7) (ad 12) H.size fu r8 _ _ hc11) (cwV 1 hts gX5_rows_X4_countFor rfl rfl rfl (by decide +kernel) ⟨by decide, by decide⟩) (rwP.preV hK hPc hDc rfl (ci := 4) rfl rfl) rfl rfl hl.1 rfl (lv_room (Nat.le_of_ble_eq_true rfl)) dX5_rows_11 ⟨Nat.zero_le _, Nat.zero_le _⟩) hS (fun q _ h => hFc q h) hFc (fun y11 u t H1 locs ht hvm hw hB hz1 hk1 hS => ?_)
  obtain ⟨hP1, -, hD1⟩ := hB
  rw [ht] at hP1
  have hw : y11 = r11 := hw
  rw [hw]
  obtain ⟨hP, hD⟩ := va_join (wr := [((ad 0), .inr (5, [.ref (ad 1), .ref (ad 2), .ref (ad 3), .ref (ad 4), .ref (ad 5), .ref (ad 6), .ref (ad 7)])), ((ad 1), .inr (0, [.int n, .int ev])), ((ad 2), .inr (2, [.ref (ad 1)])), ((ad 3), .inr (1, [.ref (ad 1), .int 0, .ref (ad 8), .int ld0])), ((ad 4), .inr (1, [.ref (ad 1), .int 1, .ref (ad 9), .int ld1])), ((ad 5), .inr (1, [.ref (ad 1), .int 2, .ref (ad 10), .int ld2])), ((ad 6), .inr (3, [.ref (ad 1), .ref (ad 11), .int tk, .int mb])), ((ad 8), .inl (cI, 352, .inl f0)), ((ad 9), .inl (cI, 352, .inl f1)), ((ad 10), .inl (cI, 352, .inl f2)), ((ad 11), .inl (cI, 12, .inl fr))]) (w1 := [((ad 7), .inr (4, [.ref (ad 12)])), ((ad 12), .inl (cI, 13, .inl fu_11))]) hP hD [7, 12] [0, 1, 2, 3, 4, 5, 6, 8, 9, 10, 11] rfl rfl (by decide) (by decide) hk1 hFc hP1 hD1
  generalize H1 = H at hP hS ⊢
  have hP : va_P (dC, dI) vwCl (wX5 cI cJ ad n ev ld0 ld1 ld2 tk mb f0 f1 f2 fr fu_11) H := hP.sub [0, 1, 2, 3, 4, 5, 6, 11, 7, 8, 9, 10, 12] rfl
  have hD : va_D A (wX5 cI cJ ad n ev ld0 ld1 ld2 tk mb f0 f1 f2 fr fu_11) := hD.sub [0, 1, 2, 3, 4, 5, 6, 11, 7, 8, 9, 10, 12] (by decide) rfl
  exact W.iret hx hb hr (fun t ht hW => QI (Ho_e h) (by rw [ht]; exact hP) (hK.warm hW) hD (hS.F ht)) hS.2.2 dX5_rows_14 hlk
abbrev rmX5_fills : Room := { frames := 4, cells := 0, slots := 0, locals := 94 }
set_option maxHeartbeats 4000000 in
set_option maxRecDepth 100000 in
theorem c_X5_fills (l : Launch) (dC : Nat → ClassId) (dI : Nat → Nat → Nat) (cI cJ : ClassId) (ad : Nat → Nat) (n : Int32) (ev : Int32) (ld0 : Int32) (ld1 : Int32) (ld2 : Int32) (tk : Int32) (mb : Int32) (f0 : Nat → Int32) (f1 : Nat → Int32) (f2 : Nat → Int32) (fr : Nat → Int32) (fu : Nat → Int32) (x1 : Int32) (x2 : Int32) (r : Int32) (hF : FX5_fills n tk fr x1 x2 = some r) : Met l yX5_fills wsX5_fills rmX5_fills (roP (dC, dI) [(cI, .int), (cJ, .long)] (wX5 cI cJ ad n ev ld0 ld1 ld2 tk mb f0 f1 f2 fr fu) [.ref (ad 0), .int x1, .int x2]) (vp_Si (fun x => x = r)) 0 0 (fun _ => False) := by
  refine ro_start (cc := cX5_fills) (maxL := 7) (ret := (some .int)) (by decide) rfl (Nat.le_of_ble_eq_true rfl) ?_
  intro p e s m args below meth c ls hx hb hml hr hlk hown hts hP hK hl
  have hown : s.vm.findClass RX5 = some m.cls := hown
  have hl : lv_has ls 7 [(0, .ref (ad 0)), (1, .int x1), (2, .int x2)] := hl
  have h : Ho (FX5_fills n tk fr x1 x2) (fun x => x = r) := ⟨r, hF, rfl⟩
  unfold FX5_fills at h
  have hfix : CallFix p m c cX5_fills 7 s args wsX5_fills RX5 := ⟨hx, hb, hml, hown, hts⟩
  have hiX5 : ∀ w ∈ u_ws RX5 TX5 7, w ∈ wsX5_fills := by decide +kernel
  have hf10 := hts (.fieldLink RX5 10 "RowClasses" "circle" "LRowClasses$Circle;") (by decide +kernel)
  have hf43 := hts (.fieldLink RX5 43 "RowClasses" "row" "LRowClasses$Row;") (by decide +kernel)
  have J110 : ∀  (ls : Array Slot), lv_has ls 7 [] → Ho (X5_fills_110) (fun x => x = r) → W p l e rmX5_fills s m args below meth c s.heap [] 0 0 (MQ below (vp_Si (fun x => x = r)) args s 0 0 (fun _ => False)) (F0 m 110 ls []) := by
    intro  ls hl h
    unfold X5_fills_110 at h
    refine lv_iconst (v := (-1 : Int32)) hx hb dX5_fills_110 (by decide) ?_
    exact W.iret hx hb hr (fun t ht _ => ro_Si (Ho_e h) ht) ro_nil dX5_fills_111 hlk
  have J98 : ∀ (v6 : Int32) (ls : Array Slot), lv_has ls 7 [(6, .int v6)] → Ho (X5_fills_98 v6) (fun x => x = r) → W p l e rmX5_fills s m args below meth c s.heap [] 0 0 (MQ below (vp_Si (fun x => x = r)) args s 0 0 (fun _ => False)) (F0 m 98 ls []) := by
    intro v6 ls hl h
    unfold X5_fills_98 at h
    refine lv_iload hx hb dX5_fills_98 (lv_at hl 0 rfl) ?_
    exact W.iret hx hb hr (fun t ht _ => ro_Si (Ho_e h) ht) ro_nil dX5_fills_100 hlk
  have J62 : ∀ (v3 : Int32) (v4 : Int32) (v5 : Int32) (v6 : Int32) (ls : Array Slot), lv_has ls 7 [(0, .ref (ad 0)), (1, .int x1), (2, .int x2), (3, .int v3), (4, .int v4), (5, .int v5), (6, .int v6)] → Ho ((X5_fills_62_l n tk fr x1 x2 v3 v4 v5 v6).bind (fun ex => Sum.elim (fun xy => X5_fills_98 xy) (fun xy => X5_fills_110) ex)) (fun x => x = r) → W p l e rmX5_fills s m args below meth c s.heap [] 0 0 (MQ below (vp_Si (fun x => x = r)) args s 0 0 (fun _ => False)) (F0 m 62 ls []) := by
    intro v3 v4 v5 v6 ls hl h
    refine loop_use2 (fun z : Int32 × Int32 => ∀ (ls : Array Slot), lv_has ls 7 [(0, .ref (ad 0)), (1, .int x1), (2, .int x2), (3, .int v3), (4, .int v4), (5, .int z.1), (6, .int z.2)] → W p l e rmX5_fills s m args below meth c s.heap [] 0 0 (MQ below (vp_Si (fun x => x = r)) args s 0 0 (fun _ => False)) (F0 m 62 ls [])) ?_ FU _ h ls hl
    intro Q62 hi62 ho62 z h ls hl
    obtain ⟨v5, v6⟩ := z
    have h : Ho (X5_fills_62_s n tk fr x1 x2 v3 v4 v5 v6) Q62 := h
    unfold X5_fills_62_s at h
    have hl : lv_has ls 7 [(0, .ref (ad 0)), (1, .int x1), (2, .int x2), (3, .int v3), (4, .int v4), (5, .int v5), (6, .int v6)] := hl
    refine lv_iload hx hb dX5_fills_62 (lv_at hl 6 rfl) ?_
    refine lv_aload_n hx hb dX5_fills_64 rfl (lv_at hl 0 rfl) ?_
    refine va_get (D := (dC, dI)) (ci := 5) (v := .ref (ad 1)) (C := RX5) (T := TX5) (N := 7) hx hb hts hiX5 hown hK.1 hP 0 rfl rfl 0 (by decide) hf10 (fun _ h9 => h9) rfl dX5_fills_65 ?_
    obtain ⟨r68, hc68, h⟩ := Ho_b h
    have hPc : va_P (dC, dI) vwCl [((ad 1), .inr (0, [.int n, .int ev]))] s.heap := hP.sub [1] rfl
    refine cs_i (va_runV (As := []) (rest := [.int v6]) hfix (c_X0_count l dC dI cI cJ (ad 1) n ev _ hc68) (cwV 0 hts gX5_fills_X0_count rfl rfl rfl (by decide +kernel) ⟨by decide, by decide⟩) (roP.preV hK hPc (ci := 0) rfl rfl) rfl rfl hl.1 rfl (lv_room (Nat.le_of_ble_eq_true rfl)) dX5_fills_68 ⟨Nat.zero_le _, Nat.zero_le _⟩) ?_
    refine lv_icmp_ge (tgt := 110) hx hb dX5_fills_71 (by decide) (fun q71 => ?_) (fun q71 => ?_)
    · have h := Ho_t h q71
      have h := ho62 _ (Ho_s h)
      exact J110  ls (lv_sub hl [] rfl) h
    · have h := Ho_f h q71
      refine lv_aload_n hx hb dX5_fills_74 rfl (lv_at hl 0 rfl) ?_
      refine va_get (D := (dC, dI)) (ci := 5) (v := .ref (ad 6)) (C := RX5) (T := TX5) (N := 7) hx hb hts hiX5 hown hK.1 hP 0 rfl rfl 5 (by decide) hf43 (fun _ h9 => h9) rfl dX5_fills_75 ?_
      refine lv_iload_n hx hb dX5_fills_78 rfl (lv_at hl 1 rfl) ?_
      refine lv_iload hx hb dX5_fills_79 (lv_at hl 6 rfl) ?_
      refine lv_iconst (v := (0 : Int32)) hx hb dX5_fills_81 (by decide) ?_
      refine lv_iload_n hx hb dX5_fills_82 rfl (lv_at hl 3 rfl) ?_
      obtain ⟨r83, hc83, h⟩ := Ho_b h
      have hPc : va_P (dC, dI) vwCl [((ad 6), .inr (3, [.ref (ad 1), .ref (ad 11), .int tk, .int mb])), ((ad 1), .inr (0, [.int n, .int ev])), ((ad 11), .inl (cI, 12, .inl fr))] s.heap := hP.sub [6, 1, 11] rfl
      refine cs_i (va_runV (As := [.int x1, .int v6, .int (0 : Int32), .int v3]) (rest := []) hfix (c_X3_formPiece l dC dI cI cJ (ad 6) (ad 1) (ad 11) tk mb n ev fr x1 v6 (0 : Int32) v3 _ hc83) (cwV 4 hts gX5_fills_X3_formPiece rfl rfl rfl (by decide +kernel) ⟨by decide, by decide⟩) (roP.preV hK hPc (ci := 3) rfl rfl) rfl rfl hl.1 rfl (lv_room (Nat.le_of_ble_eq_true rfl)) dX5_fills_83 ⟨Nat.zero_le _, Nat.zero_le _⟩) ?_
      refine lv_iload hx hb dX5_fills_86 (lv_at hl 4 rfl) ?_
      refine lv_iand hx hb dX5_fills_88 ?_
      refine lv_if_ne (tgt := 104) hx hb dX5_fills_89 (by decide) (fun q89 => ?_) (fun q89 => ?_)
      · have h := Ho_f h q89
        refine lv_iinc (v := v6 + 1) (lv' := [(6, .int (v6 + 1)), (0, .ref (ad 0)), (1, .int x1), (2, .int x2), (3, .int v3), (4, .int v4), (5, .int v5)]) hx hb dX5_fills_104 hl (k := 6) rfl rfl (by decide) rfl (fun ls hl => ?_)
        refine lv_goto (tgt := 62) hx hb dX5_fills_107 (by decide) ?_
        exact hi62 _ (Ho_s h) ls (lv_sub hl [1, 2, 3, 4, 5, 6, 0] rfl)
      · have h := Ho_t h q89
        refine lv_iload hx hb dX5_fills_92 (lv_at hl 5 rfl) ?_
        refine lv_iload_n hx hb dX5_fills_94 rfl (lv_at hl 2 rfl) ?_
        refine lv_icmp_ne (tgt := 101) hx hb dX5_fills_95 (by decide) (fun q95 => ?_) (fun q95 => ?_)
        · have h := Ho_f h q95
          refine lv_iinc (v := v5 + 1) (lv' := [(5, .int (v5 + 1)), (0, .ref (ad 0)), (1, .int x1), (2, .int x2), (3, .int v3), (4, .int v4), (6, .int v6)]) hx hb dX5_fills_101 hl (k := 5) rfl rfl (by decide) rfl (fun ls hl => ?_)
          refine lv_iinc (v := v6 + 1) (lv' := [(6, .int (v6 + 1)), (5, .int (v5 + 1)), (0, .ref (ad 0)), (1, .int x1), (2, .int x2), (3, .int v3), (4, .int v4)]) hx hb dX5_fills_104 hl (k := 6) rfl rfl (by decide) rfl (fun ls hl => ?_)
          refine lv_goto (tgt := 62) hx hb dX5_fills_107 (by decide) ?_
          exact hi62 _ (Ho_s h) ls (lv_sub hl [2, 3, 4, 5, 6, 1, 0] rfl)
        · have h := Ho_t h q95
          have h := ho62 _ (Ho_s h)
          exact J98 v6 ls (lv_sub hl [6] rfl) h
  refine lv_iload_n hx hb dX5_fills_0 rfl (lv_at hl 1 rfl) ?_
  obtain ⟨r1, hc1, h⟩ := Ho_b h
  refine cs_i (va_runS (As := [.int x1]) (rest := []) hfix (c_X5_isFormKind l dC dI cI cJ  x1 _ hc1) (va_cwS 1 hts gX5_fills_X5_isFormKind rfl rfl rfl (by decide +kernel) ⟨by decide, by decide⟩) (roP.preS hK va_Pnil) rfl rfl hl.1 rfl (lv_room (Nat.le_of_ble_eq_true rfl)) dX5_fills_1 ⟨Nat.zero_le _, Nat.zero_le _⟩) ?_
  refine lv_if_ne (tgt := 10) hx hb dX5_fills_4 (by decide) (fun q4 => ?_) (fun q4 => ?_)
  · have h := Ho_f h q4
    refine lv_aload_n hx hb dX5_fills_10 rfl (lv_at hl 0 rfl) ?_
    refine va_get (D := (dC, dI)) (ci := 5) (v := .ref (ad 6)) (C := RX5) (T := TX5) (N := 7) hx hb hts hiX5 hown hK.1 hP 0 rfl rfl 5 (by decide) hf43 (fun _ h9 => h9) rfl dX5_fills_11 ?_
    obtain ⟨r14, hc14, h⟩ := Ho_b h
    have hPc : va_P (dC, dI) vwCl [((ad 6), .inr (3, [.ref (ad 1), .ref (ad 11), .int tk, .int mb])), ((ad 1), .inr (0, [.int n, .int ev])), ((ad 11), .inl (cI, 12, .inl fr))] s.heap := hP.sub [6, 1, 11] rfl
    refine cs_i (va_runV (As := []) (rest := []) hfix (c_X3_isWhole l dC dI cI cJ (ad 6) (ad 1) (ad 11) tk mb n ev fr _ hc14) (cwV 0 hts gX5_fills_X3_isWhole rfl rfl rfl (by decide +kernel) ⟨by decide, by decide⟩) (roP.preV hK hPc (ci := 3) rfl rfl) rfl rfl hl.1 rfl (lv_room (Nat.le_of_ble_eq_true rfl)) dX5_fills_14 ⟨Nat.zero_le _, Nat.zero_le _⟩) ?_
    refine lv_if_eq (tgt := 32) hx hb dX5_fills_17 (by decide) (fun q17 => ?_) (fun q17 => ?_)
    · have h := Ho_t h q17
      refine lv_bipush (v := (-3 : Int32)) hx hb dX5_fills_32 (by decide) ?_
      exact W.iret hx hb hr (fun t ht _ => ro_Si (Ho_e h) ht) ro_nil dX5_fills_34 hlk
    · have h := Ho_f h q17
      refine lv_aload_n hx hb dX5_fills_20 rfl (lv_at hl 0 rfl) ?_
      refine va_get (D := (dC, dI)) (ci := 5) (v := .ref (ad 1)) (C := RX5) (T := TX5) (N := 7) hx hb hts hiX5 hown hK.1 hP 0 rfl rfl 0 (by decide) hf10 (fun _ h9 => h9) rfl dX5_fills_21 ?_
      obtain ⟨r24, hc24, h⟩ := Ho_b h
      have hPc : va_P (dC, dI) vwCl [((ad 1), .inr (0, [.int n, .int ev]))] s.heap := hP.sub [1] rfl
      refine cs_i (va_runV (As := []) (rest := []) hfix (c_X0_count l dC dI cI cJ (ad 1) n ev _ hc24) (cwV 0 hts gX5_fills_X0_count rfl rfl rfl (by decide +kernel) ⟨by decide, by decide⟩) (roP.preV hK hPc (ci := 0) rfl rfl) rfl rfl hl.1 rfl (lv_room (Nat.le_of_ble_eq_true rfl)) dX5_fills_24 ⟨Nat.zero_le _, Nat.zero_le _⟩) ?_
      refine lv_iconst (v := (2 : Int32)) hx hb dX5_fills_27 (by decide) ?_
      refine lv_irem hx hb dX5_fills_28 (by decide) ?_
      refine lv_if_eq (tgt := 35) hx hb dX5_fills_29 (by decide) (fun q29 => ?_) (fun q29 => ?_)
      · have h := Ho_t h q29
        refine lv_aload_n hx hb dX5_fills_35 rfl (lv_at hl 0 rfl) ?_
        refine va_get (D := (dC, dI)) (ci := 5) (v := .ref (ad 1)) (C := RX5) (T := TX5) (N := 7) hx hb hts hiX5 hown hK.1 hP 0 rfl rfl 0 (by decide) hf10 (fun _ h9 => h9) rfl dX5_fills_36 ?_
        obtain ⟨r39, hc39, h⟩ := Ho_b h
        have hPc : va_P (dC, dI) vwCl [((ad 1), .inr (0, [.int n, .int ev]))] s.heap := hP.sub [1] rfl
        refine cs_i (va_runV (As := []) (rest := []) hfix (c_X0_count l dC dI cI cJ (ad 1) n ev _ hc39) (cwV 0 hts gX5_fills_X0_count rfl rfl rfl (by decide +kernel) ⟨by decide, by decide⟩) (roP.preV hK hPc (ci := 0) rfl rfl) rfl rfl hl.1 rfl (lv_room (Nat.le_of_ble_eq_true rfl)) dX5_fills_39 ⟨Nat.zero_le _, Nat.zero_le _⟩) ?_
        refine lv_iconst (v := (2 : Int32)) hx hb dX5_fills_42 (by decide) ?_
        refine lv_idiv hx hb dX5_fills_43 (by decide) ?_
        refine lv_istore_n (lv' := [(3, .int (r39 / (2 : Int32))), (0, .ref (ad 0)), (1, .int x1), (2, .int x2)]) hx hb dX5_fills_44 rfl hl (by decide) rfl (fun ls hl => ?_)
        refine lv_aload_n hx hb dX5_fills_45 rfl (lv_at hl 1 rfl) ?_
        refine va_get (D := (dC, dI)) (ci := 5) (v := .ref (ad 6)) (C := RX5) (T := TX5) (N := 7) hx hb hts hiX5 hown hK.1 hP 0 rfl rfl 5 (by decide) hf43 (fun _ h9 => h9) rfl dX5_fills_46 ?_
        refine lv_iconst (v := (0 : Int32)) hx hb dX5_fills_49 (by decide) ?_
        refine lv_iload_n hx hb dX5_fills_50 rfl (lv_at hl 0 rfl) ?_
        obtain ⟨r51, hc51, h⟩ := Ho_b h
        have hPc : va_P (dC, dI) vwCl [((ad 6), .inr (3, [.ref (ad 1), .ref (ad 11), .int tk, .int mb])), ((ad 1), .inr (0, [.int n, .int ev])), ((ad 11), .inl (cI, 12, .inl fr))] s.heap := hP.sub [6, 1, 11] rfl
        refine cs_i (va_runV (As := [.int (0 : Int32), .int (r39 / (2 : Int32))]) (rest := []) hfix (c_X3_piece l dC dI cI cJ (ad 6) (ad 1) (ad 11) tk mb n ev fr (0 : Int32) (r39 / (2 : Int32)) _ hc51) (cwV 2 hts gX5_fills_X3_piece rfl rfl rfl (by decide +kernel) ⟨by decide, by decide⟩) (roP.preV hK hPc (ci := 3) rfl rfl) rfl rfl hl.1 rfl (lv_room (Nat.le_of_ble_eq_true rfl)) dX5_fills_51 ⟨Nat.zero_le _, Nat.zero_le _⟩) ?_
        refine lv_istore (lv' := [(4, .int r51), (3, .int (r39 / (2 : Int32))), (0, .ref (ad 0)), (1, .int x1), (2, .int x2)]) hx hb dX5_fills_54 hl (by decide) rfl (fun ls hl => ?_)
        refine lv_iconst (v := (0 : Int32)) hx hb dX5_fills_56 (by decide) ?_
        refine lv_istore (lv' := [(5, .int (0 : Int32)), (4, .int r51), (3, .int (r39 / (2 : Int32))), (0, .ref (ad 0)), (1, .int x1), (2, .int x2)]) hx hb dX5_fills_57 hl (by decide) rfl (fun ls hl => ?_)
        refine lv_iconst (v := (0 : Int32)) hx hb dX5_fills_59 (by decide) ?_
        refine lv_istore (lv' := [(6, .int (0 : Int32)), (5, .int (0 : Int32)), (4, .int r51), (3, .int (r39 / (2 : Int32))), (0, .ref (ad 0)), (1, .int x1), (2, .int x2)]) hx hb dX5_fills_60 hl (by decide) rfl (fun ls hl => ?_)
        exact J62 (r39 / (2 : Int32)) r51 (0 : Int32) (0 : Int32) ls (lv_sub hl [4, 5, 6, 3, 2, 1, 0] rfl) h
      · have h := Ho_f h q29
        refine lv_bipush (v := (-3 : Int32)) hx hb dX5_fills_32 (by decide) ?_
        exact W.iret hx hb hr (fun t ht _ => ro_Si (Ho_e h) ht) ro_nil dX5_fills_34 hlk
  · have h := Ho_t h q4
    refine lv_bipush (v := (-2 : Int32)) hx hb dX5_fills_7 (by decide) ?_
    exact W.iret hx hb hr (fun t ht _ => ro_Si (Ho_e h) ht) ro_nil dX5_fills_9 hlk
