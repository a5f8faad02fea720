abbrev rmX5_isClassKind : Room := { frames := 0, cells := 0, slots := 0, locals := 0 }
set_option maxHeartbeats 4000000 in
set_option maxRecDepth 100000 in
theorem c_X5_isClassKind (l : Launch) (dC : Nat → ClassId) (dI : Nat → Nat → Nat) (cI cJ : ClassId) (x0 : Int32) (r : Int32) (hF : FX5_isClassKind x0 = some r) : Met l yX5_isClassKind wsX5_isClassKind rmX5_isClassKind (roP (dC, dI) [(cI, .int), (cJ, .long)] [] [.int x0]) (vp_Si (fun x => x = r)) 0 0 (fun _ => False) := by
  refine ro_start (cc := cX5_isClassKind) (maxL := 1) (ret := (some .boolean)) (by decide) rfl (Nat.le_of_ble_eq_true rfl) ?_
  intro p e s m args below meth c ls hx hb hml hr hlk hown hts hP hK hl
  have hown : s.vm.findClass RX5 = some m.cls := hown
  have hl : lv_has ls 1 [(0, .int x0)] := hl
  have h : Ho (FX5_isClassKind x0) (fun x => x = r) := ⟨r, hF, rfl⟩
  unfold FX5_isClassKind at h
  have hfix : CallFix p m c cX5_isClassKind 1 s args wsX5_isClassKind RX5 := ⟨hx, hb, hml, hown, hts⟩
  refine lv_iload_n hx hb dX5_isClassKind_0 rfl (lv_at hl 0 rfl) ?_
  refine lv_if_lt (tgt := 13) hx hb dX5_isClassKind_1 (by decide) (fun q1 => ?_) (fun q1 => ?_)
  · have h := Ho_t h q1
    refine lv_iconst (v := (0 : Int32)) hx hb dX5_isClassKind_13 (by decide) ?_
    exact W.zret (ty := .boolean) hx hb hr rfl (fun t ht _ => ro_Si (Ho_e h) ht) ro_nil dX5_isClassKind_14 hlk
  · have h := Ho_f h q1
    refine lv_iload_n hx hb dX5_isClassKind_4 rfl (lv_at hl 0 rfl) ?_
    refine lv_iconst (v := (2 : Int32)) hx hb dX5_isClassKind_5 (by decide) ?_
    refine lv_icmp_gt (tgt := 13) hx hb dX5_isClassKind_6 (by decide) (fun q6 => ?_) (fun q6 => ?_)
    · have h := Ho_t h q6
      refine lv_iconst (v := (0 : Int32)) hx hb dX5_isClassKind_13 (by decide) ?_
      exact W.zret (ty := .boolean) hx hb hr rfl (fun t ht _ => ro_Si (Ho_e h) ht) ro_nil dX5_isClassKind_14 hlk
    · have h := Ho_f h q6
      refine lv_iconst (v := (1 : Int32)) hx hb dX5_isClassKind_9 (by decide) ?_
      refine lv_goto (tgt := 14) hx hb dX5_isClassKind_10 (by decide) ?_
      exact W.zret (ty := .boolean) hx hb hr rfl (fun t ht _ => ro_Si (Ho_e h) ht) ro_nil dX5_isClassKind_14 hlk
abbrev rmX5_least : Room := { frames := 3, cells := 0, slots := 0, locals := 71 }
set_option maxHeartbeats 4000000 in
set_option maxRecDepth 100000 in
theorem c_X5_least (l : Launch) (dC : Nat → ClassId) (dI : Nat → Nat → Nat) (cI cJ : ClassId) (ad : Nat → Nat) (n : Int32) (ev : Int32) (ld0 : Int32) (ld1 : Int32) (ld2 : Int32) (tk : Int32) (mb : Int32) (f0 : Nat → Int32) (f1 : Nat → Int32) (f2 : Nat → Int32) (fr : Nat → Int32) (fu : Nat → Int32) (x1 : Int32) (x2 : Int32) (r : Int32) (hF : FX5_least n ev x1 x2 = some r) : Met l yX5_least wsX5_least rmX5_least (roP (dC, dI) [(cI, .int), (cJ, .long)] (wX5 cI cJ ad n ev ld0 ld1 ld2 tk mb f0 f1 f2 fr fu) [.ref (ad 0), .int x1, .int x2]) (vp_Si (fun x => x = r)) 0 0 (fun _ => False) := by
  refine ro_start (cc := cX5_least) (maxL := 3) (ret := (some .int)) (by decide) rfl (Nat.le_of_ble_eq_true rfl) ?_
  intro p e s m args below meth c ls hx hb hml hr hlk hown hts hP hK hl
  have hown : s.vm.findClass RX5 = some m.cls := hown
  have hl : lv_has ls 3 [(0, .ref (ad 0)), (1, .int x1), (2, .int x2)] := hl
  have h : Ho (FX5_least n ev x1 x2) (fun x => x = r) := ⟨r, hF, rfl⟩
  unfold FX5_least at h
  have hfix : CallFix p m c cX5_least 3 s args wsX5_least RX5 := ⟨hx, hb, hml, hown, hts⟩
  have hiX5 : ∀ w ∈ u_ws RX5 TX5 7, w ∈ wsX5_least := by decide +kernel
  have hf10 := hts (.fieldLink RX5 10 "RowClasses" "circle" "LRowClasses$Circle;") (by decide +kernel)
  refine lv_aload_n hx hb dX5_least_0 rfl (lv_at hl 0 rfl) ?_
  refine va_get (D := (dC, dI)) (ci := 5) (v := .ref (ad 1)) (C := RX5) (T := TX5) (N := 7) hx hb hts hiX5 hown hK.1 hP 0 rfl rfl 0 (by decide) hf10 (fun _ h9 => h9) rfl dX5_least_1 ?_
  refine lv_iload_n hx hb dX5_least_4 rfl (lv_at hl 1 rfl) ?_
  obtain ⟨r5, hc5, h⟩ := Ho_b h
  have hPc : va_P (dC, dI) vwCl [((ad 1), .inr (0, [.int n, .int ev]))] s.heap := hP.sub [1] rfl
  refine cs_i (va_runV (As := [.int x1]) (rest := []) hfix (c_X0_hasSet l dC dI cI cJ (ad 1) n ev x1 _ hc5) (cwV 1 hts gX5_least_X0_hasSet rfl rfl rfl (by decide +kernel) ⟨by decide, by decide⟩) (roP.preV hK hPc (ci := 0) rfl rfl) rfl rfl hl.1 rfl (lv_room (Nat.le_of_ble_eq_true rfl)) dX5_least_5 ⟨Nat.zero_le _, Nat.zero_le _⟩) ?_
  refine lv_if_eq (tgt := 18) hx hb dX5_least_8 (by decide) (fun q8 => ?_) (fun q8 => ?_)
  · have h := Ho_t h q8
    refine lv_bipush (v := (-2 : Int32)) hx hb dX5_least_18 (by decide) ?_
    exact W.iret hx hb hr (fun t ht _ => ro_Si (Ho_e h) ht) ro_nil dX5_least_20 hlk
  · have h := Ho_f h q8
    refine lv_iload_n hx hb dX5_least_11 rfl (lv_at hl 2 rfl) ?_
    obtain ⟨r12, hc12, h⟩ := Ho_b h
    refine cs_i (va_runS (As := [.int x2]) (rest := []) hfix (c_X5_isClassKind l dC dI cI cJ  x2 _ hc12) (va_cwS 1 hts gX5_least_X5_isClassKind rfl rfl rfl (by decide +kernel) ⟨by decide, by decide⟩) (roP.preS hK va_Pnil) rfl rfl hl.1 rfl (lv_room (Nat.le_of_ble_eq_true rfl)) dX5_least_12 ⟨Nat.zero_le _, Nat.zero_le _⟩) ?_
    refine lv_if_ne (tgt := 21) hx hb dX5_least_15 (by decide) (fun q15 => ?_) (fun q15 => ?_)
    · have h := Ho_f h q15
      refine lv_aload_n hx hb dX5_least_21 rfl (lv_at hl 0 rfl) ?_
      refine va_get (D := (dC, dI)) (ci := 5) (v := .ref (ad 1)) (C := RX5) (T := TX5) (N := 7) hx hb hts hiX5 hown hK.1 hP 0 rfl rfl 0 (by decide) hf10 (fun _ h9 => h9) rfl dX5_least_22 ?_
      refine lv_iload_n hx hb dX5_least_25 rfl (lv_at hl 1 rfl) ?_
      refine lv_iload_n hx hb dX5_least_26 rfl (lv_at hl 2 rfl) ?_
      obtain ⟨r27, hc27, h⟩ := Ho_b h
      have hPc : va_P (dC, dI) vwCl [((ad 1), .inr (0, [.int n, .int ev]))] s.heap := hP.sub [1] rfl
      refine cs_i (va_runV (As := [.int x1, .int x2]) (rest := []) hfix (c_X0_leastOf l dC dI cI cJ (ad 1) n ev x1 x2 _ hc27) (cwV 2 hts gX5_least_X0_leastOf rfl rfl rfl (by decide +kernel) ⟨by decide, by decide⟩) (roP.preV hK hPc (ci := 0) rfl rfl) rfl rfl hl.1 rfl (lv_room (Nat.le_of_ble_eq_true rfl)) dX5_least_27 ⟨Nat.zero_le _, Nat.zero_le _⟩) ?_
      exact W.iret hx hb hr (fun t ht _ => ro_Si (Ho_e h) ht) ro_nil dX5_least_30 hlk
    · have h := Ho_t h q15
      refine lv_bipush (v := (-2 : Int32)) hx hb dX5_least_18 (by decide) ?_
      exact W.iret hx hb hr (fun t ht _ => ro_Si (Ho_e h) ht) ro_nil dX5_least_20 hlk
abbrev rmX5_size : Room := { frames := 4, cells := 0, slots := 0, locals := 94 }
set_option maxHeartbeats 4000000 in
set_option maxRecDepth 100000 in
theorem c_X5_size (l : Launch) (dC : Nat → ClassId) (dI : Nat → Nat → Nat) (cI cJ : ClassId) (ad : Nat → Nat) (n : Int32) (ev : Int32) (ld0 : Int32) (ld1 : Int32) (ld2 : Int32) (tk : Int32) (mb : Int32) (f0 : Nat → Int32) (f1 : Nat → Int32) (f2 : Nat → Int32) (fr : Nat → Int32) (fu : Nat → Int32) (x1 : Int32) (x2 : Int32) (r : Int32) (hF : FX5_size n ev x1 x2 = some r) : Met l yX5_size wsX5_size rmX5_size (roP (dC, dI) [(cI, .int), (cJ, .long)] (wX5 cI cJ ad n ev ld0 ld1 ld2 tk mb f0 f1 f2 fr fu) [.ref (ad 0), .int x1, .int x2]) (vp_Si (fun x => x = r)) 0 0 (fun _ => False) := by
  refine ro_start (cc := cX5_size) (maxL := 3) (ret := (some .int)) (by decide) rfl (Nat.le_of_ble_eq_true rfl) ?_
  intro p e s m args below meth c ls hx hb hml hr hlk hown hts hP hK hl
  have hown : s.vm.findClass RX5 = some m.cls := hown
  have hl : lv_has ls 3 [(0, .ref (ad 0)), (1, .int x1), (2, .int x2)] := hl
  have h : Ho (FX5_size n ev x1 x2) (fun x => x = r) := ⟨r, hF, rfl⟩
  unfold FX5_size at h
  have hfix : CallFix p m c cX5_size 3 s args wsX5_size RX5 := ⟨hx, hb, hml, hown, hts⟩
  have hiX5 : ∀ w ∈ u_ws RX5 TX5 7, w ∈ wsX5_size := by decide +kernel
  have hf10 := hts (.fieldLink RX5 10 "RowClasses" "circle" "LRowClasses$Circle;") (by decide +kernel)
  refine lv_aload_n hx hb dX5_size_0 rfl (lv_at hl 0 rfl) ?_
  refine va_get (D := (dC, dI)) (ci := 5) (v := .ref (ad 1)) (C := RX5) (T := TX5) (N := 7) hx hb hts hiX5 hown hK.1 hP 0 rfl rfl 0 (by decide) hf10 (fun _ h9 => h9) rfl dX5_size_1 ?_
  refine lv_iload_n hx hb dX5_size_4 rfl (lv_at hl 1 rfl) ?_
  obtain ⟨r5, hc5, h⟩ := Ho_b h
  have hPc : va_P (dC, dI) vwCl [((ad 1), .inr (0, [.int n, .int ev]))] s.heap := hP.sub [1] rfl
  refine cs_i (va_runV (As := [.int x1]) (rest := []) hfix (c_X0_hasSet l dC dI cI cJ (ad 1) n ev x1 _ hc5) (cwV 1 hts gX5_size_X0_hasSet rfl rfl rfl (by decide +kernel) ⟨by decide, by decide⟩) (roP.preV hK hPc (ci := 0) rfl rfl) rfl rfl hl.1 rfl (lv_room (Nat.le_of_ble_eq_true rfl)) dX5_size_5 ⟨Nat.zero_le _, Nat.zero_le _⟩) ?_
  refine lv_if_eq (tgt := 18) hx hb dX5_size_8 (by decide) (fun q8 => ?_) (fun q8 => ?_)
  · have h := Ho_t h q8
    refine lv_bipush (v := (-2 : Int32)) hx hb dX5_size_18 (by decide) ?_
    exact W.iret hx hb hr (fun t ht _ => ro_Si (Ho_e h) ht) ro_nil dX5_size_20 hlk
  · have h := Ho_f h q8
    refine lv_iload_n hx hb dX5_size_11 rfl (lv_at hl 2 rfl) ?_
    obtain ⟨r12, hc12, h⟩ := Ho_b h
    refine cs_i (va_runS (As := [.int x2]) (rest := []) hfix (c_X5_isClassKind l dC dI cI cJ  x2 _ hc12) (va_cwS 1 hts gX5_size_X5_isClassKind rfl rfl rfl (by decide +kernel) ⟨by decide, by decide⟩) (roP.preS hK va_Pnil) rfl rfl hl.1 rfl (lv_room (Nat.le_of_ble_eq_true rfl)) dX5_size_12 ⟨Nat.zero_le _, Nat.zero_le _⟩) ?_
    refine lv_if_ne (tgt := 21) hx hb dX5_size_15 (by decide) (fun q15 => ?_) (fun q15 => ?_)
    · have h := Ho_f h q15
      refine lv_aload_n hx hb dX5_size_21 rfl (lv_at hl 0 rfl) ?_
      refine va_get (D := (dC, dI)) (ci := 5) (v := .ref (ad 1)) (C := RX5) (T := TX5) (N := 7) hx hb hts hiX5 hown hK.1 hP 0 rfl rfl 0 (by decide) hf10 (fun _ h9 => h9) rfl dX5_size_22 ?_
      refine lv_iload_n hx hb dX5_size_25 rfl (lv_at hl 1 rfl) ?_
      refine lv_iload_n hx hb dX5_size_26 rfl (lv_at hl 2 rfl) ?_
      refine lv_aload_n hx hb dX5_size_27 rfl (lv_at hl 0 rfl) ?_
      refine va_get (D := (dC, dI)) (ci := 5) (v := .ref (ad 1)) (C := RX5) (T := TX5) (N := 7) hx hb hts hiX5 hown hK.1 hP 0 rfl rfl 0 (by decide) hf10 (fun _ h9 => h9) rfl dX5_size_28 ?_
      obtain ⟨r31, hc31, h⟩ := Ho_b h
      have hPc : va_P (dC, dI) vwCl [((ad 1), .inr (0, [.int n, .int ev]))] s.heap := hP.sub [1] rfl
      refine cs_i (va_runV (As := []) (rest := [.int x2, .int x1, .ref (ad 1)]) hfix (c_X0_all l dC dI cI cJ (ad 1) n ev _ hc31) (cwV 0 hts gX5_size_X0_all rfl rfl rfl (by decide +kernel) ⟨by decide, by decide⟩) (roP.preV hK hPc (ci := 0) rfl rfl) rfl rfl hl.1 rfl (lv_room (Nat.le_of_ble_eq_true rfl)) dX5_size_31 ⟨Nat.zero_le _, Nat.zero_le _⟩) ?_
      obtain ⟨r34, hc34, h⟩ := Ho_b h
      have hPc : va_P (dC, dI) vwCl [((ad 1), .inr (0, [.int n, .int ev]))] s.heap := hP.sub [1] rfl
      refine cs_i (va_runV (As := [.int x1, .int x2, .int r31]) (rest := []) hfix (c_X0_membersInside l dC dI cI cJ (ad 1) n ev x1 x2 r31 _ hc34) (cwV 3 hts gX5_size_X0_membersInside rfl rfl rfl (by decide +kernel) ⟨by decide, by decide⟩) (roP.preV hK hPc (ci := 0) rfl rfl) rfl rfl hl.1 rfl (lv_room (Nat.le_of_ble_eq_true rfl)) dX5_size_34 ⟨Nat.zero_le _, Nat.zero_le _⟩) ?_
      exact W.iret hx hb hr (fun t ht _ => ro_Si (Ho_e h) ht) ro_nil dX5_size_37 hlk
    · have h := Ho_t h q15
      refine lv_bipush (v := (-2 : Int32)) hx hb dX5_size_18 (by decide) ?_
      exact W.iret hx hb hr (fun t ht _ => ro_Si (Ho_e h) ht) ro_nil dX5_size_20 hlk
abbrev rmX5_isSetSize : Room := { frames := 1, cells := 0, slots := 0, locals := 20 }
set_option maxHeartbeats 4000000 in
set_option maxRecDepth 100000 in
theorem c_X5_isSetSize (l : Launch) (dC : Nat → ClassId) (dI : Nat → Nat → Nat) (cI cJ : ClassId) (ad : Nat → Nat) (n : Int32) (ev : Int32) (ld0 : Int32) (ld1 : Int32) (ld2 : Int32) (tk : Int32) (mb : Int32) (f0 : Nat → Int32) (f1 : Nat → Int32) (f2 : Nat → Int32) (fr : Nat → Int32) (fu : Nat → Int32) (x1 : Int32) (r : Int32) (hF : FX5_isSetSize n x1 = some r) : Met l yX5_isSetSize wsX5_isSetSize rmX5_isSetSize (roP (dC, dI) [(cI, .int), (cJ, .long)] (wX5 cI cJ ad n ev ld0 ld1 ld2 tk mb f0 f1 f2 fr fu) [.ref (ad 0), .int x1]) (vp_Si (fun x => x = r)) 0 0 (fun _ => False) := by
  refine ro_start (cc := cX5_isSetSize) (maxL := 2) (ret := (some .boolean)) (by decide) rfl (Nat.le_of_ble_eq_true rfl) ?_
  intro p e s m args below meth c ls hx hb hml hr hlk hown hts hP hK hl
  have hown : s.vm.findClass RX5 = some m.cls := hown
  have hl : lv_has ls 2 [(0, .ref (ad 0)), (1, .int x1)] := hl
  have h : Ho (FX5_isSetSize n x1) (fun x => x = r) := ⟨r, hF, rfl⟩
  unfold FX5_isSetSize at h
  have hfix : CallFix p m c cX5_isSetSize 2 s args wsX5_isSetSize RX5 := ⟨hx, hb, hml, hown, hts⟩
  have hiX5 : ∀ w ∈ u_ws RX5 TX5 7, w ∈ wsX5_isSetSize := by decide +kernel
  have hf10 := hts (.fieldLink RX5 10 "RowClasses" "circle" "LRowClasses$Circle;") (by decide +kernel)
  refine lv_iload_n hx hb dX5_isSetSize_0 rfl (lv_at hl 1 rfl) ?_
  refine lv_if_lt (tgt := 19) hx hb dX5_isSetSize_1 (by decide) (fun q1 => ?_) (fun q1 => ?_)
  · have h := Ho_t h q1
    refine lv_iconst (v := (0 : Int32)) hx hb dX5_isSetSize_19 (by decide) ?_
    exact W.zret (ty := .boolean) hx hb hr rfl (fun t ht _ => ro_Si (Ho_e h) ht) ro_nil dX5_isSetSize_20 hlk
  · have h := Ho_f h q1
    refine lv_iload_n hx hb dX5_isSetSize_4 rfl (lv_at hl 1 rfl) ?_
    refine lv_aload_n hx hb dX5_isSetSize_5 rfl (lv_at hl 0 rfl) ?_
    refine va_get (D := (dC, dI)) (ci := 5) (v := .ref (ad 1)) (C := RX5) (T := TX5) (N := 7) hx hb hts hiX5 hown hK.1 hP 0 rfl rfl 0 (by decide) hf10 (fun _ h9 => h9) rfl dX5_isSetSize_6 ?_
    obtain ⟨r9, hc9, h⟩ := Ho_b h
    have hPc : va_P (dC, dI) vwCl [((ad 1), .inr (0, [.int n, .int ev]))] s.heap := hP.sub [1] rfl
    refine cs_i (va_runV (As := []) (rest := [.int x1]) hfix (c_X0_count l dC dI cI cJ (ad 1) n ev _ hc9) (cwV 0 hts gX5_isSetSize_X0_count rfl rfl rfl (by decide +kernel) ⟨by decide, by decide⟩) (roP.preV hK hPc (ci := 0) rfl rfl) rfl rfl hl.1 rfl (lv_room (Nat.le_of_ble_eq_true rfl)) dX5_isSetSize_9 ⟨Nat.zero_le _, Nat.zero_le _⟩) ?_
    refine lv_icmp_gt (tgt := 19) hx hb dX5_isSetSize_12 (by decide) (fun q12 => ?_) (fun q12 => ?_)
    · have h := Ho_t h q12
      refine lv_iconst (v := (0 : Int32)) hx hb dX5_isSetSize_19 (by decide) ?_
      exact W.zret (ty := .boolean) hx hb hr rfl (fun t ht _ => ro_Si (Ho_e h) ht) ro_nil dX5_isSetSize_20 hlk
    · have h := Ho_f h q12
      refine lv_iconst (v := (1 : Int32)) hx hb dX5_isSetSize_15 (by decide) ?_
      refine lv_goto (tgt := 20) hx hb dX5_isSetSize_16 (by decide) ?_
      exact W.zret (ty := .boolean) hx hb hr rfl (fun t ht _ => ro_Si (Ho_e h) ht) ro_nil dX5_isSetSize_20 hlk
abbrev rmX5_listOf : Room := { frames := 0, cells := 0, slots := 0, locals := 0 }
set_option maxHeartbeats 4000000 in
set_option maxRecDepth 100000 in
theorem c_X5_listOf (l : Launch) (dC : Nat → ClassId) (dI : Nat → Nat → Nat) (cI cJ : ClassId) (ad : Nat → Nat) (n : Int32) (ev : Int32) (ld0 : Int32) (ld1 : Int32) (ld2 : Int32) (tk : Int32) (mb : Int32) (f0 : Nat → Int32) (f1 : Nat → Int32) (f2 : Nat → Int32) (fr : Nat → Int32) (fu : Nat → Int32) (x1 : Int32) (r : Nat) (hF : r = if x1 = 0 then ad 3 else if x1 = 1 then ad 4 else ad 5) : Met l yX5_listOf wsX5_listOf rmX5_listOf (roP (dC, dI) [(cI, .int), (cJ, .long)] (wX5 cI cJ ad n ev ld0 ld1 ld2 tk mb f0 f1 f2 fr fu) [.ref (ad 0), .int x1]) (ro_Sr r) 0 0 (fun _ => False) := by
  refine ro_start (cc := cX5_listOf) (maxL := 2) (ret := (some (.object "RowClasses$ClassList"))) (by decide) rfl (Nat.le_of_ble_eq_true rfl) ?_
  intro p e s m args below meth c ls hx hb hml hr hlk hown hts hP hK hl
  have hown : s.vm.findClass RX5 = some m.cls := hown
  have hl : lv_has ls 2 [(0, .ref (ad 0)), (1, .int x1)] := hl
  have hiX5 : ∀ w ∈ u_ws RX5 TX5 7, w ∈ wsX5_listOf := by decide +kernel
  have hf30 := hts (.fieldLink RX5 30 "RowClasses" "turnedClasses" "LRowClasses$ClassList;") (by decide +kernel)
  have hf34 := hts (.fieldLink RX5 34 "RowClasses" "mirroredClasses" "LRowClasses$ClassList;") (by decide +kernel)
  have hf37 := hts (.fieldLink RX5 37 "RowClasses" "unitClasses" "LRowClasses$ClassList;") (by decide +kernel)
  refine lv_iload_n hx hb dX5_listOf_0 rfl (lv_at hl 1 rfl) ?_
  refine lv_if_ne (tgt := 9) hx hb dX5_listOf_1 (by decide) (fun q1 => ?_) (fun q1 => ?_)
  · rw [if_neg q1] at hF
    refine lv_iload_n hx hb dX5_listOf_9 rfl (lv_at hl 1 rfl) ?_
    refine lv_iconst (v := (1 : Int32)) hx hb dX5_listOf_10 (by decide) ?_
    refine lv_icmp_ne (tgt := 21) hx hb dX5_listOf_11 (by decide) (fun q2 => ?_) (fun q2 => ?_)
    · rw [if_neg q2] at hF
      refine lv_aload_n hx hb dX5_listOf_21 rfl (lv_at hl 0 rfl) ?_
      refine va_get (D := (dC, dI)) (ci := 5) (v := .ref (ad 5)) (C := RX5) (T := TX5) (N := 7) hx hb hts hiX5 hown hK.1 hP 0 rfl rfl 4 (by decide) hf37 (fun _ h9 => h9) rfl dX5_listOf_22 ?_
      exact W.aret hx hb hr (Or.inl ⟨_, rfl⟩) (Or.inr ⟨_, rfl⟩) (fun t ht _ => ⟨by rw [hF], ht⟩) ro_nil dX5_listOf_25 hlk
    · rw [if_pos q2] at hF
      refine lv_aload_n hx hb dX5_listOf_14 rfl (lv_at hl 0 rfl) ?_
      refine va_get (D := (dC, dI)) (ci := 5) (v := .ref (ad 4)) (C := RX5) (T := TX5) (N := 7) hx hb hts hiX5 hown hK.1 hP 0 rfl rfl 3 (by decide) hf34 (fun _ h9 => h9) rfl dX5_listOf_15 ?_
      refine lv_goto (tgt := 25) hx hb dX5_listOf_18 (by decide) ?_
      exact W.aret hx hb hr (Or.inl ⟨_, rfl⟩) (Or.inr ⟨_, rfl⟩) (fun t ht _ => ⟨by rw [hF], ht⟩) ro_nil dX5_listOf_25 hlk
  · rw [if_pos q1] at hF
    refine lv_aload_n hx hb dX5_listOf_4 rfl (lv_at hl 0 rfl) ?_
    refine va_get (D := (dC, dI)) (ci := 5) (v := .ref (ad 3)) (C := RX5) (T := TX5) (N := 7) hx hb hts hiX5 hown hK.1 hP 0 rfl rfl 2 (by decide) hf30 (fun _ h9 => h9) rfl dX5_listOf_5 ?_
    exact W.aret hx hb hr (Or.inl ⟨_, rfl⟩) (Or.inr ⟨_, rfl⟩) (fun t ht _ => ⟨by rw [hF], ht⟩) ro_nil dX5_listOf_8 hlk

abbrev rmX5_classes : Room := { frames := 6, cells := 0, slots := 0, locals := 136 }
set_option maxHeartbeats 4000000 in
set_option maxRecDepth 100000 in
theorem c_X5_classes (l : Launch) (dC : Nat → ClassId) (dI : Nat → Nat → Nat) (cI cJ : ClassId) (ad : Nat → Nat) (sz : Nat) (n : Int32) (ev : Int32) (ld0 : Int32) (ld1 : Int32) (ld2 : Int32) (tk : Int32) (mb : Int32) (f0 : Nat → Int32) (f1 : Nat → Int32) (f2 : Nat → Int32) (fr : Nat → Int32) (fu : Nat → Int32) (x1 : Int32) (x2 : Int32) (r : Int32) (ld0' : Int32) (ld1' : Int32) (ld2' : Int32) (f0' : Nat → Int32) (f1' : Nat → Int32) (f2' : Nat → Int32) (hF : FX5_classes n ev ld0 ld1 ld2 f0 f1 f2 x1 x2 = some (r, ld0', ld1', ld2', f0', f1', f2')) : Met l yX5_classes wsX5_classes rmX5_classes (rwP (dC, dI) [(cI, .int), (cJ, .long)] sz (wX5 cI cJ ad n ev ld0 ld1 ld2 tk mb f0 f1 f2 fr fu) [.ref (ad 0), .int x1, .int x2]) (va_Qi (fun (x : Int32) (_ : Unit) => x = r) (fun _ t => va_P (dC, dI) vwCl (wX5 cI cJ ad n ev ld0' ld1' ld2' tk mb f0' f1' f2' fr fu) t.heap ∧ vK (dC, dI) [(cI, .int), (cJ, .long)] t ∧ va_D (va_A (wX5 cI cJ ad n ev ld0 ld1 ld2 tk mb f0 f1 f2 fr fu) sz) (wX5 cI cJ ad n ev ld0' ld1' ld2' tk mb f0' f1' f2' fr fu)) (va_A (wX5 cI cJ ad n ev ld0 ld1 ld2 tk mb f0 f1 f2 fr fu) sz)) 0 0 (va_A (wX5 cI cJ ad n ev ld0 ld1 ld2 tk mb f0 f1 f2 fr fu) sz) := by
  refine rw_start (cc := cX5_classes) (maxL := 3) (ret := (some .int)) (by decide) rfl (Nat.le_of_ble_eq_true rfl) ?_
  intro p e s m args below meth c ls A H locs hx hb hml hr hlk hown hts hsz hP hK hD hA hS hAe hl
  have hown : s.vm.findClass RX5 = some m.cls := hown
  have hl : lv_has ls 3 [(0, .ref (ad 0)), (1, .int x1), (2, .int x2)] := hl
  have h : Ho (FX5_classes n ev ld0 ld1 ld2 f0 f1 f2 x1 x2) (fun x => x = (r, ld0', ld1', ld2', f0', f1', f2')) := ⟨_, hF, rfl⟩
  unfold FX5_classes at h
  have QI : ∀ {v0 : Int32} {ld09 : Int32} {ld19 : Int32} {ld29 : Int32} {f09 : Nat → Int32} {f19 : Nat → Int32} {f29 : Nat → Int32} {t : State}, (v0, ld09, ld19, ld29, f09, f19, f29) = (r, ld0', ld1', ld2', f0', f1', f2') → va_P (dC, dI) vwCl (wX5 cI cJ ad n ev ld09 ld19 ld29 tk mb f09 f19 f29 fr fu) t.heap → vK (dC, dI) [(cI, .int), (cJ, .long)] t → va_D A (wX5 cI cJ ad n ev ld09 ld19 ld29 tk mb f09 f19 f29 fr fu) → va_F A s t → (va_Qi (fun (x : Int32) (_ : Unit) => x = r) (fun _ t => va_P (dC, dI) vwCl (wX5 cI cJ ad n ev ld0' ld1' ld2' tk mb f0' f1' f2' fr fu) t.heap ∧ vK (dC, dI) [(cI, .int), (cJ, .long)] t ∧ va_D (va_A (wX5 cI cJ ad n ev ld0 ld1 ld2 tk mb f0 f1 f2 fr fu) sz) (wX5 cI cJ ad n ev ld0' ld1' ld2' tk mb f0' f1' f2' fr fu)) (va_A (wX5 cI cJ ad n ev ld0 ld1 ld2 tk mb f0 f1 f2 fr fu) sz)) args s (.returned (some (.int v0))) t := by
    intro v0 ld09 ld19 ld29 f09 f19 f29 t e9 q1 q2 q3 q4
    cases e9
    subst hAe
    exact ⟨⟨_, (), rfl, rfl, q1, q2, q3⟩, q4⟩
  have hfix : CallFix p m c cX5_classes 3 s args wsX5_classes RX5 := ⟨hx, hb, hml, hown, hts⟩
  refine lv_aload_n hx hb dX5_classes_0 rfl (lv_at hl 0 rfl) ?_
  refine lv_iload_n hx hb dX5_classes_1 rfl (lv_at hl 1 rfl) ?_
  obtain ⟨r2, hc2, h⟩ := Ho_b h
  have hPc : va_P (dC, dI) vwCl (wX5 cI cJ ad n ev ld0 ld1 ld2 tk mb f0 f1 f2 fr fu) H := hP.sub [0, 1, 2, 3, 4, 5, 6, 7, 8, 9, 10, 11, 12] rfl
  refine cs_i (va_runV (As := [.int x1]) (rest := []) hfix (c_X5_isSetSize l dC dI cI cJ ad n ev ld0 ld1 ld2 tk mb f0 f1 f2 fr fu x1 _ hc2) (cwV 1 hts gX5_classes_X5_isSetSize rfl rfl rfl (by decide +kernel) ⟨by decide, by decide⟩) (roP.preV hK hPc (ci := 5) rfl rfl) rfl rfl hl.1 rfl (lv_room (Nat.le_of_ble_eq_true rfl)) dX5_classes_2 ⟨Nat.zero_le _, Nat.zero_le _⟩) ?_
  refine lv_if_eq (tgt := 15) hx hb dX5_classes_5 (by decide) (fun q5 => ?_) (fun q5 => ?_)
  · have h := Ho_t h q5
    refine lv_bipush (v := (-2 : Int32)) hx hb dX5_classes_15 (by decide) ?_
    exact W.iret hx hb hr (fun t ht hW => QI (Ho_e h) (by rw [ht]; exact hP) (hK.warm hW) hD (hS.F ht)) hS.2.2 dX5_classes_17 hlk
  · have h := Ho_f h q5
    refine lv_iload_n hx hb dX5_classes_8 rfl (lv_at hl 2 rfl) ?_
    obtain ⟨r9, hc9, h⟩ := Ho_b h
    refine cs_i (va_runS (As := [.int x2]) (rest := []) hfix (c_X5_isClassKind l dC dI cI cJ  x2 _ hc9) (va_cwS 1 hts gX5_classes_X5_isClassKind rfl rfl rfl (by decide +kernel) ⟨by decide, by decide⟩) (roP.preS hK va_Pnil) rfl rfl hl.1 rfl (lv_room (Nat.le_of_ble_eq_true rfl)) dX5_classes_9 ⟨Nat.zero_le _, Nat.zero_le _⟩) ?_
    refine lv_if_ne (tgt := 18) hx hb dX5_classes_12 (by decide) (fun q12 => ?_) (fun q12 => ?_)
    · have h := Ho_f h q12
      refine lv_aload_n hx hb dX5_classes_18 rfl (lv_at hl 0 rfl) ?_
      refine lv_iload_n hx hb dX5_classes_19 rfl (lv_at hl 2 rfl) ?_
      have hPc : va_P (dC, dI) vwCl (wX5 cI cJ ad n ev ld0 ld1 ld2 tk mb f0 f1 f2 fr fu) H := hP
      refine cs_r (va_runV (As := [.int x2]) (rest := []) hfix (c_X5_listOf l dC dI cI cJ ad n ev ld0 ld1 ld2 tk mb f0 f1 f2 fr fu x2 _ rfl) (cwV 1 hts gX5_classes_X5_listOf rfl rfl rfl (by decide +kernel) ⟨by decide, by decide⟩) (roP.preV hK hPc (ci := 5) rfl rfl) rfl rfl hl.1 rfl (lv_room (Nat.le_of_ble_eq_true rfl)) dX5_classes_20 ⟨Nat.zero_le _, Nat.zero_le _⟩) ?_
      by_cases q20 : x2 = 0
      · have h := Ho_t h q20
        rw [if_pos q20]
        refine lv_iload_n hx hb dX5_classes_23 rfl (lv_at hl 1 rfl) ?_
        obtain ⟨r24, ld0_24, f0_24, hc24, h⟩ := Ho_b3 h
        have hPc : va_P (dC, dI) vwCl [((ad 3), .inr (1, [.ref (ad 1), .int (0 : Int32), .ref (ad 8), .int ld0])), ((ad 1), .inr (0, [.int n, .int ev])), ((ad 8), .inl (cI, 352, .inl f0))] H := hP.sub [3, 1, 8] rfl
        have hDc : va_D A [((ad 3), .inr (1, [.ref (ad 1), .int (0 : Int32), .ref (ad 8), .int ld0])), ((ad 1), .inr (0, [.int n, .int ev])), ((ad 8), .inl (cI, 352, .inl f0))] := hD.sub [3, 1, 8] (by decide) rfl
        have hFc := va_free (wc := [((ad 3), .inr (1, [.ref (ad 1), .int (0 : Int32), .ref (ad 8), .int ld0])), ((ad 1), .inr (0, [.int n, .int ev])), ((ad 8), .inl (cI, 352, .inl f0))]) hD hS hA [3, 1, 8] rfl
        refine va_calli (va_runV (As := [.int x1]) (rest := []) hfix (c_X1_countOfSize l dC dI cI cJ (ad 3) (ad 1) (ad 8) H.size (0 : Int32) ld0 n ev f0 x1 _ _ _ hc24) (cwV 1 hts gX5_classes_X1_countOfSize rfl rfl rfl (by decide +kernel) ⟨by decide, by decide⟩) (rwP.preV hK hPc hDc rfl (ci := 1) rfl rfl) rfl rfl hl.1 rfl (lv_room (Nat.le_of_ble_eq_true rfl)) dX5_classes_24 ⟨Nat.zero_le _, Nat.zero_le _⟩) hS (fun q _ h => hFc q h) hFc (fun y24 u t H1 locs ht hvm hw hB hz1 hk1 hS => ?_)
        obtain ⟨hP1, -, hD1⟩ := hB
        rw [ht] at hP1
        have hw : y24 = r24 := hw
        rw [hw]
        obtain ⟨hP, hD⟩ := va_join (wr := [((ad 0), .inr (5, [.ref (ad 1), .ref (ad 2), .ref (ad 3), .ref (ad 4), .ref (ad 5), .ref (ad 6), .ref (ad 7)])), ((ad 2), .inr (2, [.ref (ad 1)])), ((ad 4), .inr (1, [.ref (ad 1), .int 1, .ref (ad 9), .int ld1])), ((ad 5), .inr (1, [.ref (ad 1), .int 2, .ref (ad 10), .int ld2])), ((ad 6), .inr (3, [.ref (ad 1), .ref (ad 11), .int tk, .int mb])), ((ad 7), .inr (4, [.ref (ad 12)])), ((ad 9), .inl (cI, 352, .inl f1)), ((ad 10), .inl (cI, 352, .inl f2)), ((ad 11), .inl (cI, 12, .inl fr)), ((ad 12), .inl (cI, 13, .inl fu))]) (w1 := [((ad 3), .inr (1, [.ref (ad 1), .int (0 : Int32), .ref (ad 8), .int ld0_24])), ((ad 1), .inr (0, [.int n, .int ev])), ((ad 8), .inl (cI, 352, .inl f0_24))]) hP hD [3, 1, 8] [0, 2, 4, 5, 6, 7, 9, 10, 11, 12] rfl rfl (by decide) (by decide) hk1 hFc hP1 hD1
        generalize H1 = H at hP hS ⊢
        have hP : va_P (dC, dI) vwCl (wX5 cI cJ ad n ev ld0_24 ld1 ld2 tk mb f0_24 f1 f2 fr fu) H := hP.sub [0, 11, 1, 10, 2, 3, 4, 5, 12, 6, 7, 8, 9] rfl
        have hD : va_D A (wX5 cI cJ ad n ev ld0_24 ld1 ld2 tk mb f0_24 f1 f2 fr fu) := hD.sub [0, 11, 1, 10, 2, 3, 4, 5, 12, 6, 7, 8, 9] (by decide) rfl
        exact W.iret hx hb hr (fun t ht hW => QI (Ho_e h) (by rw [ht]; exact hP) (hK.warm hW) hD (hS.F ht)) hS.2.2 dX5_classes_27 hlk
      · have h := Ho_f h q20
        rw [if_neg q20]
        by_cases q120 : x2 = 1
        · have h := Ho_t h q120
          rw [if_pos q120]
          refine lv_iload_n hx hb dX5_classes_23 rfl (lv_at hl 1 rfl) ?_
          obtain ⟨r24, ld1_24, f1_24, hc24, h⟩ := Ho_b3 h
          have hPc : va_P (dC, dI) vwCl [((ad 4), .inr (1, [.ref (ad 1), .int (1 : Int32), .ref (ad 9), .int ld1])), ((ad 1), .inr (0, [.int n, .int ev])), ((ad 9), .inl (cI, 352, .inl f1))] H := hP.sub [4, 1, 9] rfl
          have hDc : va_D A [((ad 4), .inr (1, [.ref (ad 1), .int (1 : Int32), .ref (ad 9), .int ld1])), ((ad 1), .inr (0, [.int n, .int ev])), ((ad 9), .inl (cI, 352, .inl f1))] := hD.sub [4, 1, 9] (by decide) rfl
          have hFc := va_free (wc := [((ad 4), .inr (1, [.ref (ad 1), .int (1 : Int32), .ref (ad 9), .int ld1])), ((ad 1), .inr (0, [.int n, .int ev])), ((ad 9), .inl (cI, 352, .inl f1))]) hD hS hA [4, 1, 9] rfl
          refine va_calli (va_runV (As := [.int x1]) (rest := []) hfix (c_X1_countOfSize l dC dI cI cJ (ad 4) (ad 1) (ad 9) H.size (1 : Int32) ld1 n ev f1 x1 _ _ _ hc24) (cwV 1 hts gX5_classes_X1_countOfSize rfl rfl rfl (by decide +kernel) ⟨by decide, by decide⟩) (rwP.preV hK hPc hDc rfl (ci := 1) rfl rfl) rfl rfl hl.1 rfl (lv_room (Nat.le_of_ble_eq_true rfl)) dX5_classes_24 ⟨Nat.zero_le _, Nat.zero_le _⟩) hS (fun q _ h => hFc q h) hFc (fun y24 u t H1 locs ht hvm hw hB hz1 hk1 hS => ?_)
          obtain ⟨hP1, -, hD1⟩ := hB
          rw [ht] at hP1
          have hw : y24 = r24 := hw
          rw [hw]
          obtain ⟨hP, hD⟩ := va_join (wr := [((ad 0), .inr (5, [.ref (ad 1), .ref (ad 2), .ref (ad 3), .ref (ad 4), .ref (ad 5), .ref (ad 6), .ref (ad 7)])), ((ad 2), .inr (2, [.ref (ad 1)])), ((ad 3), .inr (1, [.ref (ad 1), .int 0, .ref (ad 8), .int ld0])), ((ad 5), .inr (1, [.ref (ad 1), .int 2, .ref (ad 10), .int ld2])), ((ad 6), .inr (3, [.ref (ad 1), .ref (ad 11), .int tk, .int mb])), ((ad 7), .inr (4, [.ref (ad 12)])), ((ad 8), .inl (cI, 352, .inl f0)), ((ad 10), .inl (cI, 352, .inl f2)), ((ad 11), .inl (cI, 12, .inl fr)), ((ad 12), .inl (cI, 13, .inl fu))]) (w1 := [((ad 4), .inr (1, [.ref (ad 1), .int (1 : Int32), .ref (ad 9), .int ld1_24])), ((ad 1), .inr (0, [.int n, .int ev])), ((ad 9), .inl (cI, 352, .inl f1_24))]) hP hD [4, 1, 9] [0, 2, 3, 5, 6, 7, 8, 10, 11, 12] rfl rfl (by decide) (by decide) hk1 hFc hP1 hD1
          generalize H1 = H at hP hS ⊢
          have hP : va_P (dC, dI) vwCl (wX5 cI cJ ad n ev ld0 ld1_24 ld2 tk mb f0 f1_24 f2 fr fu) H := hP.sub [0, 11, 1, 2, 10, 3, 4, 5, 6, 12, 7, 8, 9] rfl
          have hD : va_D A (wX5 cI cJ ad n ev ld0 ld1_24 ld2 tk mb f0 f1_24 f2 fr fu) := hD.sub [0, 11, 1, 2, 10, 3, 4, 5, 6, 12, 7, 8, 9] (by decide) rfl
          exact W.iret hx hb hr (fun t ht hW => QI (Ho_e h) (by rw [ht]; exact hP) (hK.warm hW) hD (hS.F ht)) hS.2.2 dX5_classes_27 hlk
        · have h := Ho_f h q120
          rw [if_neg q120]
          refine lv_iload_n hx hb dX5_classes_23 rfl (lv_at hl 1 rfl) ?_
          obtain ⟨r24, ld2_24, f2_24, hc24, h⟩ := Ho_b3 h
          have hPc : va_P (dC, dI) vwCl [((ad 5), .inr (1, [.ref (ad 1), .int (2 : Int32), .ref (ad 10), .int ld2])), ((ad 1), .inr (0, [.int n, .int ev])), ((ad 10), .inl (cI, 352, .inl f2))] H := hP.sub [5, 1, 10] rfl
          have hDc : va_D A [((ad 5), .inr (1, [.ref (ad 1), .int (2 : Int32), .ref (ad 10), .int ld2])), ((ad 1), .inr (0, [.int n, .int ev])), ((ad 10), .inl (cI, 352, .inl f2))] := hD.sub [5, 1, 10] (by decide) rfl
          have hFc := va_free (wc := [((ad 5), .inr (1, [.ref (ad 1), .int (2 : Int32), .ref (ad 10), .int ld2])), ((ad 1), .inr (0, [.int n, .int ev])), ((ad 10), .inl (cI, 352, .inl f2))]) hD hS hA [5, 1, 10] rfl
          refine va_calli (va_runV (As := [.int x1]) (rest := []) hfix (c_X1_countOfSize l dC dI cI cJ (ad 5) (ad 1) (ad 10) H.size (2 : Int32) ld2 n ev f2 x1 _ _ _ hc24) (cwV 1 hts gX5_classes_X1_countOfSize rfl rfl rfl (by decide +kernel) ⟨by decide, by decide⟩) (rwP.preV hK hPc hDc rfl (ci := 1) rfl rfl) rfl rfl hl.1 rfl (lv_room (Nat.le_of_ble_eq_true rfl)) dX5_classes_24 ⟨Nat.zero_le _, Nat.zero_le _⟩) hS (fun q _ h => hFc q h) hFc (fun y24 u t H1 locs ht hvm hw hB hz1 hk1 hS => ?_)
          obtain ⟨hP1, -, hD1⟩ := hB
          rw [ht] at hP1
          have hw : y24 = r24 := hw
          rw [hw]
          obtain ⟨hP, hD⟩ := va_join (wr := [((ad 0), .inr (5, [.ref (ad 1), .ref (ad 2), .ref (ad 3), .ref (ad 4), .ref (ad 5), .ref (ad 6), .ref (ad 7)])), ((ad 2), .inr (2, [.ref (ad 1)])), ((ad 3), .inr (1, [.ref (ad 1), .int 0, .ref (ad 8), .int ld0])), ((ad 4), .inr (1, [.ref (ad 1), .int 1, .ref (ad 9), .int ld1])), ((ad 6), .inr (3, [.ref (ad 1), .ref (ad 11), .int tk, .int mb])), ((ad 7), .inr (4, [.ref (ad 12)])), ((ad 8), .inl (cI, 352, .inl f0)), ((ad 9), .inl (cI, 352, .inl f1)), ((ad 11), .inl (cI, 12, .inl fr)), ((ad 12), .inl (cI, 13, .inl fu))]) (w1 := [((ad 5), .inr (1, [.ref (ad 1), .int (2 : Int32), .ref (ad 10), .int ld2_24])), ((ad 1), .inr (0, [.int n, .int ev])), ((ad 10), .inl (cI, 352, .inl f2_24))]) hP hD [5, 1, 10] [0, 2, 3, 4, 6, 7, 8, 9, 11, 12] rfl rfl (by decide) (by decide) hk1 hFc hP1 hD1
          generalize H1 = H at hP hS ⊢
          have hP : va_P (dC, dI) vwCl (wX5 cI cJ ad n ev ld0 ld1 ld2_24 tk mb f0 f1 f2_24 fr fu) H := hP.sub [0, 11, 1, 2, 3, 10, 4, 5, 6, 7, 12, 8, 9] rfl
          have hD : va_D A (wX5 cI cJ ad n ev ld0 ld1 ld2_24 tk mb f0 f1 f2_24 fr fu) := hD.sub [0, 11, 1, 2, 3, 10, 4, 5, 6, 7, 12, 8, 9] (by decide) rfl
          exact W.iret hx hb hr (fun t ht hW => QI (Ho_e h) (by rw [ht]; exact hP) (hK.warm hW) hD (hS.F ht)) hS.2.2 dX5_classes_27 hlk
    · have h := Ho_t h q12
      refine lv_bipush (v := (-2 : Int32)) hx hb dX5_classes_15 (by decide) ?_
      exact W.iret hx hb hr (fun t ht hW => QI (Ho_e h) (by rw [ht]; exact hP) (hK.warm hW) hD (hS.F ht)) hS.2.2 dX5_classes_17 hlk
abbrev rmX5_nth : Room := { frames := 6, cells := 0, slots := 0, locals := 137 }
set_option maxHeartbeats 4000000 in
set_option maxRecDepth 100000 in
theorem c_X5_nth (l : Launch) (dC : Nat → ClassId) (dI : Nat → Nat → Nat) (cI cJ : ClassId) (ad : Nat → Nat) (sz : Nat) (n : Int32) (ev : Int32) (ld0 : Int32) (ld1 : Int32) (ld2 : Int32) (tk : Int32) (mb : Int32) (f0 : Nat → Int32) (f1 : Nat → Int32) (f2 : Nat → Int32) (fr : Nat → Int32) (fu : Nat → Int32) (x1 : Int32) (x2 : Int32) (x3 : Int32) (r : Int32) (ld0' : Int32) (ld1' : Int32) (ld2' : Int32) (f0' : Nat → Int32) (f1' : Nat → Int32) (f2' : Nat → Int32) (hF : FX5_nth n ev ld0 ld1 ld2 f0 f1 f2 x1 x2 x3 = some (r, ld0', ld1', ld2', f0', f1', f2')) : Met l yX5_nth wsX5_nth rmX5_nth (rwP (dC, dI) [(cI, .int), (cJ, .long)] sz (wX5 cI cJ ad n ev ld0 ld1 ld2 tk mb f0 f1 f2 fr fu) [.ref (ad 0), .int x1, .int x2, .int x3]) (va_Qi (fun (x : Int32) (_ : Unit) => x = r) (fun _ t => va_P (dC, dI) vwCl (wX5 cI cJ ad n ev ld0' ld1' ld2' tk mb f0' f1' f2' fr fu) t.heap ∧ vK (dC, dI) [(cI, .int), (cJ, .long)] t ∧ va_D (va_A (wX5 cI cJ ad n ev ld0 ld1 ld2 tk mb f0 f1 f2 fr fu) sz) (wX5 cI cJ ad n ev ld0' ld1' ld2' tk mb f0' f1' f2' fr fu)) (va_A (wX5 cI cJ ad n ev ld0 ld1 ld2 tk mb f0 f1 f2 fr fu) sz)) 0 0 (va_A (wX5 cI cJ ad n ev ld0 ld1 ld2 tk mb f0 f1 f2 fr fu) sz) := by
  refine rw_start (cc := cX5_nth) (maxL := 4) (ret := (some .int)) (by decide) rfl (Nat.le_of_ble_eq_true rfl) ?_
  intro p e s m args below meth c ls A H locs hx hb hml hr hlk hown hts hsz hP hK hD hA hS hAe hl
  have hown : s.vm.findClass RX5 = some m.cls := hown
  have hl : lv_has ls 4 [(0, .ref (ad 0)), (1, .int x1), (2, .int x2), (3, .int x3)] := hl
  have h : Ho (FX5_nth n ev ld0 ld1 ld2 f0 f1 f2 x1 x2 x3) (fun x => x = (r, ld0', ld1', ld2', f0', f1', f2')) := ⟨_, hF, rfl⟩
  unfold FX5_nth at h
  have QI : ∀ {v0 : Int32} {ld09 : Int32} {ld19 : Int32} {ld29 : Int32} {f09 : Nat → Int32} {f19 : Nat → Int32} {f29 : Nat → Int32} {t : State}, (v0, ld09, ld19, ld29, f09, f19, f29) = (r, ld0', ld1', ld2', f0', f1', f2') → va_P (dC, dI) vwCl (wX5 cI cJ ad n ev ld09 ld19 ld29 tk mb f09 f19 f29 fr fu) t.heap → vK (dC, dI) [(cI, .int), (cJ, .long)] t → va_D A (wX5 cI cJ ad n ev ld09 ld19 ld29 tk mb f09 f19 f29 fr fu) → va_F A s t → (va_Qi (fun (x : Int32) (_ : Unit) => x = r) (fun _ t => va_P (dC, dI) vwCl (wX5 cI cJ ad n ev ld0' ld1' ld2' tk mb f0' f1' f2' fr fu) t.heap ∧ vK (dC, dI) [(cI, .int), (cJ, .long)] t ∧ va_D (va_A (wX5 cI cJ ad n ev ld0 ld1 ld2 tk mb f0 f1 f2 fr fu) sz) (wX5 cI cJ ad n ev ld0' ld1' ld2' tk mb f0' f1' f2' fr fu)) (va_A (wX5 cI cJ ad n ev ld0 ld1 ld2 tk mb f0 f1 f2 fr fu) sz)) args s (.returned (some (.int v0))) t := by
    intro v0 ld09 ld19 ld29 f09 f19 f29 t e9 q1 q2 q3 q4
    cases e9
    subst hAe
    exact ⟨⟨_, (), rfl, rfl, q1, q2, q3⟩, q4⟩
  have hfix : CallFix p m c cX5_nth 4 s args wsX5_nth RX5 := ⟨hx, hb, hml, hown, hts⟩
  refine lv_aload_n hx hb dX5_nth_0 rfl (lv_at hl 0 rfl) ?_
  refine lv_iload_n hx hb dX5_nth_1 rfl (lv_at hl 1 rfl) ?_
  obtain ⟨r2, hc2, h⟩ := Ho_b h
  have hPc : va_P (dC, dI) vwCl (wX5 cI cJ ad n ev ld0 ld1 ld2 tk mb f0 f1 f2 fr fu) H := hP.sub [0, 1, 2, 3, 4, 5, 6, 7, 8, 9, 10, 11, 12] rfl
  refine cs_i (va_runV (As := [.int x1]) (rest := []) hfix (c_X5_isSetSize l dC dI cI cJ ad n ev ld0 ld1 ld2 tk mb f0 f1 f2 fr fu x1 _ hc2) (cwV 1 hts gX5_nth_X5_isSetSize rfl rfl rfl (by decide +kernel) ⟨by decide, by decide⟩) (roP.preV hK hPc (ci := 5) rfl rfl) rfl rfl hl.1 rfl (lv_room (Nat.le_of_ble_eq_true rfl)) dX5_nth_2 ⟨Nat.zero_le _, Nat.zero_le _⟩) ?_
  refine lv_if_eq (tgt := 15) hx hb dX5_nth_5 (by decide) (fun q5 => ?_) (fun q5 => ?_)
  · have h := Ho_t h q5
    refine lv_bipush (v := (-2 : Int32)) hx hb dX5_nth_15 (by decide) ?_
    exact W.iret hx hb hr (fun t ht hW => QI (Ho_e h) (by rw [ht]; exact hP) (hK.warm hW) hD (hS.F ht)) hS.2.2 dX5_nth_17 hlk
  · have h := Ho_f h q5
    refine lv_iload_n hx hb dX5_nth_8 rfl (lv_at hl 2 rfl) ?_
    obtain ⟨r9, hc9, h⟩ := Ho_b h
    refine cs_i (va_runS (As := [.int x2]) (rest := []) hfix (c_X5_isClassKind l dC dI cI cJ  x2 _ hc9) (va_cwS 1 hts gX5_nth_X5_isClassKind rfl rfl rfl (by decide +kernel) ⟨by decide, by decide⟩) (roP.preS hK va_Pnil) rfl rfl hl.1 rfl (lv_room (Nat.le_of_ble_eq_true rfl)) dX5_nth_9 ⟨Nat.zero_le _, Nat.zero_le _⟩) ?_
    refine lv_if_ne (tgt := 18) hx hb dX5_nth_12 (by decide) (fun q12 => ?_) (fun q12 => ?_)
    · have h := Ho_f h q12
      refine lv_aload_n hx hb dX5_nth_18 rfl (lv_at hl 0 rfl) ?_
      refine lv_iload_n hx hb dX5_nth_19 rfl (lv_at hl 2 rfl) ?_
      have hPc : va_P (dC, dI) vwCl (wX5 cI cJ ad n ev ld0 ld1 ld2 tk mb f0 f1 f2 fr fu) H := hP
      refine cs_r (va_runV (As := [.int x2]) (rest := []) hfix (c_X5_listOf l dC dI cI cJ ad n ev ld0 ld1 ld2 tk mb f0 f1 f2 fr fu x2 _ rfl) (cwV 1 hts gX5_nth_X5_listOf rfl rfl rfl (by decide +kernel) ⟨by decide, by decide⟩) (roP.preV hK hPc (ci := 5) rfl rfl) rfl rfl hl.1 rfl (lv_room (Nat.le_of_ble_eq_true rfl)) dX5_nth_20 ⟨Nat.zero_le _, Nat.zero_le _⟩) ?_
      by_cases q20 : x2 = 0
      · have h := Ho_t h q20
        rw [if_pos q20]
        refine lv_iload_n hx hb dX5_nth_23 rfl (lv_at hl 1 rfl) ?_
        refine lv_iload_n hx hb dX5_nth_24 rfl (lv_at hl 3 rfl) ?_
        obtain ⟨r25, ld0_25, f0_25, hc25, h⟩ := Ho_b3 h
        have hPc : va_P (dC, dI) vwCl [((ad 3), .inr (1, [.ref (ad 1), .int (0 : Int32), .ref (ad 8), .int ld0])), ((ad 1), .inr (0, [.int n, .int ev])), ((ad 8), .inl (cI, 352, .inl f0))] H := hP.sub [3, 1, 8] rfl
        have hDc : va_D A [((ad 3), .inr (1, [.ref (ad 1), .int (0 : Int32), .ref (ad 8), .int ld0])), ((ad 1), .inr (0, [.int n, .int ev])), ((ad 8), .inl (cI, 352, .inl f0))] := hD.sub [3, 1, 8] (by decide) rfl
        have hFc := va_free (wc := [((ad 3), .inr (1, [.ref (ad 1), .int (0 : Int32), .ref (ad 8), .int ld0])), ((ad 1), .inr (0, [.int n, .int ev])), ((ad 8), .inl (cI, 352, .inl f0))]) hD hS hA [3, 1, 8] rfl
        refine va_calli (va_runV (As := [.int x1, .int x3]) (rest := []) hfix (c_X1_ofSize l dC dI cI cJ (ad 3) (ad 1) (ad 8) H.size (0 : Int32) ld0 n ev f0 x1 x3 _ _ _ hc25) (cwV 2 hts gX5_nth_X1_ofSize rfl rfl rfl (by decide +kernel) ⟨by decide, by decide⟩) (rwP.preV hK hPc hDc rfl (ci := 1) rfl rfl) rfl rfl hl.1 rfl (lv_room (Nat.le_of_ble_eq_true rfl)) dX5_nth_25 ⟨Nat.zero_le _, Nat.zero_le _⟩) hS (fun q _ h => hFc q h) hFc (fun y25 u t H1 locs ht hvm hw hB hz1 hk1 hS => ?_)
        obtain ⟨hP1, -, hD1⟩ := hB
        rw [ht] at hP1
        have hw : y25 = r25 := hw
        rw [hw]
        obtain ⟨hP, hD⟩ := va_join (wr := [((ad 0), .inr (5, [.ref (ad 1), .ref (ad 2), .ref (ad 3), .ref (ad 4), .ref (ad 5), .ref (ad 6), .ref (ad 7)])), ((ad 2), .inr (2, [.ref (ad 1)])), ((ad 4), .inr (1, [.ref (ad 1), .int 1, .ref (ad 9), .int ld1])), ((ad 5), .inr (1, [.ref (ad 1), .int 2, .ref (ad 10), .int ld2])), ((ad 6), .inr (3, [.ref (ad 1), .ref (ad 11), .int tk, .int mb])), ((ad 7), .inr (4, [.ref (ad 12)])), ((ad 9), .inl (cI, 352, .inl f1)), ((ad 10), .inl (cI, 352, .inl f2)), ((ad 11), .inl (cI, 12, .inl fr)), ((ad 12), .inl (cI, 13, .inl fu))]) (w1 := [((ad 3), .inr (1, [.ref (ad 1), .int (0 : Int32), .ref (ad 8), .int ld0_25])), ((ad 1), .inr (0, [.int n, .int ev])), ((ad 8), .inl (cI, 352, .inl f0_25))]) hP hD [3, 1, 8] [0, 2, 4, 5, 6, 7, 9, 10, 11, 12] rfl rfl (by decide) (by decide) hk1 hFc hP1 hD1
        generalize H1 = H at hP hS ⊢
        have hP : va_P (dC, dI) vwCl (wX5 cI cJ ad n ev ld0_25 ld1 ld2 tk mb f0_25 f1 f2 fr fu) H := hP.sub [0, 11, 1, 10, 2, 3, 4, 5, 12, 6, 7, 8, 9] rfl
        have hD : va_D A (wX5 cI cJ ad n ev ld0_25 ld1 ld2 tk mb f0_25 f1 f2 fr fu) := hD.sub [0, 11, 1, 10, 2, 3, 4, 5, 12, 6, 7, 8, 9] (by decide) rfl
        exact W.iret hx hb hr (fun t ht hW => QI (Ho_e h) (by rw [ht]; exact hP) (hK.warm hW) hD (hS.F ht)) hS.2.2 dX5_nth_28 hlk
      · have h := Ho_f h q20
        rw [if_neg q20]
        by_cases q120 : x2 = 1
        · have h := Ho_t h q120
          rw [if_pos q120]
          refine lv_iload_n hx hb dX5_nth_23 rfl (lv_at hl 1 rfl) ?_
          refine lv_iload_n hx hb dX5_nth_24 rfl (lv_at hl 3 rfl) ?_
          obtain ⟨r25, ld1_25, f1_25, hc25, h⟩ := Ho_b3 h
          have hPc : va_P (dC, dI) vwCl [((ad 4), .inr (1, [.ref (ad 1), .int (1 : Int32), .ref (ad 9), .int ld1])), ((ad 1), .inr (0, [.int n, .int ev])), ((ad 9), .inl (cI, 352, .inl f1))] H := hP.sub [4, 1, 9] rfl
          have hDc : va_D A [((ad 4), .inr (1, [.ref (ad 1), .int (1 : Int32), .ref (ad 9), .int ld1])), ((ad 1), .inr (0, [.int n, .int ev])), ((ad 9), .inl (cI, 352, .inl f1))] := hD.sub [4, 1, 9] (by decide) rfl
          have hFc := va_free (wc := [((ad 4), .inr (1, [.ref (ad 1), .int (1 : Int32), .ref (ad 9), .int ld1])), ((ad 1), .inr (0, [.int n, .int ev])), ((ad 9), .inl (cI, 352, .inl f1))]) hD hS hA [4, 1, 9] rfl
          refine va_calli (va_runV (As := [.int x1, .int x3]) (rest := []) hfix (c_X1_ofSize l dC dI cI cJ (ad 4) (ad 1) (ad 9) H.size (1 : Int32) ld1 n ev f1 x1 x3 _ _ _ hc25) (cwV 2 hts gX5_nth_X1_ofSize rfl rfl rfl (by decide +kernel) ⟨by decide, by decide⟩) (rwP.preV hK hPc hDc rfl (ci := 1) rfl rfl) rfl rfl hl.1 rfl (lv_room (Nat.le_of_ble_eq_true rfl)) dX5_nth_25 ⟨Nat.zero_le _, Nat.zero_le _⟩) hS (fun q _ h => hFc q h) hFc (fun y25 u t H1 locs ht hvm hw hB hz1 hk1 hS => ?_)
          obtain ⟨hP1, -, hD1⟩ := hB
          rw [ht] at hP1
          have hw : y25 = r25 := hw
          rw [hw]
          obtain ⟨hP, hD⟩ := va_join (wr := [((ad 0), .inr (5, [.ref (ad 1), .ref (ad 2), .ref (ad 3), .ref (ad 4), .ref (ad 5), .ref (ad 6), .ref (ad 7)])), ((ad 2), .inr (2, [.ref (ad 1)])), ((ad 3), .inr (1, [.ref (ad 1), .int 0, .ref (ad 8), .int ld0])), ((ad 5), .inr (1, [.ref (ad 1), .int 2, .ref (ad 10), .int ld2])), ((ad 6), .inr (3, [.ref (ad 1), .ref (ad 11), .int tk, .int mb])), ((ad 7), .inr (4, [.ref (ad 12)])), ((ad 8), .inl (cI, 352, .inl f0)), ((ad 10), .inl (cI, 352, .inl f2)), ((ad 11), .inl (cI, 12, .inl fr)), ((ad 12), .inl (cI, 13, .inl fu))]) (w1 := [((ad 4), .inr (1, [.ref (ad 1), .int (1 : Int32), .ref (ad 9), .int ld1_25])), ((ad 1), .inr (0, [.int n, .int ev])), ((ad 9), .inl (cI, 352, .inl f1_25))]) hP hD [4, 1, 9] [0, 2, 3, 5, 6, 7, 8, 10, 11, 12] rfl rfl (by decide) (by decide) hk1 hFc hP1 hD1
          generalize H1 = H at hP hS ⊢
          have hP : va_P (dC, dI) vwCl (wX5 cI cJ ad n ev ld0 ld1_25 ld2 tk mb f0 f1_25 f2 fr fu) H := hP.sub [0, 11, 1, 2, 10, 3, 4, 5, 6, 12, 7, 8, 9] rfl
          have hD : va_D A (wX5 cI cJ ad n ev ld0 ld1_25 ld2 tk mb f0 f1_25 f2 fr fu) := hD.sub [0, 11, 1, 2, 10, 3, 4, 5, 6, 12, 7, 8, 9] (by decide) rfl
          exact W.iret hx hb hr (fun t ht hW => QI (Ho_e h) (by rw [ht]; exact hP) (hK.warm hW) hD (hS.F ht)) hS.2.2 dX5_nth_28 hlk
        · have h := Ho_f h q120
          rw [if_neg q120]
          refine lv_iload_n hx hb dX5_nth_23 rfl (lv_at hl 1 rfl) ?_
          refine lv_iload_n hx hb dX5_nth_24 rfl (lv_at hl 3 rfl) ?_
          obtain ⟨r25, ld2_25, f2_25, hc25, h⟩ := Ho_b3 h
          have hPc : va_P (dC, dI) vwCl [((ad 5), .inr (1, [.ref (ad 1), .int (2 : Int32), .ref (ad 10), .int ld2])), ((ad 1), .inr (0, [.int n, .int ev])), ((ad 10), .inl (cI, 352, .inl f2))] H := hP.sub [5, 1, 10] rfl
          have hDc : va_D A [((ad 5), .inr (1, [.ref (ad 1), .int (2 : Int32), .ref (ad 10), .int ld2])), ((ad 1), .inr (0, [.int n, .int ev])), ((ad 10), .inl (cI, 352, .inl f2))] := hD.sub [5, 1, 10] (by decide) rfl
          have hFc := va_free (wc := [((ad 5), .inr (1, [.ref (ad 1), .int (2 : Int32), .ref (ad 10), .int ld2])), ((ad 1), .inr (0, [.int n, .int ev])), ((ad 10), .inl (cI, 352, .inl f2))]) hD hS hA [5, 1, 10] rfl
          refine va_calli (va_runV (As := [.int x1, .int x3]) (rest := []) hfix (c_X1_ofSize l dC dI cI cJ (ad 5) (ad 1) (ad 10) H.size (2 : Int32) ld2 n ev f2 x1 x3 _ _ _ hc25) (cwV 2 hts gX5_nth_X1_ofSize rfl rfl rfl (by decide +kernel) ⟨by decide, by decide⟩) (rwP.preV hK hPc hDc rfl (ci := 1) rfl rfl) rfl rfl hl.1 rfl (lv_room (Nat.le_of_ble_eq_true rfl)) dX5_nth_25 ⟨Nat.zero_le _, Nat.zero_le _⟩) hS (fun q _ h => hFc q h) hFc (fun y25 u t H1 locs ht hvm hw hB hz1 hk1 hS => ?_)
          obtain ⟨hP1, -, hD1⟩ := hB
          rw [ht] at hP1
          have hw : y25 = r25 := hw
          rw [hw]
          obtain ⟨hP, hD⟩ := va_join (wr := [((ad 0), .inr (5, [.ref (ad 1), .ref (ad 2), .ref (ad 3), .ref (ad 4), .ref (ad 5), .ref (ad 6), .ref (ad 7)])), ((ad 2), .inr (2, [.ref (ad 1)])), ((ad 3), .inr (1, [.ref (ad 1), .int 0, .ref (ad 8), .int ld0])), ((ad 4), .inr (1, [.ref (ad 1), .int 1, .ref (ad 9), .int ld1])), ((ad 6), .inr (3, [.ref (ad 1), .ref (ad 11), .int tk, .int mb])), ((ad 7), .inr (4, [.ref (ad 12)])), ((ad 8), .inl (cI, 352, .inl f0)), ((ad 9), .inl (cI, 352, .inl f1)), ((ad 11), .inl (cI, 12, .inl fr)), ((ad 12), .inl (cI, 13, .inl fu))]) (w1 := [((ad 5), .inr (1, [.ref (ad 1), .int (2 : Int32), .ref (ad 10), .int ld2_25])), ((ad 1), .inr (0, [.int n, .int ev])), ((ad 10), .inl (cI, 352, .inl f2_25))]) hP hD [5, 1, 10] [0, 2, 3, 4, 6, 7, 8, 9, 11, 12] rfl rfl (by decide) (by decide) hk1 hFc hP1 hD1
          generalize H1 = H at hP hS ⊢
          have hP : va_P (dC, dI) vwCl (wX5 cI cJ ad n ev ld0 ld1 ld2_25 tk mb f0 f1 f2_25 fr fu) H := hP.sub [0, 11, 1, 2, 3, 10, 4, 5, 6, 7, 12, 8, 9] rfl
          have hD : va_D A (wX5 cI cJ ad n ev ld0 ld1 ld2_25 tk mb f0 f1 f2_25 fr fu) := hD.sub [0, 11, 1, 2, 3, 10, 4, 5, 6, 7, 12, 8, 9] (by decide) rfl
          exact W.iret hx hb hr (fun t ht hW => QI (Ho_e h) (by rw [ht]; exact hP) (hK.warm hW) hD (hS.F ht)) hS.2.2 dX5_nth_28 hlk
    · have h := Ho_t h q12
      refine lv_bipush (v := (-2 : Int32)) hx hb dX5_nth_15 (by decide) ?_
      exact W.iret hx hb hr (fun t ht hW => QI (Ho_e h) (by rw [ht]; exact hP) (hK.warm hW) hD (hS.F ht)) hS.2.2 dX5_nth_17 hlk
