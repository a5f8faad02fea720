abbrev rmX5_orderRefusal : Room := { frames := 1, cells := 0, slots := 0, locals := 21 }
set_option maxHeartbeats 4000000 in
set_option maxRecDepth 100000 in
theorem c_X5_orderRefusal (l : Launch) (dC : Nat → ClassId) (dI : Nat → Nat → Nat) (cI cJ : ClassId) (ad : Nat → Nat) (n : Int32) (ev : Int32) (ld0 : Int32) (ld1 : Int32) (ld2 : Int32) (tk : Int32) (mb : Int32) (f0 : Nat → Int32) (f1 : Nat → Int32) (f2 : Nat → Int32) (fr : Nat → Int32) (fu : Nat → Int32) (x1 : Int32) (x2 : Int32) (x3 : Int32) (r : Int32) (hF : FX5_orderRefusal ev x1 x2 x3 = some r) : Met l yX5_orderRefusal wsX5_orderRefusal rmX5_orderRefusal (roP (dC, dI) [(cI, .int), (cJ, .long)] (wX5 cI cJ ad n ev ld0 ld1 ld2 tk mb f0 f1 f2 fr fu) [.ref (ad 0), .int x1, .int x2, .int x3]) (vp_Si (fun x => x = r)) 0 0 (fun _ => False) := by
  refine ro_start (cc := cX5_orderRefusal) (maxL := 4) (ret := (some .int)) (by decide) rfl (Nat.le_of_ble_eq_true rfl) ?_
  intro p e s m args below meth c ls hx hb hml hr hlk hown hts hP hK hl
  have hown : s.vm.findClass RX5 = some m.cls := hown
  have hl : lv_has ls 4 [(0, .ref (ad 0)), (1, .int x1), (2, .int x2), (3, .int x3)] := hl
  have h : Ho (FX5_orderRefusal ev x1 x2 x3) (fun x => x = r) := ⟨r, hF, rfl⟩
  unfold FX5_orderRefusal at h
  have hfix : CallFix p m c cX5_orderRefusal 4 s args wsX5_orderRefusal RX5 := ⟨hx, hb, hml, hown, hts⟩
  have hiX5 : ∀ w ∈ u_ws RX5 TX5 7, w ∈ wsX5_orderRefusal := by decide +kernel
  have hf10 := hts (.fieldLink RX5 10 "RowClasses" "circle" "LRowClasses$Circle;") (by decide +kernel)
  refine lv_aload_n hx hb dX5_orderRefusal_0 rfl (lv_at hl 0 rfl) ?_
  refine va_get (D := (dC, dI)) (ci := 5) (v := .ref (ad 1)) (C := RX5) (T := TX5) (N := 7) hx hb hts hiX5 hown hK.1 hP 0 rfl rfl 0 (by decide) hf10 (fun _ h9 => h9) rfl dX5_orderRefusal_1 ?_
  refine lv_iload_n hx hb dX5_orderRefusal_4 rfl (lv_at hl 1 rfl) ?_
  obtain ⟨r5, hc5, h⟩ := Ho_b h
  have hPc : va_P (dC, dI) vwCl [((ad 1), .inr (0, [.int n, .int ev]))] s.heap := hP.sub [1] rfl
  refine cs_i (va_runV (As := [.int x1]) (rest := []) hfix (c_X0_hasSet l dC dI cI cJ (ad 1) n ev x1 _ hc5) (cwV 1 hts gX5_orderRefusal_X0_hasSet rfl rfl rfl (by decide +kernel) ⟨by decide, by decide⟩) (roP.preV hK hPc (ci := 0) rfl rfl) rfl rfl hl.1 rfl (lv_room (Nat.le_of_ble_eq_true rfl)) dX5_orderRefusal_5 ⟨Nat.zero_le _, Nat.zero_le _⟩) ?_
  refine lv_if_eq (tgt := 20) hx hb dX5_orderRefusal_8 (by decide) (fun q8 => ?_) (fun q8 => ?_)
  · have h := Ho_t h q8
    refine lv_bipush (v := (-2 : Int32)) hx hb dX5_orderRefusal_20 (by decide) ?_
    exact W.iret hx hb hr (fun t ht _ => ro_Si (Ho_e h) ht) ro_nil dX5_orderRefusal_22 hlk
  · have h := Ho_f h q8
    refine lv_iload_n hx hb dX5_orderRefusal_11 rfl (lv_at hl 2 rfl) ?_
    refine lv_if_lt (tgt := 20) hx hb dX5_orderRefusal_12 (by decide) (fun q12 => ?_) (fun q12 => ?_)
    · have h := Ho_t h q12
      refine lv_bipush (v := (-2 : Int32)) hx hb dX5_orderRefusal_20 (by decide) ?_
      exact W.iret hx hb hr (fun t ht _ => ro_Si (Ho_e h) ht) ro_nil dX5_orderRefusal_22 hlk
    · have h := Ho_f h q12
      refine lv_iload_n hx hb dX5_orderRefusal_15 rfl (lv_at hl 2 rfl) ?_
      refine lv_iconst (v := (1 : Int32)) hx hb dX5_orderRefusal_16 (by decide) ?_
      refine lv_icmp_le (tgt := 23) hx hb dX5_orderRefusal_17 (by decide) (fun q17 => ?_) (fun q17 => ?_)
      · have h := Ho_t h q17
        refine lv_iload_n hx hb dX5_orderRefusal_23 rfl (lv_at hl 1 rfl) ?_
        refine lv_if_ne (tgt := 30) hx hb dX5_orderRefusal_24 (by decide) (fun q24 => ?_) (fun q24 => ?_)
        · have h := Ho_f h q24
          refine lv_iload_n hx hb dX5_orderRefusal_30 rfl (lv_at hl 3 rfl) ?_
          refine lv_if_lt (tgt := 42) hx hb dX5_orderRefusal_31 (by decide) (fun q31 => ?_) (fun q31 => ?_)
          · have h := Ho_t h q31
            refine lv_iconst (v := (-1 : Int32)) hx hb dX5_orderRefusal_42 (by decide) ?_
            refine lv_goto (tgt := 47) hx hb dX5_orderRefusal_43 (by decide) ?_
            exact W.iret hx hb hr (fun t ht _ => ro_Si (Ho_e h) ht) ro_nil dX5_orderRefusal_47 hlk
          · have h := Ho_f h q31
            refine lv_iload_n hx hb dX5_orderRefusal_34 rfl (lv_at hl 3 rfl) ?_
            refine lv_iload_n hx hb dX5_orderRefusal_35 rfl (lv_at hl 1 rfl) ?_
            obtain ⟨r36, hc36, h⟩ := Ho_b h
            refine cs_i (va_runS (As := [.int x1]) (rest := [.int x3]) hfix (c_J6_bitCount_0f7a4 l dC dI cI cJ  x1 _ hc36) (va_cwS 1 hts gX5_orderRefusal_J6_bitCount_0f7a4 rfl rfl rfl (by decide +kernel) ⟨by decide, by decide⟩) (roP.preS hK va_Pnil) rfl rfl hl.1 rfl (lv_room (Nat.le_of_ble_eq_true rfl)) dX5_orderRefusal_36 ⟨Nat.zero_le _, Nat.zero_le _⟩) ?_
            refine lv_icmp_lt (tgt := 46) hx hb dX5_orderRefusal_39 (by decide) (fun q39 => ?_) (fun q39 => ?_)
            · have h := Ho_t h q39
              refine lv_iconst (v := (0 : Int32)) hx hb dX5_orderRefusal_46 (by decide) ?_
              exact W.iret hx hb hr (fun t ht _ => ro_Si (Ho_e h) ht) ro_nil dX5_orderRefusal_47 hlk
            · have h := Ho_f h q39
              refine lv_iconst (v := (-1 : Int32)) hx hb dX5_orderRefusal_42 (by decide) ?_
              refine lv_goto (tgt := 47) hx hb dX5_orderRefusal_43 (by decide) ?_
              exact W.iret hx hb hr (fun t ht _ => ro_Si (Ho_e h) ht) ro_nil dX5_orderRefusal_47 hlk
        · have h := Ho_t h q24
          refine lv_bipush (v := (-3 : Int32)) hx hb dX5_orderRefusal_27 (by decide) ?_
          exact W.iret hx hb hr (fun t ht _ => ro_Si (Ho_e h) ht) ro_nil dX5_orderRefusal_29 hlk
      · have h := Ho_f h q17
        refine lv_bipush (v := (-2 : Int32)) hx hb dX5_orderRefusal_20 (by decide) ?_
        exact W.iret hx hb hr (fun t ht _ => ro_Si (Ho_e h) ht) ro_nil dX5_orderRefusal_22 hlk
abbrev rmX5_normal : Room := { frames := 3, cells := 0, slots := 0, locals := 74 }
set_option maxHeartbeats 4000000 in
set_option maxRecDepth 100000 in
theorem c_X5_normal (l : Launch) (dC : Nat → ClassId) (dI : Nat → Nat → Nat) (cI cJ : ClassId) (ad : Nat → Nat) (n : Int32) (ev : Int32) (ld0 : Int32) (ld1 : Int32) (ld2 : Int32) (tk : Int32) (mb : Int32) (f0 : Nat → Int32) (f1 : Nat → Int32) (f2 : Nat → Int32) (fr : Nat → Int32) (fu : Nat → Int32) (x1 : Int32) (x2 : Int32) (x3 : Int32) (r : Int32) (hF : FX5_normal n ev x1 x2 x3 = some r) : Met l yX5_normal wsX5_normal rmX5_normal (roP (dC, dI) [(cI, .int), (cJ, .long)] (wX5 cI cJ ad n ev ld0 ld1 ld2 tk mb f0 f1 f2 fr fu) [.ref (ad 0), .int x1, .int x2, .int x3]) (vp_Si (fun x => x = r)) 0 0 (fun _ => False) := by
  refine ro_start (cc := cX5_normal) (maxL := 6) (ret := (some .int)) (by decide) rfl (Nat.le_of_ble_eq_true rfl) ?_
  intro p e s m args below meth c ls hx hb hml hr hlk hown hts hP hK hl
  have hown : s.vm.findClass RX5 = some m.cls := hown
  have hl : lv_has ls 6 [(0, .ref (ad 0)), (1, .int x1), (2, .int x2), (3, .int x3)] := hl
  have h : Ho (FX5_normal n ev x1 x2 x3) (fun x => x = r) := ⟨r, hF, rfl⟩
  unfold FX5_normal at h
  have hfix : CallFix p m c cX5_normal 6 s args wsX5_normal RX5 := ⟨hx, hb, hml, hown, hts⟩
  have hiX5 : ∀ w ∈ u_ws RX5 TX5 7, w ∈ wsX5_normal := by decide +kernel
  have hf10 := hts (.fieldLink RX5 10 "RowClasses" "circle" "LRowClasses$Circle;") (by decide +kernel)
  have hf21 := hts (.fieldLink RX5 21 "RowClasses" "orders" "LRowClasses$Orders;") (by decide +kernel)
  refine lv_aload_n hx hb dX5_normal_0 rfl (lv_at hl 0 rfl) ?_
  refine lv_iload_n hx hb dX5_normal_1 rfl (lv_at hl 1 rfl) ?_
  refine lv_iload_n hx hb dX5_normal_2 rfl (lv_at hl 2 rfl) ?_
  refine lv_iload_n hx hb dX5_normal_3 rfl (lv_at hl 3 rfl) ?_
  obtain ⟨r4, hc4, h⟩ := Ho_b h
  have hPc : va_P (dC, dI) vwCl (wX5 cI cJ ad n ev ld0 ld1 ld2 tk mb f0 f1 f2 fr fu) s.heap := hP.sub [0, 1, 2, 3, 4, 5, 6, 7, 8, 9, 10, 11, 12] rfl
  refine cs_i (va_runV (As := [.int x1, .int x2, .int x3]) (rest := []) hfix (c_X5_orderRefusal l dC dI cI cJ ad n ev ld0 ld1 ld2 tk mb f0 f1 f2 fr fu x1 x2 x3 _ hc4) (cwV 3 hts gX5_normal_X5_orderRefusal rfl rfl rfl (by decide +kernel) ⟨by decide, by decide⟩) (roP.preV hK hPc (ci := 5) rfl rfl) rfl rfl hl.1 rfl (lv_room (Nat.le_of_ble_eq_true rfl)) dX5_normal_4 ⟨Nat.zero_le _, Nat.zero_le _⟩) ?_
  refine lv_istore (lv' := [(4, .int r4), (0, .ref (ad 0)), (1, .int x1), (2, .int x2), (3, .int x3)]) hx hb dX5_normal_7 hl (by decide) rfl (fun ls hl => ?_)
  refine lv_iload hx hb dX5_normal_9 (lv_at hl 0 rfl) ?_
  refine lv_if_ge (tgt := 17) hx hb dX5_normal_11 (by decide) (fun q11 => ?_) (fun q11 => ?_)
  · have h := Ho_t h q11
    refine lv_aload_n hx hb dX5_normal_17 rfl (lv_at hl 1 rfl) ?_
    refine va_get (D := (dC, dI)) (ci := 5) (v := .ref (ad 2)) (C := RX5) (T := TX5) (N := 7) hx hb hts hiX5 hown hK.1 hP 0 rfl rfl 1 (by decide) hf21 (fun _ h9 => h9) rfl dX5_normal_18 ?_
    refine lv_iload_n hx hb dX5_normal_21 rfl (lv_at hl 2 rfl) ?_
    refine lv_iload_n hx hb dX5_normal_22 rfl (lv_at hl 3 rfl) ?_
    obtain ⟨r23, hc23, h⟩ := Ho_b h
    have hPc : va_P (dC, dI) vwCl [((ad 2), .inr (2, [.ref (ad 1)])), ((ad 1), .inr (0, [.int n, .int ev]))] s.heap := hP.sub [2, 1] rfl
    refine cs_i (va_runV (As := [.int x1, .int x2]) (rest := []) hfix (c_X2_normalStart l dC dI cI cJ (ad 2) (ad 1) n ev x1 x2 _ hc23) (cwV 2 hts gX5_normal_X2_normalStart rfl rfl rfl (by decide +kernel) ⟨by decide, by decide⟩) (roP.preV hK hPc (ci := 2) rfl rfl) rfl rfl hl.1 rfl (lv_room (Nat.le_of_ble_eq_true rfl)) dX5_normal_23 ⟨Nat.zero_le _, Nat.zero_le _⟩) ?_
    refine lv_istore (lv' := [(5, .int r23), (4, .int r4), (0, .ref (ad 0)), (1, .int x1), (2, .int x2), (3, .int x3)]) hx hb dX5_normal_26 hl (by decide) rfl (fun ls hl => ?_)
    refine lv_aload_n hx hb dX5_normal_28 rfl (lv_at hl 2 rfl) ?_
    refine va_get (D := (dC, dI)) (ci := 5) (v := .ref (ad 1)) (C := RX5) (T := TX5) (N := 7) hx hb hts hiX5 hown hK.1 hP 0 rfl rfl 0 (by decide) hf10 (fun _ h9 => h9) rfl dX5_normal_29 ?_
    refine lv_iload hx hb dX5_normal_32 (lv_at hl 0 rfl) ?_
    refine lv_aload_n hx hb dX5_normal_34 rfl (lv_at hl 2 rfl) ?_
    refine va_get (D := (dC, dI)) (ci := 5) (v := .ref (ad 1)) (C := RX5) (T := TX5) (N := 7) hx hb hts hiX5 hown hK.1 hP 0 rfl rfl 0 (by decide) hf10 (fun _ h9 => h9) rfl dX5_normal_35 ?_
    refine lv_aload_n hx hb dX5_normal_38 rfl (lv_at hl 2 rfl) ?_
    refine va_get (D := (dC, dI)) (ci := 5) (v := .ref (ad 2)) (C := RX5) (T := TX5) (N := 7) hx hb hts hiX5 hown hK.1 hP 0 rfl rfl 1 (by decide) hf21 (fun _ h9 => h9) rfl dX5_normal_39 ?_
    refine lv_iload_n hx hb dX5_normal_42 rfl (lv_at hl 3 rfl) ?_
    refine lv_iload hx hb dX5_normal_43 (lv_at hl 0 rfl) ?_
    obtain ⟨r45, hc45, h⟩ := Ho_b h
    have hPc : va_P (dC, dI) vwCl [((ad 2), .inr (2, [.ref (ad 1)])), ((ad 1), .inr (0, [.int n, .int ev]))] s.heap := hP.sub [2, 1] rfl
    refine cs_i (va_runV (As := [.int x1, .int r23]) (rest := [.ref (ad 1), .int r23, .ref (ad 1)]) hfix (c_X2_distances l dC dI cI cJ (ad 2) (ad 1) n ev x1 r23 _ hc45) (cwV 2 hts gX5_normal_X2_distances rfl rfl rfl (by decide +kernel) ⟨by decide, by decide⟩) (roP.preV hK hPc (ci := 2) rfl rfl) rfl rfl hl.1 rfl (lv_room (Nat.le_of_ble_eq_true rfl)) dX5_normal_45 ⟨Nat.zero_le _, Nat.zero_le _⟩) ?_
    refine lv_iload_n hx hb dX5_normal_48 rfl (lv_at hl 5 rfl) ?_
    obtain ⟨r49, hc49, h⟩ := Ho_b h
    have hPc : va_P (dC, dI) vwCl [((ad 1), .inr (0, [.int n, .int ev]))] s.heap := hP.sub [1] rfl
    refine cs_i (va_runV (As := [.int r45, .int x3]) (rest := [.int r23, .ref (ad 1)]) hfix (c_X0_stepAt l dC dI cI cJ (ad 1) n ev r45 x3 _ hc49) (cwV 2 hts gX5_normal_X0_stepAt rfl rfl rfl (by decide +kernel) ⟨by decide, by decide⟩) (roP.preV hK hPc (ci := 0) rfl rfl) rfl rfl hl.1 rfl (lv_room (Nat.le_of_ble_eq_true rfl)) dX5_normal_49 ⟨Nat.zero_le _, Nat.zero_le _⟩) ?_
    refine lv_iadd hx hb dX5_normal_52 ?_
    obtain ⟨r53, hc53, h⟩ := Ho_b h
    have hPc : va_P (dC, dI) vwCl [((ad 1), .inr (0, [.int n, .int ev]))] s.heap := hP.sub [1] rfl
    refine cs_i (va_runV (As := [.int (r23 + r49)]) (rest := []) hfix (c_X0_wrapped l dC dI cI cJ (ad 1) n ev (r23 + r49) _ hc53) (cwV 1 hts gX5_normal_X0_wrapped rfl rfl rfl (by decide +kernel) ⟨by decide, by decide⟩) (roP.preV hK hPc (ci := 0) rfl rfl) rfl rfl hl.1 rfl (lv_room (Nat.le_of_ble_eq_true rfl)) dX5_normal_53 ⟨Nat.zero_le _, Nat.zero_le _⟩) ?_
    exact W.iret hx hb hr (fun t ht _ => ro_Si (Ho_e h) ht) ro_nil dX5_normal_56 hlk
  · have h := Ho_f h q11
    refine lv_iload hx hb dX5_normal_14 (lv_at hl 0 rfl) ?_
    exact W.iret hx hb hr (fun t ht _ => ro_Si (Ho_e h) ht) ro_nil dX5_normal_16 hlk
abbrev rmX5_prime : Room := { frames := 4, cells := 0, slots := 0, locals := 99 }
set_option maxHeartbeats 4000000 in
set_option maxRecDepth 100000 in
theorem c_X5_prime (l : Launch) (dC : Nat → ClassId) (dI : Nat → Nat → Nat) (cI cJ : ClassId) (ad : Nat → Nat) (n : Int32) (ev : Int32) (ld0 : Int32) (ld1 : Int32) (ld2 : Int32) (tk : Int32) (mb : Int32) (f0 : Nat → Int32) (f1 : Nat → Int32) (f2 : Nat → Int32) (fr : Nat → Int32) (fu : Nat → Int32) (x1 : Int32) (x2 : Int32) (x3 : Int32) (r : Int32) (hF : FX5_prime n ev x1 x2 x3 = some r) : Met l yX5_prime wsX5_prime rmX5_prime (roP (dC, dI) [(cI, .int), (cJ, .long)] (wX5 cI cJ ad n ev ld0 ld1 ld2 tk mb f0 f1 f2 fr fu) [.ref (ad 0), .int x1, .int x2, .int x3]) (vp_Si (fun x => x = r)) 0 0 (fun _ => False) := by
  refine ro_start (cc := cX5_prime) (maxL := 5) (ret := (some .int)) (by decide) rfl (Nat.le_of_ble_eq_true rfl) ?_
  intro p e s m args below meth c ls hx hb hml hr hlk hown hts hP hK hl
  have hown : s.vm.findClass RX5 = some m.cls := hown
  have hl : lv_has ls 5 [(0, .ref (ad 0)), (1, .int x1), (2, .int x2), (3, .int x3)] := hl
  have h : Ho (FX5_prime n ev x1 x2 x3) (fun x => x = r) := ⟨r, hF, rfl⟩
  unfold FX5_prime at h
  have hfix : CallFix p m c cX5_prime 5 s args wsX5_prime RX5 := ⟨hx, hb, hml, hown, hts⟩
  have hiX5 : ∀ w ∈ u_ws RX5 TX5 7, w ∈ wsX5_prime := by decide +kernel
  have hf10 := hts (.fieldLink RX5 10 "RowClasses" "circle" "LRowClasses$Circle;") (by decide +kernel)
  have hf21 := hts (.fieldLink RX5 21 "RowClasses" "orders" "LRowClasses$Orders;") (by decide +kernel)
  refine lv_aload_n hx hb dX5_prime_0 rfl (lv_at hl 0 rfl) ?_
  refine lv_iload_n hx hb dX5_prime_1 rfl (lv_at hl 1 rfl) ?_
  refine lv_iload_n hx hb dX5_prime_2 rfl (lv_at hl 2 rfl) ?_
  refine lv_iload_n hx hb dX5_prime_3 rfl (lv_at hl 3 rfl) ?_
  obtain ⟨r4, hc4, h⟩ := Ho_b h
  have hPc : va_P (dC, dI) vwCl (wX5 cI cJ ad n ev ld0 ld1 ld2 tk mb f0 f1 f2 fr fu) s.heap := hP.sub [0, 1, 2, 3, 4, 5, 6, 7, 8, 9, 10, 11, 12] rfl
  refine cs_i (va_runV (As := [.int x1, .int x2, .int x3]) (rest := []) hfix (c_X5_orderRefusal l dC dI cI cJ ad n ev ld0 ld1 ld2 tk mb f0 f1 f2 fr fu x1 x2 x3 _ hc4) (cwV 3 hts gX5_prime_X5_orderRefusal rfl rfl rfl (by decide +kernel) ⟨by decide, by decide⟩) (roP.preV hK hPc (ci := 5) rfl rfl) rfl rfl hl.1 rfl (lv_room (Nat.le_of_ble_eq_true rfl)) dX5_prime_4 ⟨Nat.zero_le _, Nat.zero_le _⟩) ?_
  refine lv_istore (lv' := [(4, .int r4), (0, .ref (ad 0)), (1, .int x1), (2, .int x2), (3, .int x3)]) hx hb dX5_prime_7 hl (by decide) rfl (fun ls hl => ?_)
  refine lv_iload hx hb dX5_prime_9 (lv_at hl 0 rfl) ?_
  refine lv_if_ge (tgt := 17) hx hb dX5_prime_11 (by decide) (fun q11 => ?_) (fun q11 => ?_)
  · have h := Ho_t h q11
    refine lv_aload_n hx hb dX5_prime_17 rfl (lv_at hl 1 rfl) ?_
    refine va_get (D := (dC, dI)) (ci := 5) (v := .ref (ad 1)) (C := RX5) (T := TX5) (N := 7) hx hb hts hiX5 hown hK.1 hP 0 rfl rfl 0 (by decide) hf10 (fun _ h9 => h9) rfl dX5_prime_18 ?_
    refine lv_aload_n hx hb dX5_prime_21 rfl (lv_at hl 1 rfl) ?_
    refine va_get (D := (dC, dI)) (ci := 5) (v := .ref (ad 2)) (C := RX5) (T := TX5) (N := 7) hx hb hts hiX5 hown hK.1 hP 0 rfl rfl 1 (by decide) hf21 (fun _ h9 => h9) rfl dX5_prime_22 ?_
    refine lv_iload_n hx hb dX5_prime_25 rfl (lv_at hl 2 rfl) ?_
    refine lv_iload_n hx hb dX5_prime_26 rfl (lv_at hl 3 rfl) ?_
    obtain ⟨r27, hc27, h⟩ := Ho_b h
    have hPc : va_P (dC, dI) vwCl [((ad 2), .inr (2, [.ref (ad 1)])), ((ad 1), .inr (0, [.int n, .int ev]))] s.heap := hP.sub [2, 1] rfl
    refine cs_i (va_runV (As := [.int x1, .int x2]) (rest := [.ref (ad 1)]) hfix (c_X2_primeDistances l dC dI cI cJ (ad 2) (ad 1) n ev x1 x2 _ hc27) (cwV 2 hts gX5_prime_X2_primeDistances rfl rfl rfl (by decide +kernel) ⟨by decide, by decide⟩) (roP.preV hK hPc (ci := 2) rfl rfl) rfl rfl hl.1 rfl (lv_room (Nat.le_of_ble_eq_true rfl)) dX5_prime_27 ⟨Nat.zero_le _, Nat.zero_le _⟩) ?_
    refine lv_iload_n hx hb dX5_prime_30 rfl (lv_at hl 4 rfl) ?_
    obtain ⟨r31, hc31, h⟩ := Ho_b h
    have hPc : va_P (dC, dI) vwCl [((ad 1), .inr (0, [.int n, .int ev]))] s.heap := hP.sub [1] rfl
    refine cs_i (va_runV (As := [.int r27, .int x3]) (rest := []) hfix (c_X0_stepAt l dC dI cI cJ (ad 1) n ev r27 x3 _ hc31) (cwV 2 hts gX5_prime_X0_stepAt rfl rfl rfl (by decide +kernel) ⟨by decide, by decide⟩) (roP.preV hK hPc (ci := 0) rfl rfl) rfl rfl hl.1 rfl (lv_room (Nat.le_of_ble_eq_true rfl)) dX5_prime_31 ⟨Nat.zero_le _, Nat.zero_le _⟩) ?_
    exact W.iret hx hb hr (fun t ht _ => ro_Si (Ho_e h) ht) ro_nil dX5_prime_34 hlk
  · have h := Ho_f h q11
    refine lv_iload hx hb dX5_prime_14 (lv_at hl 0 rfl) ?_
    exact W.iret hx hb hr (fun t ht _ => ro_Si (Ho_e h) ht) ro_nil dX5_prime_16 hlk
abbrev rmX5_differ : Room := { frames := 5, cells := 0, slots := 0, locals := 120 }
set_option maxHeartbeats 4000000 in
set_option maxRecDepth 100000 in
theorem c_X5_differ (l : Launch) (dC : Nat → ClassId) (dI : Nat → Nat → Nat) (cI cJ : ClassId) (ad : Nat → Nat) (sz : Nat) (n : Int32) (ev : Int32) (ld0 : Int32) (ld1 : Int32) (ld2 : Int32) (tk : Int32) (mb : Int32) (f0 : Nat → Int32) (f1 : Nat → Int32) (f2 : Nat → Int32) (fr : Nat → Int32) (fu : Nat → Int32) (x1 : Int32) (r : Int32) (ld1' : Int32) (f1' : Nat → Int32) (hF : FX5_differ n ev ld1 f1 x1 = some (r, ld1', f1')) : Met l yX5_differ wsX5_differ rmX5_differ (rwP (dC, dI) [(cI, .int), (cJ, .long)] sz (wX5 cI cJ ad n ev ld0 ld1 ld2 tk mb f0 f1 f2 fr fu) [.ref (ad 0), .int x1]) (va_Qi (fun (x : Int32) (_ : Unit) => x = r) (fun _ t => va_P (dC, dI) vwCl (wX5 cI cJ ad n ev ld0 ld1' ld2 tk mb f0 f1' f2 fr fu) t.heap ∧ vK (dC, dI) [(cI, .int), (cJ, .long)] t ∧ va_D (va_A (wX5 cI cJ ad n ev ld0 ld1 ld2 tk mb f0 f1 f2 fr fu) sz) (wX5 cI cJ ad n ev ld0 ld1' ld2 tk mb f0 f1' f2 fr fu)) (va_A (wX5 cI cJ ad n ev ld0 ld1 ld2 tk mb f0 f1 f2 fr fu) sz)) 0 0 (va_A (wX5 cI cJ ad n ev ld0 ld1 ld2 tk mb f0 f1 f2 fr fu) sz) := by
  refine rw_start (cc := cX5_differ) (maxL := 6) (ret := (some .int)) (by decide) rfl (Nat.le_of_ble_eq_true rfl) ?_
  intro p e s m args below meth c ls A H locs hx hb hml hr hlk hown hts hsz hP hK hD hA hS hAe hl
  have hown : s.vm.findClass RX5 = some m.cls := hown
  have hl : lv_has ls 6 [(0, .ref (ad 0)), (1, .int x1)] := hl
  have h : Ho (FX5_differ n ev ld1 f1 x1) (fun x => x = (r, ld1', f1')) := ⟨_, hF, rfl⟩
  unfold FX5_differ at h
  have QI : ∀ {v0 : Int32} {ld19 : Int32} {f19 : Nat → Int32} {t : State}, (v0, ld19, f19) = (r, ld1', f1') → va_P (dC, dI) vwCl (wX5 cI cJ ad n ev ld0 ld19 ld2 tk mb f0 f19 f2 fr fu) t.heap → vK (dC, dI) [(cI, .int), (cJ, .long)] t → va_D A (wX5 cI cJ ad n ev ld0 ld19 ld2 tk mb f0 f19 f2 fr fu) → va_F A s t → (va_Qi (fun (x : Int32) (_ : Unit) => x = r) (fun _ t => va_P (dC, dI) vwCl (wX5 cI cJ ad n ev ld0 ld1' ld2 tk mb f0 f1' f2 fr fu) t.heap ∧ vK (dC, dI) [(cI, .int), (cJ, .long)] t ∧ va_D (va_A (wX5 cI cJ ad n ev ld0 ld1 ld2 tk mb f0 f1 f2 fr fu) sz) (wX5 cI cJ ad n ev ld0 ld1' ld2 tk mb f0 f1' f2 fr fu)) (va_A (wX5 cI cJ ad n ev ld0 ld1 ld2 tk mb f0 f1 f2 fr fu) sz)) args s (.returned (some (.int v0))) t := by
    intro v0 ld19 f19 t e9 q1 q2 q3 q4
    cases e9
    subst hAe
    exact ⟨⟨_, (), rfl, rfl, q1, q2, q3⟩, q4⟩
  have hfix : CallFix p m c cX5_differ 6 s args wsX5_differ RX5 := ⟨hx, hb, hml, hown, hts⟩
  have hiX5 : ∀ w ∈ u_ws RX5 TX5 7, w ∈ wsX5_differ := by decide +kernel
  have hf21 := hts (.fieldLink RX5 21 "RowClasses" "orders" "LRowClasses$Orders;") (by decide +kernel)
  have hf34 := hts (.fieldLink RX5 34 "RowClasses" "mirroredClasses" "LRowClasses$ClassList;") (by decide +kernel)
  have J71 : ∀ (ld1k : Int32) (f1k : Nat → Int32) (v2 : Int32) (H : Heap) (locs : List Loc) (ls : Array Slot), va_P (dC, dI) vwCl (wX5 cI cJ ad n ev ld0 ld1k ld2 tk mb f0 f1k f2 fr fu) H → va_D A (wX5 cI cJ ad n ev ld0 ld1k ld2 tk mb f0 f1k f2 fr fu) → va_S A s.heap H locs → lv_has ls 6 [(2, .int v2)] → Ho (X5_differ_71 ld1k f1k v2) (fun x => x = (r, ld1', f1')) → W p l e rmX5_differ s m args below meth c H locs 0 0 (MQ below (va_Qi (fun (x : Int32) (_ : Unit) => x = r) (fun _ t => va_P (dC, dI) vwCl (wX5 cI cJ ad n ev ld0 ld1' ld2 tk mb f0 f1' f2 fr fu) t.heap ∧ vK (dC, dI) [(cI, .int), (cJ, .long)] t ∧ va_D (va_A (wX5 cI cJ ad n ev ld0 ld1 ld2 tk mb f0 f1 f2 fr fu) sz) (wX5 cI cJ ad n ev ld0 ld1' ld2 tk mb f0 f1' f2 fr fu)) (va_A (wX5 cI cJ ad n ev ld0 ld1 ld2 tk mb f0 f1 f2 fr fu) sz)) args s 0 0 A) (F0 m 71 ls []) := by
    intro ld1k f1k v2 H locs ls hP hD hS hl h
    unfold X5_differ_71 at h
    refine lv_iload_n hx hb dX5_differ_71 rfl (lv_at hl 0 rfl) ?_
    exact W.iret hx hb hr (fun t ht hW => QI (Ho_e h) (by rw [ht]; exact hP) (hK.warm hW) hD (hS.F ht)) hS.2.2 dX5_differ_72 hlk
  have J24 : ∀ (ld1k : Int32) (f1k : Nat → Int32) (v2 : Int32) (v3 : Int32) (v4 : Int32) (H : Heap) (locs : List Loc) (ls : Array Slot), va_P (dC, dI) vwCl (wX5 cI cJ ad n ev ld0 ld1k ld2 tk mb f0 f1k f2 fr fu) H → va_D A (wX5 cI cJ ad n ev ld0 ld1k ld2 tk mb f0 f1k f2 fr fu) → va_S A s.heap H locs → lv_has ls 6 [(0, .ref (ad 0)), (1, .int x1), (2, .int v2), (3, .int v3), (4, .int v4)] → Ho ((X5_differ_24_l n ev x1 ld1k f1k v3 v2 v4).bind (fun ex => X5_differ_71 ld1k f1k ex)) (fun x => x = (r, ld1', f1')) → W p l e rmX5_differ s m args below meth c H locs 0 0 (MQ below (va_Qi (fun (x : Int32) (_ : Unit) => x = r) (fun _ t => va_P (dC, dI) vwCl (wX5 cI cJ ad n ev ld0 ld1' ld2 tk mb f0 f1' f2 fr fu) t.heap ∧ vK (dC, dI) [(cI, .int), (cJ, .long)] t ∧ va_D (va_A (wX5 cI cJ ad n ev ld0 ld1 ld2 tk mb f0 f1 f2 fr fu) sz) (wX5 cI cJ ad n ev ld0 ld1' ld2 tk mb f0 f1' f2 fr fu)) (va_A (wX5 cI cJ ad n ev ld0 ld1 ld2 tk mb f0 f1 f2 fr fu) sz)) args s 0 0 A) (F0 m 24 ls []) := by
    intro ld1k f1k v2 v3 v4 H locs ls hP hD hS hl h
    refine loop_use2 (fun z : Int32 × Int32 => ∀ (H : Heap) (locs : List Loc) (ls : Array Slot), va_P (dC, dI) vwCl (wX5 cI cJ ad n ev ld0 ld1k ld2 tk mb f0 f1k f2 fr fu) H → va_D A (wX5 cI cJ ad n ev ld0 ld1k ld2 tk mb f0 f1k f2 fr fu) → va_S A s.heap H locs → lv_has ls 6 [(0, .ref (ad 0)), (1, .int x1), (2, .int z.1), (3, .int v3), (4, .int z.2)] → W p l e rmX5_differ s m args below meth c H locs 0 0 (MQ below (va_Qi (fun (x : Int32) (_ : Unit) => x = r) (fun _ t => va_P (dC, dI) vwCl (wX5 cI cJ ad n ev ld0 ld1' ld2 tk mb f0 f1' f2 fr fu) t.heap ∧ vK (dC, dI) [(cI, .int), (cJ, .long)] t ∧ va_D (va_A (wX5 cI cJ ad n ev ld0 ld1 ld2 tk mb f0 f1 f2 fr fu) sz) (wX5 cI cJ ad n ev ld0 ld1' ld2 tk mb f0 f1' f2 fr fu)) (va_A (wX5 cI cJ ad n ev ld0 ld1 ld2 tk mb f0 f1 f2 fr fu) sz)) args s 0 0 A) (F0 m 24 ls [])) ?_ FU _ h H locs ls hP hD hS hl
    intro Q24 hi24 ho24 z h H locs ls hP hD hS hl
    obtain ⟨v2, v4⟩ := z
    have h : Ho (X5_differ_24_s n ev x1 ld1k f1k v3 v2 v4) Q24 := h
    unfold X5_differ_24_s at h
    have hl : lv_has ls 6 [(0, .ref (ad 0)), (1, .int x1), (2, .int v2), (3, .int v3), (4, .int v4)] := hl
    have hP : va_P (dC, dI) vwCl (wX5 cI cJ ad n ev ld0 ld1k ld2 tk mb f0 f1k f2 fr fu) H := hP
    have hD : va_D A (wX5 cI cJ ad n ev ld0 ld1k ld2 tk mb f0 f1k f2 fr fu) := hD
    refine lv_iload hx hb dX5_differ_24 (lv_at hl 4 rfl) ?_
    refine lv_iload_n hx hb dX5_differ_26 rfl (lv_at hl 3 rfl) ?_
    refine lv_icmp_ge (tgt := 71) hx hb dX5_differ_27 (by decide) (fun q27 => ?_) (fun q27 => ?_)
    · have h := Ho_t h q27
      have h := ho24 _ (Ho_s h)
      exact J71 ld1k f1k v2 _ _ ls hP hD hS (lv_sub hl [2] rfl) h
    · have h := Ho_f h q27
      refine lv_aload_n hx hb dX5_differ_30 rfl (lv_at hl 0 rfl) ?_
      refine va_get (D := (dC, dI)) (ci := 5) (v := .ref (ad 4)) (C := RX5) (T := TX5) (N := 7) hx hb hts hiX5 hown hK.1 hP 0 rfl rfl 3 (by decide) hf34 (fun _ h9 => h9) rfl dX5_differ_31 ?_
      refine lv_iload hx hb dX5_differ_34 (lv_at hl 4 rfl) ?_
      obtain ⟨r36, hc36, h⟩ := Ho_b h
      have hPc : va_P (dC, dI) vwCl [((ad 4), .inr (1, [.ref (ad 1), .int (1 : Int32), .ref (ad 9), .int ld1k])), ((ad 1), .inr (0, [.int n, .int ev])), ((ad 9), .inl (cI, 352, .inl f1k))] H := hP.sub [4, 1, 9] rfl
      refine cs_i (va_runV (As := [.int v4]) (rest := []) hfix (c_X1_at l dC dI cI cJ (ad 4) (ad 1) (ad 9) (1 : Int32) ld1k n ev f1k v4 _ hc36) (cwV 1 hts gX5_differ_X1_at rfl rfl rfl (by decide +kernel) ⟨by decide, by decide⟩) (roP.preV hK hPc (ci := 1) rfl rfl) rfl rfl hl.1 rfl (lv_room (Nat.le_of_ble_eq_true rfl)) dX5_differ_36 ⟨Nat.zero_le _, Nat.zero_le _⟩) ?_
      refine lv_istore (lv' := [(5, .int r36), (0, .ref (ad 0)), (1, .int x1), (2, .int v2), (3, .int v3), (4, .int v4)]) hx hb dX5_differ_39 hl (by decide) rfl (fun ls hl => ?_)
      refine lv_iload hx hb dX5_differ_41 (lv_at hl 0 rfl) ?_
      obtain ⟨r43, hc43, h⟩ := Ho_b h
      refine cs_i (va_runS (As := [.int r36]) (rest := []) hfix (c_J6_bitCount_0f7a4 l dC dI cI cJ  r36 _ hc43) (va_cwS 1 hts gX5_differ_J6_bitCount_0f7a4 rfl rfl rfl (by decide +kernel) ⟨by decide, by decide⟩) (roP.preS hK va_Pnil) rfl rfl hl.1 rfl (lv_room (Nat.le_of_ble_eq_true rfl)) dX5_differ_43 ⟨Nat.zero_le _, Nat.zero_le _⟩) ?_
      refine lv_iload_n hx hb dX5_differ_46 rfl (lv_at hl 2 rfl) ?_
      refine lv_icmp_ne (tgt := 65) hx hb dX5_differ_47 (by decide) (fun q47 => ?_) (fun q47 => ?_)
      · have h := Ho_f h q47
        refine lv_iinc (v := v4 + 1) (lv' := [(4, .int (v4 + 1)), (5, .int r36), (0, .ref (ad 0)), (1, .int x1), (2, .int v2), (3, .int v3)]) hx hb dX5_differ_65 hl (k := 5) rfl rfl (by decide) rfl (fun ls hl => ?_)
        refine lv_goto (tgt := 24) hx hb dX5_differ_68 (by decide) ?_
        exact hi24 _ (Ho_s h) _ _ ls hP hD hS (lv_sub hl [2, 3, 4, 5, 0] rfl)
      · have h := Ho_t h q47
        refine lv_aload_n hx hb dX5_differ_50 rfl (lv_at hl 1 rfl) ?_
        refine va_get (D := (dC, dI)) (ci := 5) (v := .ref (ad 2)) (C := RX5) (T := TX5) (N := 7) hx hb hts hiX5 hown hK.1 hP 0 rfl rfl 1 (by decide) hf21 (fun _ h9 => h9) rfl dX5_differ_51 ?_
        refine lv_iload hx hb dX5_differ_54 (lv_at hl 0 rfl) ?_
        obtain ⟨r56, hc56, h⟩ := Ho_b h
        have hPc : va_P (dC, dI) vwCl [((ad 2), .inr (2, [.ref (ad 1)])), ((ad 1), .inr (0, [.int n, .int ev]))] H := hP.sub [2, 1] rfl
        refine cs_i (va_runV (As := [.int r36]) (rest := []) hfix (c_X2_primesDiffer l dC dI cI cJ (ad 2) (ad 1) n ev r36 _ hc56) (cwV 1 hts gX5_differ_X2_primesDiffer rfl rfl rfl (by decide +kernel) ⟨by decide, by decide⟩) (roP.preV hK hPc (ci := 2) rfl rfl) rfl rfl hl.1 rfl (lv_room (Nat.le_of_ble_eq_true rfl)) dX5_differ_56 ⟨Nat.zero_le _, Nat.zero_le _⟩) ?_
        refine lv_if_eq (tgt := 65) hx hb dX5_differ_59 (by decide) (fun q59 => ?_) (fun q59 => ?_)
        · have h := Ho_t h q59
          refine lv_iinc (v := v4 + 1) (lv' := [(4, .int (v4 + 1)), (5, .int r36), (0, .ref (ad 0)), (1, .int x1), (2, .int v2), (3, .int v3)]) hx hb dX5_differ_65 hl (k := 5) rfl rfl (by decide) rfl (fun ls hl => ?_)
          refine lv_goto (tgt := 24) hx hb dX5_differ_68 (by decide) ?_
          exact hi24 _ (Ho_s h) _ _ ls hP hD hS (lv_sub hl [2, 3, 4, 5, 0] rfl)
        · have h := Ho_f h q59
          refine lv_iinc (v := v2 + 1) (lv' := [(2, .int (v2 + 1)), (5, .int r36), (0, .ref (ad 0)), (1, .int x1), (3, .int v3), (4, .int v4)]) hx hb dX5_differ_62 hl (k := 3) rfl rfl (by decide) rfl (fun ls hl => ?_)
          refine lv_iinc (v := v4 + 1) (lv' := [(4, .int (v4 + 1)), (2, .int (v2 + 1)), (5, .int r36), (0, .ref (ad 0)), (1, .int x1), (3, .int v3)]) hx hb dX5_differ_65 hl (k := 5) rfl rfl (by decide) rfl (fun ls hl => ?_)
          refine lv_goto (tgt := 24) hx hb dX5_differ_68 (by decide) ?_
          exact hi24 _ (Ho_s h) _ _ ls hP hD hS (lv_sub hl [3, 4, 1, 5, 0] rfl)
  refine lv_aload_n hx hb dX5_differ_0 rfl (lv_at hl 0 rfl) ?_
  refine lv_iload_n hx hb dX5_differ_1 rfl (lv_at hl 1 rfl) ?_
  obtain ⟨r2, hc2, h⟩ := Ho_b h
  have hPc : va_P (dC, dI) vwCl (wX5 cI cJ ad n ev ld0 ld1 ld2 tk mb f0 f1 f2 fr fu) H := hP.sub [0, 1, 2, 3, 4, 5, 6, 7, 8, 9, 10, 11, 12] rfl
  refine cs_i (va_runV (As := [.int x1]) (rest := []) hfix (c_X5_isSetSize l dC dI cI cJ ad n ev ld0 ld1 ld2 tk mb f0 f1 f2 fr fu x1 _ hc2) (cwV 1 hts gX5_differ_X5_isSetSize rfl rfl rfl (by decide +kernel) ⟨by decide, by decide⟩) (roP.preV hK hPc (ci := 5) rfl rfl) rfl rfl hl.1 rfl (lv_room (Nat.le_of_ble_eq_true rfl)) dX5_differ_2 ⟨Nat.zero_le _, Nat.zero_le _⟩) ?_
  refine lv_if_ne (tgt := 11) hx hb dX5_differ_5 (by decide) (fun q5 => ?_) (fun q5 => ?_)
  · have h := Ho_f h q5
    refine lv_iconst (v := (0 : Int32)) hx hb dX5_differ_11 (by decide) ?_
    refine lv_istore_n (lv' := [(2, .int (0 : Int32)), (0, .ref (ad 0)), (1, .int x1)]) hx hb dX5_differ_12 rfl hl (by decide) rfl (fun ls hl => ?_)
    refine lv_aload_n hx hb dX5_differ_13 rfl (lv_at hl 1 rfl) ?_
    refine va_get (D := (dC, dI)) (ci := 5) (v := .ref (ad 4)) (C := RX5) (T := TX5) (N := 7) hx hb hts hiX5 hown hK.1 hP 0 rfl rfl 3 (by decide) hf34 (fun _ h9 => h9) rfl dX5_differ_14 ?_
    obtain ⟨r17, ld1_17, f1_17, hc17, h⟩ := Ho_b3 h
    have hPc : va_P (dC, dI) vwCl [((ad 4), .inr (1, [.ref (ad 1), .int (1 : Int32), .ref (ad 9), .int ld1])), ((ad 1), .inr (0, [.int n, .int ev])), ((ad 9), .inl (cI, 352, .inl f1))] H := hP.sub [4, 1, 9] rfl
    have hDc : va_D A [((ad 4), .inr (1, [.ref (ad 1), .int (1 : Int32), .ref (ad 9), .int ld1])), ((ad 1), .inr (0, [.int n, .int ev])), ((ad 9), .inl (cI, 352, .inl f1))] := hD.sub [4, 1, 9] (by decide) rfl
    have hFc := va_free (wc := [((ad 4), .inr (1, [.ref (ad 1), .int (1 : Int32), .ref (ad 9), .int ld1])), ((ad 1), .inr (0, [.int n, .int ev])), ((ad 9), .inl (cI, 352, .inl f1))]) hD hS hA [4, 1, 9] rfl
    refine va_calli (va_runV (As := []) (rest := []) hfix (c_X1_count l dC dI cI cJ (ad 4) (ad 1) (ad 9) H.size (1 : Int32) ld1 n ev f1 _ _ _ hc17) (cwV 0 hts gX5_differ_X1_count rfl rfl rfl (by decide +kernel) ⟨by decide, by decide⟩) (rwP.preV hK hPc hDc rfl (ci := 1) rfl rfl) rfl rfl hl.1 rfl (lv_room (Nat.le_of_ble_eq_true rfl)) dX5_differ_17 ⟨Nat.zero_le _, Nat.zero_le _⟩) hS (fun q _ h => hFc q h) hFc (fun y17 u t H1 locs ht hvm hw hB hz1 hk1 hS => ?_)
    obtain ⟨hP1, -, hD1⟩ := hB
    rw [ht] at hP1
    have hw : y17 = r17 := hw
    rw [hw]
    obtain ⟨hP, hD⟩ := va_join (wr := [((ad 0), .inr (5, [.ref (ad 1), .ref (ad 2), .ref (ad 3), .ref (ad 4), .ref (ad 5), .ref (ad 6), .ref (ad 7)])), ((ad 2), .inr (2, [.ref (ad 1)])), ((ad 3), .inr (1, [.ref (ad 1), .int 0, .ref (ad 8), .int ld0])), ((ad 5), .inr (1, [.ref (ad 1), .int 2, .ref (ad 10), .int ld2])), ((ad 6), .inr (3, [.ref (ad 1), .ref (ad 11), .int tk, .int mb])), ((ad 7), .inr (4, [.ref (ad 12)])), ((ad 8), .inl (cI, 352, .inl f0)), ((ad 10), .inl (cI, 352, .inl f2)), ((ad 11), .inl (cI, 12, .inl fr)), ((ad 12), .inl (cI, 13, .inl fu))]) (w1 := [((ad 4), .inr (1, [.ref (ad 1), .int (1 : Int32), .ref (ad 9), .int ld1_17])), ((ad 1), .inr (0, [.int n, .int ev])), ((ad 9), .inl (cI, 352, .inl f1_17))]) hP hD [4, 1, 9] [0, 2, 3, 5, 6, 7, 8, 10, 11, 12] rfl rfl (by decide) (by decide) hk1 hFc hP1 hD1
    generalize H1 = H at hP hS ⊢
    have hP : va_P (dC, dI) vwCl (wX5 cI cJ ad n ev ld0 ld1_17 ld2 tk mb f0 f1_17 f2 fr fu) H := hP.sub [0, 11, 1, 2, 10, 3, 4, 5, 6, 12, 7, 8, 9] rfl
    have hD : va_D A (wX5 cI cJ ad n ev ld0 ld1_17 ld2 tk mb f0 f1_17 f2 fr fu) := hD.sub [0, 11, 1, 2, 10, 3, 4, 5, 6, 12, 7, 8, 9] (by decide) rfl
    refine lv_istore_n (lv' := [(3, .int r17), (2, .int (0 : Int32)), (0, .ref (ad 0)), (1, .int x1)]) hx hb dX5_differ_20 rfl hl (by decide) rfl (fun ls hl => ?_)
    refine lv_iconst (v := (0 : Int32)) hx hb dX5_differ_21 (by decide) ?_
    refine lv_istore (lv' := [(4, .int (0 : Int32)), (3, .int r17), (2, .int (0 : Int32)), (0, .ref (ad 0)), (1, .int x1)]) hx hb dX5_differ_22 hl (by decide) rfl (fun ls hl => ?_)
    exact J24 ld1_17 f1_17 (0 : Int32) r17 (0 : Int32) _ _ ls hP hD hS (lv_sub hl [3, 4, 2, 1, 0] rfl) h
  · have h := Ho_t h q5
    refine lv_bipush (v := (-2 : Int32)) hx hb dX5_differ_8 (by decide) ?_
    exact W.iret hx hb hr (fun t ht hW => QI (Ho_e h) (by rw [ht]; exact hP) (hK.warm hW) hD (hS.F ht)) hS.2.2 dX5_differ_10 hlk
abbrev rmX5_vector : Room := { frames := 2, cells := 0, slots := 0, locals := 44 }
set_option maxHeartbeats 4000000 in
set_option maxRecDepth 100000 in
theorem c_X5_vector (l : Launch) (dC : Nat → ClassId) (dI : Nat → Nat → Nat) (cI cJ : ClassId) (ad : Nat → Nat) (n : Int32) (ev : Int32) (ld0 : Int32) (ld1 : Int32) (ld2 : Int32) (tk : Int32) (mb : Int32) (f0 : Nat → Int32) (f1 : Nat → Int32) (f2 : Nat → Int32) (fr : Nat → Int32) (fu : Nat → Int32) (x1 : Int32) (x2 : Int32) (r : Int32) (hF : FX5_vector n ev x1 x2 = some r) : Met l yX5_vector wsX5_vector rmX5_vector (roP (dC, dI) [(cI, .int), (cJ, .long)] (wX5 cI cJ ad n ev ld0 ld1 ld2 tk mb f0 f1 f2 fr fu) [.ref (ad 0), .int x1, .int x2]) (vp_Si (fun x => x = r)) 0 0 (fun _ => False) := by
  refine ro_start (cc := cX5_vector) (maxL := 4) (ret := (some .int)) (by decide) rfl (Nat.le_of_ble_eq_true rfl) ?_
  intro p e s m args below meth c ls hx hb hml hr hlk hown hts hP hK hl
  have hown : s.vm.findClass RX5 = some m.cls := hown
  have hl : lv_has ls 4 [(0, .ref (ad 0)), (1, .int x1), (2, .int x2)] := hl
  have h : Ho (FX5_vector n ev x1 x2) (fun x => x = r) := ⟨r, hF, rfl⟩
  unfold FX5_vector at h
  have hfix : CallFix p m c cX5_vector 4 s args wsX5_vector RX5 := ⟨hx, hb, hml, hown, hts⟩
  have hiX5 : ∀ w ∈ u_ws RX5 TX5 7, w ∈ wsX5_vector := by decide +kernel
  have hf10 := hts (.fieldLink RX5 10 "RowClasses" "circle" "LRowClasses$Circle;") (by decide +kernel)
  refine lv_aload_n hx hb dX5_vector_0 rfl (lv_at hl 0 rfl) ?_
  refine va_get (D := (dC, dI)) (ci := 5) (v := .ref (ad 1)) (C := RX5) (T := TX5) (N := 7) hx hb hts hiX5 hown hK.1 hP 0 rfl rfl 0 (by decide) hf10 (fun _ h9 => h9) rfl dX5_vector_1 ?_
  refine lv_iload_n hx hb dX5_vector_4 rfl (lv_at hl 1 rfl) ?_
  obtain ⟨r5, hc5, h⟩ := Ho_b h
  have hPc : va_P (dC, dI) vwCl [((ad 1), .inr (0, [.int n, .int ev]))] s.heap := hP.sub [1] rfl
  refine cs_i (va_runV (As := [.int x1]) (rest := []) hfix (c_X0_hasSet l dC dI cI cJ (ad 1) n ev x1 _ hc5) (cwV 1 hts gX5_vector_X0_hasSet rfl rfl rfl (by decide +kernel) ⟨by decide, by decide⟩) (roP.preV hK hPc (ci := 0) rfl rfl) rfl rfl hl.1 rfl (lv_room (Nat.le_of_ble_eq_true rfl)) dX5_vector_5 ⟨Nat.zero_le _, Nat.zero_le _⟩) ?_
  refine lv_if_eq (tgt := 29) hx hb dX5_vector_8 (by decide) (fun q8 => ?_) (fun q8 => ?_)
  · have h := Ho_t h q8
    refine lv_bipush (v := (-2 : Int32)) hx hb dX5_vector_29 (by decide) ?_
    exact W.iret hx hb hr (fun t ht _ => ro_Si (Ho_e h) ht) ro_nil dX5_vector_31 hlk
  · have h := Ho_f h q8
    refine lv_iload_n hx hb dX5_vector_11 rfl (lv_at hl 2 rfl) ?_
    refine lv_iconst (v := (1 : Int32)) hx hb dX5_vector_12 (by decide) ?_
    refine lv_icmp_lt (tgt := 29) hx hb dX5_vector_13 (by decide) (fun q13 => ?_) (fun q13 => ?_)
    · have h := Ho_t h q13
      refine lv_bipush (v := (-2 : Int32)) hx hb dX5_vector_29 (by decide) ?_
      exact W.iret hx hb hr (fun t ht _ => ro_Si (Ho_e h) ht) ro_nil dX5_vector_31 hlk
    · have h := Ho_f h q13
      refine lv_iload_n hx hb dX5_vector_16 rfl (lv_at hl 2 rfl) ?_
      refine lv_aload_n hx hb dX5_vector_17 rfl (lv_at hl 0 rfl) ?_
      refine va_get (D := (dC, dI)) (ci := 5) (v := .ref (ad 1)) (C := RX5) (T := TX5) (N := 7) hx hb hts hiX5 hown hK.1 hP 0 rfl rfl 0 (by decide) hf10 (fun _ h9 => h9) rfl dX5_vector_18 ?_
      obtain ⟨r21, hc21, h⟩ := Ho_b h
      have hPc : va_P (dC, dI) vwCl [((ad 1), .inr (0, [.int n, .int ev]))] s.heap := hP.sub [1] rfl
      refine cs_i (va_runV (As := []) (rest := [.int x2]) hfix (c_X0_count l dC dI cI cJ (ad 1) n ev _ hc21) (cwV 0 hts gX5_vector_X0_count rfl rfl rfl (by decide +kernel) ⟨by decide, by decide⟩) (roP.preV hK hPc (ci := 0) rfl rfl) rfl rfl hl.1 rfl (lv_room (Nat.le_of_ble_eq_true rfl)) dX5_vector_21 ⟨Nat.zero_le _, Nat.zero_le _⟩) ?_
      refine lv_iconst (v := (2 : Int32)) hx hb dX5_vector_24 (by decide) ?_
      refine lv_idiv hx hb dX5_vector_25 (by decide) ?_
      refine lv_icmp_le (tgt := 32) hx hb dX5_vector_26 (by decide) (fun q26 => ?_) (fun q26 => ?_)
      · have h := Ho_t h q26
        refine lv_aload_n hx hb dX5_vector_32 rfl (lv_at hl 0 rfl) ?_
        refine va_get (D := (dC, dI)) (ci := 5) (v := .ref (ad 1)) (C := RX5) (T := TX5) (N := 7) hx hb hts hiX5 hown hK.1 hP 0 rfl rfl 0 (by decide) hf10 (fun _ h9 => h9) rfl dX5_vector_33 ?_
        refine lv_iload_n hx hb dX5_vector_36 rfl (lv_at hl 1 rfl) ?_
        refine lv_iload_n hx hb dX5_vector_37 rfl (lv_at hl 2 rfl) ?_
        obtain ⟨r38, hc38, h⟩ := Ho_b h
        have hPc : va_P (dC, dI) vwCl [((ad 1), .inr (0, [.int n, .int ev]))] s.heap := hP.sub [1] rfl
        refine cs_i (va_runV (As := [.int x1, .int x2]) (rest := []) hfix (c_X0_pairsApart l dC dI cI cJ (ad 1) n ev x1 x2 _ hc38) (cwV 2 hts gX5_vector_X0_pairsApart rfl rfl rfl (by decide +kernel) ⟨by decide, by decide⟩) (roP.preV hK hPc (ci := 0) rfl rfl) rfl rfl hl.1 rfl (lv_room (Nat.le_of_ble_eq_true rfl)) dX5_vector_38 ⟨Nat.zero_le _, Nat.zero_le _⟩) ?_
        refine lv_istore_n (lv' := [(3, .int r38), (0, .ref (ad 0)), (1, .int x1), (2, .int x2)]) hx hb dX5_vector_41 rfl hl (by decide) rfl (fun ls hl => ?_)
        refine lv_iload_n hx hb dX5_vector_42 rfl (lv_at hl 3 rfl) ?_
        refine lv_iconst (v := (2 : Int32)) hx hb dX5_vector_43 (by decide) ?_
        refine lv_imul hx hb dX5_vector_44 ?_
        refine lv_aload_n hx hb dX5_vector_45 rfl (lv_at hl 1 rfl) ?_
        refine va_get (D := (dC, dI)) (ci := 5) (v := .ref (ad 1)) (C := RX5) (T := TX5) (N := 7) hx hb hts hiX5 hown hK.1 hP 0 rfl rfl 0 (by decide) hf10 (fun _ h9 => h9) rfl dX5_vector_46 ?_
        obtain ⟨r49, hc49, h⟩ := Ho_b h
        have hPc : va_P (dC, dI) vwCl [((ad 1), .inr (0, [.int n, .int ev]))] s.heap := hP.sub [1] rfl
        refine cs_i (va_runV (As := []) (rest := [.int (x2 * (2 : Int32))]) hfix (c_X0_count l dC dI cI cJ (ad 1) n ev _ hc49) (cwV 0 hts gX5_vector_X0_count rfl rfl rfl (by decide +kernel) ⟨by decide, by decide⟩) (roP.preV hK hPc (ci := 0) rfl rfl) rfl rfl hl.1 rfl (lv_room (Nat.le_of_ble_eq_true rfl)) dX5_vector_49 ⟨Nat.zero_le _, Nat.zero_le _⟩) ?_
        refine lv_icmp_ne (tgt := 61) hx hb dX5_vector_52 (by decide) (fun q52 => ?_) (fun q52 => ?_)
        · have h := Ho_f h q52
          refine lv_iload_n hx hb dX5_vector_61 rfl (lv_at hl 0 rfl) ?_
          exact W.iret hx hb hr (fun t ht _ => ro_Si (Ho_e h) ht) ro_nil dX5_vector_62 hlk
        · have h := Ho_t h q52
          refine lv_iload_n hx hb dX5_vector_55 rfl (lv_at hl 0 rfl) ?_
          refine lv_iconst (v := (2 : Int32)) hx hb dX5_vector_56 (by decide) ?_
          refine lv_idiv hx hb dX5_vector_57 (by decide) ?_
          refine lv_goto (tgt := 62) hx hb dX5_vector_58 (by decide) ?_
          exact W.iret hx hb hr (fun t ht _ => ro_Si (Ho_e h) ht) ro_nil dX5_vector_62 hlk
      · have h := Ho_f h q26
        refine lv_bipush (v := (-2 : Int32)) hx hb dX5_vector_29 (by decide) ?_
        exact W.iret hx hb hr (fun t ht _ => ro_Si (Ho_e h) ht) ro_nil dX5_vector_31 hlk
abbrev rmX5_sameVector : Room := { frames := 2, cells := 0, slots := 0, locals := 44 }
set_option maxHeartbeats 4000000 in
set_option maxRecDepth 100000 in
theorem c_X5_sameVector (l : Launch) (dC : Nat → ClassId) (dI : Nat → Nat → Nat) (cI cJ : ClassId) (ad : Nat → Nat) (n : Int32) (ev : Int32) (ld0 : Int32) (ld1 : Int32) (ld2 : Int32) (tk : Int32) (mb : Int32) (f0 : Nat → Int32) (f1 : Nat → Int32) (f2 : Nat → Int32) (fr : Nat → Int32) (fu : Nat → Int32) (x1 : Int32) (x2 : Int32) (r : Int32) (hF : FX5_sameVector n ev x1 x2 = some r) : Met l yX5_sameVector wsX5_sameVector rmX5_sameVector (roP (dC, dI) [(cI, .int), (cJ, .long)] (wX5 cI cJ ad n ev ld0 ld1 ld2 tk mb f0 f1 f2 fr fu) [.ref (ad 0), .int x1, .int x2]) (vp_Si (fun x => x = r)) 0 0 (fun _ => False) := by
  refine ro_start (cc := cX5_sameVector) (maxL := 4) (ret := (some .boolean)) (by decide) rfl (Nat.le_of_ble_eq_true rfl) ?_
  intro p e s m args below meth c ls hx hb hml hr hlk hown hts hP hK hl
  have hown : s.vm.findClass RX5 = some m.cls := hown
  have hl : lv_has ls 4 [(0, .ref (ad 0)), (1, .int x1), (2, .int x2)] := hl
  have h : Ho (FX5_sameVector n ev x1 x2) (fun x => x = r) := ⟨r, hF, rfl⟩
  unfold FX5_sameVector at h
  have hfix : CallFix p m c cX5_sameVector 4 s args wsX5_sameVector RX5 := ⟨hx, hb, hml, hown, hts⟩
  have hiX5 : ∀ w ∈ u_ws RX5 TX5 7, w ∈ wsX5_sameVector := by decide +kernel
  have hf10 := hts (.fieldLink RX5 10 "RowClasses" "circle" "LRowClasses$Circle;") (by decide +kernel)
  have J57 : ∀  (ls : Array Slot), lv_has ls 4 [] → Ho (X5_sameVector_57) (fun x => x = r) → W p l e rmX5_sameVector s m args below meth c s.heap [] 0 0 (MQ below (vp_Si (fun x => x = r)) args s 0 0 (fun _ => False)) (F0 m 57 ls []) := by
    intro  ls hl h
    unfold X5_sameVector_57 at h
    refine lv_iconst (v := (1 : Int32)) hx hb dX5_sameVector_57 (by decide) ?_
    exact W.zret (ty := .boolean) hx hb hr rfl (fun t ht _ => ro_Si (Ho_e h) ht) ro_nil dX5_sameVector_58 hlk
  have J49 : ∀  (ls : Array Slot), lv_has ls 4 [] → Ho (X5_sameVector_49) (fun x => x = r) → W p l e rmX5_sameVector s m args below meth c s.heap [] 0 0 (MQ below (vp_Si (fun x => x = r)) args s 0 0 (fun _ => False)) (F0 m 49 ls []) := by
    intro  ls hl h
    unfold X5_sameVector_49 at h
    refine lv_iconst (v := (0 : Int32)) hx hb dX5_sameVector_49 (by decide) ?_
    exact W.zret (ty := .boolean) hx hb hr rfl (fun t ht _ => ro_Si (Ho_e h) ht) ro_nil dX5_sameVector_50 hlk
  have J15 : ∀ (v3 : Int32) (ls : Array Slot), lv_has ls 4 [(0, .ref (ad 0)), (1, .int x1), (2, .int x2), (3, .int v3)] → Ho ((X5_sameVector_15_l n ev x1 x2 v3).bind (fun ex => Sum.elim (fun xy => X5_sameVector_49) (fun xy => X5_sameVector_57) ex)) (fun x => x = r) → W p l e rmX5_sameVector s m args below meth c s.heap [] 0 0 (MQ below (vp_Si (fun x => x = r)) args s 0 0 (fun _ => False)) (F0 m 15 ls []) := by
    intro v3 ls hl h
    refine loop_use2 (fun z : Int32 => ∀ (ls : Array Slot), lv_has ls 4 [(0, .ref (ad 0)), (1, .int x1), (2, .int x2), (3, .int z)] → W p l e rmX5_sameVector s m args below meth c s.heap [] 0 0 (MQ below (vp_Si (fun x => x = r)) args s 0 0 (fun _ => False)) (F0 m 15 ls [])) ?_ FU _ h ls hl
    intro Q15 hi15 ho15 z h ls hl
    obtain ⟨v3, rfl⟩ : ∃ q, q = z := ⟨_, rfl⟩
    have h : Ho (X5_sameVector_15_s n ev x1 x2 v3) Q15 := h
    unfold X5_sameVector_15_s at h
    have hl : lv_has ls 4 [(0, .ref (ad 0)), (1, .int x1), (2, .int x2), (3, .int v3)] := hl
    refine lv_iload_n hx hb dX5_sameVector_15 rfl (lv_at hl 3 rfl) ?_
    refine lv_aload_n hx hb dX5_sameVector_16 rfl (lv_at hl 0 rfl) ?_
    refine va_get (D := (dC, dI)) (ci := 5) (v := .ref (ad 1)) (C := RX5) (T := TX5) (N := 7) hx hb hts hiX5 hown hK.1 hP 0 rfl rfl 0 (by decide) hf10 (fun _ h9 => h9) rfl dX5_sameVector_17 ?_
    obtain ⟨r20, hc20, h⟩ := Ho_b h
    have hPc : va_P (dC, dI) vwCl [((ad 1), .inr (0, [.int n, .int ev]))] s.heap := hP.sub [1] rfl
    refine cs_i (va_runV (As := []) (rest := [.int v3]) hfix (c_X0_count l dC dI cI cJ (ad 1) n ev _ hc20) (cwV 0 hts gX5_sameVector_X0_count rfl rfl rfl (by decide +kernel) ⟨by decide, by decide⟩) (roP.preV hK hPc (ci := 0) rfl rfl) rfl rfl hl.1 rfl (lv_room (Nat.le_of_ble_eq_true rfl)) dX5_sameVector_20 ⟨Nat.zero_le _, Nat.zero_le _⟩) ?_
    refine lv_iconst (v := (2 : Int32)) hx hb dX5_sameVector_23 (by decide) ?_
    refine lv_idiv hx hb dX5_sameVector_24 (by decide) ?_
    refine lv_icmp_gt (tgt := 57) hx hb dX5_sameVector_25 (by decide) (fun q25 => ?_) (fun q25 => ?_)
    · have h := Ho_t h q25
      have h := ho15 _ (Ho_s h)
      exact J57  ls (lv_sub hl [] rfl) h
    · have h := Ho_f h q25
      refine lv_aload_n hx hb dX5_sameVector_28 rfl (lv_at hl 0 rfl) ?_
      refine va_get (D := (dC, dI)) (ci := 5) (v := .ref (ad 1)) (C := RX5) (T := TX5) (N := 7) hx hb hts hiX5 hown hK.1 hP 0 rfl rfl 0 (by decide) hf10 (fun _ h9 => h9) rfl dX5_sameVector_29 ?_
      refine lv_iload_n hx hb dX5_sameVector_32 rfl (lv_at hl 1 rfl) ?_
      refine lv_iload_n hx hb dX5_sameVector_33 rfl (lv_at hl 3 rfl) ?_
      obtain ⟨r34, hc34, h⟩ := Ho_b h
      have hPc : va_P (dC, dI) vwCl [((ad 1), .inr (0, [.int n, .int ev]))] s.heap := hP.sub [1] rfl
      refine cs_i (va_runV (As := [.int x1, .int v3]) (rest := []) hfix (c_X0_pairsApart l dC dI cI cJ (ad 1) n ev x1 v3 _ hc34) (cwV 2 hts gX5_sameVector_X0_pairsApart rfl rfl rfl (by decide +kernel) ⟨by decide, by decide⟩) (roP.preV hK hPc (ci := 0) rfl rfl) rfl rfl hl.1 rfl (lv_room (Nat.le_of_ble_eq_true rfl)) dX5_sameVector_34 ⟨Nat.zero_le _, Nat.zero_le _⟩) ?_
      refine lv_aload_n hx hb dX5_sameVector_37 rfl (lv_at hl 0 rfl) ?_
      refine va_get (D := (dC, dI)) (ci := 5) (v := .ref (ad 1)) (C := RX5) (T := TX5) (N := 7) hx hb hts hiX5 hown hK.1 hP 0 rfl rfl 0 (by decide) hf10 (fun _ h9 => h9) rfl dX5_sameVector_38 ?_
      refine lv_iload_n hx hb dX5_sameVector_41 rfl (lv_at hl 2 rfl) ?_
      refine lv_iload_n hx hb dX5_sameVector_42 rfl (lv_at hl 3 rfl) ?_
      obtain ⟨r43, hc43, h⟩ := Ho_b h
      have hPc : va_P (dC, dI) vwCl [((ad 1), .inr (0, [.int n, .int ev]))] s.heap := hP.sub [1] rfl
      refine cs_i (va_runV (As := [.int x2, .int v3]) (rest := [.int r34]) hfix (c_X0_pairsApart l dC dI cI cJ (ad 1) n ev x2 v3 _ hc43) (cwV 2 hts gX5_sameVector_X0_pairsApart rfl rfl rfl (by decide +kernel) ⟨by decide, by decide⟩) (roP.preV hK hPc (ci := 0) rfl rfl) rfl rfl hl.1 rfl (lv_room (Nat.le_of_ble_eq_true rfl)) dX5_sameVector_43 ⟨Nat.zero_le _, Nat.zero_le _⟩) ?_
      refine lv_icmp_eq (tgt := 51) hx hb dX5_sameVector_46 (by decide) (fun q46 => ?_) (fun q46 => ?_)
      · have h := Ho_t h q46
        refine lv_iinc (v := v3 + 1) (lv' := [(3, .int (v3 + 1)), (0, .ref (ad 0)), (1, .int x1), (2, .int x2)]) hx hb dX5_sameVector_51 hl (k := 3) rfl rfl (by decide) rfl (fun ls hl => ?_)
        refine lv_goto (tgt := 15) hx hb dX5_sameVector_54 (by decide) ?_
        exact hi15 _ (Ho_s h) ls (lv_sub hl [1, 2, 3, 0] rfl)
      · have h := Ho_f h q46
        have h := ho15 _ (Ho_s h)
        exact J49  ls (lv_sub hl [] rfl) h
  refine lv_iload_n hx hb dX5_sameVector_0 rfl (lv_at hl 1 rfl) ?_
  obtain ⟨r1, hc1, h⟩ := Ho_b h
  refine cs_i (va_runS (As := [.int x1]) (rest := []) hfix (c_J6_bitCount_0f7a4 l dC dI cI cJ  x1 _ hc1) (va_cwS 1 hts gX5_sameVector_J6_bitCount_0f7a4 rfl rfl rfl (by decide +kernel) ⟨by decide, by decide⟩) (roP.preS hK va_Pnil) rfl rfl hl.1 rfl (lv_room (Nat.le_of_ble_eq_true rfl)) dX5_sameVector_1 ⟨Nat.zero_le _, Nat.zero_le _⟩) ?_
  refine lv_iload_n hx hb dX5_sameVector_4 rfl (lv_at hl 2 rfl) ?_
  obtain ⟨r5, hc5, h⟩ := Ho_b h
  refine cs_i (va_runS (As := [.int x2]) (rest := [.int r1]) hfix (c_J6_bitCount_0f7a4 l dC dI cI cJ  x2 _ hc5) (va_cwS 1 hts gX5_sameVector_J6_bitCount_0f7a4 rfl rfl rfl (by decide +kernel) ⟨by decide, by decide⟩) (roP.preS hK va_Pnil) rfl rfl hl.1 rfl (lv_room (Nat.le_of_ble_eq_true rfl)) dX5_sameVector_5 ⟨Nat.zero_le _, Nat.zero_le _⟩) ?_
  refine lv_icmp_eq (tgt := 13) hx hb dX5_sameVector_8 (by decide) (fun q8 => ?_) (fun q8 => ?_)
  · have h := Ho_t h q8
    refine lv_iconst (v := (1 : Int32)) hx hb dX5_sameVector_13 (by decide) ?_
    refine lv_istore_n (lv' := [(3, .int (1 : Int32)), (0, .ref (ad 0)), (1, .int x1), (2, .int x2)]) hx hb dX5_sameVector_14 rfl hl (by decide) rfl (fun ls hl => ?_)
    exact J15 (1 : Int32) ls (lv_sub hl [1, 2, 3, 0] rfl) h
  · have h := Ho_f h q8
    refine lv_iconst (v := (0 : Int32)) hx hb dX5_sameVector_11 (by decide) ?_
    exact W.zret (ty := .boolean) hx hb hr rfl (fun t ht _ => ro_Si (Ho_e h) ht) ro_nil dX5_sameVector_12 hlk
