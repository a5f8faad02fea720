abbrev rmX5_keeps : Room := { frames := 3, cells := 0, slots := 0, locals := 68 }
set_option maxHeartbeats 4000000 in
set_option maxRecDepth 100000 in
theorem c_X5_keeps (l : Launch) (dC : Nat → ClassId) (dI : Nat → Nat → Nat) (cI cJ : ClassId) (ad : Nat → Nat) (n : Int32) (ev : Int32) (ld0 : Int32) (ld1 : Int32) (ld2 : Int32) (tk : Int32) (mb : Int32) (f0 : Nat → Int32) (f1 : Nat → Int32) (f2 : Nat → Int32) (fr : Nat → Int32) (fu : Nat → Int32) (x1 : Int32) (x2 : Int32) (r : Int32) (hF : FX5_keeps n ev x1 x2 = some r) : Met l yX5_keeps wsX5_keeps rmX5_keeps (roP (dC, dI) [(cI, .int), (cJ, .long)] (wX5 cI cJ ad n ev ld0 ld1 ld2 tk mb f0 f1 f2 fr fu) [.ref (ad 0), .int x1, .int x2]) (vp_Si (fun x => x = r)) 0 0 (fun _ => False) := by
  refine ro_start (cc := cX5_keeps) (maxL := 6) (ret := (some .int)) (by decide) rfl (Nat.le_of_ble_eq_true rfl) ?_
  intro p e s m args below meth c ls hx hb hml hr hlk hown hts hP hK hl
  have hown : s.vm.findClass RX5 = some m.cls := hown
  have hl : lv_has ls 6 [(0, .ref (ad 0)), (1, .int x1), (2, .int x2)] := hl
  have h : Ho (FX5_keeps n ev x1 x2) (fun x => x = r) := ⟨r, hF, rfl⟩
  unfold FX5_keeps at h
  have hfix : CallFix p m c cX5_keeps 6 s args wsX5_keeps RX5 := ⟨hx, hb, hml, hown, hts⟩
  have hiX5 : ∀ w ∈ u_ws RX5 TX5 7, w ∈ wsX5_keeps := by decide +kernel
  have hf10 := hts (.fieldLink RX5 10 "RowClasses" "circle" "LRowClasses$Circle;") (by decide +kernel)
  have J65 : ∀ (v4 : Int32) (ls : Array Slot), lv_has ls 6 [(4, .int v4)] → Ho (X5_keeps_65 v4) (fun x => x = r) → W p l e rmX5_keeps s m args below meth c s.heap [] 0 0 (MQ below (vp_Si (fun x => x = r)) args s 0 0 (fun _ => False)) (F0 m 65 ls []) := by
    intro v4 ls hl h
    unfold X5_keeps_65 at h
    refine lv_iload hx hb dX5_keeps_65 (lv_at hl 0 rfl) ?_
    exact W.iret hx hb hr (fun t ht _ => ro_Si (Ho_e h) ht) ro_nil dX5_keeps_67 hlk
  have J30 : ∀ (v3 : Int32) (v4 : Int32) (v5 : Int32) (ls : Array Slot), lv_has ls 6 [(0, .ref (ad 0)), (1, .int x1), (3, .int v3), (4, .int v4), (5, .int v5)] → Ho ((X5_keeps_30_l n ev x1 v3 v4 v5).bind (fun ex => X5_keeps_65 ex)) (fun x => x = r) → W p l e rmX5_keeps s m args below meth c s.heap [] 0 0 (MQ below (vp_Si (fun x => x = r)) args s 0 0 (fun _ => False)) (F0 m 30 ls []) := by
    intro v3 v4 v5 ls hl h
    refine loop_use2 (fun z : Int32 × Int32 => ∀ (ls : Array Slot), lv_has ls 6 [(0, .ref (ad 0)), (1, .int x1), (3, .int v3), (4, .int z.1), (5, .int z.2)] → W p l e rmX5_keeps s m args below meth c s.heap [] 0 0 (MQ below (vp_Si (fun x => x = r)) args s 0 0 (fun _ => False)) (F0 m 30 ls [])) ?_ FU _ h ls hl
    intro Q30 hi30 ho30 z h ls hl
    obtain ⟨v4, v5⟩ := z
    have h : Ho (X5_keeps_30_s n ev x1 v3 v4 v5) Q30 := h
    unfold X5_keeps_30_s at h
    have hl : lv_has ls 6 [(0, .ref (ad 0)), (1, .int x1), (3, .int v3), (4, .int v4), (5, .int v5)] := hl
    refine lv_iload hx hb dX5_keeps_30 (lv_at hl 4 rfl) ?_
    refine lv_aload_n hx hb dX5_keeps_32 rfl (lv_at hl 0 rfl) ?_
    refine va_get (D := (dC, dI)) (ci := 5) (v := .ref (ad 1)) (C := RX5) (T := TX5) (N := 7) hx hb hts hiX5 hown hK.1 hP 0 rfl rfl 0 (by decide) hf10 (fun _ h9 => h9) rfl dX5_keeps_33 ?_
    obtain ⟨r36, hc36, h⟩ := Ho_b h
    have hPc : va_P (dC, dI) vwCl [((ad 1), .inr (0, [.int n, .int ev]))] s.heap := hP.sub [1] rfl
    refine cs_i (va_runV (As := []) (rest := [.int v5]) hfix (c_X0_count l dC dI cI cJ (ad 1) n ev _ hc36) (cwV 0 hts gX5_keeps_X0_count rfl rfl rfl (by decide +kernel) ⟨by decide, by decide⟩) (roP.preV hK hPc (ci := 0) rfl rfl) rfl rfl hl.1 rfl (lv_room (Nat.le_of_ble_eq_true rfl)) dX5_keeps_36 ⟨Nat.zero_le _, Nat.zero_le _⟩) ?_
    refine lv_icmp_ge (tgt := 65) hx hb dX5_keeps_39 (by decide) (fun q39 => ?_) (fun q39 => ?_)
    · have h := Ho_t h q39
      have h := ho30 _ (Ho_s h)
      exact J65 v4 ls (lv_sub hl [3] rfl) h
    · have h := Ho_f h q39
      refine lv_aload_n hx hb dX5_keeps_42 rfl (lv_at hl 0 rfl) ?_
      refine va_get (D := (dC, dI)) (ci := 5) (v := .ref (ad 1)) (C := RX5) (T := TX5) (N := 7) hx hb hts hiX5 hown hK.1 hP 0 rfl rfl 0 (by decide) hf10 (fun _ h9 => h9) rfl dX5_keeps_43 ?_
      refine lv_iload_n hx hb dX5_keeps_46 rfl (lv_at hl 2 rfl) ?_
      refine lv_iload hx hb dX5_keeps_47 (lv_at hl 4 rfl) ?_
      obtain ⟨r49, hc49, h⟩ := Ho_b h
      have hPc : va_P (dC, dI) vwCl [((ad 1), .inr (0, [.int n, .int ev]))] s.heap := hP.sub [1] rfl
      refine cs_i (va_runV (As := [.int v3, .int v5]) (rest := []) hfix (c_X0_turned l dC dI cI cJ (ad 1) n ev v3 v5 _ hc49) (cwV 2 hts gX5_keeps_X0_turned rfl rfl rfl (by decide +kernel) ⟨by decide, by decide⟩) (roP.preV hK hPc (ci := 0) rfl rfl) rfl rfl hl.1 rfl (lv_room (Nat.le_of_ble_eq_true rfl)) dX5_keeps_49 ⟨Nat.zero_le _, Nat.zero_le _⟩) ?_
      refine lv_iload_n hx hb dX5_keeps_52 rfl (lv_at hl 1 rfl) ?_
      refine lv_icmp_ne (tgt := 59) hx hb dX5_keeps_53 (by decide) (fun q53 => ?_) (fun q53 => ?_)
      · have h := Ho_f h q53
        refine lv_iinc (v := v5 + 1) (lv' := [(5, .int (v5 + 1)), (0, .ref (ad 0)), (1, .int x1), (3, .int v3), (4, .int v4)]) hx hb dX5_keeps_59 hl (k := 4) rfl rfl (by decide) rfl (fun ls hl => ?_)
        refine lv_goto (tgt := 30) hx hb dX5_keeps_62 (by decide) ?_
        exact hi30 _ (Ho_s h) ls (lv_sub hl [1, 2, 3, 4, 0] rfl)
      · have h := Ho_t h q53
        refine lv_iinc (v := v4 + 1) (lv' := [(4, .int (v4 + 1)), (0, .ref (ad 0)), (1, .int x1), (3, .int v3), (5, .int v5)]) hx hb dX5_keeps_56 hl (k := 3) rfl rfl (by decide) rfl (fun ls hl => ?_)
        refine lv_iinc (v := v5 + 1) (lv' := [(5, .int (v5 + 1)), (4, .int (v4 + 1)), (0, .ref (ad 0)), (1, .int x1), (3, .int v3)]) hx hb dX5_keeps_59 hl (k := 4) rfl rfl (by decide) rfl (fun ls hl => ?_)
        refine lv_goto (tgt := 30) hx hb dX5_keeps_62 (by decide) ?_
        exact hi30 _ (Ho_s h) ls (lv_sub hl [2, 3, 4, 1, 0] rfl)
  refine lv_aload_n hx hb dX5_keeps_0 rfl (lv_at hl 0 rfl) ?_
  refine va_get (D := (dC, dI)) (ci := 5) (v := .ref (ad 1)) (C := RX5) (T := TX5) (N := 7) hx hb hts hiX5 hown hK.1 hP 0 rfl rfl 0 (by decide) hf10 (fun _ h9 => h9) rfl dX5_keeps_1 ?_
  refine lv_iload_n hx hb dX5_keeps_4 rfl (lv_at hl 1 rfl) ?_
  obtain ⟨r5, hc5, h⟩ := Ho_b h
  have hPc : va_P (dC, dI) vwCl [((ad 1), .inr (0, [.int n, .int ev]))] s.heap := hP.sub [1] rfl
  refine cs_i (va_runV (As := [.int x1]) (rest := []) hfix (c_X0_hasSet l dC dI cI cJ (ad 1) n ev x1 _ hc5) (cwV 1 hts gX5_keeps_X0_hasSet rfl rfl rfl (by decide +kernel) ⟨by decide, by decide⟩) (roP.preV hK hPc (ci := 0) rfl rfl) rfl rfl hl.1 rfl (lv_room (Nat.le_of_ble_eq_true rfl)) dX5_keeps_5 ⟨Nat.zero_le _, Nat.zero_le _⟩) ?_
  refine lv_if_ne (tgt := 14) hx hb dX5_keeps_8 (by decide) (fun q8 => ?_) (fun q8 => ?_)
  · have h := Ho_f h q8
    refine lv_aload_n hx hb dX5_keeps_14 rfl (lv_at hl 0 rfl) ?_
    refine va_get (D := (dC, dI)) (ci := 5) (v := .ref (ad 1)) (C := RX5) (T := TX5) (N := 7) hx hb hts hiX5 hown hK.1 hP 0 rfl rfl 0 (by decide) hf10 (fun _ h9 => h9) rfl dX5_keeps_15 ?_
    refine lv_iload_n hx hb dX5_keeps_18 rfl (lv_at hl 1 rfl) ?_
    refine lv_iload_n hx hb dX5_keeps_19 rfl (lv_at hl 2 rfl) ?_
    obtain ⟨r20, hc20, h⟩ := Ho_b h
    have hPc : va_P (dC, dI) vwCl [((ad 1), .inr (0, [.int n, .int ev]))] s.heap := hP.sub [1] rfl
    refine cs_i (va_runV (As := [.int x1, .int x2]) (rest := []) hfix (c_X0_mirroredIf l dC dI cI cJ (ad 1) n ev x1 x2 _ hc20) (cwV 2 hts gX5_keeps_X0_mirroredIf rfl rfl rfl (by decide +kernel) ⟨by decide, by decide⟩) (roP.preV hK hPc (ci := 0) rfl rfl) rfl rfl hl.1 rfl (lv_room (Nat.le_of_ble_eq_true rfl)) dX5_keeps_20 ⟨Nat.zero_le _, Nat.zero_le _⟩) ?_
    refine lv_istore_n (lv' := [(3, .int r20), (0, .ref (ad 0)), (1, .int x1), (2, .int x2)]) hx hb dX5_keeps_23 rfl hl (by decide) rfl (fun ls hl => ?_)
    refine lv_iconst (v := (0 : Int32)) hx hb dX5_keeps_24 (by decide) ?_
    refine lv_istore (lv' := [(4, .int (0 : Int32)), (3, .int r20), (0, .ref (ad 0)), (1, .int x1), (2, .int x2)]) hx hb dX5_keeps_25 hl (by decide) rfl (fun ls hl => ?_)
    refine lv_iconst (v := (0 : Int32)) hx hb dX5_keeps_27 (by decide) ?_
    refine lv_istore (lv' := [(5, .int (0 : Int32)), (4, .int (0 : Int32)), (3, .int r20), (0, .ref (ad 0)), (1, .int x1), (2, .int x2)]) hx hb dX5_keeps_28 hl (by decide) rfl (fun ls hl => ?_)
    exact J30 r20 (0 : Int32) (0 : Int32) ls (lv_sub hl [3, 4, 2, 1, 0] rfl) h
  · have h := Ho_t h q8
    refine lv_bipush (v := (-2 : Int32)) hx hb dX5_keeps_11 (by decide) ?_
    exact W.iret hx hb hr (fun t ht _ => ro_Si (Ho_e h) ht) ro_nil dX5_keeps_13 hlk
abbrev rmX5_even : Room := { frames := 2, cells := 0, slots := 0, locals := 52 }
set_option maxHeartbeats 4000000 in
set_option maxRecDepth 100000 in
theorem c_X5_even (l : Launch) (dC : Nat → ClassId) (dI : Nat → Nat → Nat) (cI cJ : ClassId) (ad : Nat → Nat) (n : Int32) (ev : Int32) (ld0 : Int32) (ld1 : Int32) (ld2 : Int32) (tk : Int32) (mb : Int32) (f0 : Nat → Int32) (f1 : Nat → Int32) (f2 : Nat → Int32) (fr : Nat → Int32) (fu : Nat → Int32) (x1 : Int32) (r : Int32) (hF : FX5_even n ev x1 = some r) : Met l yX5_even wsX5_even rmX5_even (roP (dC, dI) [(cI, .int), (cJ, .long)] (wX5 cI cJ ad n ev ld0 ld1 ld2 tk mb f0 f1 f2 fr fu) [.ref (ad 0), .int x1]) (vp_Si (fun x => x = r)) 0 0 (fun _ => False) := by
  refine ro_start (cc := cX5_even) (maxL := 4) (ret := (some .int)) (by decide) rfl (Nat.le_of_ble_eq_true rfl) ?_
  intro p e s m args below meth c ls hx hb hml hr hlk hown hts hP hK hl
  have hown : s.vm.findClass RX5 = some m.cls := hown
  have hl : lv_has ls 4 [(0, .ref (ad 0)), (1, .int x1)] := hl
  have h : Ho (FX5_even n ev x1) (fun x => x = r) := ⟨r, hF, rfl⟩
  unfold FX5_even at h
  have hfix : CallFix p m c cX5_even 4 s args wsX5_even RX5 := ⟨hx, hb, hml, hown, hts⟩
  have hiX5 : ∀ w ∈ u_ws RX5 TX5 7, w ∈ wsX5_even := by decide +kernel
  have hf10 := hts (.fieldLink RX5 10 "RowClasses" "circle" "LRowClasses$Circle;") (by decide +kernel)
  have J52 : ∀  (ls : Array Slot), lv_has ls 4 [] → Ho (X5_even_52) (fun x => x = r) → W p l e rmX5_even s m args below meth c s.heap [] 0 0 (MQ below (vp_Si (fun x => x = r)) args s 0 0 (fun _ => False)) (F0 m 52 ls []) := by
    intro  ls hl h
    unfold X5_even_52 at h
    refine lv_iconst (v := (1 : Int32)) hx hb dX5_even_52 (by decide) ?_
    exact W.iret hx hb hr (fun t ht _ => ro_Si (Ho_e h) ht) ro_nil dX5_even_53 hlk
  have J44 : ∀  (ls : Array Slot), lv_has ls 4 [] → Ho (X5_even_44) (fun x => x = r) → W p l e rmX5_even s m args below meth c s.heap [] 0 0 (MQ below (vp_Si (fun x => x = r)) args s 0 0 (fun _ => False)) (F0 m 44 ls []) := by
    intro  ls hl h
    unfold X5_even_44 at h
    refine lv_iconst (v := (0 : Int32)) hx hb dX5_even_44 (by decide) ?_
    exact W.iret hx hb hr (fun t ht _ => ro_Si (Ho_e h) ht) ro_nil dX5_even_45 hlk
  have J27 : ∀ (v2 : Int32) (v3 : Int32) (ls : Array Slot), lv_has ls 4 [(0, .ref (ad 0)), (1, .int x1), (2, .int v2), (3, .int v3)] → Ho ((X5_even_27_l n x1 v2 v3).bind (fun ex => Sum.elim (fun xy => X5_even_44) (fun xy => X5_even_52) ex)) (fun x => x = r) → W p l e rmX5_even s m args below meth c s.heap [] 0 0 (MQ below (vp_Si (fun x => x = r)) args s 0 0 (fun _ => False)) (F0 m 27 ls []) := by
    intro v2 v3 ls hl h
    refine loop_use2 (fun z : Int32 => ∀ (ls : Array Slot), lv_has ls 4 [(0, .ref (ad 0)), (1, .int x1), (2, .int v2), (3, .int z)] → W p l e rmX5_even s m args below meth c s.heap [] 0 0 (MQ below (vp_Si (fun x => x = r)) args s 0 0 (fun _ => False)) (F0 m 27 ls [])) ?_ FU _ h ls hl
    intro Q27 hi27 ho27 z h ls hl
    obtain ⟨v3, rfl⟩ : ∃ q, q = z := ⟨_, rfl⟩
    have h : Ho (X5_even_27_s n x1 v2 v3) Q27 := h
    unfold X5_even_27_s at h
    have hl : lv_has ls 4 [(0, .ref (ad 0)), (1, .int x1), (2, .int v2), (3, .int v3)] := hl
    refine lv_iload_n hx hb dX5_even_27 rfl (lv_at hl 3 rfl) ?_
    refine lv_iload_n hx hb dX5_even_28 rfl (lv_at hl 2 rfl) ?_
    refine lv_icmp_ge (tgt := 52) hx hb dX5_even_29 (by decide) (fun q29 => ?_) (fun q29 => ?_)
    · have h := Ho_t h q29
      have h := ho27 _ (Ho_s h)
      exact J52  ls (lv_sub hl [] rfl) h
    · have h := Ho_f h q29
      refine lv_aload_n hx hb dX5_even_32 rfl (lv_at hl 0 rfl) ?_
      refine va_get (D := (dC, dI)) (ci := 5) (v := .ref (ad 1)) (C := RX5) (T := TX5) (N := 7) hx hb hts hiX5 hown hK.1 hP 0 rfl rfl 0 (by decide) hf10 (fun _ h9 => h9) rfl dX5_even_33 ?_
      refine lv_iload_n hx hb dX5_even_36 rfl (lv_at hl 1 rfl) ?_
      refine lv_iload_n hx hb dX5_even_37 rfl (lv_at hl 3 rfl) ?_
      obtain ⟨r38, hc38, h⟩ := Ho_b h
      have hPc : va_P (dC, dI) vwCl [((ad 1), .inr (0, [.int n, .int ev]))] s.heap := hP.sub [1] rfl
      refine cs_i (va_runV (As := [.int x1, .int v3]) (rest := []) hfix (c_X0_hasLikeWays l dC dI cI cJ (ad 1) n ev x1 v3 _ hc38) (cwV 2 hts gX5_even_X0_hasLikeWays rfl rfl rfl (by decide +kernel) ⟨by decide, by decide⟩) (roP.preV hK hPc (ci := 0) rfl rfl) rfl rfl hl.1 rfl (lv_room (Nat.le_of_ble_eq_true rfl)) dX5_even_38 ⟨Nat.zero_le _, Nat.zero_le _⟩) ?_
      refine lv_if_ne (tgt := 46) hx hb dX5_even_41 (by decide) (fun q41 => ?_) (fun q41 => ?_)
      · have h := Ho_f h q41
        refine lv_iinc (v := v3 + 1) (lv' := [(3, .int (v3 + 1)), (0, .ref (ad 0)), (1, .int x1), (2, .int v2)]) hx hb dX5_even_46 hl (k := 3) rfl rfl (by decide) rfl (fun ls hl => ?_)
        refine lv_goto (tgt := 27) hx hb dX5_even_49 (by decide) ?_
        exact hi27 _ (Ho_s h) ls (lv_sub hl [1, 2, 3, 0] rfl)
      · have h := Ho_t h q41
        have h := ho27 _ (Ho_s h)
        exact J44  ls (lv_sub hl [] rfl) h
  refine lv_aload_n hx hb dX5_even_0 rfl (lv_at hl 0 rfl) ?_
  refine va_get (D := (dC, dI)) (ci := 5) (v := .ref (ad 1)) (C := RX5) (T := TX5) (N := 7) hx hb hts hiX5 hown hK.1 hP 0 rfl rfl 0 (by decide) hf10 (fun _ h9 => h9) rfl dX5_even_1 ?_
  refine lv_iload_n hx hb dX5_even_4 rfl (lv_at hl 1 rfl) ?_
  obtain ⟨r5, hc5, h⟩ := Ho_b h
  have hPc : va_P (dC, dI) vwCl [((ad 1), .inr (0, [.int n, .int ev]))] s.heap := hP.sub [1] rfl
  refine cs_i (va_runV (As := [.int x1]) (rest := []) hfix (c_X0_hasSet l dC dI cI cJ (ad 1) n ev x1 _ hc5) (cwV 1 hts gX5_even_X0_hasSet rfl rfl rfl (by decide +kernel) ⟨by decide, by decide⟩) (roP.preV hK hPc (ci := 0) rfl rfl) rfl rfl hl.1 rfl (lv_room (Nat.le_of_ble_eq_true rfl)) dX5_even_5 ⟨Nat.zero_le _, Nat.zero_le _⟩) ?_
  refine lv_if_ne (tgt := 14) hx hb dX5_even_8 (by decide) (fun q8 => ?_) (fun q8 => ?_)
  · have h := Ho_f h q8
    refine lv_iload_n hx hb dX5_even_14 rfl (lv_at hl 1 rfl) ?_
    refine lv_if_ne (tgt := 20) hx hb dX5_even_15 (by decide) (fun q15 => ?_) (fun q15 => ?_)
    · have h := Ho_f h q15
      refine lv_iload_n hx hb dX5_even_20 rfl (lv_at hl 1 rfl) ?_
      obtain ⟨r21, hc21, h⟩ := Ho_b h
      refine cs_i (va_runS (As := [.int x1]) (rest := []) hfix (c_J6_bitCount_0f7a4 l dC dI cI cJ  x1 _ hc21) (va_cwS 1 hts gX5_even_J6_bitCount_0f7a4 rfl rfl rfl (by decide +kernel) ⟨by decide, by decide⟩) (roP.preS hK va_Pnil) rfl rfl hl.1 rfl (lv_room (Nat.le_of_ble_eq_true rfl)) dX5_even_21 ⟨Nat.zero_le _, Nat.zero_le _⟩) ?_
      refine lv_istore_n (lv' := [(2, .int r21), (0, .ref (ad 0)), (1, .int x1)]) hx hb dX5_even_24 rfl hl (by decide) rfl (fun ls hl => ?_)
      refine lv_iconst (v := (1 : Int32)) hx hb dX5_even_25 (by decide) ?_
      refine lv_istore_n (lv' := [(3, .int (1 : Int32)), (2, .int r21), (0, .ref (ad 0)), (1, .int x1)]) hx hb dX5_even_26 rfl hl (by decide) rfl (fun ls hl => ?_)
      exact J27 r21 (1 : Int32) ls (lv_sub hl [2, 3, 1, 0] rfl) h
    · have h := Ho_t h q15
      refine lv_iconst (v := (0 : Int32)) hx hb dX5_even_18 (by decide) ?_
      exact W.iret hx hb hr (fun t ht _ => ro_Si (Ho_e h) ht) ro_nil dX5_even_19 hlk
  · have h := Ho_t h q8
    refine lv_bipush (v := (-2 : Int32)) hx hb dX5_even_11 (by decide) ?_
    exact W.iret hx hb hr (fun t ht _ => ro_Si (Ho_e h) ht) ro_nil dX5_even_13 hlk
abbrev rmX5_spread : Room := { frames := 1, cells := 0, slots := 0, locals := 21 }
set_option maxHeartbeats 4000000 in
set_option maxRecDepth 100000 in
theorem c_X5_spread (l : Launch) (dC : Nat → ClassId) (dI : Nat → Nat → Nat) (cI cJ : ClassId) (ad : Nat → Nat) (n : Int32) (ev : Int32) (ld0 : Int32) (ld1 : Int32) (ld2 : Int32) (tk : Int32) (mb : Int32) (f0 : Nat → Int32) (f1 : Nat → Int32) (f2 : Nat → Int32) (fr : Nat → Int32) (fu : Nat → Int32) (x1 : Int32) (x2 : Int32) (r : Int32) (hF : FX5_spread n x1 x2 = some r) : Met l yX5_spread wsX5_spread rmX5_spread (roP (dC, dI) [(cI, .int), (cJ, .long)] (wX5 cI cJ ad n ev ld0 ld1 ld2 tk mb f0 f1 f2 fr fu) [.ref (ad 0), .int x1, .int x2]) (vp_Si (fun x => x = r)) 0 0 (fun _ => False) := by
  refine ro_start (cc := cX5_spread) (maxL := 5) (ret := (some .int)) (by decide) rfl (Nat.le_of_ble_eq_true rfl) ?_
  intro p e s m args below meth c ls hx hb hml hr hlk hown hts hP hK hl
  have hown : s.vm.findClass RX5 = some m.cls := hown
  have hl : lv_has ls 5 [(0, .ref (ad 0)), (1, .int x1), (2, .int x2)] := hl
  have h : Ho (FX5_spread n x1 x2) (fun x => x = r) := ⟨r, hF, rfl⟩
  unfold FX5_spread at h
  have hfix : CallFix p m c cX5_spread 5 s args wsX5_spread RX5 := ⟨hx, hb, hml, hown, hts⟩
  have hiX5 : ∀ w ∈ u_ws RX5 TX5 7, w ∈ wsX5_spread := by decide +kernel
  have hf10 := hts (.fieldLink RX5 10 "RowClasses" "circle" "LRowClasses$Circle;") (by decide +kernel)
  have J66 : ∀ (v3 : Int32) (ls : Array Slot), lv_has ls 5 [(3, .int v3)] → Ho (X5_spread_66 v3) (fun x => x = r) → W p l e rmX5_spread s m args below meth c s.heap [] 0 0 (MQ below (vp_Si (fun x => x = r)) args s 0 0 (fun _ => False)) (F0 m 66 ls []) := by
    intro v3 ls hl h
    unfold X5_spread_66 at h
    refine lv_iload_n hx hb dX5_spread_66 rfl (lv_at hl 0 rfl) ?_
    exact W.iret hx hb hr (fun t ht _ => ro_Si (Ho_e h) ht) ro_nil dX5_spread_67 hlk
  have J35 : ∀ (v3 : Int32) (v4 : Int32) (ls : Array Slot), lv_has ls 5 [(0, .ref (ad 0)), (1, .int x1), (2, .int x2), (3, .int v3), (4, .int v4)] → Ho ((X5_spread_35_l n x1 x2 v3 v4).bind (fun ex => X5_spread_66 ex)) (fun x => x = r) → W p l e rmX5_spread s m args below meth c s.heap [] 0 0 (MQ below (vp_Si (fun x => x = r)) args s 0 0 (fun _ => False)) (F0 m 35 ls []) := by
    intro v3 v4 ls hl h
    refine loop_use2 (fun z : Int32 × Int32 => ∀ (ls : Array Slot), lv_has ls 5 [(0, .ref (ad 0)), (1, .int x1), (2, .int x2), (3, .int z.1), (4, .int z.2)] → W p l e rmX5_spread s m args below meth c s.heap [] 0 0 (MQ below (vp_Si (fun x => x = r)) args s 0 0 (fun _ => False)) (F0 m 35 ls [])) ?_ FU _ h ls hl
    intro Q35 hi35 ho35 z h ls hl
    obtain ⟨v3, v4⟩ := z
    have h : Ho (X5_spread_35_s n x1 x2 v3 v4) Q35 := h
    unfold X5_spread_35_s at h
    have hl : lv_has ls 5 [(0, .ref (ad 0)), (1, .int x1), (2, .int x2), (3, .int v3), (4, .int v4)] := hl
    refine lv_iload hx hb dX5_spread_35 (lv_at hl 4 rfl) ?_
    refine lv_iload_n hx hb dX5_spread_37 rfl (lv_at hl 1 rfl) ?_
    refine lv_icmp_ge (tgt := 66) hx hb dX5_spread_38 (by decide) (fun q38 => ?_) (fun q38 => ?_)
    · have h := Ho_t h q38
      have h := ho35 _ (Ho_s h)
      exact J66 v3 ls (lv_sub hl [3] rfl) h
    · have h := Ho_f h q38
      refine lv_iload_n hx hb dX5_spread_41 rfl (lv_at hl 3 rfl) ?_
      refine lv_iconst (v := (1 : Int32)) hx hb dX5_spread_42 (by decide) ?_
      refine lv_aload_n hx hb dX5_spread_43 rfl (lv_at hl 0 rfl) ?_
      refine va_get (D := (dC, dI)) (ci := 5) (v := .ref (ad 1)) (C := RX5) (T := TX5) (N := 7) hx hb hts hiX5 hown hK.1 hP 0 rfl rfl 0 (by decide) hf10 (fun _ h9 => h9) rfl dX5_spread_44 ?_
      obtain ⟨r47, hc47, h⟩ := Ho_b h
      have hPc : va_P (dC, dI) vwCl [((ad 1), .inr (0, [.int n, .int ev]))] s.heap := hP.sub [1] rfl
      refine cs_i (va_runV (As := []) (rest := [.int (1 : Int32), .int v3]) hfix (c_X0_count l dC dI cI cJ (ad 1) n ev _ hc47) (cwV 0 hts gX5_spread_X0_count rfl rfl rfl (by decide +kernel) ⟨by decide, by decide⟩) (roP.preV hK hPc (ci := 0) rfl rfl) rfl rfl hl.1 rfl (lv_room (Nat.le_of_ble_eq_true rfl)) dX5_spread_47 ⟨Nat.zero_le _, Nat.zero_le _⟩) ?_
      refine lv_iload hx hb dX5_spread_50 (lv_at hl 4 rfl) ?_
      refine lv_imul hx hb dX5_spread_52 ?_
      refine lv_iload_n hx hb dX5_spread_53 rfl (lv_at hl 2 rfl) ?_
      refine lv_iadd hx hb dX5_spread_54 ?_
      refine lv_iload_n hx hb dX5_spread_55 rfl (lv_at hl 1 rfl) ?_
      obtain ⟨hz56, h⟩ := Ho_nz h
      refine lv_idiv hx hb dX5_spread_56 hz56 ?_
      refine lv_ishl hx hb dX5_spread_57 ?_
      refine lv_ior hx hb dX5_spread_58 ?_
      refine lv_istore_n (lv' := [(3, .int (v3 ||| ((1 : Int32) <<< ((((r47 * v4) + x2) / x1) &&& 31)))), (0, .ref (ad 0)), (1, .int x1), (2, .int x2), (4, .int v4)]) hx hb dX5_spread_59 rfl hl (by decide) rfl (fun ls hl => ?_)
      refine lv_iinc (v := v4 + 1) (lv' := [(4, .int (v4 + 1)), (3, .int (v3 ||| ((1 : Int32) <<< ((((r47 * v4) + x2) / x1) &&& 31)))), (0, .ref (ad 0)), (1, .int x1), (2, .int x2)]) hx hb dX5_spread_60 hl (k := 4) rfl rfl (by decide) rfl (fun ls hl => ?_)
      refine lv_goto (tgt := 35) hx hb dX5_spread_63 (by decide) ?_
      exact hi35 _ (Ho_s h) ls (lv_sub hl [2, 3, 4, 1, 0] rfl)
  refine lv_iload_n hx hb dX5_spread_0 rfl (lv_at hl 1 rfl) ?_
  refine lv_iconst (v := (1 : Int32)) hx hb dX5_spread_1 (by decide) ?_
  refine lv_icmp_lt (tgt := 27) hx hb dX5_spread_2 (by decide) (fun q2 => ?_) (fun q2 => ?_)
  · have h := Ho_t h q2
    refine lv_bipush (v := (-2 : Int32)) hx hb dX5_spread_27 (by decide) ?_
    exact W.iret hx hb hr (fun t ht _ => ro_Si (Ho_e h) ht) ro_nil dX5_spread_29 hlk
  · have h := Ho_f h q2
    refine lv_iload_n hx hb dX5_spread_5 rfl (lv_at hl 1 rfl) ?_
    refine lv_aload_n hx hb dX5_spread_6 rfl (lv_at hl 0 rfl) ?_
    refine va_get (D := (dC, dI)) (ci := 5) (v := .ref (ad 1)) (C := RX5) (T := TX5) (N := 7) hx hb hts hiX5 hown hK.1 hP 0 rfl rfl 0 (by decide) hf10 (fun _ h9 => h9) rfl dX5_spread_7 ?_
    obtain ⟨r10, hc10, h⟩ := Ho_b h
    have hPc : va_P (dC, dI) vwCl [((ad 1), .inr (0, [.int n, .int ev]))] s.heap := hP.sub [1] rfl
    refine cs_i (va_runV (As := []) (rest := [.int x1]) hfix (c_X0_count l dC dI cI cJ (ad 1) n ev _ hc10) (cwV 0 hts gX5_spread_X0_count rfl rfl rfl (by decide +kernel) ⟨by decide, by decide⟩) (roP.preV hK hPc (ci := 0) rfl rfl) rfl rfl hl.1 rfl (lv_room (Nat.le_of_ble_eq_true rfl)) dX5_spread_10 ⟨Nat.zero_le _, Nat.zero_le _⟩) ?_
    refine lv_icmp_gt (tgt := 27) hx hb dX5_spread_13 (by decide) (fun q13 => ?_) (fun q13 => ?_)
    · have h := Ho_t h q13
      refine lv_bipush (v := (-2 : Int32)) hx hb dX5_spread_27 (by decide) ?_
      exact W.iret hx hb hr (fun t ht _ => ro_Si (Ho_e h) ht) ro_nil dX5_spread_29 hlk
    · have h := Ho_f h q13
      refine lv_aload_n hx hb dX5_spread_16 rfl (lv_at hl 0 rfl) ?_
      refine va_get (D := (dC, dI)) (ci := 5) (v := .ref (ad 1)) (C := RX5) (T := TX5) (N := 7) hx hb hts hiX5 hown hK.1 hP 0 rfl rfl 0 (by decide) hf10 (fun _ h9 => h9) rfl dX5_spread_17 ?_
      refine lv_iload_n hx hb dX5_spread_20 rfl (lv_at hl 2 rfl) ?_
      obtain ⟨r21, hc21, h⟩ := Ho_b h
      have hPc : va_P (dC, dI) vwCl [((ad 1), .inr (0, [.int n, .int ev]))] s.heap := hP.sub [1] rfl
      refine cs_i (va_runV (As := [.int x2]) (rest := []) hfix (c_X0_hasStep l dC dI cI cJ (ad 1) n ev x2 _ hc21) (cwV 1 hts gX5_spread_X0_hasStep rfl rfl rfl (by decide +kernel) ⟨by decide, by decide⟩) (roP.preV hK hPc (ci := 0) rfl rfl) rfl rfl hl.1 rfl (lv_room (Nat.le_of_ble_eq_true rfl)) dX5_spread_21 ⟨Nat.zero_le _, Nat.zero_le _⟩) ?_
      refine lv_if_ne (tgt := 30) hx hb dX5_spread_24 (by decide) (fun q24 => ?_) (fun q24 => ?_)
      · have h := Ho_f h q24
        refine lv_iconst (v := (0 : Int32)) hx hb dX5_spread_30 (by decide) ?_
        refine lv_istore_n (lv' := [(3, .int (0 : Int32)), (0, .ref (ad 0)), (1, .int x1), (2, .int x2)]) hx hb dX5_spread_31 rfl hl (by decide) rfl (fun ls hl => ?_)
        refine lv_iconst (v := (0 : Int32)) hx hb dX5_spread_32 (by decide) ?_
        refine lv_istore (lv' := [(4, .int (0 : Int32)), (3, .int (0 : Int32)), (0, .ref (ad 0)), (1, .int x1), (2, .int x2)]) hx hb dX5_spread_33 hl (by decide) rfl (fun ls hl => ?_)
        exact J35 (0 : Int32) (0 : Int32) ls (lv_sub hl [2, 3, 4, 1, 0] rfl) h
      · have h := Ho_t h q24
        refine lv_bipush (v := (-2 : Int32)) hx hb dX5_spread_27 (by decide) ?_
        exact W.iret hx hb hr (fun t ht _ => ro_Si (Ho_e h) ht) ro_nil dX5_spread_29 hlk
abbrev rmX5_isChain : Room := { frames := 1, cells := 0, slots := 0, locals := 22 }
set_option maxHeartbeats 4000000 in
set_option maxRecDepth 100000 in
theorem c_X5_isChain (l : Launch) (dC : Nat → ClassId) (dI : Nat → Nat → Nat) (cI cJ : ClassId) (ad : Nat → Nat) (n : Int32) (ev : Int32) (ld0 : Int32) (ld1 : Int32) (ld2 : Int32) (tk : Int32) (mb : Int32) (f0 : Nat → Int32) (f1 : Nat → Int32) (f2 : Nat → Int32) (fr : Nat → Int32) (fu : Nat → Int32) (x1 : Int32) (x2 : Int32) (r : Int32) (hF : FX5_isChain n x1 x2 = some r) : Met l yX5_isChain wsX5_isChain rmX5_isChain (roP (dC, dI) [(cI, .int), (cJ, .long)] (wX5 cI cJ ad n ev ld0 ld1 ld2 tk mb f0 f1 f2 fr fu) [.ref (ad 0), .int x1, .int x2]) (vp_Si (fun x => x = r)) 0 0 (fun _ => False) := by
  refine ro_start (cc := cX5_isChain) (maxL := 7) (ret := (some .boolean)) (by decide) rfl (Nat.le_of_ble_eq_true rfl) ?_
  intro p e s m args below meth c ls hx hb hml hr hlk hown hts hP hK hl
  have hown : s.vm.findClass RX5 = some m.cls := hown
  have hl : lv_has ls 7 [(0, .ref (ad 0)), (1, .int x1), (2, .int x2)] := hl
  have h : Ho (FX5_isChain n x1 x2) (fun x => x = r) := ⟨r, hF, rfl⟩
  unfold FX5_isChain at h
  have hfix : CallFix p m c cX5_isChain 7 s args wsX5_isChain RX5 := ⟨hx, hb, hml, hown, hts⟩
  have hiX5 : ∀ w ∈ u_ws RX5 TX5 7, w ∈ wsX5_isChain := by decide +kernel
  have hf10 := hts (.fieldLink RX5 10 "RowClasses" "circle" "LRowClasses$Circle;") (by decide +kernel)
  have J73 : ∀  (ls : Array Slot), lv_has ls 7 [] → Ho (X5_isChain_73) (fun x => x = r) → W p l e rmX5_isChain s m args below meth c s.heap [] 0 0 (MQ below (vp_Si (fun x => x = r)) args s 0 0 (fun _ => False)) (F0 m 73 ls []) := by
    intro  ls hl h
    unfold X5_isChain_73 at h
    refine lv_iconst (v := (0 : Int32)) hx hb dX5_isChain_73 (by decide) ?_
    exact W.zret (ty := .boolean) hx hb hr rfl (fun t ht _ => ro_Si (Ho_e h) ht) ro_nil dX5_isChain_74 hlk
  have J65 : ∀  (ls : Array Slot), lv_has ls 7 [] → Ho (X5_isChain_65) (fun x => x = r) → W p l e rmX5_isChain s m args below meth c s.heap [] 0 0 (MQ below (vp_Si (fun x => x = r)) args s 0 0 (fun _ => False)) (F0 m 65 ls []) := by
    intro  ls hl h
    unfold X5_isChain_65 at h
    refine lv_iconst (v := (1 : Int32)) hx hb dX5_isChain_65 (by decide) ?_
    exact W.zret (ty := .boolean) hx hb hr rfl (fun t ht _ => ro_Si (Ho_e h) ht) ro_nil dX5_isChain_66 hlk
  have J8 : ∀ (v3 : Int32) (v4 : Int32) (ls : Array Slot), lv_has ls 7 [(0, .ref (ad 0)), (1, .int x1), (2, .int x2), (3, .int v3), (4, .int v4)] → Ho ((X5_isChain_8_l n x1 x2 v3 v4).bind (fun ex => Sum.elim (fun xy => X5_isChain_65) (fun xy => X5_isChain_73) ex)) (fun x => x = r) → W p l e rmX5_isChain s m args below meth c s.heap [] 0 0 (MQ below (vp_Si (fun x => x = r)) args s 0 0 (fun _ => False)) (F0 m 8 ls []) := by
    intro v3 v4 ls hl h
    refine loop_use2 (fun z : Int32 => ∀ (ls : Array Slot), lv_has ls 7 [(0, .ref (ad 0)), (1, .int x1), (2, .int x2), (3, .int v3), (4, .int z)] → W p l e rmX5_isChain s m args below meth c s.heap [] 0 0 (MQ below (vp_Si (fun x => x = r)) args s 0 0 (fun _ => False)) (F0 m 8 ls [])) ?_ FU _ h ls hl
    intro Q8 hi8 ho8 z h ls hl
    obtain ⟨v4, rfl⟩ : ∃ q, q = z := ⟨_, rfl⟩
    have h : Ho (X5_isChain_8_s n x1 x2 v3 v4) Q8 := h
    unfold X5_isChain_8_s at h
    have hl : lv_has ls 7 [(0, .ref (ad 0)), (1, .int x1), (2, .int x2), (3, .int v3), (4, .int v4)] := hl
    have J59 : ∀ (v4 : Int32) (v5 : Int32) (ls : Array Slot), lv_has ls 7 [(0, .ref (ad 0)), (1, .int x1), (2, .int x2), (3, .int v3), (4, .int v4), (5, .int v5)] → Ho (X5_isChain_59 x1 v3 v4 v5) Q8 → W p l e rmX5_isChain s m args below meth c s.heap [] 0 0 (MQ below (vp_Si (fun x => x = r)) args s 0 0 (fun _ => False)) (F0 m 59 ls []) := by
      intro v4 v5 ls hl h
      unfold X5_isChain_59 at h
      refine lv_iload hx hb dX5_isChain_59 (lv_at hl 5 rfl) ?_
      refine lv_iload_n hx hb dX5_isChain_61 rfl (lv_at hl 1 rfl) ?_
      refine lv_icmp_ne (tgt := 67) hx hb dX5_isChain_62 (by decide) (fun q62 => ?_) (fun q62 => ?_)
      · have h := Ho_f h q62
        refine lv_iinc (v := v4 + 1) (lv' := [(4, .int (v4 + 1)), (0, .ref (ad 0)), (1, .int x1), (2, .int x2), (3, .int v3), (5, .int v5)]) hx hb dX5_isChain_67 hl (k := 4) rfl rfl (by decide) rfl (fun ls hl => ?_)
        refine lv_goto (tgt := 8) hx hb dX5_isChain_70 (by decide) ?_
        exact hi8 _ (Ho_s h) ls (lv_sub hl [1, 2, 3, 4, 0] rfl)
      · have h := Ho_t h q62
        have h := ho8 _ (Ho_s h)
        exact J65  ls (lv_sub hl [] rfl) h
    have J26 : ∀ (v4 : Int32) (v5 : Int32) (v6 : Int32) (ls : Array Slot), lv_has ls 7 [(0, .ref (ad 0)), (1, .int x1), (2, .int x2), (3, .int v3), (4, .int v4), (5, .int v5), (6, .int v6)] → Ho ((X5_isChain_26_l n x2 v3 v4 v5 v6).bind (fun ex => X5_isChain_59 x1 v3 v4 ex)) Q8 → W p l e rmX5_isChain s m args below meth c s.heap [] 0 0 (MQ below (vp_Si (fun x => x = r)) args s 0 0 (fun _ => False)) (F0 m 26 ls []) := by
      intro v4 v5 v6 ls hl h
      refine loop_use2 (fun z : Int32 × Int32 => ∀ (ls : Array Slot), lv_has ls 7 [(0, .ref (ad 0)), (1, .int x1), (2, .int x2), (3, .int v3), (4, .int v4), (5, .int z.1), (6, .int z.2)] → W p l e rmX5_isChain s m args below meth c s.heap [] 0 0 (MQ below (vp_Si (fun x => x = r)) args s 0 0 (fun _ => False)) (F0 m 26 ls [])) ?_ FU _ h ls hl
      intro Q26 hi26 ho26 z h ls hl
      obtain ⟨v5, v6⟩ := z
      have h : Ho (X5_isChain_26_s n x2 v3 v4 v5 v6) Q26 := h
      unfold X5_isChain_26_s at h
      have hl : lv_has ls 7 [(0, .ref (ad 0)), (1, .int x1), (2, .int x2), (3, .int v3), (4, .int v4), (5, .int v5), (6, .int v6)] := hl
      refine lv_iload hx hb dX5_isChain_26 (lv_at hl 6 rfl) ?_
      refine lv_iload_n hx hb dX5_isChain_28 rfl (lv_at hl 3 rfl) ?_
      refine lv_icmp_ge (tgt := 59) hx hb dX5_isChain_29 (by decide) (fun q29 => ?_) (fun q29 => ?_)
      · have h := Ho_t h q29
        have h := ho26 _ (Ho_s h)
        exact J59 v4 v5 ls (lv_sub hl [0, 1, 2, 3, 4, 5] rfl) h
      · have h := Ho_f h q29
        refine lv_iload hx hb dX5_isChain_32 (lv_at hl 5 rfl) ?_
        refine lv_iconst (v := (1 : Int32)) hx hb dX5_isChain_34 (by decide) ?_
        refine lv_aload_n hx hb dX5_isChain_35 rfl (lv_at hl 0 rfl) ?_
        refine va_get (D := (dC, dI)) (ci := 5) (v := .ref (ad 1)) (C := RX5) (T := TX5) (N := 7) hx hb hts hiX5 hown hK.1 hP 0 rfl rfl 0 (by decide) hf10 (fun _ h9 => h9) rfl dX5_isChain_36 ?_
        refine lv_iload hx hb dX5_isChain_39 (lv_at hl 4 rfl) ?_
        refine lv_iload hx hb dX5_isChain_41 (lv_at hl 6 rfl) ?_
        refine lv_iload_n hx hb dX5_isChain_43 rfl (lv_at hl 2 rfl) ?_
        refine lv_imul hx hb dX5_isChain_44 ?_
        refine lv_iadd hx hb dX5_isChain_45 ?_
        obtain ⟨r46, hc46, h⟩ := Ho_b h
        have hPc : va_P (dC, dI) vwCl [((ad 1), .inr (0, [.int n, .int ev]))] s.heap := hP.sub [1] rfl
        refine cs_i (va_runV (As := [.int (v4 + (v6 * x2))]) (rest := [.int (1 : Int32), .int v5]) hfix (c_X0_wrapped l dC dI cI cJ (ad 1) n ev (v4 + (v6 * x2)) _ hc46) (cwV 1 hts gX5_isChain_X0_wrapped rfl rfl rfl (by decide +kernel) ⟨by decide, by decide⟩) (roP.preV hK hPc (ci := 0) rfl rfl) rfl rfl hl.1 rfl (lv_room (Nat.le_of_ble_eq_true rfl)) dX5_isChain_46 ⟨Nat.zero_le _, Nat.zero_le _⟩) ?_
        refine lv_ishl hx hb dX5_isChain_49 ?_
        refine lv_ior hx hb dX5_isChain_50 ?_
        refine lv_istore (lv' := [(5, .int (v5 ||| ((1 : Int32) <<< (r46 &&& 31)))), (0, .ref (ad 0)), (1, .int x1), (2, .int x2), (3, .int v3), (4, .int v4), (6, .int v6)]) hx hb dX5_isChain_51 hl (by decide) rfl (fun ls hl => ?_)
        refine lv_iinc (v := v6 + 1) (lv' := [(6, .int (v6 + 1)), (5, .int (v5 ||| ((1 : Int32) <<< (r46 &&& 31)))), (0, .ref (ad 0)), (1, .int x1), (2, .int x2), (3, .int v3), (4, .int v4)]) hx hb dX5_isChain_53 hl (k := 6) rfl rfl (by decide) rfl (fun ls hl => ?_)
        refine lv_goto (tgt := 26) hx hb dX5_isChain_56 (by decide) ?_
        exact hi26 _ (Ho_s h) ls (lv_sub hl [2, 3, 4, 5, 6, 1, 0] rfl)
    refine lv_iload hx hb dX5_isChain_8 (lv_at hl 4 rfl) ?_
    refine lv_aload_n hx hb dX5_isChain_10 rfl (lv_at hl 0 rfl) ?_
    refine va_get (D := (dC, dI)) (ci := 5) (v := .ref (ad 1)) (C := RX5) (T := TX5) (N := 7) hx hb hts hiX5 hown hK.1 hP 0 rfl rfl 0 (by decide) hf10 (fun _ h9 => h9) rfl dX5_isChain_11 ?_
    obtain ⟨r14, hc14, h⟩ := Ho_b h
    have hPc : va_P (dC, dI) vwCl [((ad 1), .inr (0, [.int n, .int ev]))] s.heap := hP.sub [1] rfl
    refine cs_i (va_runV (As := []) (rest := [.int v4]) hfix (c_X0_count l dC dI cI cJ (ad 1) n ev _ hc14) (cwV 0 hts gX5_isChain_X0_count rfl rfl rfl (by decide +kernel) ⟨by decide, by decide⟩) (roP.preV hK hPc (ci := 0) rfl rfl) rfl rfl hl.1 rfl (lv_room (Nat.le_of_ble_eq_true rfl)) dX5_isChain_14 ⟨Nat.zero_le _, Nat.zero_le _⟩) ?_
    refine lv_icmp_ge (tgt := 73) hx hb dX5_isChain_17 (by decide) (fun q17 => ?_) (fun q17 => ?_)
    · have h := Ho_t h q17
      have h := ho8 _ (Ho_s h)
      exact J73  ls (lv_sub hl [] rfl) h
    · have h := Ho_f h q17
      refine lv_iconst (v := (0 : Int32)) hx hb dX5_isChain_20 (by decide) ?_
      refine lv_istore (lv' := [(5, .int (0 : Int32)), (0, .ref (ad 0)), (1, .int x1), (2, .int x2), (3, .int v3), (4, .int v4)]) hx hb dX5_isChain_21 hl (by decide) rfl (fun ls hl => ?_)
      refine lv_iconst (v := (0 : Int32)) hx hb dX5_isChain_23 (by decide) ?_
      refine lv_istore (lv' := [(6, .int (0 : Int32)), (5, .int (0 : Int32)), (0, .ref (ad 0)), (1, .int x1), (2, .int x2), (3, .int v3), (4, .int v4)]) hx hb dX5_isChain_24 hl (by decide) rfl (fun ls hl => ?_)
      exact J26 v4 (0 : Int32) (0 : Int32) ls (lv_sub hl [2, 3, 4, 5, 6, 1, 0] rfl) h
  refine lv_iload_n hx hb dX5_isChain_0 rfl (lv_at hl 1 rfl) ?_
  obtain ⟨r1, hc1, h⟩ := Ho_b h
  refine cs_i (va_runS (As := [.int x1]) (rest := []) hfix (c_J6_bitCount_0f7a4 l dC dI cI cJ  x1 _ hc1) (va_cwS 1 hts gX5_isChain_J6_bitCount_0f7a4 rfl rfl rfl (by decide +kernel) ⟨by decide, by decide⟩) (roP.preS hK va_Pnil) rfl rfl hl.1 rfl (lv_room (Nat.le_of_ble_eq_true rfl)) dX5_isChain_1 ⟨Nat.zero_le _, Nat.zero_le _⟩) ?_
  refine lv_istore_n (lv' := [(3, .int r1), (0, .ref (ad 0)), (1, .int x1), (2, .int x2)]) hx hb dX5_isChain_4 rfl hl (by decide) rfl (fun ls hl => ?_)
  refine lv_iconst (v := (0 : Int32)) hx hb dX5_isChain_5 (by decide) ?_
  refine lv_istore (lv' := [(4, .int (0 : Int32)), (3, .int r1), (0, .ref (ad 0)), (1, .int x1), (2, .int x2)]) hx hb dX5_isChain_6 hl (by decide) rfl (fun ls hl => ?_)
  exact J8 r1 (0 : Int32) ls (lv_sub hl [2, 3, 4, 1, 0] rfl) h
abbrev rmX5_generator : Room := { frames := 2, cells := 0, slots := 0, locals := 48 }
set_option maxHeartbeats 4000000 in
set_option maxRecDepth 100000 in
theorem c_X5_generator (l : Launch) (dC : Nat → ClassId) (dI : Nat → Nat → Nat) (cI cJ : ClassId) (ad : Nat → Nat) (n : Int32) (ev : Int32) (ld0 : Int32) (ld1 : Int32) (ld2 : Int32) (tk : Int32) (mb : Int32) (f0 : Nat → Int32) (f1 : Nat → Int32) (f2 : Nat → Int32) (fr : Nat → Int32) (fu : Nat → Int32) (x1 : Int32) (r : Int32) (hF : FX5_generator n ev x1 = some r) : Met l yX5_generator wsX5_generator rmX5_generator (roP (dC, dI) [(cI, .int), (cJ, .long)] (wX5 cI cJ ad n ev ld0 ld1 ld2 tk mb f0 f1 f2 fr fu) [.ref (ad 0), .int x1]) (vp_Si (fun x => x = r)) 0 0 (fun _ => False) := by
  refine ro_start (cc := cX5_generator) (maxL := 3) (ret := (some .int)) (by decide) rfl (Nat.le_of_ble_eq_true rfl) ?_
  intro p e s m args below meth c ls hx hb hml hr hlk hown hts hP hK hl
  have hown : s.vm.findClass RX5 = some m.cls := hown
  have hl : lv_has ls 3 [(0, .ref (ad 0)), (1, .int x1)] := hl
  have h : Ho (FX5_generator n ev x1) (fun x => x = r) := ⟨r, hF, rfl⟩
  unfold FX5_generator at h
  have hfix : CallFix p m c cX5_generator 3 s args wsX5_generator RX5 := ⟨hx, hb, hml, hown, hts⟩
  have hiX5 : ∀ w ∈ u_ws RX5 TX5 7, w ∈ wsX5_generator := by decide +kernel
  have hf10 := hts (.fieldLink RX5 10 "RowClasses" "circle" "LRowClasses$Circle;") (by decide +kernel)
  have J51 : ∀  (ls : Array Slot), lv_has ls 3 [] → Ho (X5_generator_51) (fun x => x = r) → W p l e rmX5_generator s m args below meth c s.heap [] 0 0 (MQ below (vp_Si (fun x => x = r)) args s 0 0 (fun _ => False)) (F0 m 51 ls []) := by
    intro  ls hl h
    unfold X5_generator_51 at h
    refine lv_bipush (v := (-3 : Int32)) hx hb dX5_generator_51 (by decide) ?_
    exact W.iret hx hb hr (fun t ht _ => ro_Si (Ho_e h) ht) ro_nil dX5_generator_53 hlk
  have J43 : ∀ (v2 : Int32) (ls : Array Slot), lv_has ls 3 [(2, .int v2)] → Ho (X5_generator_43 v2) (fun x => x = r) → W p l e rmX5_generator s m args below meth c s.heap [] 0 0 (MQ below (vp_Si (fun x => x = r)) args s 0 0 (fun _ => False)) (F0 m 43 ls []) := by
    intro v2 ls hl h
    unfold X5_generator_43 at h
    refine lv_iload_n hx hb dX5_generator_43 rfl (lv_at hl 0 rfl) ?_
    exact W.iret hx hb hr (fun t ht _ => ro_Si (Ho_e h) ht) ro_nil dX5_generator_44 hlk
  have J23 : ∀ (v2 : Int32) (ls : Array Slot), lv_has ls 3 [(0, .ref (ad 0)), (1, .int x1), (2, .int v2)] → Ho ((X5_generator_23_l n x1 v2).bind (fun ex => Sum.elim (fun xy => X5_generator_43 xy) (fun xy => X5_generator_51) ex)) (fun x => x = r) → W p l e rmX5_generator s m args below meth c s.heap [] 0 0 (MQ below (vp_Si (fun x => x = r)) args s 0 0 (fun _ => False)) (F0 m 23 ls []) := by
    intro v2 ls hl h
    refine loop_use2 (fun z : Int32 => ∀ (ls : Array Slot), lv_has ls 3 [(0, .ref (ad 0)), (1, .int x1), (2, .int z)] → W p l e rmX5_generator s m args below meth c s.heap [] 0 0 (MQ below (vp_Si (fun x => x = r)) args s 0 0 (fun _ => False)) (F0 m 23 ls [])) ?_ FU _ h ls hl
    intro Q23 hi23 ho23 z h ls hl
    obtain ⟨v2, rfl⟩ : ∃ q, q = z := ⟨_, rfl⟩
    have h : Ho (X5_generator_23_s n x1 v2) Q23 := h
    unfold X5_generator_23_s at h
    have hl : lv_has ls 3 [(0, .ref (ad 0)), (1, .int x1), (2, .int v2)] := hl
    refine lv_iload_n hx hb dX5_generator_23 rfl (lv_at hl 2 rfl) ?_
    refine lv_aload_n hx hb dX5_generator_24 rfl (lv_at hl 0 rfl) ?_
    refine va_get (D := (dC, dI)) (ci := 5) (v := .ref (ad 1)) (C := RX5) (T := TX5) (N := 7) hx hb hts hiX5 hown hK.1 hP 0 rfl rfl 0 (by decide) hf10 (fun _ h9 => h9) rfl dX5_generator_25 ?_
    obtain ⟨r28, hc28, h⟩ := Ho_b h
    have hPc : va_P (dC, dI) vwCl [((ad 1), .inr (0, [.int n, .int ev]))] s.heap := hP.sub [1] rfl
    refine cs_i (va_runV (As := []) (rest := [.int v2]) hfix (c_X0_count l dC dI cI cJ (ad 1) n ev _ hc28) (cwV 0 hts gX5_generator_X0_count rfl rfl rfl (by decide +kernel) ⟨by decide, by decide⟩) (roP.preV hK hPc (ci := 0) rfl rfl) rfl rfl hl.1 rfl (lv_room (Nat.le_of_ble_eq_true rfl)) dX5_generator_28 ⟨Nat.zero_le _, Nat.zero_le _⟩) ?_
    refine lv_icmp_ge (tgt := 51) hx hb dX5_generator_31 (by decide) (fun q31 => ?_) (fun q31 => ?_)
    · have h := Ho_t h q31
      have h := ho23 _ (Ho_s h)
      exact J51  ls (lv_sub hl [] rfl) h
    · have h := Ho_f h q31
      refine lv_aload_n hx hb dX5_generator_34 rfl (lv_at hl 0 rfl) ?_
      refine lv_iload_n hx hb dX5_generator_35 rfl (lv_at hl 1 rfl) ?_
      refine lv_iload_n hx hb dX5_generator_36 rfl (lv_at hl 2 rfl) ?_
      obtain ⟨r37, hc37, h⟩ := Ho_b h
      have hPc : va_P (dC, dI) vwCl (wX5 cI cJ ad n ev ld0 ld1 ld2 tk mb f0 f1 f2 fr fu) s.heap := hP.sub [0, 1, 2, 3, 4, 5, 6, 7, 8, 9, 10, 11, 12] rfl
      refine cs_i (va_runV (As := [.int x1, .int v2]) (rest := []) hfix (c_X5_isChain l dC dI cI cJ ad n ev ld0 ld1 ld2 tk mb f0 f1 f2 fr fu x1 v2 _ hc37) (cwV 2 hts gX5_generator_X5_isChain rfl rfl rfl (by decide +kernel) ⟨by decide, by decide⟩) (roP.preV hK hPc (ci := 5) rfl rfl) rfl rfl hl.1 rfl (lv_room (Nat.le_of_ble_eq_true rfl)) dX5_generator_37 ⟨Nat.zero_le _, Nat.zero_le _⟩) ?_
      refine lv_if_eq (tgt := 45) hx hb dX5_generator_40 (by decide) (fun q40 => ?_) (fun q40 => ?_)
      · have h := Ho_t h q40
        refine lv_iinc (v := v2 + 1) (lv' := [(2, .int (v2 + 1)), (0, .ref (ad 0)), (1, .int x1)]) hx hb dX5_generator_45 hl (k := 2) rfl rfl (by decide) rfl (fun ls hl => ?_)
        refine lv_goto (tgt := 23) hx hb dX5_generator_48 (by decide) ?_
        exact hi23 _ (Ho_s h) ls (lv_sub hl [1, 2, 0] rfl)
      · have h := Ho_f h q40
        have h := ho23 _ (Ho_s h)
        exact J43 v2 ls (lv_sub hl [2] rfl) h
  refine lv_aload_n hx hb dX5_generator_0 rfl (lv_at hl 0 rfl) ?_
  refine va_get (D := (dC, dI)) (ci := 5) (v := .ref (ad 1)) (C := RX5) (T := TX5) (N := 7) hx hb hts hiX5 hown hK.1 hP 0 rfl rfl 0 (by decide) hf10 (fun _ h9 => h9) rfl dX5_generator_1 ?_
  refine lv_iload_n hx hb dX5_generator_4 rfl (lv_at hl 1 rfl) ?_
  obtain ⟨r5, hc5, h⟩ := Ho_b h
  have hPc : va_P (dC, dI) vwCl [((ad 1), .inr (0, [.int n, .int ev]))] s.heap := hP.sub [1] rfl
  refine cs_i (va_runV (As := [.int x1]) (rest := []) hfix (c_X0_hasSet l dC dI cI cJ (ad 1) n ev x1 _ hc5) (cwV 1 hts gX5_generator_X0_hasSet rfl rfl rfl (by decide +kernel) ⟨by decide, by decide⟩) (roP.preV hK hPc (ci := 0) rfl rfl) rfl rfl hl.1 rfl (lv_room (Nat.le_of_ble_eq_true rfl)) dX5_generator_5 ⟨Nat.zero_le _, Nat.zero_le _⟩) ?_
  refine lv_if_ne (tgt := 14) hx hb dX5_generator_8 (by decide) (fun q8 => ?_) (fun q8 => ?_)
  · have h := Ho_f h q8
    refine lv_iload_n hx hb dX5_generator_14 rfl (lv_at hl 1 rfl) ?_
    refine lv_if_ne (tgt := 21) hx hb dX5_generator_15 (by decide) (fun q15 => ?_) (fun q15 => ?_)
    · have h := Ho_f h q15
      refine lv_iconst (v := (0 : Int32)) hx hb dX5_generator_21 (by decide) ?_
      refine lv_istore_n (lv' := [(2, .int (0 : Int32)), (0, .ref (ad 0)), (1, .int x1)]) hx hb dX5_generator_22 rfl hl (by decide) rfl (fun ls hl => ?_)
      exact J23 (0 : Int32) ls (lv_sub hl [1, 2, 0] rfl) h
    · have h := Ho_t h q15
      refine lv_bipush (v := (-3 : Int32)) hx hb dX5_generator_18 (by decide) ?_
      exact W.iret hx hb hr (fun t ht _ => ro_Si (Ho_e h) ht) ro_nil dX5_generator_20 hlk
  · have h := Ho_t h q8
    refine lv_bipush (v := (-2 : Int32)) hx hb dX5_generator_11 (by decide) ?_
    exact W.iret hx hb hr (fun t ht _ => ro_Si (Ho_e h) ht) ro_nil dX5_generator_13 hlk
abbrev rmX5_add : Room := { frames := 1, cells := 0, slots := 0, locals := 21 }
set_option maxHeartbeats 4000000 in
set_option maxRecDepth 100000 in
theorem c_X5_add (l : Launch) (dC : Nat → ClassId) (dI : Nat → Nat → Nat) (cI cJ : ClassId) (ad : Nat → Nat) (sz : Nat) (n : Int32) (ev : Int32) (ld0 : Int32) (ld1 : Int32) (ld2 : Int32) (tk : Int32) (mb : Int32) (f0 : Nat → Int32) (f1 : Nat → Int32) (f2 : Nat → Int32) (fr : Nat → Int32) (fu : Nat → Int32) (x1 : Int32) (r : Int32) (tk' : Int32) (mb' : Int32) (fr' : Nat → Int32) (hF : FX5_add n tk mb fr x1 = some (r, tk', mb', fr')) : Met l yX5_add wsX5_add rmX5_add (rwP (dC, dI) [(cI, .int), (cJ, .long)] sz (wX5 cI cJ ad n ev ld0 ld1 ld2 tk mb f0 f1 f2 fr fu) [.ref (ad 0), .int x1]) (va_Qi (fun (x : Int32) (_ : Unit) => x = r) (fun _ t => va_P (dC, dI) vwCl (wX5 cI cJ ad n ev ld0 ld1 ld2 tk' mb' f0 f1 f2 fr' fu) t.heap ∧ vK (dC, dI) [(cI, .int), (cJ, .long)] t ∧ va_D (va_A (wX5 cI cJ ad n ev ld0 ld1 ld2 tk mb f0 f1 f2 fr fu) sz) (wX5 cI cJ ad n ev ld0 ld1 ld2 tk' mb' f0 f1 f2 fr' fu)) (va_A (wX5 cI cJ ad n ev ld0 ld1 ld2 tk mb f0 f1 f2 fr fu) sz)) 0 0 (va_A (wX5 cI cJ ad n ev ld0 ld1 ld2 tk mb f0 f1 f2 fr fu) sz) := by
  refine rw_start (cc := cX5_add) (maxL := 2) (ret := (some .int)) (by decide) rfl (Nat.le_of_ble_eq_true rfl) ?_
  intro p e s m args below meth c ls A H locs hx hb hml hr hlk hown hts hsz hP hK hD hA hS hAe hl
  have hown : s.vm.findClass RX5 = some m.cls := hown
  have hl : lv_has ls 2 [(0, .ref (ad 0)), (1, .int x1)] := hl
  have h : Ho (FX5_add n tk mb fr x1) (fun x => x = (r, tk', mb', fr')) := ⟨_, hF, rfl⟩
  unfold FX5_add at h
  have QI : ∀ {v0 : Int32} {tk9 : Int32} {mb9 : Int32} {fr9 : Nat → Int32} {t : State}, (v0, tk9, mb9, fr9) = (r, tk', mb', fr') → va_P (dC, dI) vwCl (wX5 cI cJ ad n ev ld0 ld1 ld2 tk9 mb9 f0 f1 f2 fr9 fu) t.heap → vK (dC, dI) [(cI, .int), (cJ, .long)] t → va_D A (wX5 cI cJ ad n ev ld0 ld1 ld2 tk9 mb9 f0 f1 f2 fr9 fu) → va_F A s t → (va_Qi (fun (x : Int32) (_ : Unit) => x = r) (fun _ t => va_P (dC, dI) vwCl (wX5 cI cJ ad n ev ld0 ld1 ld2 tk' mb' f0 f1 f2 fr' fu) t.heap ∧ vK (dC, dI) [(cI, .int), (cJ, .long)] t ∧ va_D (va_A (wX5 cI cJ ad n ev ld0 ld1 ld2 tk mb f0 f1 f2 fr fu) sz) (wX5 cI cJ ad n ev ld0 ld1 ld2 tk' mb' f0 f1 f2 fr' fu)) (va_A (wX5 cI cJ ad n ev ld0 ld1 ld2 tk mb f0 f1 f2 fr fu) sz)) args s (.returned (some (.int v0))) t := by
    intro v0 tk9 mb9 fr9 t e9 q1 q2 q3 q4
    cases e9
    subst hAe
    exact ⟨⟨_, (), rfl, rfl, q1, q2, q3⟩, q4⟩
  have hfix : CallFix p m c cX5_add 2 s args wsX5_add RX5 := ⟨hx, hb, hml, hown, hts⟩
  have hiX5 : ∀ w ∈ u_ws RX5 TX5 7, w ∈ wsX5_add := by decide +kernel
  have hf10 := hts (.fieldLink RX5 10 "RowClasses" "circle" "LRowClasses$Circle;") (by decide +kernel)
  have hf43 := hts (.fieldLink RX5 43 "RowClasses" "row" "LRowClasses$Row;") (by decide +kernel)
  refine lv_aload_n hx hb dX5_add_0 rfl (lv_at hl 0 rfl) ?_
  refine va_get (D := (dC, dI)) (ci := 5) (v := .ref (ad 1)) (C := RX5) (T := TX5) (N := 7) hx hb hts hiX5 hown hK.1 hP 0 rfl rfl 0 (by decide) hf10 (fun _ h9 => h9) rfl dX5_add_1 ?_
  refine lv_iload_n hx hb dX5_add_4 rfl (lv_at hl 1 rfl) ?_
  obtain ⟨r5, hc5, h⟩ := Ho_b h
  have hPc : va_P (dC, dI) vwCl [((ad 1), .inr (0, [.int n, .int ev]))] H := hP.sub [1] rfl
  refine cs_i (va_runV (As := [.int x1]) (rest := []) hfix (c_X0_hasStep l dC dI cI cJ (ad 1) n ev x1 _ hc5) (cwV 1 hts gX5_add_X0_hasStep rfl rfl rfl (by decide +kernel) ⟨by decide, by decide⟩) (roP.preV hK hPc (ci := 0) rfl rfl) rfl rfl hl.1 rfl (lv_room (Nat.le_of_ble_eq_true rfl)) dX5_add_5 ⟨Nat.zero_le _, Nat.zero_le _⟩) ?_
  refine lv_if_ne (tgt := 14) hx hb dX5_add_8 (by decide) (fun q8 => ?_) (fun q8 => ?_)
  · have h := Ho_f h q8
    refine lv_aload_n hx hb dX5_add_14 rfl (lv_at hl 0 rfl) ?_
    refine va_get (D := (dC, dI)) (ci := 5) (v := .ref (ad 6)) (C := RX5) (T := TX5) (N := 7) hx hb hts hiX5 hown hK.1 hP 0 rfl rfl 5 (by decide) hf43 (fun _ h9 => h9) rfl dX5_add_15 ?_
    refine lv_iload_n hx hb dX5_add_18 rfl (lv_at hl 1 rfl) ?_
    obtain ⟨r19, hc19, h⟩ := Ho_b h
    have hPc : va_P (dC, dI) vwCl [((ad 6), .inr (3, [.ref (ad 1), .ref (ad 11), .int tk, .int mb])), ((ad 1), .inr (0, [.int n, .int ev])), ((ad 11), .inl (cI, 12, .inl fr))] H := hP.sub [6, 1, 11] rfl
    refine cs_i (va_runV (As := [.int x1]) (rest := []) hfix (c_X3_has l dC dI cI cJ (ad 6) (ad 1) (ad 11) tk mb n ev fr x1 _ hc19) (cwV 1 hts gX5_add_X3_has rfl rfl rfl (by decide +kernel) ⟨by decide, by decide⟩) (roP.preV hK hPc (ci := 3) rfl rfl) rfl rfl hl.1 rfl (lv_room (Nat.le_of_ble_eq_true rfl)) dX5_add_19 ⟨Nat.zero_le _, Nat.zero_le _⟩) ?_
    refine lv_if_eq (tgt := 28) hx hb dX5_add_22 (by decide) (fun q22 => ?_) (fun q22 => ?_)
    · have h := Ho_t h q22
      refine lv_aload_n hx hb dX5_add_28 rfl (lv_at hl 0 rfl) ?_
      refine va_get (D := (dC, dI)) (ci := 5) (v := .ref (ad 6)) (C := RX5) (T := TX5) (N := 7) hx hb hts hiX5 hown hK.1 hP 0 rfl rfl 5 (by decide) hf43 (fun _ h9 => h9) rfl dX5_add_29 ?_
      refine lv_iload_n hx hb dX5_add_32 rfl (lv_at hl 1 rfl) ?_
      obtain ⟨tk_33, mb_33, fr_33, hc33, h⟩ := Ho_b3 h
      have hPc : va_P (dC, dI) vwCl [((ad 6), .inr (3, [.ref (ad 1), .ref (ad 11), .int tk, .int mb])), ((ad 1), .inr (0, [.int n, .int ev])), ((ad 11), .inl (cI, 12, .inl fr))] H := hP.sub [6, 1, 11] rfl
      have hDc : va_D A [((ad 6), .inr (3, [.ref (ad 1), .ref (ad 11), .int tk, .int mb])), ((ad 1), .inr (0, [.int n, .int ev])), ((ad 11), .inl (cI, 12, .inl fr))] := hD.sub [6, 1, 11] (by decide) rfl
      have hFc := va_free (wc := [((ad 6), .inr (3, [.ref (ad 1), .ref (ad 11), .int tk, .int mb])), ((ad 1), .inr (0, [.int n, .int ev])), ((ad 11), .inl (cI, 12, .inl fr))]) hD hS hA [6, 1, 11] rfl
      refine va_callv (va_runV (As := [.int x1]) (rest := []) hfix (c_X3_append l dC dI cI cJ (ad 6) (ad 1) (ad 11) H.size tk mb n ev fr x1 _ _ _ hc33) (cwV 1 hts gX5_add_X3_append rfl rfl rfl (by decide +kernel) ⟨by decide, by decide⟩) (rwP.preV hK hPc hDc rfl (ci := 3) rfl rfl) rfl rfl hl.1 rfl (lv_room (Nat.le_of_ble_eq_true rfl)) dX5_add_33 ⟨Nat.zero_le _, Nat.zero_le _⟩) hS (fun q _ h => hFc q h) hFc (fun u t H1 locs ht hvm hw hB hz1 hk1 hS => ?_)
      obtain ⟨hP1, -, hD1⟩ := hB
      rw [ht] at hP1
      obtain ⟨hP, hD⟩ := va_join (wr := [((ad 0), .inr (5, [.ref (ad 1), .ref (ad 2), .ref (ad 3), .ref (ad 4), .ref (ad 5), .ref (ad 6), .ref (ad 7)])), ((ad 2), .inr (2, [.ref (ad 1)])), ((ad 3), .inr (1, [.ref (ad 1), .int 0, .ref (ad 8), .int ld0])), ((ad 4), .inr (1, [.ref (ad 1), .int 1, .ref (ad 9), .int ld1])), ((ad 5), .inr (1, [.ref (ad 1), .int 2, .ref (ad 10), .int ld2])), ((ad 7), .inr (4, [.ref (ad 12)])), ((ad 8), .inl (cI, 352, .inl f0)), ((ad 9), .inl (cI, 352, .inl f1)), ((ad 10), .inl (cI, 352, .inl f2)), ((ad 12), .inl (cI, 13, .inl fu))]) (w1 := [((ad 6), .inr (3, [.ref (ad 1), .ref (ad 11), .int tk_33, .int mb_33])), ((ad 1), .inr (0, [.int n, .int ev])), ((ad 11), .inl (cI, 12, .inl fr_33))]) hP hD [6, 1, 11] [0, 2, 3, 4, 5, 7, 8, 9, 10, 12] rfl rfl (by decide) (by decide) hk1 hFc hP1 hD1
      generalize H1 = H at hP hS ⊢
      have hP : va_P (dC, dI) vwCl (wX5 cI cJ ad n ev ld0 ld1 ld2 tk_33 mb_33 f0 f1 f2 fr_33 fu) H := hP.sub [0, 11, 1, 2, 3, 4, 10, 5, 6, 7, 8, 12, 9] rfl
      have hD : va_D A (wX5 cI cJ ad n ev ld0 ld1 ld2 tk_33 mb_33 f0 f1 f2 fr_33 fu) := hD.sub [0, 11, 1, 2, 3, 4, 10, 5, 6, 7, 8, 12, 9] (by decide) rfl
      refine lv_aload_n hx hb dX5_add_36 rfl (lv_at hl 0 rfl) ?_
      refine va_get (D := (dC, dI)) (ci := 5) (v := .ref (ad 6)) (C := RX5) (T := TX5) (N := 7) hx hb hts hiX5 hown hK.1 hP 0 rfl rfl 5 (by decide) hf43 (fun _ h9 => h9) rfl dX5_add_37 ?_
      obtain ⟨r40, hc40, h⟩ := Ho_b h
      have hPc : va_P (dC, dI) vwCl [((ad 6), .inr (3, [.ref (ad 1), .ref (ad 11), .int tk_33, .int mb_33])), ((ad 1), .inr (0, [.int n, .int ev])), ((ad 11), .inl (cI, 12, .inl fr_33))] H := hP.sub [6, 1, 11] rfl
      refine cs_i (va_runV (As := []) (rest := []) hfix (c_X3_length l dC dI cI cJ (ad 6) (ad 1) (ad 11) tk_33 mb_33 n ev fr_33 _ hc40) (cwV 0 hts gX5_add_X3_length rfl rfl rfl (by decide +kernel) ⟨by decide, by decide⟩) (roP.preV hK hPc (ci := 3) rfl rfl) rfl rfl hl.1 rfl (lv_room (Nat.le_of_ble_eq_true rfl)) dX5_add_40 ⟨Nat.zero_le _, Nat.zero_le _⟩) ?_
      exact W.iret hx hb hr (fun t ht hW => QI (Ho_e h) (by rw [ht]; exact hP) (hK.warm hW) hD (hS.F ht)) hS.2.2 dX5_add_43 hlk
    · have h := Ho_f h q22
      refine lv_bipush (v := (-3 : Int32)) hx hb dX5_add_25 (by decide) ?_
      exact W.iret hx hb hr (fun t ht hW => QI (Ho_e h) (by rw [ht]; exact hP) (hK.warm hW) hD (hS.F ht)) hS.2.2 dX5_add_27 hlk
  · have h := Ho_t h q8
    refine lv_bipush (v := (-2 : Int32)) hx hb dX5_add_11 (by decide) ?_
    exact W.iret hx hb hr (fun t ht hW => QI (Ho_e h) (by rw [ht]; exact hP) (hK.warm hW) hD (hS.F ht)) hS.2.2 dX5_add_13 hlk
