abbrev rmX5_derived : Room := { frames := 3, cells := 0, slots := 0, locals := 71 }
set_option maxHeartbeats 4000000 in
set_option maxRecDepth 100000 in
theorem c_X5_derived (l : Launch) (dC : Nat → ClassId) (dI : Nat → Nat → Nat) (cI cJ : ClassId) (ad : Nat → Nat) (n : Int32) (ev : Int32) (ld0 : Int32) (ld1 : Int32) (ld2 : Int32) (tk : Int32) (mb : Int32) (f0 : Nat → Int32) (f1 : Nat → Int32) (f2 : Nat → Int32) (fr : Nat → Int32) (fu : Nat → Int32) (x1 : Int32) (x2 : Int32) (r : Int32) (hF : FX5_derived n ev tk fr x1 x2 = some r) : Met l yX5_derived wsX5_derived rmX5_derived (roP (dC, dI) [(cI, .int), (cJ, .long)] (wX5 cI cJ ad n ev ld0 ld1 ld2 tk mb f0 f1 f2 fr fu) [.ref (ad 0), .int x1, .int x2]) (vp_Si (fun x => x = r)) 0 0 (fun _ => False) := by
  refine ro_start (cc := cX5_derived) (maxL := 5) (ret := (some .int)) (by decide) rfl (Nat.le_of_ble_eq_true rfl) ?_
  intro p e s m args below meth c ls hx hb hml hr hlk hown hts hP hK hl
  have hown : s.vm.findClass RX5 = some m.cls := hown
  have hl : lv_has ls 5 [(0, .ref (ad 0)), (1, .int x1), (2, .int x2)] := hl
  have h : Ho (FX5_derived n ev tk fr x1 x2) (fun x => x = r) := ⟨r, hF, rfl⟩
  unfold FX5_derived at h
  have hfix : CallFix p m c cX5_derived 5 s args wsX5_derived RX5 := ⟨hx, hb, hml, hown, hts⟩
  have hiX5 : ∀ w ∈ u_ws RX5 TX5 7, w ∈ wsX5_derived := by decide +kernel
  have hf10 := hts (.fieldLink RX5 10 "RowClasses" "circle" "LRowClasses$Circle;") (by decide +kernel)
  have hf43 := hts (.fieldLink RX5 43 "RowClasses" "row" "LRowClasses$Row;") (by decide +kernel)
  have J117 : ∀  (ls : Array Slot), lv_has ls 5 [] → Ho (X5_derived_117) (fun x => x = r) → W p l e rmX5_derived s m args below meth c s.heap [] 0 0 (MQ below (vp_Si (fun x => x = r)) args s 0 0 (fun _ => False)) (F0 m 117 ls []) := by
    intro  ls hl h
    unfold X5_derived_117 at h
    refine lv_iconst (v := (1 : Int32)) hx hb dX5_derived_117 (by decide) ?_
    exact W.iret hx hb hr (fun t ht _ => ro_Si (Ho_e h) ht) ro_nil dX5_derived_118 hlk
  have J106 : ∀  (ls : Array Slot), lv_has ls 5 [] → Ho (X5_derived_106) (fun x => x = r) → W p l e rmX5_derived s m args below meth c s.heap [] 0 0 (MQ below (vp_Si (fun x => x = r)) args s 0 0 (fun _ => False)) (F0 m 106 ls []) := by
    intro  ls hl h
    unfold X5_derived_106 at h
    refine lv_iconst (v := (0 : Int32)) hx hb dX5_derived_106 (by decide) ?_
    exact W.iret hx hb hr (fun t ht _ => ro_Si (Ho_e h) ht) ro_nil dX5_derived_107 hlk
  have J72 : ∀ (v3 : Int32) (v4 : Int32) (ls : Array Slot), lv_has ls 5 [(0, .ref (ad 0)), (1, .int x1), (2, .int x2), (3, .int v3), (4, .int v4)] → Ho ((X5_derived_72_l n ev tk fr x1 x2 v3 v4).bind (fun ex => Sum.elim (fun xy => X5_derived_106) (fun xy => X5_derived_117) ex)) (fun x => x = r) → W p l e rmX5_derived s m args below meth c s.heap [] 0 0 (MQ below (vp_Si (fun x => x = r)) args s 0 0 (fun _ => False)) (F0 m 72 ls []) := by
    intro v3 v4 ls hl h
    refine loop_use2 (fun z : Int32 => ∀ (ls : Array Slot), lv_has ls 5 [(0, .ref (ad 0)), (1, .int x1), (2, .int x2), (3, .int v3), (4, .int z)] → W p l e rmX5_derived s m args below meth c s.heap [] 0 0 (MQ below (vp_Si (fun x => x = r)) args s 0 0 (fun _ => False)) (F0 m 72 ls [])) ?_ FU _ h ls hl
    intro Q72 hi72 ho72 z h ls hl
    obtain ⟨v4, rfl⟩ : ∃ q, q = z := ⟨_, rfl⟩
    have h : Ho (X5_derived_72_s n ev tk fr x1 x2 v3 v4) Q72 := h
    unfold X5_derived_72_s at h
    have hl : lv_has ls 5 [(0, .ref (ad 0)), (1, .int x1), (2, .int x2), (3, .int v3), (4, .int v4)] := hl
    refine lv_iload hx hb dX5_derived_72 (lv_at hl 4 rfl) ?_
    refine lv_aload_n hx hb dX5_derived_74 rfl (lv_at hl 0 rfl) ?_
    refine va_get (D := (dC, dI)) (ci := 5) (v := .ref (ad 1)) (C := RX5) (T := TX5) (N := 7) hx hb hts hiX5 hown hK.1 hP 0 rfl rfl 0 (by decide) hf10 (fun _ h9 => h9) rfl dX5_derived_75 ?_
    obtain ⟨r78, hc78, h⟩ := Ho_b h
    have hPc : va_P (dC, dI) vwCl [((ad 1), .inr (0, [.int n, .int ev]))] s.heap := hP.sub [1] rfl
    refine cs_i (va_runV (As := []) (rest := [.int v4]) hfix (c_X0_count l dC dI cI cJ (ad 1) n ev _ hc78) (cwV 0 hts gX5_derived_X0_count rfl rfl rfl (by decide +kernel) ⟨by decide, by decide⟩) (roP.preV hK hPc (ci := 0) rfl rfl) rfl rfl hl.1 rfl (lv_room (Nat.le_of_ble_eq_true rfl)) dX5_derived_78 ⟨Nat.zero_le _, Nat.zero_le _⟩) ?_
    refine lv_icmp_ge (tgt := 117) hx hb dX5_derived_81 (by decide) (fun q81 => ?_) (fun q81 => ?_)
    · have h := Ho_t h q81
      have h := ho72 _ (Ho_s h)
      exact J117  ls (lv_sub hl [] rfl) h
    · have h := Ho_f h q81
      refine lv_aload_n hx hb dX5_derived_84 rfl (lv_at hl 0 rfl) ?_
      refine va_get (D := (dC, dI)) (ci := 5) (v := .ref (ad 1)) (C := RX5) (T := TX5) (N := 7) hx hb hts hiX5 hown hK.1 hP 0 rfl rfl 0 (by decide) hf10 (fun _ h9 => h9) rfl dX5_derived_85 ?_
      refine lv_aload_n hx hb dX5_derived_88 rfl (lv_at hl 0 rfl) ?_
      refine va_get (D := (dC, dI)) (ci := 5) (v := .ref (ad 6)) (C := RX5) (T := TX5) (N := 7) hx hb hts hiX5 hown hK.1 hP 0 rfl rfl 5 (by decide) hf43 (fun _ h9 => h9) rfl dX5_derived_89 ?_
      refine lv_iload hx hb dX5_derived_92 (lv_at hl 4 rfl) ?_
      refine lv_iload_n hx hb dX5_derived_94 rfl (lv_at hl 1 rfl) ?_
      obtain ⟨r95, hc95, h⟩ := Ho_b h
      have hPc : va_P (dC, dI) vwCl [((ad 6), .inr (3, [.ref (ad 1), .ref (ad 11), .int tk, .int mb])), ((ad 1), .inr (0, [.int n, .int ev])), ((ad 11), .inl (cI, 12, .inl fr))] s.heap := hP.sub [6, 1, 11] rfl
      refine cs_i (va_runV (As := [.int v4, .int x1]) (rest := [.ref (ad 1)]) hfix (c_X3_piece l dC dI cI cJ (ad 6) (ad 1) (ad 11) tk mb n ev fr v4 x1 _ hc95) (cwV 2 hts gX5_derived_X3_piece rfl rfl rfl (by decide +kernel) ⟨by decide, by decide⟩) (roP.preV hK hPc (ci := 3) rfl rfl) rfl rfl hl.1 rfl (lv_room (Nat.le_of_ble_eq_true rfl)) dX5_derived_95 ⟨Nat.zero_le _, Nat.zero_le _⟩) ?_
      refine lv_iload_n hx hb dX5_derived_98 rfl (lv_at hl 2 rfl) ?_
      obtain ⟨r99, hc99, h⟩ := Ho_b h
      have hPc : va_P (dC, dI) vwCl [((ad 1), .inr (0, [.int n, .int ev]))] s.heap := hP.sub [1] rfl
      refine cs_i (va_runV (As := [.int r95, .int x2]) (rest := []) hfix (c_X0_leastOf l dC dI cI cJ (ad 1) n ev r95 x2 _ hc99) (cwV 2 hts gX5_derived_X0_leastOf rfl rfl rfl (by decide +kernel) ⟨by decide, by decide⟩) (roP.preV hK hPc (ci := 0) rfl rfl) rfl rfl hl.1 rfl (lv_room (Nat.le_of_ble_eq_true rfl)) dX5_derived_99 ⟨Nat.zero_le _, Nat.zero_le _⟩) ?_
      refine lv_iload_n hx hb dX5_derived_102 rfl (lv_at hl 3 rfl) ?_
      refine lv_icmp_eq (tgt := 108) hx hb dX5_derived_103 (by decide) (fun q103 => ?_) (fun q103 => ?_)
      · have h := Ho_t h q103
        refine lv_iload hx hb dX5_derived_108 (lv_at hl 4 rfl) ?_
        refine lv_iload_n hx hb dX5_derived_110 rfl (lv_at hl 1 rfl) ?_
        refine lv_iadd hx hb dX5_derived_111 ?_
        refine lv_istore (lv' := [(4, .int (v4 + x1)), (0, .ref (ad 0)), (1, .int x1), (2, .int x2), (3, .int v3)]) hx hb dX5_derived_112 hl (by decide) rfl (fun ls hl => ?_)
        refine lv_goto (tgt := 72) hx hb dX5_derived_114 (by decide) ?_
        exact hi72 _ (Ho_s h) ls (lv_sub hl [1, 2, 3, 4, 0] rfl)
      · have h := Ho_f h q103
        have h := ho72 _ (Ho_s h)
        exact J106  ls (lv_sub hl [] rfl) h
  refine lv_iload_n hx hb dX5_derived_0 rfl (lv_at hl 2 rfl) ?_
  obtain ⟨r1, hc1, h⟩ := Ho_b h
  refine cs_i (va_runS (As := [.int x2]) (rest := []) hfix (c_X5_isClassKind l dC dI cI cJ  x2 _ hc1) (va_cwS 1 hts gX5_derived_X5_isClassKind rfl rfl rfl (by decide +kernel) ⟨by decide, by decide⟩) (roP.preS hK va_Pnil) rfl rfl hl.1 rfl (lv_room (Nat.le_of_ble_eq_true rfl)) dX5_derived_1 ⟨Nat.zero_le _, Nat.zero_le _⟩) ?_
  refine lv_if_eq (tgt := 35) hx hb dX5_derived_4 (by decide) (fun q4 => ?_) (fun q4 => ?_)
  · have h := Ho_t h q4
    refine lv_bipush (v := (-2 : Int32)) hx hb dX5_derived_35 (by decide) ?_
    exact W.iret hx hb hr (fun t ht _ => ro_Si (Ho_e h) ht) ro_nil dX5_derived_37 hlk
  · have h := Ho_f h q4
    refine lv_iload_n hx hb dX5_derived_7 rfl (lv_at hl 1 rfl) ?_
    refine lv_iconst (v := (1 : Int32)) hx hb dX5_derived_8 (by decide) ?_
    refine lv_icmp_lt (tgt := 35) hx hb dX5_derived_9 (by decide) (fun q9 => ?_) (fun q9 => ?_)
    · have h := Ho_t h q9
      refine lv_bipush (v := (-2 : Int32)) hx hb dX5_derived_35 (by decide) ?_
      exact W.iret hx hb hr (fun t ht _ => ro_Si (Ho_e h) ht) ro_nil dX5_derived_37 hlk
    · have h := Ho_f h q9
      refine lv_iload_n hx hb dX5_derived_12 rfl (lv_at hl 1 rfl) ?_
      refine lv_aload_n hx hb dX5_derived_13 rfl (lv_at hl 0 rfl) ?_
      refine va_get (D := (dC, dI)) (ci := 5) (v := .ref (ad 1)) (C := RX5) (T := TX5) (N := 7) hx hb hts hiX5 hown hK.1 hP 0 rfl rfl 0 (by decide) hf10 (fun _ h9 => h9) rfl dX5_derived_14 ?_
      obtain ⟨r17, hc17, h⟩ := Ho_b h
      have hPc : va_P (dC, dI) vwCl [((ad 1), .inr (0, [.int n, .int ev]))] s.heap := hP.sub [1] rfl
      refine cs_i (va_runV (As := []) (rest := [.int x1]) hfix (c_X0_count l dC dI cI cJ (ad 1) n ev _ hc17) (cwV 0 hts gX5_derived_X0_count rfl rfl rfl (by decide +kernel) ⟨by decide, by decide⟩) (roP.preV hK hPc (ci := 0) rfl rfl) rfl rfl hl.1 rfl (lv_room (Nat.le_of_ble_eq_true rfl)) dX5_derived_17 ⟨Nat.zero_le _, Nat.zero_le _⟩) ?_
      refine lv_icmp_gt (tgt := 35) hx hb dX5_derived_20 (by decide) (fun q20 => ?_) (fun q20 => ?_)
      · have h := Ho_t h q20
        refine lv_bipush (v := (-2 : Int32)) hx hb dX5_derived_35 (by decide) ?_
        exact W.iret hx hb hr (fun t ht _ => ro_Si (Ho_e h) ht) ro_nil dX5_derived_37 hlk
      · have h := Ho_f h q20
        refine lv_aload_n hx hb dX5_derived_23 rfl (lv_at hl 0 rfl) ?_
        refine va_get (D := (dC, dI)) (ci := 5) (v := .ref (ad 1)) (C := RX5) (T := TX5) (N := 7) hx hb hts hiX5 hown hK.1 hP 0 rfl rfl 0 (by decide) hf10 (fun _ h9 => h9) rfl dX5_derived_24 ?_
        obtain ⟨r27, hc27, h⟩ := Ho_b h
        have hPc : va_P (dC, dI) vwCl [((ad 1), .inr (0, [.int n, .int ev]))] s.heap := hP.sub [1] rfl
        refine cs_i (va_runV (As := []) (rest := []) hfix (c_X0_count l dC dI cI cJ (ad 1) n ev _ hc27) (cwV 0 hts gX5_derived_X0_count rfl rfl rfl (by decide +kernel) ⟨by decide, by decide⟩) (roP.preV hK hPc (ci := 0) rfl rfl) rfl rfl hl.1 rfl (lv_room (Nat.le_of_ble_eq_true rfl)) dX5_derived_27 ⟨Nat.zero_le _, Nat.zero_le _⟩) ?_
        refine lv_iload_n hx hb dX5_derived_30 rfl (lv_at hl 1 rfl) ?_
        obtain ⟨hz31, h⟩ := Ho_nz h
        refine lv_irem hx hb dX5_derived_31 hz31 ?_
        refine lv_if_eq (tgt := 38) hx hb dX5_derived_32 (by decide) (fun q32 => ?_) (fun q32 => ?_)
        · have h := Ho_t h q32
          refine lv_aload_n hx hb dX5_derived_38 rfl (lv_at hl 0 rfl) ?_
          refine va_get (D := (dC, dI)) (ci := 5) (v := .ref (ad 6)) (C := RX5) (T := TX5) (N := 7) hx hb hts hiX5 hown hK.1 hP 0 rfl rfl 5 (by decide) hf43 (fun _ h9 => h9) rfl dX5_derived_39 ?_
          obtain ⟨r42, hc42, h⟩ := Ho_b h
          have hPc : va_P (dC, dI) vwCl [((ad 6), .inr (3, [.ref (ad 1), .ref (ad 11), .int tk, .int mb])), ((ad 1), .inr (0, [.int n, .int ev])), ((ad 11), .inl (cI, 12, .inl fr))] s.heap := hP.sub [6, 1, 11] rfl
          refine cs_i (va_runV (As := []) (rest := []) hfix (c_X3_isWhole l dC dI cI cJ (ad 6) (ad 1) (ad 11) tk mb n ev fr _ hc42) (cwV 0 hts gX5_derived_X3_isWhole rfl rfl rfl (by decide +kernel) ⟨by decide, by decide⟩) (roP.preV hK hPc (ci := 3) rfl rfl) rfl rfl hl.1 rfl (lv_room (Nat.le_of_ble_eq_true rfl)) dX5_derived_42 ⟨Nat.zero_le _, Nat.zero_le _⟩) ?_
          refine lv_if_ne (tgt := 51) hx hb dX5_derived_45 (by decide) (fun q45 => ?_) (fun q45 => ?_)
          · have h := Ho_f h q45
            refine lv_aload_n hx hb dX5_derived_51 rfl (lv_at hl 0 rfl) ?_
            refine va_get (D := (dC, dI)) (ci := 5) (v := .ref (ad 1)) (C := RX5) (T := TX5) (N := 7) hx hb hts hiX5 hown hK.1 hP 0 rfl rfl 0 (by decide) hf10 (fun _ h9 => h9) rfl dX5_derived_52 ?_
            refine lv_aload_n hx hb dX5_derived_55 rfl (lv_at hl 0 rfl) ?_
            refine va_get (D := (dC, dI)) (ci := 5) (v := .ref (ad 6)) (C := RX5) (T := TX5) (N := 7) hx hb hts hiX5 hown hK.1 hP 0 rfl rfl 5 (by decide) hf43 (fun _ h9 => h9) rfl dX5_derived_56 ?_
            refine lv_iconst (v := (0 : Int32)) hx hb dX5_derived_59 (by decide) ?_
            refine lv_iload_n hx hb dX5_derived_60 rfl (lv_at hl 1 rfl) ?_
            obtain ⟨r61, hc61, h⟩ := Ho_b h
            have hPc : va_P (dC, dI) vwCl [((ad 6), .inr (3, [.ref (ad 1), .ref (ad 11), .int tk, .int mb])), ((ad 1), .inr (0, [.int n, .int ev])), ((ad 11), .inl (cI, 12, .inl fr))] s.heap := hP.sub [6, 1, 11] rfl
            refine cs_i (va_runV (As := [.int (0 : Int32), .int x1]) (rest := [.ref (ad 1)]) hfix (c_X3_piece l dC dI cI cJ (ad 6) (ad 1) (ad 11) tk mb n ev fr (0 : Int32) x1 _ hc61) (cwV 2 hts gX5_derived_X3_piece rfl rfl rfl (by decide +kernel) ⟨by decide, by decide⟩) (roP.preV hK hPc (ci := 3) rfl rfl) rfl rfl hl.1 rfl (lv_room (Nat.le_of_ble_eq_true rfl)) dX5_derived_61 ⟨Nat.zero_le _, Nat.zero_le _⟩) ?_
            refine lv_iload_n hx hb dX5_derived_64 rfl (lv_at hl 2 rfl) ?_
            obtain ⟨r65, hc65, h⟩ := Ho_b h
            have hPc : va_P (dC, dI) vwCl [((ad 1), .inr (0, [.int n, .int ev]))] s.heap := hP.sub [1] rfl
            refine cs_i (va_runV (As := [.int r61, .int x2]) (rest := []) hfix (c_X0_leastOf l dC dI cI cJ (ad 1) n ev r61 x2 _ hc65) (cwV 2 hts gX5_derived_X0_leastOf rfl rfl rfl (by decide +kernel) ⟨by decide, by decide⟩) (roP.preV hK hPc (ci := 0) rfl rfl) rfl rfl hl.1 rfl (lv_room (Nat.le_of_ble_eq_true rfl)) dX5_derived_65 ⟨Nat.zero_le _, Nat.zero_le _⟩) ?_
            refine lv_istore_n (lv' := [(3, .int r65), (0, .ref (ad 0)), (1, .int x1), (2, .int x2)]) hx hb dX5_derived_68 rfl hl (by decide) rfl (fun ls hl => ?_)
            refine lv_iload_n hx hb dX5_derived_69 rfl (lv_at hl 2 rfl) ?_
            refine lv_istore (lv' := [(4, .int x1), (3, .int r65), (0, .ref (ad 0)), (1, .int x1), (2, .int x2)]) hx hb dX5_derived_70 hl (by decide) rfl (fun ls hl => ?_)
            exact J72 r65 x1 ls (lv_sub hl [2, 3, 4, 1, 0] rfl) h
          · have h := Ho_t h q45
            refine lv_bipush (v := (-3 : Int32)) hx hb dX5_derived_48 (by decide) ?_
            exact W.iret hx hb hr (fun t ht _ => ro_Si (Ho_e h) ht) ro_nil dX5_derived_50 hlk
        · have h := Ho_f h q32
          refine lv_bipush (v := (-2 : Int32)) hx hb dX5_derived_35 (by decide) ?_
          exact W.iret hx hb hr (fun t ht _ => ro_Si (Ho_e h) ht) ro_nil dX5_derived_37 hlk
abbrev rmX5_kept : Room := { frames := 5, cells := 0, slots := 0, locals := 119 }
set_option maxHeartbeats 4000000 in
set_option maxRecDepth 100000 in
theorem c_X5_kept (l : Launch) (dC : Nat → ClassId) (dI : Nat → Nat → Nat) (cI cJ : ClassId) (ad : Nat → Nat) (n : Int32) (ev : Int32) (ld0 : Int32) (ld1 : Int32) (ld2 : Int32) (tk : Int32) (mb : Int32) (f0 : Nat → Int32) (f1 : Nat → Int32) (f2 : Nat → Int32) (fr : Nat → Int32) (fu : Nat → Int32) (x1 : Int32) (x2 : Int32) (x3 : Int32) (r : Int32) (hF : FX5_kept n tk fr x1 x2 x3 = some r) : Met l yX5_kept wsX5_kept rmX5_kept (roP (dC, dI) [(cI, .int), (cJ, .long)] (wX5 cI cJ ad n ev ld0 ld1 ld2 tk mb f0 f1 f2 fr fu) [.ref (ad 0), .int x1, .int x2, .int x3]) (vp_Si (fun x => x = r)) 0 0 (fun _ => False) := by
  refine ro_start (cc := cX5_kept) (maxL := 6) (ret := (some .int)) (by decide) rfl (Nat.le_of_ble_eq_true rfl) ?_
  intro p e s m args below meth c ls hx hb hml hr hlk hown hts hP hK hl
  have hown : s.vm.findClass RX5 = some m.cls := hown
  have hl : lv_has ls 6 [(0, .ref (ad 0)), (1, .int x1), (2, .int x2), (3, .int x3)] := hl
  have h : Ho (FX5_kept n tk fr x1 x2 x3) (fun x => x = r) := ⟨r, hF, rfl⟩
  unfold FX5_kept at h
  have hfix : CallFix p m c cX5_kept 6 s args wsX5_kept RX5 := ⟨hx, hb, hml, hown, hts⟩
  have hiX5 : ∀ w ∈ u_ws RX5 TX5 7, w ∈ wsX5_kept := by decide +kernel
  have hf10 := hts (.fieldLink RX5 10 "RowClasses" "circle" "LRowClasses$Circle;") (by decide +kernel)
  have hf43 := hts (.fieldLink RX5 43 "RowClasses" "row" "LRowClasses$Row;") (by decide +kernel)
  have J101 : ∀ (v4 : Int32) (ls : Array Slot), lv_has ls 6 [(4, .int v4)] → Ho (X5_kept_101 v4) (fun x => x = r) → W p l e rmX5_kept s m args below meth c s.heap [] 0 0 (MQ below (vp_Si (fun x => x = r)) args s 0 0 (fun _ => False)) (F0 m 101 ls []) := by
    intro v4 ls hl h
    unfold X5_kept_101 at h
    refine lv_iload hx hb dX5_kept_101 (lv_at hl 0 rfl) ?_
    exact W.iret hx hb hr (fun t ht _ => ro_Si (Ho_e h) ht) ro_nil dX5_kept_103 hlk
  have J56 : ∀ (v4 : Int32) (v5 : Int32) (ls : Array Slot), lv_has ls 6 [(0, .ref (ad 0)), (1, .int x1), (2, .int x2), (3, .int x3), (4, .int v4), (5, .int v5)] → Ho ((X5_kept_56_l n tk fr x1 x2 x3 v4 v5).bind (fun ex => X5_kept_101 ex)) (fun x => x = r) → W p l e rmX5_kept s m args below meth c s.heap [] 0 0 (MQ below (vp_Si (fun x => x = r)) args s 0 0 (fun _ => False)) (F0 m 56 ls []) := by
    intro v4 v5 ls hl h
    refine loop_use2 (fun z : Int32 × Int32 => ∀ (ls : Array Slot), lv_has ls 6 [(0, .ref (ad 0)), (1, .int x1), (2, .int x2), (3, .int x3), (4, .int z.1), (5, .int z.2)] → W p l e rmX5_kept s m args below meth c s.heap [] 0 0 (MQ below (vp_Si (fun x => x = r)) args s 0 0 (fun _ => False)) (F0 m 56 ls [])) ?_ FU _ h ls hl
    intro Q56 hi56 ho56 z h ls hl
    obtain ⟨v4, v5⟩ := z
    have h : Ho (X5_kept_56_s n tk fr x1 x2 x3 v4 v5) Q56 := h
    unfold X5_kept_56_s at h
    have hl : lv_has ls 6 [(0, .ref (ad 0)), (1, .int x1), (2, .int x2), (3, .int x3), (4, .int v4), (5, .int v5)] := hl
    refine lv_iload hx hb dX5_kept_56 (lv_at hl 5 rfl) ?_
    refine lv_iload_n hx hb dX5_kept_58 rfl (lv_at hl 3 rfl) ?_
    refine lv_iadd hx hb dX5_kept_59 ?_
    refine lv_aload_n hx hb dX5_kept_60 rfl (lv_at hl 0 rfl) ?_
    refine va_get (D := (dC, dI)) (ci := 5) (v := .ref (ad 1)) (C := RX5) (T := TX5) (N := 7) hx hb hts hiX5 hown hK.1 hP 0 rfl rfl 0 (by decide) hf10 (fun _ h9 => h9) rfl dX5_kept_61 ?_
    obtain ⟨r64, hc64, h⟩ := Ho_b h
    have hPc : va_P (dC, dI) vwCl [((ad 1), .inr (0, [.int n, .int ev]))] s.heap := hP.sub [1] rfl
    refine cs_i (va_runV (As := []) (rest := [.int (v5 + x3)]) hfix (c_X0_count l dC dI cI cJ (ad 1) n ev _ hc64) (cwV 0 hts gX5_kept_X0_count rfl rfl rfl (by decide +kernel) ⟨by decide, by decide⟩) (roP.preV hK hPc (ci := 0) rfl rfl) rfl rfl hl.1 rfl (lv_room (Nat.le_of_ble_eq_true rfl)) dX5_kept_64 ⟨Nat.zero_le _, Nat.zero_le _⟩) ?_
    refine lv_icmp_gt (tgt := 101) hx hb dX5_kept_67 (by decide) (fun q67 => ?_) (fun q67 => ?_)
    · have h := Ho_t h q67
      have h := ho56 _ (Ho_s h)
      exact J101 v4 ls (lv_sub hl [4] rfl) h
    · have h := Ho_f h q67
      refine lv_aload_n hx hb dX5_kept_70 rfl (lv_at hl 0 rfl) ?_
      refine va_get (D := (dC, dI)) (ci := 5) (v := .ref (ad 6)) (C := RX5) (T := TX5) (N := 7) hx hb hts hiX5 hown hK.1 hP 0 rfl rfl 5 (by decide) hf43 (fun _ h9 => h9) rfl dX5_kept_71 ?_
      refine lv_iload_n hx hb dX5_kept_74 rfl (lv_at hl 1 rfl) ?_
      refine lv_iload_n hx hb dX5_kept_75 rfl (lv_at hl 2 rfl) ?_
      refine lv_aload_n hx hb dX5_kept_76 rfl (lv_at hl 0 rfl) ?_
      refine va_get (D := (dC, dI)) (ci := 5) (v := .ref (ad 6)) (C := RX5) (T := TX5) (N := 7) hx hb hts hiX5 hown hK.1 hP 0 rfl rfl 5 (by decide) hf43 (fun _ h9 => h9) rfl dX5_kept_77 ?_
      refine lv_iload hx hb dX5_kept_80 (lv_at hl 5 rfl) ?_
      refine lv_iload_n hx hb dX5_kept_82 rfl (lv_at hl 3 rfl) ?_
      obtain ⟨r83, hc83, h⟩ := Ho_b h
      have hPc : va_P (dC, dI) vwCl [((ad 6), .inr (3, [.ref (ad 1), .ref (ad 11), .int tk, .int mb])), ((ad 1), .inr (0, [.int n, .int ev])), ((ad 11), .inl (cI, 12, .inl fr))] s.heap := hP.sub [6, 1, 11] rfl
      refine cs_i (va_runV (As := [.int v5, .int x3]) (rest := [.int x2, .int x1, .ref (ad 6)]) hfix (c_X3_piece l dC dI cI cJ (ad 6) (ad 1) (ad 11) tk mb n ev fr v5 x3 _ hc83) (cwV 2 hts gX5_kept_X3_piece rfl rfl rfl (by decide +kernel) ⟨by decide, by decide⟩) (roP.preV hK hPc (ci := 3) rfl rfl) rfl rfl hl.1 rfl (lv_room (Nat.le_of_ble_eq_true rfl)) dX5_kept_83 ⟨Nat.zero_le _, Nat.zero_le _⟩) ?_
      obtain ⟨r86, hc86, h⟩ := Ho_b h
      have hPc : va_P (dC, dI) vwCl [((ad 6), .inr (3, [.ref (ad 1), .ref (ad 11), .int tk, .int mb])), ((ad 1), .inr (0, [.int n, .int ev])), ((ad 11), .inl (cI, 12, .inl fr))] s.heap := hP.sub [6, 1, 11] rfl
      refine cs_i (va_runV (As := [.int x1, .int x2, .int r83]) (rest := []) hfix (c_X3_formHasPiece l dC dI cI cJ (ad 6) (ad 1) (ad 11) tk mb n ev fr x1 x2 r83 _ hc86) (cwV 3 hts gX5_kept_X3_formHasPiece rfl rfl rfl (by decide +kernel) ⟨by decide, by decide⟩) (roP.preV hK hPc (ci := 3) rfl rfl) rfl rfl hl.1 rfl (lv_room (Nat.le_of_ble_eq_true rfl)) dX5_kept_86 ⟨Nat.zero_le _, Nat.zero_le _⟩) ?_
      refine lv_if_eq (tgt := 95) hx hb dX5_kept_89 (by decide) (fun q89 => ?_) (fun q89 => ?_)
      · have h := Ho_t h q89
        refine lv_iinc (v := v5 + 1) (lv' := [(5, .int (v5 + 1)), (0, .ref (ad 0)), (1, .int x1), (2, .int x2), (3, .int x3), (4, .int v4)]) hx hb dX5_kept_95 hl (k := 5) rfl rfl (by decide) rfl (fun ls hl => ?_)
        refine lv_goto (tgt := 56) hx hb dX5_kept_98 (by decide) ?_
        exact hi56 _ (Ho_s h) ls (lv_sub hl [1, 2, 3, 4, 5, 0] rfl)
      · have h := Ho_f h q89
        refine lv_iinc (v := v4 + 1) (lv' := [(4, .int (v4 + 1)), (0, .ref (ad 0)), (1, .int x1), (2, .int x2), (3, .int x3), (5, .int v5)]) hx hb dX5_kept_92 hl (k := 4) rfl rfl (by decide) rfl (fun ls hl => ?_)
        refine lv_iinc (v := v5 + 1) (lv' := [(5, .int (v5 + 1)), (4, .int (v4 + 1)), (0, .ref (ad 0)), (1, .int x1), (2, .int x2), (3, .int x3)]) hx hb dX5_kept_95 hl (k := 5) rfl rfl (by decide) rfl (fun ls hl => ?_)
        refine lv_goto (tgt := 56) hx hb dX5_kept_98 (by decide) ?_
        exact hi56 _ (Ho_s h) ls (lv_sub hl [2, 3, 4, 5, 1, 0] rfl)
  refine lv_iload_n hx hb dX5_kept_0 rfl (lv_at hl 1 rfl) ?_
  obtain ⟨r1, hc1, h⟩ := Ho_b h
  refine cs_i (va_runS (As := [.int x1]) (rest := []) hfix (c_X5_isFormKind l dC dI cI cJ  x1 _ hc1) (va_cwS 1 hts gX5_kept_X5_isFormKind rfl rfl rfl (by decide +kernel) ⟨by decide, by decide⟩) (roP.preS hK va_Pnil) rfl rfl hl.1 rfl (lv_room (Nat.le_of_ble_eq_true rfl)) dX5_kept_1 ⟨Nat.zero_le _, Nat.zero_le _⟩) ?_
  refine lv_if_eq (tgt := 34) hx hb dX5_kept_4 (by decide) (fun q4 => ?_) (fun q4 => ?_)
  · have h := Ho_t h q4
    refine lv_bipush (v := (-2 : Int32)) hx hb dX5_kept_34 (by decide) ?_
    exact W.iret hx hb hr (fun t ht _ => ro_Si (Ho_e h) ht) ro_nil dX5_kept_36 hlk
  · have h := Ho_f h q4
    refine lv_aload_n hx hb dX5_kept_7 rfl (lv_at hl 0 rfl) ?_
    refine va_get (D := (dC, dI)) (ci := 5) (v := .ref (ad 1)) (C := RX5) (T := TX5) (N := 7) hx hb hts hiX5 hown hK.1 hP 0 rfl rfl 0 (by decide) hf10 (fun _ h9 => h9) rfl dX5_kept_8 ?_
    refine lv_iload_n hx hb dX5_kept_11 rfl (lv_at hl 2 rfl) ?_
    obtain ⟨r12, hc12, h⟩ := Ho_b h
    have hPc : va_P (dC, dI) vwCl [((ad 1), .inr (0, [.int n, .int ev]))] s.heap := hP.sub [1] rfl
    refine cs_i (va_runV (As := [.int x2]) (rest := []) hfix (c_X0_hasStep l dC dI cI cJ (ad 1) n ev x2 _ hc12) (cwV 1 hts gX5_kept_X0_hasStep rfl rfl rfl (by decide +kernel) ⟨by decide, by decide⟩) (roP.preV hK hPc (ci := 0) rfl rfl) rfl rfl hl.1 rfl (lv_room (Nat.le_of_ble_eq_true rfl)) dX5_kept_12 ⟨Nat.zero_le _, Nat.zero_le _⟩) ?_
    refine lv_if_eq (tgt := 34) hx hb dX5_kept_15 (by decide) (fun q15 => ?_) (fun q15 => ?_)
    · have h := Ho_t h q15
      refine lv_bipush (v := (-2 : Int32)) hx hb dX5_kept_34 (by decide) ?_
      exact W.iret hx hb hr (fun t ht _ => ro_Si (Ho_e h) ht) ro_nil dX5_kept_36 hlk
    · have h := Ho_f h q15
      refine lv_iload_n hx hb dX5_kept_18 rfl (lv_at hl 3 rfl) ?_
      refine lv_iconst (v := (1 : Int32)) hx hb dX5_kept_19 (by decide) ?_
      refine lv_icmp_lt (tgt := 34) hx hb dX5_kept_20 (by decide) (fun q20 => ?_) (fun q20 => ?_)
      · have h := Ho_t h q20
        refine lv_bipush (v := (-2 : Int32)) hx hb dX5_kept_34 (by decide) ?_
        exact W.iret hx hb hr (fun t ht _ => ro_Si (Ho_e h) ht) ro_nil dX5_kept_36 hlk
      · have h := Ho_f h q20
        refine lv_iload_n hx hb dX5_kept_23 rfl (lv_at hl 3 rfl) ?_
        refine lv_aload_n hx hb dX5_kept_24 rfl (lv_at hl 0 rfl) ?_
        refine va_get (D := (dC, dI)) (ci := 5) (v := .ref (ad 1)) (C := RX5) (T := TX5) (N := 7) hx hb hts hiX5 hown hK.1 hP 0 rfl rfl 0 (by decide) hf10 (fun _ h9 => h9) rfl dX5_kept_25 ?_
        obtain ⟨r28, hc28, h⟩ := Ho_b h
        have hPc : va_P (dC, dI) vwCl [((ad 1), .inr (0, [.int n, .int ev]))] s.heap := hP.sub [1] rfl
        refine cs_i (va_runV (As := []) (rest := [.int x3]) hfix (c_X0_count l dC dI cI cJ (ad 1) n ev _ hc28) (cwV 0 hts gX5_kept_X0_count rfl rfl rfl (by decide +kernel) ⟨by decide, by decide⟩) (roP.preV hK hPc (ci := 0) rfl rfl) rfl rfl hl.1 rfl (lv_room (Nat.le_of_ble_eq_true rfl)) dX5_kept_28 ⟨Nat.zero_le _, Nat.zero_le _⟩) ?_
        refine lv_icmp_le (tgt := 37) hx hb dX5_kept_31 (by decide) (fun q31 => ?_) (fun q31 => ?_)
        · have h := Ho_t h q31
          refine lv_aload_n hx hb dX5_kept_37 rfl (lv_at hl 0 rfl) ?_
          refine va_get (D := (dC, dI)) (ci := 5) (v := .ref (ad 6)) (C := RX5) (T := TX5) (N := 7) hx hb hts hiX5 hown hK.1 hP 0 rfl rfl 5 (by decide) hf43 (fun _ h9 => h9) rfl dX5_kept_38 ?_
          obtain ⟨r41, hc41, h⟩ := Ho_b h
          have hPc : va_P (dC, dI) vwCl [((ad 6), .inr (3, [.ref (ad 1), .ref (ad 11), .int tk, .int mb])), ((ad 1), .inr (0, [.int n, .int ev])), ((ad 11), .inl (cI, 12, .inl fr))] s.heap := hP.sub [6, 1, 11] rfl
          refine cs_i (va_runV (As := []) (rest := []) hfix (c_X3_isWhole l dC dI cI cJ (ad 6) (ad 1) (ad 11) tk mb n ev fr _ hc41) (cwV 0 hts gX5_kept_X3_isWhole rfl rfl rfl (by decide +kernel) ⟨by decide, by decide⟩) (roP.preV hK hPc (ci := 3) rfl rfl) rfl rfl hl.1 rfl (lv_room (Nat.le_of_ble_eq_true rfl)) dX5_kept_41 ⟨Nat.zero_le _, Nat.zero_le _⟩) ?_
          refine lv_if_ne (tgt := 50) hx hb dX5_kept_44 (by decide) (fun q44 => ?_) (fun q44 => ?_)
          · have h := Ho_f h q44
            refine lv_iconst (v := (0 : Int32)) hx hb dX5_kept_50 (by decide) ?_
            refine lv_istore (lv' := [(4, .int (0 : Int32)), (0, .ref (ad 0)), (1, .int x1), (2, .int x2), (3, .int x3)]) hx hb dX5_kept_51 hl (by decide) rfl (fun ls hl => ?_)
            refine lv_iconst (v := (0 : Int32)) hx hb dX5_kept_53 (by decide) ?_
            refine lv_istore (lv' := [(5, .int (0 : Int32)), (4, .int (0 : Int32)), (0, .ref (ad 0)), (1, .int x1), (2, .int x2), (3, .int x3)]) hx hb dX5_kept_54 hl (by decide) rfl (fun ls hl => ?_)
            exact J56 (0 : Int32) (0 : Int32) ls (lv_sub hl [2, 3, 4, 5, 1, 0] rfl) h
          · have h := Ho_t h q44
            refine lv_bipush (v := (-3 : Int32)) hx hb dX5_kept_47 (by decide) ?_
            exact W.iret hx hb hr (fun t ht _ => ro_Si (Ho_e h) ht) ro_nil dX5_kept_49 hlk
        · have h := Ho_f h q31
          refine lv_bipush (v := (-2 : Int32)) hx hb dX5_kept_34 (by decide) ?_
          exact W.iret hx hb hr (fun t ht _ => ro_Si (Ho_e h) ht) ro_nil dX5_kept_36 hlk
abbrev rmX5_power : Room := { frames := 0, cells := 0, slots := 0, locals := 0 }
set_option maxHeartbeats 4000000 in
set_option maxRecDepth 100000 in
theorem c_X5_power (l : Launch) (dC : Nat → ClassId) (dI : Nat → Nat → Nat) (cI cJ : ClassId) (x0 : Int32) (x1 : Int32) (r : Int64) (hF : FX5_power x0 x1 = some r) : Met l yX5_power wsX5_power rmX5_power (roP (dC, dI) [(cI, .int), (cJ, .long)] [] [.int x0, .int x1]) (vp_Sl (fun x => x = r)) 0 0 (fun _ => False) := by
  refine ro_start (cc := cX5_power) (maxL := 5) (ret := (some .long)) (by decide) rfl (Nat.le_of_ble_eq_true rfl) ?_
  intro p e s m args below meth c ls hx hb hml hr hlk hown hts hP hK hl
  have hown : s.vm.findClass RX5 = some m.cls := hown
  have hl : lv_has ls 5 [(0, .int x0), (1, .int x1)] := hl
  have h : Ho (FX5_power x0 x1) (fun x => x = r) := ⟨r, hF, rfl⟩
  unfold FX5_power at h
  have hfix : CallFix p m c cX5_power 5 s args wsX5_power RX5 := ⟨hx, hb, hml, hown, hts⟩
  have J22 : ∀ (v2 : Int64) (ls : Array Slot), lv_has ls 5 [(2, .long v2)] → Ho (X5_power_22 v2) (fun x => x = r) → W p l e rmX5_power s m args below meth c s.heap [] 0 0 (MQ below (vp_Sl (fun x => x = r)) args s 0 0 (fun _ => False)) (F0 m 22 ls []) := by
    intro v2 ls hl h
    unfold X5_power_22 at h
    refine lv_lload_n hx hb dX5_power_22 rfl (lv_at hl 0 rfl) ?_
    exact W.lret hx hb hr (fun t ht _ => ro_Sl (Ho_e h) ht) ro_nil dX5_power_23 hlk
  have J5 : ∀ (v2 : Int64) (v4 : Int32) (ls : Array Slot), lv_has ls 5 [(0, .int x0), (1, .int x1), (2, .long v2), (4, .int v4)] → Ho ((X5_power_5_l x0 x1 v2 v4).bind (fun ex => X5_power_22 ex)) (fun x => x = r) → W p l e rmX5_power s m args below meth c s.heap [] 0 0 (MQ below (vp_Sl (fun x => x = r)) args s 0 0 (fun _ => False)) (F0 m 5 ls []) := by
    intro v2 v4 ls hl h
    refine loop_use2 (fun z : Int64 × Int32 => ∀ (ls : Array Slot), lv_has ls 5 [(0, .int x0), (1, .int x1), (2, .long z.1), (4, .int z.2)] → W p l e rmX5_power s m args below meth c s.heap [] 0 0 (MQ below (vp_Sl (fun x => x = r)) args s 0 0 (fun _ => False)) (F0 m 5 ls [])) ?_ FU _ h ls hl
    intro Q5 hi5 ho5 z h ls hl
    obtain ⟨v2, v4⟩ := z
    have h : Ho (X5_power_5_s x0 x1 v2 v4) Q5 := h
    unfold X5_power_5_s at h
    have hl : lv_has ls 5 [(0, .int x0), (1, .int x1), (2, .long v2), (4, .int v4)] := hl
    refine lv_iload hx hb dX5_power_5 (lv_at hl 3 rfl) ?_
    refine lv_iload_n hx hb dX5_power_7 rfl (lv_at hl 1 rfl) ?_
    refine lv_icmp_ge (tgt := 22) hx hb dX5_power_8 (by decide) (fun q8 => ?_) (fun q8 => ?_)
    · have h := Ho_t h q8
      have h := ho5 _ (Ho_s h)
      exact J22 v2 ls (lv_sub hl [2] rfl) h
    · have h := Ho_f h q8
      refine lv_lload_n hx hb dX5_power_11 rfl (lv_at hl 2 rfl) ?_
      refine lv_iload_n hx hb dX5_power_12 rfl (lv_at hl 0 rfl) ?_
      refine lv_i2l (v := x0.toInt64) hx hb dX5_power_13 rfl ?_
      refine lv_lmul hx hb dX5_power_14 ?_
      refine lv_lstore_n (lv' := [(2, .long (v2 * x0.toInt64)), (0, .int x0), (1, .int x1), (4, .int v4)]) hx hb dX5_power_15 rfl hl (by decide) rfl (fun ls hl => ?_)
      refine lv_iinc (v := v4 + 1) (lv' := [(4, .int (v4 + 1)), (2, .long (v2 * x0.toInt64)), (0, .int x0), (1, .int x1)]) hx hb dX5_power_16 hl (k := 3) rfl rfl (by decide) rfl (fun ls hl => ?_)
      refine lv_goto (tgt := 5) hx hb dX5_power_19 (by decide) ?_
      exact hi5 _ (Ho_s h) ls (lv_sub hl [2, 3, 1, 0] rfl)
  refine lv_lconst (v := (1 : Int64)) hx hb dX5_power_0 (by decide) ?_
  refine lv_lstore_n (lv' := [(2, .long (1 : Int64)), (0, .int x0), (1, .int x1)]) hx hb dX5_power_1 rfl hl (by decide) rfl (fun ls hl => ?_)
  refine lv_iconst (v := (0 : Int32)) hx hb dX5_power_2 (by decide) ?_
  refine lv_istore (lv' := [(4, .int (0 : Int32)), (2, .long (1 : Int64)), (0, .int x0), (1, .int x1)]) hx hb dX5_power_3 hl (by decide) rfl (fun ls hl => ?_)
  exact J5 (1 : Int64) (0 : Int32) ls (lv_sub hl [2, 3, 1, 0] rfl) h
abbrev rmX5_meanKeptByTurning : Room := { frames := 1, cells := 0, slots := 0, locals := 24 }
set_option maxHeartbeats 4000000 in
set_option maxRecDepth 100000 in
theorem c_X5_meanKeptByTurning (l : Launch) (dC : Nat → ClassId) (dI : Nat → Nat → Nat) (cI cJ : ClassId) (x0 : Int32) (x1 : Int32) (r : Int64) (hF : FX5_meanKeptByTurning x0 x1 = some r) : Met l yX5_meanKeptByTurning wsX5_meanKeptByTurning rmX5_meanKeptByTurning (roP (dC, dI) [(cI, .int), (cJ, .long)] [] [.int x0, .int x1]) (vp_Sl (fun x => x = r)) 0 0 (fun _ => False) := by
  refine ro_start (cc := cX5_meanKeptByTurning) (maxL := 5) (ret := (some .long)) (by decide) rfl (Nat.le_of_ble_eq_true rfl) ?_
  intro p e s m args below meth c ls hx hb hml hr hlk hown hts hP hK hl
  have hown : s.vm.findClass RX5 = some m.cls := hown
  have hl : lv_has ls 5 [(0, .int x0), (1, .int x1)] := hl
  have h : Ho (FX5_meanKeptByTurning x0 x1) (fun x => x = r) := ⟨r, hF, rfl⟩
  unfold FX5_meanKeptByTurning at h
  have hfix : CallFix p m c cX5_meanKeptByTurning 5 s args wsX5_meanKeptByTurning RX5 := ⟨hx, hb, hml, hown, hts⟩
  have J30 : ∀ (v2 : Int64) (ls : Array Slot), lv_has ls 5 [(0, .int x0), (2, .long v2)] → Ho (X5_meanKeptByTurning_30 x0 v2) (fun x => x = r) → W p l e rmX5_meanKeptByTurning s m args below meth c s.heap [] 0 0 (MQ below (vp_Sl (fun x => x = r)) args s 0 0 (fun _ => False)) (F0 m 30 ls []) := by
    intro v2 ls hl h
    unfold X5_meanKeptByTurning_30 at h
    refine lv_iload_n hx hb dX5_meanKeptByTurning_30 rfl (lv_at hl 0 rfl) ?_
    refine lv_iconst (v := (1 : Int32)) hx hb dX5_meanKeptByTurning_31 (by decide) ?_
    refine lv_icmp_ge (tgt := 39) hx hb dX5_meanKeptByTurning_32 (by decide) (fun q32 => ?_) (fun q32 => ?_)
    · have h := Ho_t h q32
      refine lv_lload_n hx hb dX5_meanKeptByTurning_39 rfl (lv_at hl 1 rfl) ?_
      refine lv_iload_n hx hb dX5_meanKeptByTurning_40 rfl (lv_at hl 0 rfl) ?_
      refine lv_i2l (v := x0.toInt64) hx hb dX5_meanKeptByTurning_41 rfl ?_
      obtain ⟨hz42, h⟩ := Ho_nz h
      refine lv_ldiv hx hb dX5_meanKeptByTurning_42 hz42 ?_
      exact W.lret hx hb hr (fun t ht _ => ro_Sl (Ho_e h) ht) ro_nil dX5_meanKeptByTurning_43 hlk
    · have h := Ho_f h q32
      refine lv_lconst (v := (0 : Int64)) hx hb dX5_meanKeptByTurning_35 (by decide) ?_
      refine lv_goto (tgt := 43) hx hb dX5_meanKeptByTurning_36 (by decide) ?_
      exact W.lret hx hb hr (fun t ht _ => ro_Sl (Ho_e h) ht) ro_nil dX5_meanKeptByTurning_43 hlk
  have J5 : ∀ (v2 : Int64) (v4 : Int32) (ls : Array Slot), lv_has ls 5 [(0, .int x0), (1, .int x1), (2, .long v2), (4, .int v4)] → Ho ((X5_meanKeptByTurning_5_l x0 x1 v2 v4).bind (fun ex => X5_meanKeptByTurning_30 x0 ex)) (fun x => x = r) → W p l e rmX5_meanKeptByTurning s m args below meth c s.heap [] 0 0 (MQ below (vp_Sl (fun x => x = r)) args s 0 0 (fun _ => False)) (F0 m 5 ls []) := by
    intro v2 v4 ls hl h
    refine loop_use2 (fun z : Int64 × Int32 => ∀ (ls : Array Slot), lv_has ls 5 [(0, .int x0), (1, .int x1), (2, .long z.1), (4, .int z.2)] → W p l e rmX5_meanKeptByTurning s m args below meth c s.heap [] 0 0 (MQ below (vp_Sl (fun x => x = r)) args s 0 0 (fun _ => False)) (F0 m 5 ls [])) ?_ FU _ h ls hl
    intro Q5 hi5 ho5 z h ls hl
    obtain ⟨v2, v4⟩ := z
    have h : Ho (X5_meanKeptByTurning_5_s x0 x1 v2 v4) Q5 := h
    unfold X5_meanKeptByTurning_5_s at h
    have hl : lv_has ls 5 [(0, .int x0), (1, .int x1), (2, .long v2), (4, .int v4)] := hl
    refine lv_iload hx hb dX5_meanKeptByTurning_5 (lv_at hl 3 rfl) ?_
    refine lv_iload_n hx hb dX5_meanKeptByTurning_7 rfl (lv_at hl 0 rfl) ?_
    refine lv_icmp_gt (tgt := 30) hx hb dX5_meanKeptByTurning_8 (by decide) (fun q8 => ?_) (fun q8 => ?_)
    · have h := Ho_t h q8
      have h := ho5 _ (Ho_s h)
      exact J30 v2 ls (lv_sub hl [0, 2] rfl) h
    · have h := Ho_f h q8
      refine lv_lload_n hx hb dX5_meanKeptByTurning_11 rfl (lv_at hl 2 rfl) ?_
      refine lv_iload_n hx hb dX5_meanKeptByTurning_12 rfl (lv_at hl 1 rfl) ?_
      refine lv_iload hx hb dX5_meanKeptByTurning_13 (lv_at hl 3 rfl) ?_
      refine lv_iload_n hx hb dX5_meanKeptByTurning_15 rfl (lv_at hl 0 rfl) ?_
      obtain ⟨r16, hc16, h⟩ := Ho_b h
      refine cs_i (va_runS (As := [.int v4, .int x0]) (rest := [.int x1, .long v2]) hfix (c_X5_commonDivisor l dC dI cI cJ  v4 x0 _ hc16) (va_cwS 2 hts gX5_meanKeptByTurning_X5_commonDivisor rfl rfl rfl (by decide +kernel) ⟨by decide, by decide⟩) (roP.preS hK va_Pnil) rfl rfl hl.1 rfl (lv_room (Nat.le_of_ble_eq_true rfl)) dX5_meanKeptByTurning_16 ⟨Nat.zero_le _, Nat.zero_le _⟩) ?_
      obtain ⟨r19, hc19, h⟩ := Ho_b h
      refine cs_l (va_runS (As := [.int x1, .int r16]) (rest := [.long v2]) hfix (c_X5_power l dC dI cI cJ  x1 r16 _ hc19) (va_cwS 2 hts gX5_meanKeptByTurning_X5_power rfl rfl rfl (by decide +kernel) ⟨by decide, by decide⟩) (roP.preS hK va_Pnil) rfl rfl hl.1 rfl (lv_room (Nat.le_of_ble_eq_true rfl)) dX5_meanKeptByTurning_19 ⟨Nat.zero_le _, Nat.zero_le _⟩) ?_
      refine lv_ladd hx hb dX5_meanKeptByTurning_22 ?_
      refine lv_lstore_n (lv' := [(2, .long (v2 + r19)), (0, .int x0), (1, .int x1), (4, .int v4)]) hx hb dX5_meanKeptByTurning_23 rfl hl (by decide) rfl (fun ls hl => ?_)
      refine lv_iinc (v := v4 + 1) (lv' := [(4, .int (v4 + 1)), (2, .long (v2 + r19)), (0, .int x0), (1, .int x1)]) hx hb dX5_meanKeptByTurning_24 hl (k := 3) rfl rfl (by decide) rfl (fun ls hl => ?_)
      refine lv_goto (tgt := 5) hx hb dX5_meanKeptByTurning_27 (by decide) ?_
      exact hi5 _ (Ho_s h) ls (lv_sub hl [2, 3, 1, 0] rfl)
  refine lv_lconst (v := (0 : Int64)) hx hb dX5_meanKeptByTurning_0 (by decide) ?_
  refine lv_lstore_n (lv' := [(2, .long (0 : Int64)), (0, .int x0), (1, .int x1)]) hx hb dX5_meanKeptByTurning_1 rfl hl (by decide) rfl (fun ls hl => ?_)
  refine lv_iconst (v := (1 : Int32)) hx hb dX5_meanKeptByTurning_2 (by decide) ?_
  refine lv_istore (lv' := [(4, .int (1 : Int32)), (2, .long (0 : Int64)), (0, .int x0), (1, .int x1)]) hx hb dX5_meanKeptByTurning_3 hl (by decide) rfl (fun ls hl => ?_)
  exact J5 (0 : Int64) (1 : Int32) ls (lv_sub hl [2, 3, 1, 0] rfl) h
abbrev rmX5_meanKeptByTurningOver : Room := { frames := 1, cells := 0, slots := 0, locals := 24 }
set_option maxHeartbeats 4000000 in
set_option maxRecDepth 100000 in
theorem c_X5_meanKeptByTurningOver (l : Launch) (dC : Nat → ClassId) (dI : Nat → Nat → Nat) (cI cJ : ClassId) (x0 : Int32) (x1 : Int32) (r : Int64) (hF : FX5_meanKeptByTurningOver x0 x1 = some r) : Met l yX5_meanKeptByTurningOver wsX5_meanKeptByTurningOver rmX5_meanKeptByTurningOver (roP (dC, dI) [(cI, .int), (cJ, .long)] [] [.int x0, .int x1]) (vp_Sl (fun x => x = r)) 0 0 (fun _ => False) := by
  refine ro_start (cc := cX5_meanKeptByTurningOver) (maxL := 2) (ret := (some .long)) (by decide) rfl (Nat.le_of_ble_eq_true rfl) ?_
  intro p e s m args below meth c ls hx hb hml hr hlk hown hts hP hK hl
  have hown : s.vm.findClass RX5 = some m.cls := hown
  have hl : lv_has ls 2 [(0, .int x0), (1, .int x1)] := hl
  have h : Ho (FX5_meanKeptByTurningOver x0 x1) (fun x => x = r) := ⟨r, hF, rfl⟩
  unfold FX5_meanKeptByTurningOver at h
  have hfix : CallFix p m c cX5_meanKeptByTurningOver 2 s args wsX5_meanKeptByTurningOver RX5 := ⟨hx, hb, hml, hown, hts⟩
  have hc218 := hts (.constantLong RX5 218 (2)) (by decide +kernel)
  refine lv_iload_n hx hb dX5_meanKeptByTurningOver_0 rfl (lv_at hl 1 rfl) ?_
  refine lv_iload_n hx hb dX5_meanKeptByTurningOver_1 rfl (lv_at hl 0 rfl) ?_
  refine lv_iconst (v := (1 : Int32)) hx hb dX5_meanKeptByTurningOver_2 (by decide) ?_
  refine lv_iadd hx hb dX5_meanKeptByTurningOver_3 ?_
  refine lv_iconst (v := (2 : Int32)) hx hb dX5_meanKeptByTurningOver_4 (by decide) ?_
  refine lv_idiv hx hb dX5_meanKeptByTurningOver_5 (by decide) ?_
  obtain ⟨r6, hc6, h⟩ := Ho_b h
  refine cs_l (va_runS (As := [.int x1, .int ((x0 + (1 : Int32)) / (2 : Int32))]) (rest := []) hfix (c_X5_power l dC dI cI cJ  x1 ((x0 + (1 : Int32)) / (2 : Int32)) _ hc6) (va_cwS 2 hts gX5_meanKeptByTurningOver_X5_power rfl rfl rfl (by decide +kernel) ⟨by decide, by decide⟩) (roP.preS hK va_Pnil) rfl rfl hl.1 rfl (lv_room (Nat.le_of_ble_eq_true rfl)) dX5_meanKeptByTurningOver_6 ⟨Nat.zero_le _, Nat.zero_le _⟩) ?_
  refine lv_iload_n hx hb dX5_meanKeptByTurningOver_9 rfl (lv_at hl 1 rfl) ?_
  refine lv_iload_n hx hb dX5_meanKeptByTurningOver_10 rfl (lv_at hl 0 rfl) ?_
  refine lv_iconst (v := (2 : Int32)) hx hb dX5_meanKeptByTurningOver_11 (by decide) ?_
  refine lv_idiv hx hb dX5_meanKeptByTurningOver_12 (by decide) ?_
  refine lv_iconst (v := (1 : Int32)) hx hb dX5_meanKeptByTurningOver_13 (by decide) ?_
  refine lv_iadd hx hb dX5_meanKeptByTurningOver_14 ?_
  obtain ⟨r15, hc15, h⟩ := Ho_b h
  refine cs_l (va_runS (As := [.int x1, .int ((x0 / (2 : Int32)) + (1 : Int32))]) (rest := [.long r6]) hfix (c_X5_power l dC dI cI cJ  x1 ((x0 / (2 : Int32)) + (1 : Int32)) _ hc15) (va_cwS 2 hts gX5_meanKeptByTurningOver_X5_power rfl rfl rfl (by decide +kernel) ⟨by decide, by decide⟩) (roP.preS hK va_Pnil) rfl rfl hl.1 rfl (lv_room (Nat.le_of_ble_eq_true rfl)) dX5_meanKeptByTurningOver_15 ⟨Nat.zero_le _, Nat.zero_le _⟩) ?_
  refine lv_ladd hx hb dX5_meanKeptByTurningOver_18 ?_
  refine lv_ldc2 hx hb hown hc218 dX5_meanKeptByTurningOver_19 ?_
  refine lv_ldiv hx hb dX5_meanKeptByTurningOver_22 (by decide) ?_
  exact W.lret hx hb hr (fun t ht _ => ro_Sl (Ho_e h) ht) ro_nil dX5_meanKeptByTurningOver_23 hlk
abbrev rmX5_rounds : Room := { frames := 2, cells := 0, slots := 0, locals := 48 }
set_option maxHeartbeats 4000000 in
set_option maxRecDepth 100000 in
theorem c_X5_rounds (l : Launch) (dC : Nat → ClassId) (dI : Nat → Nat → Nat) (cI cJ : ClassId) (ad : Nat → Nat) (n : Int32) (ev : Int32) (ld0 : Int32) (ld1 : Int32) (ld2 : Int32) (tk : Int32) (mb : Int32) (f0 : Nat → Int32) (f1 : Nat → Int32) (f2 : Nat → Int32) (fr : Nat → Int32) (fu : Nat → Int32) (x1 : Int32) (x2 : Int32) (x3 : Int32) (r : Int64) (hF : FX5_rounds x1 x2 x3 = some r) : Met l yX5_rounds wsX5_rounds rmX5_rounds (roP (dC, dI) [(cI, .int), (cJ, .long)] (wX5 cI cJ ad n ev ld0 ld1 ld2 tk mb f0 f1 f2 fr fu) [.ref (ad 0), .int x1, .int x2, .int x3]) (vp_Sl (fun x => x = r)) 0 0 (fun _ => False) := by
  refine ro_start (cc := cX5_rounds) (maxL := 6) (ret := (some .long)) (by decide) rfl (Nat.le_of_ble_eq_true rfl) ?_
  intro p e s m args below meth c ls hx hb hml hr hlk hown hts hP hK hl
  have hown : s.vm.findClass RX5 = some m.cls := hown
  have hl : lv_has ls 6 [(0, .ref (ad 0)), (1, .int x1), (2, .int x2), (3, .int x3)] := hl
  have h : Ho (FX5_rounds x1 x2 x3) (fun x => x = r) := ⟨r, hF, rfl⟩
  unfold FX5_rounds at h
  have hfix : CallFix p m c cX5_rounds 6 s args wsX5_rounds RX5 := ⟨hx, hb, hml, hown, hts⟩
  have hc209 := hts (.constantLong RX5 209 (-2)) (by decide +kernel)
  have hc218 := hts (.constantLong RX5 218 (2)) (by decide +kernel)
  have J22 : ∀  (ls : Array Slot), lv_has ls 6 [] → Ho (X5_rounds_22) (fun x => x = r) → W p l e rmX5_rounds s m args below meth c s.heap [] 0 0 (MQ below (vp_Sl (fun x => x = r)) args s 0 0 (fun _ => False)) (F0 m 22 ls []) := by
    intro  ls hl h
    unfold X5_rounds_22 at h
    refine lv_ldc2 hx hb hown hc209 dX5_rounds_22 ?_
    exact W.lret hx hb hr (fun t ht _ => ro_Sl (Ho_e h) ht) ro_nil dX5_rounds_25 hlk
  refine lv_iload_n hx hb dX5_rounds_0 rfl (lv_at hl 1 rfl) ?_
  refine lv_iconst (v := (1 : Int32)) hx hb dX5_rounds_1 (by decide) ?_
  refine lv_icmp_lt (tgt := 22) hx hb dX5_rounds_2 (by decide) (fun q2 => ?_) (fun q2 => ?_)
  · have h := Ho_t h q2
    exact J22  ls (lv_sub hl [] rfl) h
  · have h := Ho_f h q2
    refine lv_iload_n hx hb dX5_rounds_5 rfl (lv_at hl 1 rfl) ?_
    refine lv_bipush (v := (24 : Int32)) hx hb dX5_rounds_6 (by decide) ?_
    refine lv_icmp_gt (tgt := 22) hx hb dX5_rounds_8 (by decide) (fun q8 => ?_) (fun q8 => ?_)
    · have h := Ho_t h q8
      exact J22  ls (lv_sub hl [] rfl) h
    · have h := Ho_f h q8
      refine lv_iload_n hx hb dX5_rounds_11 rfl (lv_at hl 2 rfl) ?_
      refine lv_iconst (v := (1 : Int32)) hx hb dX5_rounds_12 (by decide) ?_
      refine lv_icmp_lt (tgt := 22) hx hb dX5_rounds_13 (by decide) (fun q13 => ?_) (fun q13 => ?_)
      · have h := Ho_t h q13
        exact J22  ls (lv_sub hl [] rfl) h
      · have h := Ho_f h q13
        refine lv_iload_n hx hb dX5_rounds_16 rfl (lv_at hl 2 rfl) ?_
        refine lv_bipush (v := (6 : Int32)) hx hb dX5_rounds_17 (by decide) ?_
        refine lv_icmp_le (tgt := 26) hx hb dX5_rounds_19 (by decide) (fun q19 => ?_) (fun q19 => ?_)
        · have h := Ho_t h q19
          refine lv_iload_n hx hb dX5_rounds_26 rfl (lv_at hl 1 rfl) ?_
          refine lv_iload_n hx hb dX5_rounds_27 rfl (lv_at hl 2 rfl) ?_
          obtain ⟨r28, hc28, h⟩ := Ho_b h
          refine cs_l (va_runS (As := [.int x1, .int x2]) (rest := []) hfix (c_X5_meanKeptByTurning l dC dI cI cJ  x1 x2 _ hc28) (va_cwS 2 hts gX5_rounds_X5_meanKeptByTurning rfl rfl rfl (by decide +kernel) ⟨by decide, by decide⟩) (roP.preS hK va_Pnil) rfl rfl hl.1 rfl (lv_room (Nat.le_of_ble_eq_true rfl)) dX5_rounds_28 ⟨Nat.zero_le _, Nat.zero_le _⟩) ?_
          refine lv_lstore (lv' := [(4, .long r28), (0, .ref (ad 0)), (1, .int x1), (2, .int x2), (3, .int x3)]) hx hb dX5_rounds_31 hl (by decide) rfl (fun ls hl => ?_)
          refine lv_iload_n hx hb dX5_rounds_33 rfl (lv_at hl 4 rfl) ?_
          refine lv_if_eq (tgt := 52) hx hb dX5_rounds_34 (by decide) (fun q34 => ?_) (fun q34 => ?_)
          · have h := Ho_t h q34
            refine lv_lload hx hb dX5_rounds_52 (lv_at hl 0 rfl) ?_
            exact W.lret hx hb hr (fun t ht _ => ro_Sl (Ho_e h) ht) ro_nil dX5_rounds_54 hlk
          · have h := Ho_f h q34
            refine lv_lload hx hb dX5_rounds_37 (lv_at hl 0 rfl) ?_
            refine lv_iload_n hx hb dX5_rounds_39 rfl (lv_at hl 2 rfl) ?_
            refine lv_iload_n hx hb dX5_rounds_40 rfl (lv_at hl 3 rfl) ?_
            obtain ⟨r41, hc41, h⟩ := Ho_b h
            refine cs_l (va_runS (As := [.int x1, .int x2]) (rest := [.long r28]) hfix (c_X5_meanKeptByTurningOver l dC dI cI cJ  x1 x2 _ hc41) (va_cwS 2 hts gX5_rounds_X5_meanKeptByTurningOver rfl rfl rfl (by decide +kernel) ⟨by decide, by decide⟩) (roP.preS hK va_Pnil) rfl rfl hl.1 rfl (lv_room (Nat.le_of_ble_eq_true rfl)) dX5_rounds_41 ⟨Nat.zero_le _, Nat.zero_le _⟩) ?_
            refine lv_ladd hx hb dX5_rounds_44 ?_
            refine lv_ldc2 hx hb hown hc218 dX5_rounds_45 ?_
            refine lv_ldiv hx hb dX5_rounds_48 (by decide) ?_
            refine lv_goto (tgt := 54) hx hb dX5_rounds_49 (by decide) ?_
            exact W.lret hx hb hr (fun t ht _ => ro_Sl (Ho_e h) ht) ro_nil dX5_rounds_54 hlk
        · have h := Ho_f h q19
          exact J22  ls (lv_sub hl [] rfl) h
