abbrev rmX3_formPiece : Room := { frames := 3, cells := 0, slots := 0, locals := 68 }
set_option maxHeartbeats 4000000 in
set_option maxRecDepth 100000 in
theorem c_X3_formPiece (l : Launch) (dC : Nat → ClassId) (dI : Nat → Nat → Nat) (cI cJ : ClassId) (h0 hc ha : Nat) (tk : Int32) (mb : Int32) (n : Int32) (ev : Int32) (f : Nat → Int32) (x1 : Int32) (x2 : Int32) (x3 : Int32) (x4 : Int32) (r : Int32) (hF : FX3_formPiece tk n f x1 x2 x3 x4 = some r) : Met l yX3_formPiece wsX3_formPiece rmX3_formPiece (roP (dC, dI) [(cI, .int), (cJ, .long)] [(h0, .inr (3, [.ref hc, .ref ha, .int tk, .int mb])), (hc, .inr (0, [.int n, .int ev])), (ha, .inl (cI, 12, .inl f))] [.ref h0, .int x1, .int x2, .int x3, .int x4]) (vp_Si (fun x => x = r)) 0 0 (fun _ => False) := by
  refine ro_start (cc := cX3_formPiece) (maxL := 7) (ret := (some .int)) (by decide) rfl (Nat.le_of_ble_eq_true rfl) ?_
  intro p e s m args below meth c ls hx hb hml hr hlk hown hts hP hK hl
  have hown : s.vm.findClass RX3 = some m.cls := hown
  have hl : lv_has ls 7 [(0, .ref h0), (1, .int x1), (2, .int x2), (3, .int x3), (4, .int x4)] := hl
  have h : Ho (FX3_formPiece tk n f x1 x2 x3 x4) (fun x => x = r) := ⟨r, hF, rfl⟩
  unfold FX3_formPiece at h
  have hfix : CallFix p m c cX3_formPiece 7 s args wsX3_formPiece RX3 := ⟨hx, hb, hml, hown, hts⟩
  have J36 : ∀ (v5 : Int32) (ls : Array Slot), lv_has ls 7 [(5, .int v5)] → Ho (X3_formPiece_36 v5) (fun x => x = r) → W p l e rmX3_formPiece s m args below meth c s.heap [] 0 0 (MQ below (vp_Si (fun x => x = r)) args s 0 0 (fun _ => False)) (F0 m 36 ls []) := by
    intro v5 ls hl h
    unfold X3_formPiece_36 at h
    refine lv_iload hx hb dX3_formPiece_36 (lv_at hl 0 rfl) ?_
    exact W.iret hx hb hr (fun t ht _ => ro_Si (Ho_e h) ht) ro_nil dX3_formPiece_38 hlk
  have J6 : ∀ (v5 : Int32) (v6 : Int32) (ls : Array Slot), lv_has ls 7 [(0, .ref h0), (1, .int x1), (2, .int x2), (3, .int x3), (4, .int x4), (5, .int v5), (6, .int v6)] → Ho ((X3_formPiece_6_l tk n f x1 x2 x3 x4 v5 v6).bind (fun ex => X3_formPiece_36 ex)) (fun x => x = r) → W p l e rmX3_formPiece s m args below meth c s.heap [] 0 0 (MQ below (vp_Si (fun x => x = r)) args s 0 0 (fun _ => False)) (F0 m 6 ls []) := by
    intro v5 v6 ls hl h
    refine loop_use2 (fun z : Int32 × Int32 => ∀ (ls : Array Slot), lv_has ls 7 [(0, .ref h0), (1, .int x1), (2, .int x2), (3, .int x3), (4, .int x4), (5, .int z.1), (6, .int z.2)] → W p l e rmX3_formPiece s m args below meth c s.heap [] 0 0 (MQ below (vp_Si (fun x => x = r)) args s 0 0 (fun _ => False)) (F0 m 6 ls [])) ?_ FU _ h ls hl
    intro Q6 hi6 ho6 z h ls hl
    obtain ⟨v5, v6⟩ := z
    have h : Ho (X3_formPiece_6_s tk n f x1 x2 x3 x4 v5 v6) Q6 := h
    unfold X3_formPiece_6_s at h
    have hl : lv_has ls 7 [(0, .ref h0), (1, .int x1), (2, .int x2), (3, .int x3), (4, .int x4), (5, .int v5), (6, .int v6)] := hl
    refine lv_iload hx hb dX3_formPiece_6 (lv_at hl 6 rfl) ?_
    refine lv_iload_n hx hb dX3_formPiece_8 rfl (lv_at hl 3 rfl) ?_
    refine lv_iload hx hb dX3_formPiece_9 (lv_at hl 4 rfl) ?_
    refine lv_iadd hx hb dX3_formPiece_11 ?_
    refine lv_icmp_ge (tgt := 36) hx hb dX3_formPiece_12 (by decide) (fun q12 => ?_) (fun q12 => ?_)
    · have h := Ho_t h q12
      have h := ho6 _ (Ho_s h)
      exact J36 v5 ls (lv_sub hl [5] rfl) h
    · have h := Ho_f h q12
      refine lv_iload hx hb dX3_formPiece_15 (lv_at hl 5 rfl) ?_
      refine lv_iconst (v := (1 : Int32)) hx hb dX3_formPiece_17 (by decide) ?_
      refine lv_aload_n hx hb dX3_formPiece_18 rfl (lv_at hl 0 rfl) ?_
      refine lv_iload_n hx hb dX3_formPiece_19 rfl (lv_at hl 1 rfl) ?_
      refine lv_iload_n hx hb dX3_formPiece_20 rfl (lv_at hl 2 rfl) ?_
      refine lv_iload hx hb dX3_formPiece_21 (lv_at hl 6 rfl) ?_
      obtain ⟨r23, hc23, h⟩ := Ho_b h
      have hPc : va_P (dC, dI) vwCl [(h0, .inr (3, [.ref hc, .ref ha, .int tk, .int mb])), (hc, .inr (0, [.int n, .int ev])), (ha, .inl (cI, 12, .inl f))] s.heap := hP.sub [0, 1, 2] rfl
      refine cs_i (va_runV (As := [.int x1, .int x2, .int v6]) (rest := [.int (1 : Int32), .int v5]) hfix (c_X3_formStep l dC dI cI cJ h0 hc ha tk mb n ev f x1 x2 v6 _ hc23) (cwV 3 hts gX3_formPiece_X3_formStep rfl rfl rfl (by decide +kernel) ⟨by decide, by decide⟩) (roP.preV hK hPc (ci := 3) rfl rfl) rfl rfl hl.1 rfl (lv_room (Nat.le_of_ble_eq_true rfl)) dX3_formPiece_23 ⟨Nat.zero_le _, Nat.zero_le _⟩) ?_
      refine lv_ishl hx hb dX3_formPiece_26 ?_
      refine lv_ior hx hb dX3_formPiece_27 ?_
      refine lv_istore (lv' := [(5, .int (v5 ||| ((1 : Int32) <<< (r23 &&& 31)))), (0, .ref h0), (1, .int x1), (2, .int x2), (3, .int x3), (4, .int x4), (6, .int v6)]) hx hb dX3_formPiece_28 hl (by decide) rfl (fun ls hl => ?_)
      refine lv_iinc (v := v6 + 1) (lv' := [(6, .int (v6 + 1)), (5, .int (v5 ||| ((1 : Int32) <<< (r23 &&& 31)))), (0, .ref h0), (1, .int x1), (2, .int x2), (3, .int x3), (4, .int x4)]) hx hb dX3_formPiece_30 hl (k := 6) rfl rfl (by decide) rfl (fun ls hl => ?_)
      refine lv_goto (tgt := 6) hx hb dX3_formPiece_33 (by decide) ?_
      exact hi6 _ (Ho_s h) ls (lv_sub hl [2, 3, 4, 5, 6, 1, 0] rfl)
  refine lv_iconst (v := (0 : Int32)) hx hb dX3_formPiece_0 (by decide) ?_
  refine lv_istore (lv' := [(5, .int (0 : Int32)), (0, .ref h0), (1, .int x1), (2, .int x2), (3, .int x3), (4, .int x4)]) hx hb dX3_formPiece_1 hl (by decide) rfl (fun ls hl => ?_)
  refine lv_iload_n hx hb dX3_formPiece_3 rfl (lv_at hl 4 rfl) ?_
  refine lv_istore (lv' := [(6, .int x3), (5, .int (0 : Int32)), (0, .ref h0), (1, .int x1), (2, .int x2), (3, .int x3), (4, .int x4)]) hx hb dX3_formPiece_4 hl (by decide) rfl (fun ls hl => ?_)
  exact J6 (0 : Int32) x3 ls (lv_sub hl [2, 3, 4, 5, 6, 1, 0] rfl) h
abbrev rmX3_formHasPiece : Room := { frames := 4, cells := 0, slots := 0, locals := 94 }
set_option maxHeartbeats 4000000 in
set_option maxRecDepth 100000 in
theorem c_X3_formHasPiece (l : Launch) (dC : Nat → ClassId) (dI : Nat → Nat → Nat) (cI cJ : ClassId) (h0 hc ha : Nat) (tk : Int32) (mb : Int32) (n : Int32) (ev : Int32) (f : Nat → Int32) (x1 : Int32) (x2 : Int32) (x3 : Int32) (r : Int32) (hF : FX3_formHasPiece tk n f x1 x2 x3 = some r) : Met l yX3_formHasPiece wsX3_formHasPiece rmX3_formHasPiece (roP (dC, dI) [(cI, .int), (cJ, .long)] [(h0, .inr (3, [.ref hc, .ref ha, .int tk, .int mb])), (hc, .inr (0, [.int n, .int ev])), (ha, .inl (cI, 12, .inl f))] [.ref h0, .int x1, .int x2, .int x3]) (vp_Si (fun x => x = r)) 0 0 (fun _ => False) := by
  refine ro_start (cc := cX3_formHasPiece) (maxL := 6) (ret := (some .boolean)) (by decide) rfl (Nat.le_of_ble_eq_true rfl) ?_
  intro p e s m args below meth c ls hx hb hml hr hlk hown hts hP hK hl
  have hown : s.vm.findClass RX3 = some m.cls := hown
  have hl : lv_has ls 6 [(0, .ref h0), (1, .int x1), (2, .int x2), (3, .int x3)] := hl
  have h : Ho (FX3_formHasPiece tk n f x1 x2 x3) (fun x => x = r) := ⟨r, hF, rfl⟩
  unfold FX3_formHasPiece at h
  have hfix : CallFix p m c cX3_formHasPiece 6 s args wsX3_formHasPiece RX3 := ⟨hx, hb, hml, hown, hts⟩
  have hiX3 : ∀ w ∈ u_ws RX3 TX3 4, w ∈ wsX3_formHasPiece := by decide +kernel
  have hf19 := hts (.fieldLink RX3 19 "RowClasses$Row" "taken" "I") (by decide +kernel)
  have J43 : ∀  (ls : Array Slot), lv_has ls 6 [] → Ho (X3_formHasPiece_43) (fun x => x = r) → W p l e rmX3_formHasPiece s m args below meth c s.heap [] 0 0 (MQ below (vp_Si (fun x => x = r)) args s 0 0 (fun _ => False)) (F0 m 43 ls []) := by
    intro  ls hl h
    unfold X3_formHasPiece_43 at h
    refine lv_iconst (v := (0 : Int32)) hx hb dX3_formHasPiece_43 (by decide) ?_
    exact W.zret (ty := .boolean) hx hb hr rfl (fun t ht _ => ro_Si (Ho_e h) ht) ro_nil dX3_formHasPiece_44 hlk
  have J35 : ∀  (ls : Array Slot), lv_has ls 6 [] → Ho (X3_formHasPiece_35) (fun x => x = r) → W p l e rmX3_formHasPiece s m args below meth c s.heap [] 0 0 (MQ below (vp_Si (fun x => x = r)) args s 0 0 (fun _ => False)) (F0 m 35 ls []) := by
    intro  ls hl h
    unfold X3_formHasPiece_35 at h
    refine lv_iconst (v := (1 : Int32)) hx hb dX3_formHasPiece_35 (by decide) ?_
    exact W.zret (ty := .boolean) hx hb hr rfl (fun t ht _ => ro_Si (Ho_e h) ht) ro_nil dX3_formHasPiece_36 hlk
  have J9 : ∀ (v4 : Int32) (v5 : Int32) (ls : Array Slot), lv_has ls 6 [(0, .ref h0), (1, .int x1), (2, .int x2), (3, .int x3), (4, .int v4), (5, .int v5)] → Ho ((X3_formHasPiece_9_l tk n f x1 x2 x3 v4 v5).bind (fun ex => Sum.elim (fun xy => X3_formHasPiece_35) (fun xy => X3_formHasPiece_43) ex)) (fun x => x = r) → W p l e rmX3_formHasPiece s m args below meth c s.heap [] 0 0 (MQ below (vp_Si (fun x => x = r)) args s 0 0 (fun _ => False)) (F0 m 9 ls []) := by
    intro v4 v5 ls hl h
    refine loop_use2 (fun z : Int32 => ∀ (ls : Array Slot), lv_has ls 6 [(0, .ref h0), (1, .int x1), (2, .int x2), (3, .int x3), (4, .int v4), (5, .int z)] → W p l e rmX3_formHasPiece s m args below meth c s.heap [] 0 0 (MQ below (vp_Si (fun x => x = r)) args s 0 0 (fun _ => False)) (F0 m 9 ls [])) ?_ FU _ h ls hl
    intro Q9 hi9 ho9 z h ls hl
    obtain ⟨v5, rfl⟩ : ∃ q, q = z := ⟨_, rfl⟩
    have h : Ho (X3_formHasPiece_9_s tk n f x1 x2 x3 v4 v5) Q9 := h
    unfold X3_formHasPiece_9_s at h
    have hl : lv_has ls 6 [(0, .ref h0), (1, .int x1), (2, .int x2), (3, .int x3), (4, .int v4), (5, .int v5)] := hl
    refine lv_iload hx hb dX3_formHasPiece_9 (lv_at hl 5 rfl) ?_
    refine lv_iload hx hb dX3_formHasPiece_11 (lv_at hl 4 rfl) ?_
    refine lv_iadd hx hb dX3_formHasPiece_13 ?_
    refine lv_aload_n hx hb dX3_formHasPiece_14 rfl (lv_at hl 0 rfl) ?_
    refine va_get (D := (dC, dI)) (ci := 3) (v := .int tk) (C := RX3) (T := TX3) (N := 4) hx hb hts hiX3 hown hK.1 hP 0 rfl rfl 2 (by decide) hf19 (fun _ h9 => h9) rfl dX3_formHasPiece_15 ?_
    refine lv_icmp_gt (tgt := 43) hx hb dX3_formHasPiece_18 (by decide) (fun q18 => ?_) (fun q18 => ?_)
    · have h := Ho_t h q18
      have h := ho9 _ (Ho_s h)
      exact J43  ls (lv_sub hl [] rfl) h
    · have h := Ho_f h q18
      refine lv_aload_n hx hb dX3_formHasPiece_21 rfl (lv_at hl 0 rfl) ?_
      refine lv_iload_n hx hb dX3_formHasPiece_22 rfl (lv_at hl 1 rfl) ?_
      refine lv_iload_n hx hb dX3_formHasPiece_23 rfl (lv_at hl 2 rfl) ?_
      refine lv_iload hx hb dX3_formHasPiece_24 (lv_at hl 5 rfl) ?_
      refine lv_iload hx hb dX3_formHasPiece_26 (lv_at hl 4 rfl) ?_
      obtain ⟨r28, hc28, h⟩ := Ho_b h
      have hPc : va_P (dC, dI) vwCl [(h0, .inr (3, [.ref hc, .ref ha, .int tk, .int mb])), (hc, .inr (0, [.int n, .int ev])), (ha, .inl (cI, 12, .inl f))] s.heap := hP.sub [0, 1, 2] rfl
      refine cs_i (va_runV (As := [.int x1, .int x2, .int v5, .int v4]) (rest := []) hfix (c_X3_formPiece l dC dI cI cJ h0 hc ha tk mb n ev f x1 x2 v5 v4 _ hc28) (cwV 4 hts gX3_formHasPiece_X3_formPiece rfl rfl rfl (by decide +kernel) ⟨by decide, by decide⟩) (roP.preV hK hPc (ci := 3) rfl rfl) rfl rfl hl.1 rfl (lv_room (Nat.le_of_ble_eq_true rfl)) dX3_formHasPiece_28 ⟨Nat.zero_le _, Nat.zero_le _⟩) ?_
      refine lv_iload_n hx hb dX3_formHasPiece_31 rfl (lv_at hl 3 rfl) ?_
      refine lv_icmp_ne (tgt := 37) hx hb dX3_formHasPiece_32 (by decide) (fun q32 => ?_) (fun q32 => ?_)
      · have h := Ho_f h q32
        refine lv_iinc (v := v5 + 1) (lv' := [(5, .int (v5 + 1)), (0, .ref h0), (1, .int x1), (2, .int x2), (3, .int x3), (4, .int v4)]) hx hb dX3_formHasPiece_37 hl (k := 5) rfl rfl (by decide) rfl (fun ls hl => ?_)
        refine lv_goto (tgt := 9) hx hb dX3_formHasPiece_40 (by decide) ?_
        exact hi9 _ (Ho_s h) ls (lv_sub hl [1, 2, 3, 4, 5, 0] rfl)
      · have h := Ho_t h q32
        have h := ho9 _ (Ho_s h)
        exact J35  ls (lv_sub hl [] rfl) h
  refine lv_iload_n hx hb dX3_formHasPiece_0 rfl (lv_at hl 3 rfl) ?_
  obtain ⟨r1, hc1, h⟩ := Ho_b h
  refine cs_i (va_runS (As := [.int x3]) (rest := []) hfix (c_J6_bitCount_0f7a4 l dC dI cI cJ  x3 _ hc1) (va_cwS 1 hts gX3_formHasPiece_J6_bitCount_0f7a4 rfl rfl rfl (by decide +kernel) ⟨by decide, by decide⟩) (roP.preS hK va_Pnil) rfl rfl hl.1 rfl (lv_room (Nat.le_of_ble_eq_true rfl)) dX3_formHasPiece_1 ⟨Nat.zero_le _, Nat.zero_le _⟩) ?_
  refine lv_istore (lv' := [(4, .int r1), (0, .ref h0), (1, .int x1), (2, .int x2), (3, .int x3)]) hx hb dX3_formHasPiece_4 hl (by decide) rfl (fun ls hl => ?_)
  refine lv_iconst (v := (0 : Int32)) hx hb dX3_formHasPiece_6 (by decide) ?_
  refine lv_istore (lv' := [(5, .int (0 : Int32)), (4, .int r1), (0, .ref h0), (1, .int x1), (2, .int x2), (3, .int x3)]) hx hb dX3_formHasPiece_7 hl (by decide) rfl (fun ls hl => ?_)
  exact J9 r1 (0 : Int32) ls (lv_sub hl [2, 3, 4, 5, 1, 0] rfl) h
abbrev rmX3_hasUnlikeIntervals : Room := { frames := 2, cells := 0, slots := 0, locals := 42 }
set_option maxHeartbeats 4000000 in
set_option maxRecDepth 100000 in
theorem c_X3_hasUnlikeIntervals (l : Launch) (dC : Nat → ClassId) (dI : Nat → Nat → Nat) (cI cJ : ClassId) (h0 hc ha : Nat) (tk : Int32) (mb : Int32) (n : Int32) (ev : Int32) (f : Nat → Int32) (r : Int32) (hF : FX3_hasUnlikeIntervals tk n f = some r) : Met l yX3_hasUnlikeIntervals wsX3_hasUnlikeIntervals rmX3_hasUnlikeIntervals (roP (dC, dI) [(cI, .int), (cJ, .long)] [(h0, .inr (3, [.ref hc, .ref ha, .int tk, .int mb])), (hc, .inr (0, [.int n, .int ev])), (ha, .inl (cI, 12, .inl f))] [.ref h0]) (vp_Si (fun x => x = r)) 0 0 (fun _ => False) := by
  refine ro_start (cc := cX3_hasUnlikeIntervals) (maxL := 4) (ret := (some .boolean)) (by decide) rfl (Nat.le_of_ble_eq_true rfl) ?_
  intro p e s m args below meth c ls hx hb hml hr hlk hown hts hP hK hl
  have hown : s.vm.findClass RX3 = some m.cls := hown
  have hl : lv_has ls 4 [(0, .ref h0)] := hl
  have h : Ho (FX3_hasUnlikeIntervals tk n f) (fun x => x = r) := ⟨r, hF, rfl⟩
  unfold FX3_hasUnlikeIntervals at h
  have hfix : CallFix p m c cX3_hasUnlikeIntervals 4 s args wsX3_hasUnlikeIntervals RX3 := ⟨hx, hb, hml, hown, hts⟩
  have hiX3 : ∀ w ∈ u_ws RX3 TX3 4, w ∈ wsX3_hasUnlikeIntervals := by decide +kernel
  have hf9 := hts (.fieldLink RX3 9 "RowClasses$Row" "circle" "LRowClasses$Circle;") (by decide +kernel)
  have hf19 := hts (.fieldLink RX3 19 "RowClasses$Row" "taken" "I") (by decide +kernel)
  have J53 : ∀  (ls : Array Slot), lv_has ls 4 [] → Ho (X3_hasUnlikeIntervals_53) (fun x => x = r) → W p l e rmX3_hasUnlikeIntervals s m args below meth c s.heap [] 0 0 (MQ below (vp_Si (fun x => x = r)) args s 0 0 (fun _ => False)) (F0 m 53 ls []) := by
    intro  ls hl h
    unfold X3_hasUnlikeIntervals_53 at h
    refine lv_iconst (v := (1 : Int32)) hx hb dX3_hasUnlikeIntervals_53 (by decide) ?_
    exact W.zret (ty := .boolean) hx hb hr rfl (fun t ht _ => ro_Si (Ho_e h) ht) ro_nil dX3_hasUnlikeIntervals_54 hlk
  have J41 : ∀  (ls : Array Slot), lv_has ls 4 [] → Ho (X3_hasUnlikeIntervals_41) (fun x => x = r) → W p l e rmX3_hasUnlikeIntervals s m args below meth c s.heap [] 0 0 (MQ below (vp_Si (fun x => x = r)) args s 0 0 (fun _ => False)) (F0 m 41 ls []) := by
    intro  ls hl h
    unfold X3_hasUnlikeIntervals_41 at h
    refine lv_iconst (v := (0 : Int32)) hx hb dX3_hasUnlikeIntervals_41 (by decide) ?_
    exact W.zret (ty := .boolean) hx hb hr rfl (fun t ht _ => ro_Si (Ho_e h) ht) ro_nil dX3_hasUnlikeIntervals_42 hlk
  have J4 : ∀ (v1 : Int32) (v2 : Int32) (ls : Array Slot), lv_has ls 4 [(0, .ref h0), (1, .int v1), (2, .int v2)] → Ho ((X3_hasUnlikeIntervals_4_l tk n f v1 v2).bind (fun ex => Sum.elim (fun xy => X3_hasUnlikeIntervals_41) (fun xy => X3_hasUnlikeIntervals_53) ex)) (fun x => x = r) → W p l e rmX3_hasUnlikeIntervals s m args below meth c s.heap [] 0 0 (MQ below (vp_Si (fun x => x = r)) args s 0 0 (fun _ => False)) (F0 m 4 ls []) := by
    intro v1 v2 ls hl h
    refine loop_use2 (fun z : Int32 × Int32 => ∀ (ls : Array Slot), lv_has ls 4 [(0, .ref h0), (1, .int z.1), (2, .int z.2)] → W p l e rmX3_hasUnlikeIntervals s m args below meth c s.heap [] 0 0 (MQ below (vp_Si (fun x => x = r)) args s 0 0 (fun _ => False)) (F0 m 4 ls [])) ?_ FU _ h ls hl
    intro Q4 hi4 ho4 z h ls hl
    obtain ⟨v1, v2⟩ := z
    have h : Ho (X3_hasUnlikeIntervals_4_s tk n f v1 v2) Q4 := h
    unfold X3_hasUnlikeIntervals_4_s at h
    have hl : lv_has ls 4 [(0, .ref h0), (1, .int v1), (2, .int v2)] := hl
    refine lv_iload_n hx hb dX3_hasUnlikeIntervals_4 rfl (lv_at hl 2 rfl) ?_
    refine lv_aload_n hx hb dX3_hasUnlikeIntervals_5 rfl (lv_at hl 0 rfl) ?_
    refine va_get (D := (dC, dI)) (ci := 3) (v := .int tk) (C := RX3) (T := TX3) (N := 4) hx hb hts hiX3 hown hK.1 hP 0 rfl rfl 2 (by decide) hf19 (fun _ h9 => h9) rfl dX3_hasUnlikeIntervals_6 ?_
    refine lv_icmp_ge (tgt := 53) hx hb dX3_hasUnlikeIntervals_9 (by decide) (fun q9 => ?_) (fun q9 => ?_)
    · have h := Ho_t h q9
      have h := ho4 _ (Ho_s h)
      exact J53  ls (lv_sub hl [] rfl) h
    · have h := Ho_f h q9
      refine lv_iconst (v := (1 : Int32)) hx hb dX3_hasUnlikeIntervals_12 (by decide) ?_
      refine lv_aload_n hx hb dX3_hasUnlikeIntervals_13 rfl (lv_at hl 0 rfl) ?_
      refine va_get (D := (dC, dI)) (ci := 3) (v := .ref hc) (C := RX3) (T := TX3) (N := 4) hx hb hts hiX3 hown hK.1 hP 0 rfl rfl 0 (by decide) hf9 (fun _ h9 => h9) rfl dX3_hasUnlikeIntervals_14 ?_
      refine lv_aload_n hx hb dX3_hasUnlikeIntervals_17 rfl (lv_at hl 0 rfl) ?_
      refine lv_iload_n hx hb dX3_hasUnlikeIntervals_18 rfl (lv_at hl 2 rfl) ?_
      obtain ⟨r19, hc19, h⟩ := Ho_b h
      have hPc : va_P (dC, dI) vwCl [(h0, .inr (3, [.ref hc, .ref ha, .int tk, .int mb])), (hc, .inr (0, [.int n, .int ev])), (ha, .inl (cI, 12, .inl f))] s.heap := hP.sub [0, 1, 2] rfl
      refine cs_i (va_runV (As := [.int v2]) (rest := [.ref hc, .int (1 : Int32)]) hfix (c_X3_at l dC dI cI cJ h0 hc ha tk mb n ev f v2 _ hc19) (cwV 1 hts gX3_hasUnlikeIntervals_X3_at rfl rfl rfl (by decide +kernel) ⟨by decide, by decide⟩) (roP.preV hK hPc (ci := 3) rfl rfl) rfl rfl hl.1 rfl (lv_room (Nat.le_of_ble_eq_true rfl)) dX3_hasUnlikeIntervals_19 ⟨Nat.zero_le _, Nat.zero_le _⟩) ?_
      refine lv_aload_n hx hb dX3_hasUnlikeIntervals_22 rfl (lv_at hl 0 rfl) ?_
      refine lv_iload_n hx hb dX3_hasUnlikeIntervals_23 rfl (lv_at hl 2 rfl) ?_
      refine lv_iconst (v := (1 : Int32)) hx hb dX3_hasUnlikeIntervals_24 (by decide) ?_
      refine lv_isub hx hb dX3_hasUnlikeIntervals_25 ?_
      obtain ⟨r26, hc26, h⟩ := Ho_b h
      have hPc : va_P (dC, dI) vwCl [(h0, .inr (3, [.ref hc, .ref ha, .int tk, .int mb])), (hc, .inr (0, [.int n, .int ev])), (ha, .inl (cI, 12, .inl f))] s.heap := hP.sub [0, 1, 2] rfl
      refine cs_i (va_runV (As := [.int (v2 - (1 : Int32))]) (rest := [.int r19, .ref hc, .int (1 : Int32)]) hfix (c_X3_at l dC dI cI cJ h0 hc ha tk mb n ev f (v2 - (1 : Int32)) _ hc26) (cwV 1 hts gX3_hasUnlikeIntervals_X3_at rfl rfl rfl (by decide +kernel) ⟨by decide, by decide⟩) (roP.preV hK hPc (ci := 3) rfl rfl) rfl rfl hl.1 rfl (lv_room (Nat.le_of_ble_eq_true rfl)) dX3_hasUnlikeIntervals_26 ⟨Nat.zero_le _, Nat.zero_le _⟩) ?_
      refine lv_isub hx hb dX3_hasUnlikeIntervals_29 ?_
      obtain ⟨r30, hc30, h⟩ := Ho_b h
      have hPc : va_P (dC, dI) vwCl [(hc, .inr (0, [.int n, .int ev]))] s.heap := hP.sub [1] rfl
      refine cs_i (va_runV (As := [.int (r19 - r26)]) (rest := [.int (1 : Int32)]) hfix (c_X0_wrapped l dC dI cI cJ hc n ev (r19 - r26) _ hc30) (cwV 1 hts gX3_hasUnlikeIntervals_X0_wrapped rfl rfl rfl (by decide +kernel) ⟨by decide, by decide⟩) (roP.preV hK hPc (ci := 0) rfl rfl) rfl rfl hl.1 rfl (lv_room (Nat.le_of_ble_eq_true rfl)) dX3_hasUnlikeIntervals_30 ⟨Nat.zero_le _, Nat.zero_le _⟩) ?_
      refine lv_ishl hx hb dX3_hasUnlikeIntervals_33 ?_
      refine lv_istore_n (lv' := [(3, .int ((1 : Int32) <<< (r30 &&& 31))), (0, .ref h0), (1, .int v1), (2, .int v2)]) hx hb dX3_hasUnlikeIntervals_34 rfl hl (by decide) rfl (fun ls hl => ?_)
      refine lv_iload_n hx hb dX3_hasUnlikeIntervals_35 rfl (lv_at hl 2 rfl) ?_
      refine lv_iload_n hx hb dX3_hasUnlikeIntervals_36 rfl (lv_at hl 0 rfl) ?_
      refine lv_iand hx hb dX3_hasUnlikeIntervals_37 ?_
      refine lv_if_eq (tgt := 43) hx hb dX3_hasUnlikeIntervals_38 (by decide) (fun q38 => ?_) (fun q38 => ?_)
      · have h := Ho_t h q38
        refine lv_iload_n hx hb dX3_hasUnlikeIntervals_43 rfl (lv_at hl 2 rfl) ?_
        refine lv_iload_n hx hb dX3_hasUnlikeIntervals_44 rfl (lv_at hl 0 rfl) ?_
        refine lv_ior hx hb dX3_hasUnlikeIntervals_45 ?_
        refine lv_istore_n (lv' := [(1, .int (v1 ||| ((1 : Int32) <<< (r30 &&& 31)))), (3, .int ((1 : Int32) <<< (r30 &&& 31))), (0, .ref h0), (2, .int v2)]) hx hb dX3_hasUnlikeIntervals_46 rfl hl (by decide) rfl (fun ls hl => ?_)
        refine lv_iinc (v := v2 + 1) (lv' := [(2, .int (v2 + 1)), (1, .int (v1 ||| ((1 : Int32) <<< (r30 &&& 31)))), (3, .int ((1 : Int32) <<< (r30 &&& 31))), (0, .ref h0)]) hx hb dX3_hasUnlikeIntervals_47 hl (k := 3) rfl rfl (by decide) rfl (fun ls hl => ?_)
        refine lv_goto (tgt := 4) hx hb dX3_hasUnlikeIntervals_50 (by decide) ?_
        exact hi4 _ (Ho_s h) ls (lv_sub hl [3, 1, 0] rfl)
      · have h := Ho_f h q38
        have h := ho4 _ (Ho_s h)
        exact J41  ls (lv_sub hl [] rfl) h
  refine lv_iconst (v := (0 : Int32)) hx hb dX3_hasUnlikeIntervals_0 (by decide) ?_
  refine lv_istore_n (lv' := [(1, .int (0 : Int32)), (0, .ref h0)]) hx hb dX3_hasUnlikeIntervals_1 rfl hl (by decide) rfl (fun ls hl => ?_)
  refine lv_iconst (v := (1 : Int32)) hx hb dX3_hasUnlikeIntervals_2 (by decide) ?_
  refine lv_istore_n (lv' := [(2, .int (1 : Int32)), (1, .int (0 : Int32)), (0, .ref h0)]) hx hb dX3_hasUnlikeIntervals_3 rfl hl (by decide) rfl (fun ls hl => ?_)
  exact J4 (0 : Int32) (1 : Int32) ls (lv_sub hl [2, 1, 0] rfl) h
abbrev rmX4_alikeFirst : Room := { frames := 1, cells := 0, slots := 0, locals := 22 }
set_option maxHeartbeats 4000000 in
set_option maxRecDepth 100000 in
theorem c_X4_alikeFirst (l : Launch) (dC : Nat → ClassId) (dI : Nat → Nat → Nat) (cI cJ : ClassId) (x0 : Int32) (x1 : Int32) (r : Int32) (hF : FX4_alikeFirst x0 x1 = some r) : Met l yX4_alikeFirst wsX4_alikeFirst rmX4_alikeFirst (roP (dC, dI) [(cI, .int), (cJ, .long)] [] [.int x0, .int x1]) (vp_Si (fun x => x = r)) 0 0 (fun _ => False) := by
  refine ro_start (cc := cX4_alikeFirst) (maxL := 4) (ret := (some .int)) (by decide) rfl (Nat.le_of_ble_eq_true rfl) ?_
  intro p e s m args below meth c ls hx hb hml hr hlk hown hts hP hK hl
  have hown : s.vm.findClass RX4 = some m.cls := hown
  have hl : lv_has ls 4 [(0, .int x0), (1, .int x1)] := hl
  have h : Ho (FX4_alikeFirst x0 x1) (fun x => x = r) := ⟨r, hF, rfl⟩
  unfold FX4_alikeFirst at h
  have hfix : CallFix p m c cX4_alikeFirst 4 s args wsX4_alikeFirst RX4 := ⟨hx, hb, hml, hown, hts⟩
  have J27 : ∀ (v2 : Int32) (ls : Array Slot), lv_has ls 4 [(2, .int v2)] → Ho (X4_alikeFirst_27 v2) (fun x => x = r) → W p l e rmX4_alikeFirst s m args below meth c s.heap [] 0 0 (MQ below (vp_Si (fun x => x = r)) args s 0 0 (fun _ => False)) (F0 m 27 ls []) := by
    intro v2 ls hl h
    unfold X4_alikeFirst_27 at h
    refine lv_iload_n hx hb dX4_alikeFirst_27 rfl (lv_at hl 0 rfl) ?_
    exact W.iret hx hb hr (fun t ht _ => ro_Si (Ho_e h) ht) ro_nil dX4_alikeFirst_28 hlk
  have J4 : ∀ (v2 : Int32) (v3 : Int32) (ls : Array Slot), lv_has ls 4 [(0, .int x0), (1, .int x1), (2, .int v2), (3, .int v3)] → Ho ((X4_alikeFirst_4_l x0 x1 v2 v3).bind (fun ex => X4_alikeFirst_27 ex)) (fun x => x = r) → W p l e rmX4_alikeFirst s m args below meth c s.heap [] 0 0 (MQ below (vp_Si (fun x => x = r)) args s 0 0 (fun _ => False)) (F0 m 4 ls []) := by
    intro v2 v3 ls hl h
    refine loop_use2 (fun z : Int32 × Int32 => ∀ (ls : Array Slot), lv_has ls 4 [(0, .int x0), (1, .int x1), (2, .int z.1), (3, .int z.2)] → W p l e rmX4_alikeFirst s m args below meth c s.heap [] 0 0 (MQ below (vp_Si (fun x => x = r)) args s 0 0 (fun _ => False)) (F0 m 4 ls [])) ?_ FU _ h ls hl
    intro Q4 hi4 ho4 z h ls hl
    obtain ⟨v2, v3⟩ := z
    have h : Ho (X4_alikeFirst_4_s x0 x1 v2 v3) Q4 := h
    unfold X4_alikeFirst_4_s at h
    have hl : lv_has ls 4 [(0, .int x0), (1, .int x1), (2, .int v2), (3, .int v3)] := hl
    refine lv_iload_n hx hb dX4_alikeFirst_4 rfl (lv_at hl 3 rfl) ?_
    refine lv_iload_n hx hb dX4_alikeFirst_5 rfl (lv_at hl 0 rfl) ?_
    refine lv_icmp_ge (tgt := 27) hx hb dX4_alikeFirst_6 (by decide) (fun q6 => ?_) (fun q6 => ?_)
    · have h := Ho_t h q6
      have h := ho4 _ (Ho_s h)
      exact J27 v2 ls (lv_sub hl [2] rfl) h
    · have h := Ho_f h q6
      refine lv_iload_n hx hb dX4_alikeFirst_9 rfl (lv_at hl 3 rfl) ?_
      refine lv_iload_n hx hb dX4_alikeFirst_10 rfl (lv_at hl 0 rfl) ?_
      obtain ⟨r11, hc11, h⟩ := Ho_b h
      have hin11 := hts (.initialized RX5) (by decide +kernel)
      have hst11 := hts (.static yX5_commonDivisor) (by decide +kernel)
      refine cs_i (va_runSN (As := [.int v3, .int x0]) (rest := []) hfix (c_X5_commonDivisor l dC dI cI cJ  v3 x0 _ hc11) ⟨va_cnB 2 hts gX4_alikeFirst_X5_commonDivisor_n27 rfl rfl rfl hK.2.2.2 hin11 (by decide +kernel) ⟨by decide, by decide⟩, hst11, trivial⟩ (roP.preS hK va_Pnil) rfl rfl hl.1 rfl (lv_room (Nat.le_of_ble_eq_true rfl)) dX4_alikeFirst_11 ⟨Nat.zero_le _, Nat.zero_le _⟩) ?_
      refine lv_iload_n hx hb dX4_alikeFirst_14 rfl (lv_at hl 1 rfl) ?_
      refine lv_icmp_ne (tgt := 21) hx hb dX4_alikeFirst_15 (by decide) (fun q15 => ?_) (fun q15 => ?_)
      · have h := Ho_f h q15
        refine lv_iinc (v := v3 + 1) (lv' := [(3, .int (v3 + 1)), (0, .int x0), (1, .int x1), (2, .int v2)]) hx hb dX4_alikeFirst_21 hl (k := 3) rfl rfl (by decide) rfl (fun ls hl => ?_)
        refine lv_goto (tgt := 4) hx hb dX4_alikeFirst_24 (by decide) ?_
        exact hi4 _ (Ho_s h) ls (lv_sub hl [1, 2, 3, 0] rfl)
      · have h := Ho_t h q15
        refine lv_iinc (v := v2 + 1) (lv' := [(2, .int (v2 + 1)), (0, .int x0), (1, .int x1), (3, .int v3)]) hx hb dX4_alikeFirst_18 hl (k := 2) rfl rfl (by decide) rfl (fun ls hl => ?_)
        refine lv_iinc (v := v3 + 1) (lv' := [(3, .int (v3 + 1)), (2, .int (v2 + 1)), (0, .int x0), (1, .int x1)]) hx hb dX4_alikeFirst_21 hl (k := 3) rfl rfl (by decide) rfl (fun ls hl => ?_)
        refine lv_goto (tgt := 4) hx hb dX4_alikeFirst_24 (by decide) ?_
        exact hi4 _ (Ho_s h) ls (lv_sub hl [2, 3, 1, 0] rfl)
  refine lv_iconst (v := (0 : Int32)) hx hb dX4_alikeFirst_0 (by decide) ?_
  refine lv_istore_n (lv' := [(2, .int (0 : Int32)), (0, .int x0), (1, .int x1)]) hx hb dX4_alikeFirst_1 rfl hl (by decide) rfl (fun ls hl => ?_)
  refine lv_iconst (v := (1 : Int32)) hx hb dX4_alikeFirst_2 (by decide) ?_
  refine lv_istore_n (lv' := [(3, .int (1 : Int32)), (2, .int (0 : Int32)), (0, .int x0), (1, .int x1)]) hx hb dX4_alikeFirst_3 rfl hl (by decide) rfl (fun ls hl => ?_)
  exact J4 (0 : Int32) (1 : Int32) ls (lv_sub hl [2, 3, 1, 0] rfl) h
abbrev rmX4_endings_d (d : Nat) : Room := { frames := d, cells := 0, slots := 0, locals := 28 * d }
set_option maxHeartbeats 4000000 in
set_option maxRecDepth 100000 in
theorem c_X4_endings_b (l : Launch) (dC : Nat → ClassId) (dI : Nat → Nat → Nat) (cI cJ : ClassId) (d : Nat) (rec : Int32 → Int32 → Int32 → Int32 → Int32 → Option Int32) (hrec : ∀ (x0 : Int32) (x1 : Int32) (x2 : Int32) (x3 : Int32) (x4 : Int32) (r : Int32), rec x0 x1 x2 x3 x4 = some r → Met l yX4_endings wsX4_endings (rmX4_endings_d d) (roP (dC, dI) [(cI, .int), (cJ, .long)] [] [.int x0, .int x1, .int x2, .int x3, .int x4]) (vp_Si (fun x => x = r)) 0 0 (fun _ => False)) (x0 : Int32) (x1 : Int32) (x2 : Int32) (x3 : Int32) (x4 : Int32) (r : Int32) (hF : FX4_endings_b rec x0 x1 x2 x3 x4 = some r) : Met l yX4_endings wsX4_endings (rmX4_endings_d (d + 1)) (roP (dC, dI) [(cI, .int), (cJ, .long)] [] [.int x0, .int x1, .int x2, .int x3, .int x4]) (vp_Si (fun x => x = r)) 0 0 (fun _ => False) := by
  refine ro_start (cc := cX4_endings) (maxL := 9) (ret := (some .int)) (by decide) rfl (Nat.le_of_ble_eq_true rfl) ?_
  intro p e s m args below meth c ls hx hb hml hr hlk hown hts hP hK hl
  have hown : s.vm.findClass RX4 = some m.cls := hown
  have hl : lv_has ls 9 [(0, .int x0), (1, .int x1), (2, .int x2), (3, .int x3), (4, .int x4)] := hl
  have h : Ho (FX4_endings_b rec x0 x1 x2 x3 x4) (fun x => x = r) := ⟨r, hF, rfl⟩
  unfold FX4_endings_b at h
  have hfix : CallFix p m c cX4_endings 9 s args wsX4_endings RX4 := ⟨hx, hb, hml, hown, hts⟩
  have J108 : ∀ (v6 : Int32) (ls : Array Slot), lv_has ls 9 [(6, .int v6)] → Ho (X4_endings_108 v6) (fun x => x = r) → W p l e (rmX4_endings_d (d + 1)) s m args below meth c s.heap [] 0 0 (MQ below (vp_Si (fun x => x = r)) args s 0 0 (fun _ => False)) (F0 m 108 ls []) := by
    intro v6 ls hl h
    unfold X4_endings_108 at h
    refine lv_iload hx hb dX4_endings_108 (lv_at hl 0 rfl) ?_
    exact W.iret hx hb hr (fun t ht _ => ro_Si (Ho_e h) ht) ro_nil dX4_endings_110 hlk
  have J33 : ∀ (v5 : Int32) (v6 : Int32) (v7 : Int32) (ls : Array Slot), lv_has ls 9 [(0, .int x0), (1, .int x1), (2, .int x2), (3, .int x3), (4, .int x4), (5, .int v5), (6, .int v6), (7, .int v7)] → Ho ((X4_endings_33_l x0 x1 x2 x3 x4 rec v5 v6 v7).bind (fun ex => X4_endings_108 ex)) (fun x => x = r) → W p l e (rmX4_endings_d (d + 1)) s m args below meth c s.heap [] 0 0 (MQ below (vp_Si (fun x => x = r)) args s 0 0 (fun _ => False)) (F0 m 33 ls []) := by
    intro v5 v6 v7 ls hl h
    refine loop_use2 (fun z : Int32 × Int32 => ∀ (ls : Array Slot), lv_has ls 9 [(0, .int x0), (1, .int x1), (2, .int x2), (3, .int x3), (4, .int x4), (5, .int v5), (6, .int z.1), (7, .int z.2)] → W p l e (rmX4_endings_d (d + 1)) s m args below meth c s.heap [] 0 0 (MQ below (vp_Si (fun x => x = r)) args s 0 0 (fun _ => False)) (F0 m 33 ls [])) ?_ FU _ h ls hl
    intro Q33 hi33 ho33 z h ls hl
    obtain ⟨v6, v7⟩ := z
    have h : Ho (X4_endings_33_s x0 x1 x2 x3 x4 rec v5 v6 v7) Q33 := h
    unfold X4_endings_33_s at h
    have hl : lv_has ls 9 [(0, .int x0), (1, .int x1), (2, .int x2), (3, .int x3), (4, .int x4), (5, .int v5), (6, .int v6), (7, .int v7)] := hl
    have J69 : ∀ (v6 : Int32) (v7 : Int32) (t0 : Int32) (ls : Array Slot), lv_has ls 9 [(0, .int x0), (1, .int x1), (2, .int x2), (3, .int x3), (4, .int x4), (5, .int v5), (6, .int v6), (7, .int v7)] → Ho (X4_endings_69 x0 x2 x3 x4 rec v5 v6 v7 t0) Q33 → W p l e (rmX4_endings_d (d + 1)) s m args below meth c s.heap [] 0 0 (MQ below (vp_Si (fun x => x = r)) args s 0 0 (fun _ => False)) (F0 m 69 ls [.int t0]) := by
      intro v6 v7 t0 ls hl h
      unfold X4_endings_69 at h
      refine lv_istore (lv' := [(8, .int t0), (0, .int x0), (1, .int x1), (2, .int x2), (3, .int x3), (4, .int x4), (5, .int v5), (6, .int v6), (7, .int v7)]) hx hb dX4_endings_69 hl (by decide) rfl (fun ls hl => ?_)
      refine lv_iload hx hb dX4_endings_71 (lv_at hl 7 rfl) ?_
      refine lv_iload_n hx hb dX4_endings_73 rfl (lv_at hl 1 rfl) ?_
      refine lv_iload hx hb dX4_endings_74 (lv_at hl 8 rfl) ?_
      refine lv_iload_n hx hb dX4_endings_76 rfl (lv_at hl 3 rfl) ?_
      refine lv_iconst (v := (1 : Int32)) hx hb dX4_endings_77 (by decide) ?_
      refine lv_iload hx hb dX4_endings_78 (lv_at hl 8 rfl) ?_
      refine lv_ishl hx hb dX4_endings_80 ?_
      refine lv_iconst (v := (-1 : Int32)) hx hb dX4_endings_81 (by decide) ?_
      refine lv_ixor hx hb dX4_endings_82 ?_
      refine lv_iand hx hb dX4_endings_83 ?_
      refine lv_iload_n hx hb dX4_endings_84 rfl (lv_at hl 4 rfl) ?_
      refine lv_iconst (v := (1 : Int32)) hx hb dX4_endings_85 (by decide) ?_
      refine lv_iload hx hb dX4_endings_86 (lv_at hl 0 rfl) ?_
      refine lv_ishl hx hb dX4_endings_88 ?_
      refine lv_iconst (v := (-1 : Int32)) hx hb dX4_endings_89 (by decide) ?_
      refine lv_ixor hx hb dX4_endings_90 ?_
      refine lv_iand hx hb dX4_endings_91 ?_
      refine lv_iload hx hb dX4_endings_92 (lv_at hl 5 rfl) ?_
      refine lv_iconst (v := (1 : Int32)) hx hb dX4_endings_94 (by decide) ?_
      refine lv_isub hx hb dX4_endings_95 ?_
      obtain ⟨r96, hc96, h⟩ := Ho_b h
      refine cs_i (va_runS (As := [.int x0, .int v7, .int (x2 &&& (((1 : Int32) <<< (v7 &&& 31)) ^^^ (-1 : Int32))), .int (x3 &&& (((1 : Int32) <<< (t0 &&& 31)) ^^^ (-1 : Int32))), .int (x4 - (1 : Int32))]) (rest := [.int v6]) hfix (hrec x0 v7 (x2 &&& (((1 : Int32) <<< (v7 &&& 31)) ^^^ (-1 : Int32))) (x3 &&& (((1 : Int32) <<< (t0 &&& 31)) ^^^ (-1 : Int32))) (x4 - (1 : Int32)) _ hc96) (va_cwS 5 hts gX4_endings_X4_endings rfl rfl rfl (by decide +kernel) ⟨Nat.le_refl _, by show 8 + (9 + 11) + 28 * d ≤ 28 * (d + 1); omega⟩) (roP.preS hK va_Pnil) rfl rfl hl.1 rfl (lv_room (Nat.le_of_ble_eq_true rfl)) dX4_endings_96 ⟨Nat.zero_le _, Nat.zero_le _⟩) ?_
      refine lv_iadd hx hb dX4_endings_99 ?_
      refine lv_istore (lv' := [(6, .int (v6 + r96)), (8, .int t0), (0, .int x0), (1, .int x1), (2, .int x2), (3, .int x3), (4, .int x4), (5, .int v5), (7, .int v7)]) hx hb dX4_endings_100 hl (by decide) rfl (fun ls hl => ?_)
      refine lv_iinc (v := v7 + 1) (lv' := [(7, .int (v7 + 1)), (6, .int (v6 + r96)), (8, .int t0), (0, .int x0), (1, .int x1), (2, .int x2), (3, .int x3), (4, .int x4), (5, .int v5)]) hx hb dX4_endings_102 hl (k := 8) rfl rfl (by decide) rfl (fun ls hl => ?_)
      refine lv_goto (tgt := 33) hx hb dX4_endings_105 (by decide) ?_
      exact hi33 _ (Ho_s h) ls (lv_sub hl [3, 4, 5, 6, 7, 8, 1, 0] rfl)
    refine lv_iload hx hb dX4_endings_33 (lv_at hl 7 rfl) ?_
    refine lv_iload_n hx hb dX4_endings_35 rfl (lv_at hl 0 rfl) ?_
    refine lv_icmp_ge (tgt := 108) hx hb dX4_endings_36 (by decide) (fun q36 => ?_) (fun q36 => ?_)
    · have h := Ho_t h q36
      have h := ho33 _ (Ho_s h)
      exact J108 v6 ls (lv_sub hl [6] rfl) h
    · have h := Ho_f h q36
      refine lv_iload hx hb dX4_endings_39 (lv_at hl 5 rfl) ?_
      refine lv_iload hx hb dX4_endings_41 (lv_at hl 7 rfl) ?_
      refine lv_ishr hx hb dX4_endings_43 ?_
      refine lv_iconst (v := (1 : Int32)) hx hb dX4_endings_44 (by decide) ?_
      refine lv_iand hx hb dX4_endings_45 ?_
      refine lv_iconst (v := (1 : Int32)) hx hb dX4_endings_46 (by decide) ?_
      refine lv_icmp_ne (tgt := 102) hx hb dX4_endings_47 (by decide) (fun q47 => ?_) (fun q47 => ?_)
      · have h := Ho_f h q47
        refine lv_iinc (v := v7 + 1) (lv' := [(7, .int (v7 + 1)), (0, .int x0), (1, .int x1), (2, .int x2), (3, .int x3), (4, .int x4), (5, .int v5), (6, .int v6)]) hx hb dX4_endings_102 hl (k := 7) rfl rfl (by decide) rfl (fun ls hl => ?_)
        refine lv_goto (tgt := 33) hx hb dX4_endings_105 (by decide) ?_
        exact hi33 _ (Ho_s h) ls (lv_sub hl [1, 2, 3, 4, 5, 6, 7, 0] rfl)
      · have h := Ho_t h q47
        refine lv_iload hx hb dX4_endings_50 (lv_at hl 7 rfl) ?_
        refine lv_iload_n hx hb dX4_endings_52 rfl (lv_at hl 1 rfl) ?_
        refine lv_icmp_le (tgt := 63) hx hb dX4_endings_53 (by decide) (fun q53 => ?_) (fun q53 => ?_)
        · have h := Ho_t h q53
          refine lv_iload hx hb dX4_endings_63 (lv_at hl 7 rfl) ?_
          refine lv_iload_n hx hb dX4_endings_65 rfl (lv_at hl 1 rfl) ?_
          refine lv_isub hx hb dX4_endings_66 ?_
          refine lv_iload_n hx hb dX4_endings_67 rfl (lv_at hl 0 rfl) ?_
          refine lv_iadd hx hb dX4_endings_68 ?_
          exact J69 v6 v7 ((v7 - x1) + x0) ls (lv_sub hl [0, 1, 2, 3, 4, 5, 6, 7] rfl) h
        · have h := Ho_f h q53
          refine lv_iload hx hb dX4_endings_56 (lv_at hl 7 rfl) ?_
          refine lv_iload_n hx hb dX4_endings_58 rfl (lv_at hl 1 rfl) ?_
          refine lv_isub hx hb dX4_endings_59 ?_
          refine lv_goto (tgt := 69) hx hb dX4_endings_60 (by decide) ?_
          exact J69 v6 v7 (v7 - x1) ls (lv_sub hl [0, 1, 2, 3, 4, 5, 6, 7] rfl) h
  refine lv_iload hx hb dX4_endings_0 (lv_at hl 4 rfl) ?_
  refine lv_if_gt (tgt := 7) hx hb dX4_endings_2 (by decide) (fun q2 => ?_) (fun q2 => ?_)
  · have h := Ho_t h q2
    refine lv_iload_n hx hb dX4_endings_7 rfl (lv_at hl 3 rfl) ?_
    refine lv_iload_n hx hb dX4_endings_8 rfl (lv_at hl 1 rfl) ?_
    refine lv_ishl hx hb dX4_endings_9 ?_
    refine lv_iload_n hx hb dX4_endings_10 rfl (lv_at hl 3 rfl) ?_
    refine lv_iload_n hx hb dX4_endings_11 rfl (lv_at hl 0 rfl) ?_
    refine lv_iload_n hx hb dX4_endings_12 rfl (lv_at hl 1 rfl) ?_
    refine lv_isub hx hb dX4_endings_13 ?_
    refine lv_ishr hx hb dX4_endings_14 ?_
    refine lv_ior hx hb dX4_endings_15 ?_
    refine lv_iload_n hx hb dX4_endings_16 rfl (lv_at hl 2 rfl) ?_
    refine lv_iand hx hb dX4_endings_17 ?_
    refine lv_istore (lv' := [(5, .int (((x3 <<< (x1 &&& 31)) ||| (x3 >>> ((x0 - x1) &&& 31))) &&& x2)), (0, .int x0), (1, .int x1), (2, .int x2), (3, .int x3), (4, .int x4)]) hx hb dX4_endings_18 hl (by decide) rfl (fun ls hl => ?_)
    refine lv_iload hx hb dX4_endings_20 (lv_at hl 0 rfl) ?_
    refine lv_if_ne (tgt := 27) hx hb dX4_endings_22 (by decide) (fun q22 => ?_) (fun q22 => ?_)
    · have h := Ho_f h q22
      refine lv_iconst (v := (0 : Int32)) hx hb dX4_endings_27 (by decide) ?_
      refine lv_istore (lv' := [(6, .int (0 : Int32)), (5, .int (((x3 <<< (x1 &&& 31)) ||| (x3 >>> ((x0 - x1) &&& 31))) &&& x2)), (0, .int x0), (1, .int x1), (2, .int x2), (3, .int x3), (4, .int x4)]) hx hb dX4_endings_28 hl (by decide) rfl (fun ls hl => ?_)
      refine lv_iconst (v := (1 : Int32)) hx hb dX4_endings_30 (by decide) ?_
      refine lv_istore (lv' := [(7, .int (1 : Int32)), (6, .int (0 : Int32)), (5, .int (((x3 <<< (x1 &&& 31)) ||| (x3 >>> ((x0 - x1) &&& 31))) &&& x2)), (0, .int x0), (1, .int x1), (2, .int x2), (3, .int x3), (4, .int x4)]) hx hb dX4_endings_31 hl (by decide) rfl (fun ls hl => ?_)
      exact J33 (((x3 <<< (x1 &&& 31)) ||| (x3 >>> ((x0 - x1) &&& 31))) &&& x2) (0 : Int32) (1 : Int32) ls (lv_sub hl [3, 4, 5, 6, 7, 2, 1, 0] rfl) h
    · have h := Ho_t h q22
      refine lv_iconst (v := (0 : Int32)) hx hb dX4_endings_25 (by decide) ?_
      exact W.iret hx hb hr (fun t ht _ => ro_Si (Ho_e h) ht) ro_nil dX4_endings_26 hlk
  · have h := Ho_f h q2
    refine lv_iconst (v := (1 : Int32)) hx hb dX4_endings_5 (by decide) ?_
    exact W.iret hx hb hr (fun t ht _ => ro_Si (Ho_e h) ht) ro_nil dX4_endings_6 hlk
theorem c_X4_endings (l : Launch) (dC : Nat → ClassId) (dI : Nat → Nat → Nat) (cI cJ : ClassId) : ∀ (d : Nat) (x0 : Int32) (x1 : Int32) (x2 : Int32) (x3 : Int32) (x4 : Int32) (r : Int32) (hF : FX4_endings d x0 x1 x2 x3 x4 = some r), Met l yX4_endings wsX4_endings (rmX4_endings_d d) (roP (dC, dI) [(cI, .int), (cJ, .long)] [] [.int x0, .int x1, .int x2, .int x3, .int x4]) (vp_Si (fun x => x = r)) 0 0 (fun _ => False) := by
  intro d
  induction d with
  | zero => intro x0 x1 x2 x3 x4 r hF; cases hF
  | succ d ih => intro x0 x1 x2 x3 x4 r hF; exact c_X4_endings_b l dC dI cI cJ d (FX4_endings d) ih x0 x1 x2 x3 x4 r hF
abbrev rmX4_search : Room := { frames := 13, cells := 0, slots := 0, locals := 364 }
set_option maxHeartbeats 4000000 in
set_option maxRecDepth 100000 in
theorem c_X4_search (l : Launch) (dC : Nat → ClassId) (dI : Nat → Nat → Nat) (cI cJ : ClassId) (x0 : Int32) (r : Int32) (hF : FX4_search x0 = some r) : Met l yX4_search wsX4_search rmX4_search (roP (dC, dI) [(cI, .int), (cJ, .long)] [] [.int x0]) (vp_Si (fun x => x = r)) 0 0 (fun _ => False) := by
  refine ro_start (cc := cX4_search) (maxL := 6) (ret := (some .int)) (by decide) rfl (Nat.le_of_ble_eq_true rfl) ?_
  intro p e s m args below meth c ls hx hb hml hr hlk hown hts hP hK hl
  have hown : s.vm.findClass RX4 = some m.cls := hown
  have hl : lv_has ls 6 [(0, .int x0)] := hl
  have h : Ho (FX4_search x0) (fun x => x = r) := ⟨r, hF, rfl⟩
  unfold FX4_search at h
  have hfix : CallFix p m c cX4_search 6 s args wsX4_search RX4 := ⟨hx, hb, hml, hown, hts⟩
  have J85 : ∀ (v3 : Int32) (ls : Array Slot), lv_has ls 6 [(3, .int v3)] → Ho (X4_search_85 v3) (fun x => x = r) → W p l e rmX4_search s m args below meth c s.heap [] 0 0 (MQ below (vp_Si (fun x => x = r)) args s 0 0 (fun _ => False)) (F0 m 85 ls []) := by
    intro v3 ls hl h
    unfold X4_search_85 at h
    refine lv_iload_n hx hb dX4_search_85 rfl (lv_at hl 0 rfl) ?_
    exact W.iret hx hb hr (fun t ht _ => ro_Si (Ho_e h) ht) ro_nil dX4_search_86 hlk
  have J27 : ∀ (v1 : Int32) (v2 : Int32) (v3 : Int32) (v4 : Int32) (ls : Array Slot), lv_has ls 6 [(0, .int x0), (1, .int v1), (2, .int v2), (3, .int v3), (4, .int v4)] → Ho ((X4_search_27_l x0 v1 v2 v3 v4).bind (fun ex => X4_search_85 ex)) (fun x => x = r) → W p l e rmX4_search s m args below meth c s.heap [] 0 0 (MQ below (vp_Si (fun x => x = r)) args s 0 0 (fun _ => False)) (F0 m 27 ls []) := by
    intro v1 v2 v3 v4 ls hl h
    refine loop_use2 (fun z : Int32 × Int32 => ∀ (ls : Array Slot), lv_has ls 6 [(0, .int x0), (1, .int v1), (2, .int v2), (3, .int z.1), (4, .int z.2)] → W p l e rmX4_search s m args below meth c s.heap [] 0 0 (MQ below (vp_Si (fun x => x = r)) args s 0 0 (fun _ => False)) (F0 m 27 ls [])) ?_ FU _ h ls hl
    intro Q27 hi27 ho27 z h ls hl
    obtain ⟨v3, v4⟩ := z
    have h : Ho (X4_search_27_s x0 v1 v2 v3 v4) Q27 := h
    unfold X4_search_27_s at h
    have hl : lv_has ls 6 [(0, .int x0), (1, .int v1), (2, .int v2), (3, .int v3), (4, .int v4)] := hl
    refine lv_iload hx hb dX4_search_27 (lv_at hl 4 rfl) ?_
    refine lv_iload_n hx hb dX4_search_29 rfl (lv_at hl 0 rfl) ?_
    refine lv_iconst (v := (2 : Int32)) hx hb dX4_search_30 (by decide) ?_
    refine lv_idiv hx hb dX4_search_31 (by decide) ?_
    refine lv_icmp_ge (tgt := 85) hx hb dX4_search_32 (by decide) (fun q32 => ?_) (fun q32 => ?_)
    · have h := Ho_t h q32
      have h := ho27 _ (Ho_s h)
      exact J85 v3 ls (lv_sub hl [3] rfl) h
    · have h := Ho_f h q32
      refine lv_iload_n hx hb dX4_search_35 rfl (lv_at hl 0 rfl) ?_
      refine lv_iload hx hb dX4_search_36 (lv_at hl 4 rfl) ?_
      obtain ⟨hz38, h⟩ := Ho_nz h
      refine lv_irem hx hb dX4_search_38 hz38 ?_
      refine lv_if_ne (tgt := 79) hx hb dX4_search_39 (by decide) (fun q39 => ?_) (fun q39 => ?_)
      · have h := Ho_f h q39
        refine lv_iinc (v := v4 + 1) (lv' := [(4, .int (v4 + 1)), (0, .int x0), (1, .int v1), (2, .int v2), (3, .int v3)]) hx hb dX4_search_79 hl (k := 4) rfl rfl (by decide) rfl (fun ls hl => ?_)
        refine lv_goto (tgt := 27) hx hb dX4_search_82 (by decide) ?_
        exact hi27 _ (Ho_s h) ls (lv_sub hl [1, 2, 3, 4, 0] rfl)
      · have h := Ho_t h q39
        refine lv_iconst (v := (1 : Int32)) hx hb dX4_search_42 (by decide) ?_
        refine lv_iload hx hb dX4_search_43 (lv_at hl 4 rfl) ?_
        refine lv_ishl hx hb dX4_search_45 ?_
        refine lv_istore (lv' := [(5, .int ((1 : Int32) <<< (v4 &&& 31))), (0, .int x0), (1, .int v1), (2, .int v2), (3, .int v3), (4, .int v4)]) hx hb dX4_search_46 hl (by decide) rfl (fun ls hl => ?_)
        refine lv_iload_n hx hb dX4_search_48 rfl (lv_at hl 4 rfl) ?_
        refine lv_iload_n hx hb dX4_search_49 rfl (lv_at hl 1 rfl) ?_
        refine lv_iload hx hb dX4_search_50 (lv_at hl 5 rfl) ?_
        obtain ⟨r52, hc52, h⟩ := Ho_b h
        refine cs_i (va_runS (As := [.int x0, .int v4]) (rest := [.int v3]) hfix (c_X4_alikeFirst l dC dI cI cJ  x0 v4 _ hc52) (va_cwS 2 hts gX4_search_X4_alikeFirst rfl rfl rfl (by decide +kernel) ⟨by decide, by decide⟩) (roP.preS hK va_Pnil) rfl rfl hl.1 rfl (lv_room (Nat.le_of_ble_eq_true rfl)) dX4_search_52 ⟨Nat.zero_le _, Nat.zero_le _⟩) ?_
        refine lv_iload_n hx hb dX4_search_55 rfl (lv_at hl 1 rfl) ?_
        refine lv_iload hx hb dX4_search_56 (lv_at hl 5 rfl) ?_
        refine lv_iload_n hx hb dX4_search_58 rfl (lv_at hl 3 rfl) ?_
        refine lv_iload hx hb dX4_search_59 (lv_at hl 0 rfl) ?_
        refine lv_iconst (v := (-1 : Int32)) hx hb dX4_search_61 (by decide) ?_
        refine lv_ixor hx hb dX4_search_62 ?_
        refine lv_iand hx hb dX4_search_63 ?_
        refine lv_iload_n hx hb dX4_search_64 rfl (lv_at hl 2 rfl) ?_
        refine lv_iload hx hb dX4_search_65 (lv_at hl 0 rfl) ?_
        refine lv_iconst (v := (-1 : Int32)) hx hb dX4_search_67 (by decide) ?_
        refine lv_ixor hx hb dX4_search_68 ?_
        refine lv_iand hx hb dX4_search_69 ?_
        refine lv_iload_n hx hb dX4_search_70 rfl (lv_at hl 1 rfl) ?_
        refine lv_iconst (v := (3 : Int32)) hx hb dX4_search_71 (by decide) ?_
        refine lv_isub hx hb dX4_search_72 ?_
        obtain ⟨r73, hc73, h⟩ := Ho_b h
        refine cs_i (va_runS (As := [.int x0, .int v4, .int (v2 &&& (((1 : Int32) <<< (v4 &&& 31)) ^^^ (-1 : Int32))), .int (v1 &&& (((1 : Int32) <<< (v4 &&& 31)) ^^^ (-1 : Int32))), .int (x0 - (3 : Int32))]) (rest := [.int r52, .int v3]) hfix (c_X4_endings l dC dI cI cJ 12  x0 v4 (v2 &&& (((1 : Int32) <<< (v4 &&& 31)) ^^^ (-1 : Int32))) (v1 &&& (((1 : Int32) <<< (v4 &&& 31)) ^^^ (-1 : Int32))) (x0 - (3 : Int32)) _ hc73) (va_cwS 5 hts gX4_search_X4_endings rfl rfl rfl (by decide +kernel) ⟨by decide, by decide⟩) (roP.preS hK va_Pnil) rfl rfl hl.1 rfl (lv_room (Nat.le_of_ble_eq_true rfl)) dX4_search_73 ⟨Nat.zero_le _, Nat.zero_le _⟩) ?_
        refine lv_imul hx hb dX4_search_76 ?_
        refine lv_iadd hx hb dX4_search_77 ?_
        refine lv_istore_n (lv' := [(3, .int (v3 + (r52 * r73))), (5, .int ((1 : Int32) <<< (v4 &&& 31))), (0, .int x0), (1, .int v1), (2, .int v2), (4, .int v4)]) hx hb dX4_search_78 rfl hl (by decide) rfl (fun ls hl => ?_)
        refine lv_iinc (v := v4 + 1) (lv' := [(4, .int (v4 + 1)), (3, .int (v3 + (r52 * r73))), (5, .int ((1 : Int32) <<< (v4 &&& 31))), (0, .int x0), (1, .int v1), (2, .int v2)]) hx hb dX4_search_79 hl (k := 5) rfl rfl (by decide) rfl (fun ls hl => ?_)
        refine lv_goto (tgt := 27) hx hb dX4_search_82 (by decide) ?_
        exact hi27 _ (Ho_s h) ls (lv_sub hl [3, 4, 5, 1, 0] rfl)
  refine lv_iconst (v := (1 : Int32)) hx hb dX4_search_0 (by decide) ?_
  refine lv_iload_n hx hb dX4_search_1 rfl (lv_at hl 0 rfl) ?_
  refine lv_ishl hx hb dX4_search_2 ?_
  refine lv_iconst (v := (2 : Int32)) hx hb dX4_search_3 (by decide) ?_
  refine lv_isub hx hb dX4_search_4 ?_
  refine lv_istore_n (lv' := [(1, .int (((1 : Int32) <<< (x0 &&& 31)) - (2 : Int32))), (0, .int x0)]) hx hb dX4_search_5 rfl hl (by decide) rfl (fun ls hl => ?_)
  refine lv_iload_n hx hb dX4_search_6 rfl (lv_at hl 0 rfl) ?_
  refine lv_iconst (v := (1 : Int32)) hx hb dX4_search_7 (by decide) ?_
  refine lv_iload_n hx hb dX4_search_8 rfl (lv_at hl 1 rfl) ?_
  refine lv_iconst (v := (2 : Int32)) hx hb dX4_search_9 (by decide) ?_
  refine lv_idiv hx hb dX4_search_10 (by decide) ?_
  refine lv_ishl hx hb dX4_search_11 ?_
  refine lv_iconst (v := (-1 : Int32)) hx hb dX4_search_12 (by decide) ?_
  refine lv_ixor hx hb dX4_search_13 ?_
  refine lv_iand hx hb dX4_search_14 ?_
  refine lv_istore_n (lv' := [(2, .int ((((1 : Int32) <<< (x0 &&& 31)) - (2 : Int32)) &&& (((1 : Int32) <<< ((x0 / (2 : Int32)) &&& 31)) ^^^ (-1 : Int32)))), (1, .int (((1 : Int32) <<< (x0 &&& 31)) - (2 : Int32))), (0, .int x0)]) hx hb dX4_search_15 rfl hl (by decide) rfl (fun ls hl => ?_)
  refine lv_iload_n hx hb dX4_search_16 rfl (lv_at hl 0 rfl) ?_
  refine lv_if_ne (tgt := 22) hx hb dX4_search_17 (by decide) (fun q17 => ?_) (fun q17 => ?_)
  · have h := Ho_f h q17
    refine lv_iconst (v := (0 : Int32)) hx hb dX4_search_22 (by decide) ?_
    refine lv_istore_n (lv' := [(3, .int (0 : Int32)), (2, .int ((((1 : Int32) <<< (x0 &&& 31)) - (2 : Int32)) &&& (((1 : Int32) <<< ((x0 / (2 : Int32)) &&& 31)) ^^^ (-1 : Int32)))), (1, .int (((1 : Int32) <<< (x0 &&& 31)) - (2 : Int32))), (0, .int x0)]) hx hb dX4_search_23 rfl hl (by decide) rfl (fun ls hl => ?_)
    refine lv_iconst (v := (1 : Int32)) hx hb dX4_search_24 (by decide) ?_
    refine lv_istore (lv' := [(4, .int (1 : Int32)), (3, .int (0 : Int32)), (2, .int ((((1 : Int32) <<< (x0 &&& 31)) - (2 : Int32)) &&& (((1 : Int32) <<< ((x0 / (2 : Int32)) &&& 31)) ^^^ (-1 : Int32)))), (1, .int (((1 : Int32) <<< (x0 &&& 31)) - (2 : Int32))), (0, .int x0)]) hx hb dX4_search_25 hl (by decide) rfl (fun ls hl => ?_)
    exact J27 (((1 : Int32) <<< (x0 &&& 31)) - (2 : Int32)) ((((1 : Int32) <<< (x0 &&& 31)) - (2 : Int32)) &&& (((1 : Int32) <<< ((x0 / (2 : Int32)) &&& 31)) ^^^ (-1 : Int32))) (0 : Int32) (1 : Int32) ls (lv_sub hl [4, 3, 2, 1, 0] rfl) h
  · have h := Ho_t h q17
    refine lv_iconst (v := (1 : Int32)) hx hb dX4_search_20 (by decide) ?_
    exact W.iret hx hb hr (fun t ht _ => ro_Si (Ho_e h) ht) ro_nil dX4_search_21 hlk
