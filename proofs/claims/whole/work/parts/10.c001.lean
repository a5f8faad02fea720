abbrev rmX0_leastOf : Room := { frames := 2, cells := 0, slots := 0, locals := 47 }
set_option maxHeartbeats 4000000 in
set_option maxRecDepth 100000 in
theorem c_X0_leastOf (l : Launch) (dC : Nat → ClassId) (dI : Nat → Nat → Nat) (cI cJ : ClassId) (h0 : Nat) (n : Int32) (ev : Int32) (x1 : Int32) (x2 : Int32) (r : Int32) (hF : FX0_leastOf n ev x1 x2 = some r) : Met l yX0_leastOf wsX0_leastOf rmX0_leastOf (roP (dC, dI) [(cI, .int), (cJ, .long)] [(h0, .inr (0, [.int n, .int ev]))] [.ref h0, .int x1, .int x2]) (vp_Si (fun x => x = r)) 0 0 (fun _ => False) := by
  refine ro_start (cc := cX0_leastOf) (maxL := 5) (ret := (some .int)) (by decide) rfl (Nat.le_of_ble_eq_true rfl) ?_
  intro p e s m args below meth c ls hx hb hml hr hlk hown hts hP hK hl
  have hown : s.vm.findClass RX0 = some m.cls := hown
  have hl : lv_has ls 5 [(0, .ref h0), (1, .int x1), (2, .int x2)] := hl
  have h : Ho (FX0_leastOf n ev x1 x2) (fun x => x = r) := ⟨r, hF, rfl⟩
  unfold FX0_leastOf at h
  have hfix : CallFix p m c cX0_leastOf 5 s args wsX0_leastOf RX0 := ⟨hx, hb, hml, hown, hts⟩
  have hiX0 : ∀ w ∈ u_ws RX0 TX0 2, w ∈ wsX0_leastOf := by decide +kernel
  have hf9 := hts (.fieldLink RX0 9 "RowClasses$Circle" "n" "I") (by decide +kernel)
  have hm36 := hts (.methodLink RX0 36 Lib.Math.min.name) (by decide +kernel)
  have hms_min := hts (.static Lib.Math.min.name) (by decide +kernel)
  have hmc_min := hts (.code Lib.Math.min.name Lib.Math.min.code 2 (some .int)) (by decide +kernel)
  have hmi := hts (.initialized "java/lang/Math") (by decide +kernel)
  have J46 : ∀ (v3 : Int32) (ls : Array Slot), lv_has ls 5 [(3, .int v3)] → Ho (X0_leastOf_46 v3) (fun x => x = r) → W p l e rmX0_leastOf s m args below meth c s.heap [] 0 0 (MQ below (vp_Si (fun x => x = r)) args s 0 0 (fun _ => False)) (F0 m 46 ls []) := by
    intro v3 ls hl h
    unfold X0_leastOf_46 at h
    refine lv_iload_n hx hb dX0_leastOf_46 rfl (lv_at hl 0 rfl) ?_
    exact W.iret hx hb hr (fun t ht _ => ro_Si (Ho_e h) ht) ro_nil dX0_leastOf_47 hlk
  have J5 : ∀ (v3 : Int32) (v4 : Int32) (ls : Array Slot), lv_has ls 5 [(0, .ref h0), (1, .int x1), (2, .int x2), (3, .int v3), (4, .int v4)] → Ho ((X0_leastOf_5_l n ev x1 x2 v3 v4).bind (fun ex => X0_leastOf_46 ex)) (fun x => x = r) → W p l e rmX0_leastOf s m args below meth c s.heap [] 0 0 (MQ below (vp_Si (fun x => x = r)) args s 0 0 (fun _ => False)) (F0 m 5 ls []) := by
    intro v3 v4 ls hl h
    refine loop_use2 (fun z : Int32 × Int32 => ∀ (ls : Array Slot), lv_has ls 5 [(0, .ref h0), (1, .int x1), (2, .int x2), (3, .int z.1), (4, .int z.2)] → W p l e rmX0_leastOf s m args below meth c s.heap [] 0 0 (MQ below (vp_Si (fun x => x = r)) args s 0 0 (fun _ => False)) (F0 m 5 ls [])) ?_ FU _ h ls hl
    intro Q5 hi5 ho5 z h ls hl
    obtain ⟨v3, v4⟩ := z
    have h : Ho (X0_leastOf_5_s n ev x1 x2 v3 v4) Q5 := h
    unfold X0_leastOf_5_s at h
    have hl : lv_has ls 5 [(0, .ref h0), (1, .int x1), (2, .int x2), (3, .int v3), (4, .int v4)] := hl
    refine lv_iload hx hb dX0_leastOf_5 (lv_at hl 4 rfl) ?_
    refine lv_aload_n hx hb dX0_leastOf_7 rfl (lv_at hl 0 rfl) ?_
    refine va_get (D := (dC, dI)) (ci := 0) (v := .int n) (C := RX0) (T := TX0) (N := 2) hx hb hts hiX0 hown hK.1 hP 0 rfl rfl 0 (by decide) hf9 (fun _ h9 => h9) rfl dX0_leastOf_8 ?_
    refine lv_icmp_ge (tgt := 46) hx hb dX0_leastOf_11 (by decide) (fun q11 => ?_) (fun q11 => ?_)
    · have h := Ho_t h q11
      have h := ho5 _ (Ho_s h)
      exact J46 v3 ls (lv_sub hl [3] rfl) h
    · have h := Ho_f h q11
      refine lv_aload_n hx hb dX0_leastOf_14 rfl (lv_at hl 0 rfl) ?_
      refine lv_iload hx hb dX0_leastOf_15 (lv_at hl 4 rfl) ?_
      refine lv_iload_n hx hb dX0_leastOf_17 rfl (lv_at hl 2 rfl) ?_
      obtain ⟨r18, hc18, h⟩ := Ho_b h
      have hPc : va_P (dC, dI) vwCl [(h0, .inr (0, [.int n, .int ev]))] s.heap := hP.sub [0] rfl
      refine cs_i (va_runV (As := [.int v4, .int x2]) (rest := []) hfix (c_X0_isMultiplier l dC dI cI cJ h0 n ev v4 x2 _ hc18) (cwV 2 hts gX0_leastOf_X0_isMultiplier rfl rfl rfl (by decide +kernel) ⟨by decide, by decide⟩) (roP.preV hK hPc (ci := 0) rfl rfl) rfl rfl hl.1 rfl (lv_room (Nat.le_of_ble_eq_true rfl)) dX0_leastOf_18 ⟨Nat.zero_le _, Nat.zero_le _⟩) ?_
      refine lv_if_eq (tgt := 40) hx hb dX0_leastOf_21 (by decide) (fun q21 => ?_) (fun q21 => ?_)
      · have h := Ho_t h q21
        refine lv_iinc (v := v4 + 1) (lv' := [(4, .int (v4 + 1)), (0, .ref h0), (1, .int x1), (2, .int x2), (3, .int v3)]) hx hb dX0_leastOf_40 hl (k := 4) rfl rfl (by decide) rfl (fun ls hl => ?_)
        refine lv_goto (tgt := 5) hx hb dX0_leastOf_43 (by decide) ?_
        exact hi5 _ (Ho_s h) ls (lv_sub hl [1, 2, 3, 4, 0] rfl)
      · have h := Ho_f h q21
        refine lv_iload_n hx hb dX0_leastOf_24 rfl (lv_at hl 3 rfl) ?_
        refine lv_aload_n hx hb dX0_leastOf_25 rfl (lv_at hl 0 rfl) ?_
        refine lv_aload_n hx hb dX0_leastOf_26 rfl (lv_at hl 0 rfl) ?_
        refine lv_iload_n hx hb dX0_leastOf_27 rfl (lv_at hl 1 rfl) ?_
        refine lv_iload hx hb dX0_leastOf_28 (lv_at hl 4 rfl) ?_
        obtain ⟨r30, hc30, h⟩ := Ho_b h
        have hPc : va_P (dC, dI) vwCl [(h0, .inr (0, [.int n, .int ev]))] s.heap := hP.sub [0] rfl
        refine cs_i (va_runV (As := [.int x1, .int v4]) (rest := [.ref h0, .int v3]) hfix (c_X0_timesEach l dC dI cI cJ h0 n ev x1 v4 _ hc30) (cwV 2 hts gX0_leastOf_X0_timesEach rfl rfl rfl (by decide +kernel) ⟨by decide, by decide⟩) (roP.preV hK hPc (ci := 0) rfl rfl) rfl rfl hl.1 rfl (lv_room (Nat.le_of_ble_eq_true rfl)) dX0_leastOf_30 ⟨Nat.zero_le _, Nat.zero_le _⟩) ?_
        obtain ⟨r33, hc33, h⟩ := Ho_b h
        have hPc : va_P (dC, dI) vwCl [(h0, .inr (0, [.int n, .int ev]))] s.heap := hP.sub [0] rfl
        refine cs_i (va_runV (As := [.int r30]) (rest := [.int v3]) hfix (c_X0_leastTurned l dC dI cI cJ h0 n ev r30 _ hc33) (cwV 1 hts gX0_leastOf_X0_leastTurned rfl rfl rfl (by decide +kernel) ⟨by decide, by decide⟩) (roP.preV hK hPc (ci := 0) rfl rfl) rfl rfl hl.1 rfl (lv_room (Nat.le_of_ble_eq_true rfl)) dX0_leastOf_33 ⟨Nat.zero_le _, Nat.zero_le _⟩) ?_
        refine va_mmin hx hb (hml.trans hl.1.symm) hown hm36 hms_min hmi hmc_min (by decide) (by decide) (Nat.zero_le _) (Nat.zero_le _) dX0_leastOf_36 ?_
        refine lv_topi (fun r36 er36 => ?_)
        have h := Ho_let h r36 er36
        refine lv_istore_n (lv' := [(3, .int r36), (0, .ref h0), (1, .int x1), (2, .int x2), (4, .int v4)]) hx hb dX0_leastOf_39 rfl hl (by decide) rfl (fun ls hl => ?_)
        refine lv_iinc (v := v4 + 1) (lv' := [(4, .int (v4 + 1)), (3, .int r36), (0, .ref h0), (1, .int x1), (2, .int x2)]) hx hb dX0_leastOf_40 hl (k := 4) rfl rfl (by decide) rfl (fun ls hl => ?_)
        refine lv_goto (tgt := 5) hx hb dX0_leastOf_43 (by decide) ?_
        exact hi5 _ (Ho_s h) ls (lv_sub hl [2, 3, 4, 1, 0] rfl)
  refine lv_iload_n hx hb dX0_leastOf_0 rfl (lv_at hl 1 rfl) ?_
  refine lv_istore_n (lv' := [(3, .int x1), (0, .ref h0), (1, .int x1), (2, .int x2)]) hx hb dX0_leastOf_1 rfl hl (by decide) rfl (fun ls hl => ?_)
  refine lv_iconst (v := (0 : Int32)) hx hb dX0_leastOf_2 (by decide) ?_
  refine lv_istore (lv' := [(4, .int (0 : Int32)), (3, .int x1), (0, .ref h0), (1, .int x1), (2, .int x2)]) hx hb dX0_leastOf_3 hl (by decide) rfl (fun ls hl => ?_)
  exact J5 x1 (0 : Int32) ls (lv_sub hl [2, 3, 4, 1, 0] rfl) h
abbrev rmX0_isLeastTurned : Room := { frames := 1, cells := 0, slots := 0, locals := 22 }
set_option maxHeartbeats 4000000 in
set_option maxRecDepth 100000 in
theorem c_X0_isLeastTurned (l : Launch) (dC : Nat → ClassId) (dI : Nat → Nat → Nat) (cI cJ : ClassId) (h0 : Nat) (n : Int32) (ev : Int32) (x1 : Int32) (r : Int32) (hF : FX0_isLeastTurned n ev x1 = some r) : Met l yX0_isLeastTurned wsX0_isLeastTurned rmX0_isLeastTurned (roP (dC, dI) [(cI, .int), (cJ, .long)] [(h0, .inr (0, [.int n, .int ev]))] [.ref h0, .int x1]) (vp_Si (fun x => x = r)) 0 0 (fun _ => False) := by
  refine ro_start (cc := cX0_isLeastTurned) (maxL := 3) (ret := (some .boolean)) (by decide) rfl (Nat.le_of_ble_eq_true rfl) ?_
  intro p e s m args below meth c ls hx hb hml hr hlk hown hts hP hK hl
  have hown : s.vm.findClass RX0 = some m.cls := hown
  have hl : lv_has ls 3 [(0, .ref h0), (1, .int x1)] := hl
  have h : Ho (FX0_isLeastTurned n ev x1) (fun x => x = r) := ⟨r, hF, rfl⟩
  unfold FX0_isLeastTurned at h
  have hfix : CallFix p m c cX0_isLeastTurned 3 s args wsX0_isLeastTurned RX0 := ⟨hx, hb, hml, hown, hts⟩
  have hiX0 : ∀ w ∈ u_ws RX0 TX0 2, w ∈ wsX0_isLeastTurned := by decide +kernel
  have hf9 := hts (.fieldLink RX0 9 "RowClasses$Circle" "n" "I") (by decide +kernel)
  have J28 : ∀  (ls : Array Slot), lv_has ls 3 [] → Ho (X0_isLeastTurned_28) (fun x => x = r) → W p l e rmX0_isLeastTurned s m args below meth c s.heap [] 0 0 (MQ below (vp_Si (fun x => x = r)) args s 0 0 (fun _ => False)) (F0 m 28 ls []) := by
    intro  ls hl h
    unfold X0_isLeastTurned_28 at h
    refine lv_iconst (v := (1 : Int32)) hx hb dX0_isLeastTurned_28 (by decide) ?_
    exact W.zret (ty := .boolean) hx hb hr rfl (fun t ht _ => ro_Si (Ho_e h) ht) ro_nil dX0_isLeastTurned_29 hlk
  have J20 : ∀  (ls : Array Slot), lv_has ls 3 [] → Ho (X0_isLeastTurned_20) (fun x => x = r) → W p l e rmX0_isLeastTurned s m args below meth c s.heap [] 0 0 (MQ below (vp_Si (fun x => x = r)) args s 0 0 (fun _ => False)) (F0 m 20 ls []) := by
    intro  ls hl h
    unfold X0_isLeastTurned_20 at h
    refine lv_iconst (v := (0 : Int32)) hx hb dX0_isLeastTurned_20 (by decide) ?_
    exact W.zret (ty := .boolean) hx hb hr rfl (fun t ht _ => ro_Si (Ho_e h) ht) ro_nil dX0_isLeastTurned_21 hlk
  have J2 : ∀ (v2 : Int32) (ls : Array Slot), lv_has ls 3 [(0, .ref h0), (1, .int x1), (2, .int v2)] → Ho ((X0_isLeastTurned_2_l n ev x1 v2).bind (fun ex => Sum.elim (fun xy => X0_isLeastTurned_20) (fun xy => X0_isLeastTurned_28) ex)) (fun x => x = r) → W p l e rmX0_isLeastTurned s m args below meth c s.heap [] 0 0 (MQ below (vp_Si (fun x => x = r)) args s 0 0 (fun _ => False)) (F0 m 2 ls []) := by
    intro v2 ls hl h
    refine loop_use2 (fun z : Int32 => ∀ (ls : Array Slot), lv_has ls 3 [(0, .ref h0), (1, .int x1), (2, .int z)] → W p l e rmX0_isLeastTurned s m args below meth c s.heap [] 0 0 (MQ below (vp_Si (fun x => x = r)) args s 0 0 (fun _ => False)) (F0 m 2 ls [])) ?_ FU _ h ls hl
    intro Q2 hi2 ho2 z h ls hl
    obtain ⟨v2, rfl⟩ : ∃ q, q = z := ⟨_, rfl⟩
    have h : Ho (X0_isLeastTurned_2_s n ev x1 v2) Q2 := h
    unfold X0_isLeastTurned_2_s at h
    have hl : lv_has ls 3 [(0, .ref h0), (1, .int x1), (2, .int v2)] := hl
    refine lv_iload_n hx hb dX0_isLeastTurned_2 rfl (lv_at hl 2 rfl) ?_
    refine lv_aload_n hx hb dX0_isLeastTurned_3 rfl (lv_at hl 0 rfl) ?_
    refine va_get (D := (dC, dI)) (ci := 0) (v := .int n) (C := RX0) (T := TX0) (N := 2) hx hb hts hiX0 hown hK.1 hP 0 rfl rfl 0 (by decide) hf9 (fun _ h9 => h9) rfl dX0_isLeastTurned_4 ?_
    refine lv_icmp_ge (tgt := 28) hx hb dX0_isLeastTurned_7 (by decide) (fun q7 => ?_) (fun q7 => ?_)
    · have h := Ho_t h q7
      have h := ho2 _ (Ho_s h)
      exact J28  ls (lv_sub hl [] rfl) h
    · have h := Ho_f h q7
      refine lv_aload_n hx hb dX0_isLeastTurned_10 rfl (lv_at hl 0 rfl) ?_
      refine lv_iload_n hx hb dX0_isLeastTurned_11 rfl (lv_at hl 1 rfl) ?_
      refine lv_iload_n hx hb dX0_isLeastTurned_12 rfl (lv_at hl 2 rfl) ?_
      obtain ⟨r13, hc13, h⟩ := Ho_b h
      have hPc : va_P (dC, dI) vwCl [(h0, .inr (0, [.int n, .int ev]))] s.heap := hP.sub [0] rfl
      refine cs_i (va_runV (As := [.int x1, .int v2]) (rest := []) hfix (c_X0_turned l dC dI cI cJ h0 n ev x1 v2 _ hc13) (cwV 2 hts gX0_isLeastTurned_X0_turned rfl rfl rfl (by decide +kernel) ⟨by decide, by decide⟩) (roP.preV hK hPc (ci := 0) rfl rfl) rfl rfl hl.1 rfl (lv_room (Nat.le_of_ble_eq_true rfl)) dX0_isLeastTurned_13 ⟨Nat.zero_le _, Nat.zero_le _⟩) ?_
      refine lv_iload_n hx hb dX0_isLeastTurned_16 rfl (lv_at hl 1 rfl) ?_
      refine lv_icmp_ge (tgt := 22) hx hb dX0_isLeastTurned_17 (by decide) (fun q17 => ?_) (fun q17 => ?_)
      · have h := Ho_t h q17
        refine lv_iinc (v := v2 + 1) (lv' := [(2, .int (v2 + 1)), (0, .ref h0), (1, .int x1)]) hx hb dX0_isLeastTurned_22 hl (k := 2) rfl rfl (by decide) rfl (fun ls hl => ?_)
        refine lv_goto (tgt := 2) hx hb dX0_isLeastTurned_25 (by decide) ?_
        exact hi2 _ (Ho_s h) ls (lv_sub hl [1, 2, 0] rfl)
      · have h := Ho_f h q17
        have h := ho2 _ (Ho_s h)
        exact J20  ls (lv_sub hl [] rfl) h
  refine lv_iconst (v := (1 : Int32)) hx hb dX0_isLeastTurned_0 (by decide) ?_
  refine lv_istore_n (lv' := [(2, .int (1 : Int32)), (0, .ref h0), (1, .int x1)]) hx hb dX0_isLeastTurned_1 rfl hl (by decide) rfl (fun ls hl => ?_)
  exact J2 (1 : Int32) ls (lv_sub hl [1, 2, 0] rfl) h
abbrev rmX0_turnsInto : Room := { frames := 1, cells := 0, slots := 0, locals := 22 }
set_option maxHeartbeats 4000000 in
set_option maxRecDepth 100000 in
theorem c_X0_turnsInto (l : Launch) (dC : Nat → ClassId) (dI : Nat → Nat → Nat) (cI cJ : ClassId) (h0 : Nat) (n : Int32) (ev : Int32) (x1 : Int32) (x2 : Int32) (r : Int32) (hF : FX0_turnsInto n ev x1 x2 = some r) : Met l yX0_turnsInto wsX0_turnsInto rmX0_turnsInto (roP (dC, dI) [(cI, .int), (cJ, .long)] [(h0, .inr (0, [.int n, .int ev]))] [.ref h0, .int x1, .int x2]) (vp_Si (fun x => x = r)) 0 0 (fun _ => False) := by
  refine ro_start (cc := cX0_turnsInto) (maxL := 5) (ret := (some .int)) (by decide) rfl (Nat.le_of_ble_eq_true rfl) ?_
  intro p e s m args below meth c ls hx hb hml hr hlk hown hts hP hK hl
  have hown : s.vm.findClass RX0 = some m.cls := hown
  have hl : lv_has ls 5 [(0, .ref h0), (1, .int x1), (2, .int x2)] := hl
  have h : Ho (FX0_turnsInto n ev x1 x2) (fun x => x = r) := ⟨r, hF, rfl⟩
  unfold FX0_turnsInto at h
  have hfix : CallFix p m c cX0_turnsInto 5 s args wsX0_turnsInto RX0 := ⟨hx, hb, hml, hown, hts⟩
  have hiX0 : ∀ w ∈ u_ws RX0 TX0 2, w ∈ wsX0_turnsInto := by decide +kernel
  have hf9 := hts (.fieldLink RX0 9 "RowClasses$Circle" "n" "I") (by decide +kernel)
  have J37 : ∀ (v3 : Int32) (ls : Array Slot), lv_has ls 5 [(3, .int v3)] → Ho (X0_turnsInto_37 v3) (fun x => x = r) → W p l e rmX0_turnsInto s m args below meth c s.heap [] 0 0 (MQ below (vp_Si (fun x => x = r)) args s 0 0 (fun _ => False)) (F0 m 37 ls []) := by
    intro v3 ls hl h
    unfold X0_turnsInto_37 at h
    refine lv_iload_n hx hb dX0_turnsInto_37 rfl (lv_at hl 0 rfl) ?_
    exact W.iret hx hb hr (fun t ht _ => ro_Si (Ho_e h) ht) ro_nil dX0_turnsInto_38 hlk
  have J5 : ∀ (v3 : Int32) (v4 : Int32) (ls : Array Slot), lv_has ls 5 [(0, .ref h0), (1, .int x1), (2, .int x2), (3, .int v3), (4, .int v4)] → Ho ((X0_turnsInto_5_l n ev x1 x2 v3 v4).bind (fun ex => X0_turnsInto_37 ex)) (fun x => x = r) → W p l e rmX0_turnsInto s m args below meth c s.heap [] 0 0 (MQ below (vp_Si (fun x => x = r)) args s 0 0 (fun _ => False)) (F0 m 5 ls []) := by
    intro v3 v4 ls hl h
    refine loop_use2 (fun z : Int32 × Int32 => ∀ (ls : Array Slot), lv_has ls 5 [(0, .ref h0), (1, .int x1), (2, .int x2), (3, .int z.1), (4, .int z.2)] → W p l e rmX0_turnsInto s m args below meth c s.heap [] 0 0 (MQ below (vp_Si (fun x => x = r)) args s 0 0 (fun _ => False)) (F0 m 5 ls [])) ?_ FU _ h ls hl
    intro Q5 hi5 ho5 z h ls hl
    obtain ⟨v3, v4⟩ := z
    have h : Ho (X0_turnsInto_5_s n ev x1 x2 v3 v4) Q5 := h
    unfold X0_turnsInto_5_s at h
    have hl : lv_has ls 5 [(0, .ref h0), (1, .int x1), (2, .int x2), (3, .int v3), (4, .int v4)] := hl
    refine lv_iload hx hb dX0_turnsInto_5 (lv_at hl 4 rfl) ?_
    refine lv_aload_n hx hb dX0_turnsInto_7 rfl (lv_at hl 0 rfl) ?_
    refine va_get (D := (dC, dI)) (ci := 0) (v := .int n) (C := RX0) (T := TX0) (N := 2) hx hb hts hiX0 hown hK.1 hP 0 rfl rfl 0 (by decide) hf9 (fun _ h9 => h9) rfl dX0_turnsInto_8 ?_
    refine lv_icmp_ge (tgt := 37) hx hb dX0_turnsInto_11 (by decide) (fun q11 => ?_) (fun q11 => ?_)
    · have h := Ho_t h q11
      have h := ho5 _ (Ho_s h)
      exact J37 v3 ls (lv_sub hl [3] rfl) h
    · have h := Ho_f h q11
      refine lv_aload_n hx hb dX0_turnsInto_14 rfl (lv_at hl 0 rfl) ?_
      refine lv_iload_n hx hb dX0_turnsInto_15 rfl (lv_at hl 1 rfl) ?_
      refine lv_iload hx hb dX0_turnsInto_16 (lv_at hl 4 rfl) ?_
      obtain ⟨r18, hc18, h⟩ := Ho_b h
      have hPc : va_P (dC, dI) vwCl [(h0, .inr (0, [.int n, .int ev]))] s.heap := hP.sub [0] rfl
      refine cs_i (va_runV (As := [.int x1, .int v4]) (rest := []) hfix (c_X0_turned l dC dI cI cJ h0 n ev x1 v4 _ hc18) (cwV 2 hts gX0_turnsInto_X0_turned rfl rfl rfl (by decide +kernel) ⟨by decide, by decide⟩) (roP.preV hK hPc (ci := 0) rfl rfl) rfl rfl hl.1 rfl (lv_room (Nat.le_of_ble_eq_true rfl)) dX0_turnsInto_18 ⟨Nat.zero_le _, Nat.zero_le _⟩) ?_
      refine lv_iload_n hx hb dX0_turnsInto_21 rfl (lv_at hl 2 rfl) ?_
      refine lv_iconst (v := (-1 : Int32)) hx hb dX0_turnsInto_22 (by decide) ?_
      refine lv_ixor hx hb dX0_turnsInto_23 ?_
      refine lv_iand hx hb dX0_turnsInto_24 ?_
      refine lv_if_ne (tgt := 31) hx hb dX0_turnsInto_25 (by decide) (fun q25 => ?_) (fun q25 => ?_)
      · have h := Ho_f h q25
        refine lv_iinc (v := v4 + 1) (lv' := [(4, .int (v4 + 1)), (0, .ref h0), (1, .int x1), (2, .int x2), (3, .int v3)]) hx hb dX0_turnsInto_31 hl (k := 4) rfl rfl (by decide) rfl (fun ls hl => ?_)
        refine lv_goto (tgt := 5) hx hb dX0_turnsInto_34 (by decide) ?_
        exact hi5 _ (Ho_s h) ls (lv_sub hl [1, 2, 3, 4, 0] rfl)
      · have h := Ho_t h q25
        refine lv_iinc (v := v3 + 1) (lv' := [(3, .int (v3 + 1)), (0, .ref h0), (1, .int x1), (2, .int x2), (4, .int v4)]) hx hb dX0_turnsInto_28 hl (k := 3) rfl rfl (by decide) rfl (fun ls hl => ?_)
        refine lv_iinc (v := v4 + 1) (lv' := [(4, .int (v4 + 1)), (3, .int (v3 + 1)), (0, .ref h0), (1, .int x1), (2, .int x2)]) hx hb dX0_turnsInto_31 hl (k := 4) rfl rfl (by decide) rfl (fun ls hl => ?_)
        refine lv_goto (tgt := 5) hx hb dX0_turnsInto_34 (by decide) ?_
        exact hi5 _ (Ho_s h) ls (lv_sub hl [2, 3, 4, 1, 0] rfl)
  refine lv_iconst (v := (0 : Int32)) hx hb dX0_turnsInto_0 (by decide) ?_
  refine lv_istore_n (lv' := [(3, .int (0 : Int32)), (0, .ref h0), (1, .int x1), (2, .int x2)]) hx hb dX0_turnsInto_1 rfl hl (by decide) rfl (fun ls hl => ?_)
  refine lv_iconst (v := (0 : Int32)) hx hb dX0_turnsInto_2 (by decide) ?_
  refine lv_istore (lv' := [(4, .int (0 : Int32)), (3, .int (0 : Int32)), (0, .ref h0), (1, .int x1), (2, .int x2)]) hx hb dX0_turnsInto_3 hl (by decide) rfl (fun ls hl => ?_)
  exact J5 (0 : Int32) (0 : Int32) ls (lv_sub hl [2, 3, 4, 1, 0] rfl) h
abbrev rmX0_motionsInto : Room := { frames := 2, cells := 0, slots := 0, locals := 46 }
set_option maxHeartbeats 4000000 in
set_option maxRecDepth 100000 in
theorem c_X0_motionsInto (l : Launch) (dC : Nat → ClassId) (dI : Nat → Nat → Nat) (cI cJ : ClassId) (h0 : Nat) (n : Int32) (ev : Int32) (x1 : Int32) (x2 : Int32) (x3 : Int32) (r : Int32) (hF : FX0_motionsInto n ev x1 x2 x3 = some r) : Met l yX0_motionsInto wsX0_motionsInto rmX0_motionsInto (roP (dC, dI) [(cI, .int), (cJ, .long)] [(h0, .inr (0, [.int n, .int ev]))] [.ref h0, .int x1, .int x2, .int x3]) (vp_Si (fun x => x = r)) 0 0 (fun _ => False) := by
  refine ro_start (cc := cX0_motionsInto) (maxL := 6) (ret := (some .int)) (by decide) rfl (Nat.le_of_ble_eq_true rfl) ?_
  intro p e s m args below meth c ls hx hb hml hr hlk hown hts hP hK hl
  have hown : s.vm.findClass RX0 = some m.cls := hown
  have hl : lv_has ls 6 [(0, .ref h0), (1, .int x1), (2, .int x2), (3, .int x3)] := hl
  have h : Ho (FX0_motionsInto n ev x1 x2 x3) (fun x => x = r) := ⟨r, hF, rfl⟩
  unfold FX0_motionsInto at h
  have hfix : CallFix p m c cX0_motionsInto 6 s args wsX0_motionsInto RX0 := ⟨hx, hb, hml, hown, hts⟩
  have hiX0 : ∀ w ∈ u_ws RX0 TX0 2, w ∈ wsX0_motionsInto := by decide +kernel
  have hf9 := hts (.fieldLink RX0 9 "RowClasses$Circle" "n" "I") (by decide +kernel)
  have J48 : ∀ (v4 : Int32) (ls : Array Slot), lv_has ls 6 [(4, .int v4)] → Ho (X0_motionsInto_48 v4) (fun x => x = r) → W p l e rmX0_motionsInto s m args below meth c s.heap [] 0 0 (MQ below (vp_Si (fun x => x = r)) args s 0 0 (fun _ => False)) (F0 m 48 ls []) := by
    intro v4 ls hl h
    unfold X0_motionsInto_48 at h
    refine lv_iload hx hb dX0_motionsInto_48 (lv_at hl 0 rfl) ?_
    exact W.iret hx hb hr (fun t ht _ => ro_Si (Ho_e h) ht) ro_nil dX0_motionsInto_50 hlk
  have J6 : ∀ (v4 : Int32) (v5 : Int32) (ls : Array Slot), lv_has ls 6 [(0, .ref h0), (1, .int x1), (2, .int x2), (3, .int x3), (4, .int v4), (5, .int v5)] → Ho ((X0_motionsInto_6_l n ev x1 x2 x3 v4 v5).bind (fun ex => X0_motionsInto_48 ex)) (fun x => x = r) → W p l e rmX0_motionsInto s m args below meth c s.heap [] 0 0 (MQ below (vp_Si (fun x => x = r)) args s 0 0 (fun _ => False)) (F0 m 6 ls []) := by
    intro v4 v5 ls hl h
    refine loop_use2 (fun z : Int32 × Int32 => ∀ (ls : Array Slot), lv_has ls 6 [(0, .ref h0), (1, .int x1), (2, .int x2), (3, .int x3), (4, .int z.1), (5, .int z.2)] → W p l e rmX0_motionsInto s m args below meth c s.heap [] 0 0 (MQ below (vp_Si (fun x => x = r)) args s 0 0 (fun _ => False)) (F0 m 6 ls [])) ?_ FU _ h ls hl
    intro Q6 hi6 ho6 z h ls hl
    obtain ⟨v4, v5⟩ := z
    have h : Ho (X0_motionsInto_6_s n ev x1 x2 x3 v4 v5) Q6 := h
    unfold X0_motionsInto_6_s at h
    have hl : lv_has ls 6 [(0, .ref h0), (1, .int x1), (2, .int x2), (3, .int x3), (4, .int v4), (5, .int v5)] := hl
    refine lv_iload hx hb dX0_motionsInto_6 (lv_at hl 5 rfl) ?_
    refine lv_aload_n hx hb dX0_motionsInto_8 rfl (lv_at hl 0 rfl) ?_
    refine va_get (D := (dC, dI)) (ci := 0) (v := .int n) (C := RX0) (T := TX0) (N := 2) hx hb hts hiX0 hown hK.1 hP 0 rfl rfl 0 (by decide) hf9 (fun _ h9 => h9) rfl dX0_motionsInto_9 ?_
    refine lv_icmp_ge (tgt := 48) hx hb dX0_motionsInto_12 (by decide) (fun q12 => ?_) (fun q12 => ?_)
    · have h := Ho_t h q12
      have h := ho6 _ (Ho_s h)
      exact J48 v4 ls (lv_sub hl [4] rfl) h
    · have h := Ho_f h q12
      refine lv_aload_n hx hb dX0_motionsInto_15 rfl (lv_at hl 0 rfl) ?_
      refine lv_iload hx hb dX0_motionsInto_16 (lv_at hl 5 rfl) ?_
      refine lv_iload_n hx hb dX0_motionsInto_18 rfl (lv_at hl 2 rfl) ?_
      obtain ⟨r19, hc19, h⟩ := Ho_b h
      have hPc : va_P (dC, dI) vwCl [(h0, .inr (0, [.int n, .int ev]))] s.heap := hP.sub [0] rfl
      refine cs_i (va_runV (As := [.int v5, .int x2]) (rest := []) hfix (c_X0_isMultiplier l dC dI cI cJ h0 n ev v5 x2 _ hc19) (cwV 2 hts gX0_motionsInto_X0_isMultiplier rfl rfl rfl (by decide +kernel) ⟨by decide, by decide⟩) (roP.preV hK hPc (ci := 0) rfl rfl) rfl rfl hl.1 rfl (lv_room (Nat.le_of_ble_eq_true rfl)) dX0_motionsInto_19 ⟨Nat.zero_le _, Nat.zero_le _⟩) ?_
      refine lv_if_eq (tgt := 42) hx hb dX0_motionsInto_22 (by decide) (fun q22 => ?_) (fun q22 => ?_)
      · have h := Ho_t h q22
        refine lv_iinc (v := v5 + 1) (lv' := [(5, .int (v5 + 1)), (0, .ref h0), (1, .int x1), (2, .int x2), (3, .int x3), (4, .int v4)]) hx hb dX0_motionsInto_42 hl (k := 5) rfl rfl (by decide) rfl (fun ls hl => ?_)
        refine lv_goto (tgt := 6) hx hb dX0_motionsInto_45 (by decide) ?_
        exact hi6 _ (Ho_s h) ls (lv_sub hl [1, 2, 3, 4, 5, 0] rfl)
      · have h := Ho_f h q22
        refine lv_iload hx hb dX0_motionsInto_25 (lv_at hl 4 rfl) ?_
        refine lv_aload_n hx hb dX0_motionsInto_27 rfl (lv_at hl 0 rfl) ?_
        refine lv_aload_n hx hb dX0_motionsInto_28 rfl (lv_at hl 0 rfl) ?_
        refine lv_iload_n hx hb dX0_motionsInto_29 rfl (lv_at hl 1 rfl) ?_
        refine lv_iload hx hb dX0_motionsInto_30 (lv_at hl 5 rfl) ?_
        obtain ⟨r32, hc32, h⟩ := Ho_b h
        have hPc : va_P (dC, dI) vwCl [(h0, .inr (0, [.int n, .int ev]))] s.heap := hP.sub [0] rfl
        refine cs_i (va_runV (As := [.int x1, .int v5]) (rest := [.ref h0, .int v4]) hfix (c_X0_timesEach l dC dI cI cJ h0 n ev x1 v5 _ hc32) (cwV 2 hts gX0_motionsInto_X0_timesEach rfl rfl rfl (by decide +kernel) ⟨by decide, by decide⟩) (roP.preV hK hPc (ci := 0) rfl rfl) rfl rfl hl.1 rfl (lv_room (Nat.le_of_ble_eq_true rfl)) dX0_motionsInto_32 ⟨Nat.zero_le _, Nat.zero_le _⟩) ?_
        refine lv_iload_n hx hb dX0_motionsInto_35 rfl (lv_at hl 3 rfl) ?_
        obtain ⟨r36, hc36, h⟩ := Ho_b h
        have hPc : va_P (dC, dI) vwCl [(h0, .inr (0, [.int n, .int ev]))] s.heap := hP.sub [0] rfl
        refine cs_i (va_runV (As := [.int r32, .int x3]) (rest := [.int v4]) hfix (c_X0_turnsInto l dC dI cI cJ h0 n ev r32 x3 _ hc36) (cwV 2 hts gX0_motionsInto_X0_turnsInto rfl rfl rfl (by decide +kernel) ⟨by decide, by decide⟩) (roP.preV hK hPc (ci := 0) rfl rfl) rfl rfl hl.1 rfl (lv_room (Nat.le_of_ble_eq_true rfl)) dX0_motionsInto_36 ⟨Nat.zero_le _, Nat.zero_le _⟩) ?_
        refine lv_iadd hx hb dX0_motionsInto_39 ?_
        refine lv_istore (lv' := [(4, .int (v4 + r36)), (0, .ref h0), (1, .int x1), (2, .int x2), (3, .int x3), (5, .int v5)]) hx hb dX0_motionsInto_40 hl (by decide) rfl (fun ls hl => ?_)
        refine lv_iinc (v := v5 + 1) (lv' := [(5, .int (v5 + 1)), (4, .int (v4 + r36)), (0, .ref h0), (1, .int x1), (2, .int x2), (3, .int x3)]) hx hb dX0_motionsInto_42 hl (k := 5) rfl rfl (by decide) rfl (fun ls hl => ?_)
        refine lv_goto (tgt := 6) hx hb dX0_motionsInto_45 (by decide) ?_
        exact hi6 _ (Ho_s h) ls (lv_sub hl [2, 3, 4, 5, 1, 0] rfl)
  refine lv_iconst (v := (0 : Int32)) hx hb dX0_motionsInto_0 (by decide) ?_
  refine lv_istore (lv' := [(4, .int (0 : Int32)), (0, .ref h0), (1, .int x1), (2, .int x2), (3, .int x3)]) hx hb dX0_motionsInto_1 hl (by decide) rfl (fun ls hl => ?_)
  refine lv_iconst (v := (0 : Int32)) hx hb dX0_motionsInto_3 (by decide) ?_
  refine lv_istore (lv' := [(5, .int (0 : Int32)), (4, .int (0 : Int32)), (0, .ref h0), (1, .int x1), (2, .int x2), (3, .int x3)]) hx hb dX0_motionsInto_4 hl (by decide) rfl (fun ls hl => ?_)
  exact J6 (0 : Int32) (0 : Int32) ls (lv_sub hl [2, 3, 4, 5, 1, 0] rfl) h
abbrev rmX5_quotient : Room := { frames := 0, cells := 0, slots := 0, locals := 0 }
set_option maxHeartbeats 4000000 in
set_option maxRecDepth 100000 in
theorem c_X5_quotient (l : Launch) (dC : Nat → ClassId) (dI : Nat → Nat → Nat) (cI cJ : ClassId) (x0 : Int32) (x1 : Int32) (r : Int32) (hF : FX5_quotient x0 x1 = some r) : Met l yX5_quotient wsX5_quotient rmX5_quotient (roP (dC, dI) [(cI, .int), (cJ, .long)] [] [.int x0, .int x1]) (vp_Si (fun x => x = r)) 0 0 (fun _ => False) := by
  refine ro_start (cc := cX5_quotient) (maxL := 2) (ret := (some .int)) (by decide) rfl (Nat.le_of_ble_eq_true rfl) ?_
  intro p e s m args below meth c ls hx hb hml hr hlk hown hts hP hK hl
  have hown : s.vm.findClass RX5 = some m.cls := hown
  have hl : lv_has ls 2 [(0, .int x0), (1, .int x1)] := hl
  have h : Ho (FX5_quotient x0 x1) (fun x => x = r) := ⟨r, hF, rfl⟩
  unfold FX5_quotient at h
  have hfix : CallFix p m c cX5_quotient 2 s args wsX5_quotient RX5 := ⟨hx, hb, hml, hown, hts⟩
  refine lv_iload_n hx hb dX5_quotient_0 rfl (lv_at hl 1 rfl) ?_
  refine lv_if_ne (tgt := 8) hx hb dX5_quotient_1 (by decide) (fun q1 => ?_) (fun q1 => ?_)
  · have h := Ho_f h q1
    refine lv_iload_n hx hb dX5_quotient_8 rfl (lv_at hl 0 rfl) ?_
    refine lv_iload_n hx hb dX5_quotient_9 rfl (lv_at hl 1 rfl) ?_
    obtain ⟨hz10, h⟩ := Ho_nz h
    refine lv_idiv hx hb dX5_quotient_10 hz10 ?_
    exact W.iret hx hb hr (fun t ht _ => ro_Si (Ho_e h) ht) ro_nil dX5_quotient_11 hlk
  · have h := Ho_t h q1
    refine lv_iconst (v := (0 : Int32)) hx hb dX5_quotient_4 (by decide) ?_
    refine lv_goto (tgt := 11) hx hb dX5_quotient_5 (by decide) ?_
    exact W.iret hx hb hr (fun t ht _ => ro_Si (Ho_e h) ht) ro_nil dX5_quotient_11 hlk
abbrev rmX0_membersInside : Room := { frames := 3, cells := 0, slots := 0, locals := 71 }
set_option maxHeartbeats 4000000 in
set_option maxRecDepth 100000 in
theorem c_X0_membersInside (l : Launch) (dC : Nat → ClassId) (dI : Nat → Nat → Nat) (cI cJ : ClassId) (h0 : Nat) (n : Int32) (ev : Int32) (x1 : Int32) (x2 : Int32) (x3 : Int32) (r : Int32) (hF : FX0_membersInside n ev x1 x2 x3 = some r) : Met l yX0_membersInside wsX0_membersInside rmX0_membersInside (roP (dC, dI) [(cI, .int), (cJ, .long)] [(h0, .inr (0, [.int n, .int ev]))] [.ref h0, .int x1, .int x2, .int x3]) (vp_Si (fun x => x = r)) 0 0 (fun _ => False) := by
  refine ro_start (cc := cX0_membersInside) (maxL := 4) (ret := (some .int)) (by decide) rfl (Nat.le_of_ble_eq_true rfl) ?_
  intro p e s m args below meth c ls hx hb hml hr hlk hown hts hP hK hl
  have hown : s.vm.findClass RX0 = some m.cls := hown
  have hl : lv_has ls 4 [(0, .ref h0), (1, .int x1), (2, .int x2), (3, .int x3)] := hl
  have h : Ho (FX0_membersInside n ev x1 x2 x3) (fun x => x = r) := ⟨r, hF, rfl⟩
  unfold FX0_membersInside at h
  have hfix : CallFix p m c cX0_membersInside 4 s args wsX0_membersInside RX0 := ⟨hx, hb, hml, hown, hts⟩
  refine lv_aload_n hx hb dX0_membersInside_0 rfl (lv_at hl 0 rfl) ?_
  refine lv_iload_n hx hb dX0_membersInside_1 rfl (lv_at hl 1 rfl) ?_
  refine lv_iload_n hx hb dX0_membersInside_2 rfl (lv_at hl 2 rfl) ?_
  refine lv_iload_n hx hb dX0_membersInside_3 rfl (lv_at hl 3 rfl) ?_
  obtain ⟨r4, hc4, h⟩ := Ho_b h
  have hPc : va_P (dC, dI) vwCl [(h0, .inr (0, [.int n, .int ev]))] s.heap := hP.sub [0] rfl
  refine cs_i (va_runV (As := [.int x1, .int x2, .int x3]) (rest := []) hfix (c_X0_motionsInto l dC dI cI cJ h0 n ev x1 x2 x3 _ hc4) (cwV 3 hts gX0_membersInside_X0_motionsInto rfl rfl rfl (by decide +kernel) ⟨by decide, by decide⟩) (roP.preV hK hPc (ci := 0) rfl rfl) rfl rfl hl.1 rfl (lv_room (Nat.le_of_ble_eq_true rfl)) dX0_membersInside_4 ⟨Nat.zero_le _, Nat.zero_le _⟩) ?_
  refine lv_aload_n hx hb dX0_membersInside_7 rfl (lv_at hl 0 rfl) ?_
  refine lv_iload_n hx hb dX0_membersInside_8 rfl (lv_at hl 1 rfl) ?_
  refine lv_iload_n hx hb dX0_membersInside_9 rfl (lv_at hl 2 rfl) ?_
  refine lv_iload_n hx hb dX0_membersInside_10 rfl (lv_at hl 1 rfl) ?_
  obtain ⟨r11, hc11, h⟩ := Ho_b h
  have hPc : va_P (dC, dI) vwCl [(h0, .inr (0, [.int n, .int ev]))] s.heap := hP.sub [0] rfl
  refine cs_i (va_runV (As := [.int x1, .int x2, .int x1]) (rest := [.int r4]) hfix (c_X0_motionsInto l dC dI cI cJ h0 n ev x1 x2 x1 _ hc11) (cwV 3 hts gX0_membersInside_X0_motionsInto rfl rfl rfl (by decide +kernel) ⟨by decide, by decide⟩) (roP.preV hK hPc (ci := 0) rfl rfl) rfl rfl hl.1 rfl (lv_room (Nat.le_of_ble_eq_true rfl)) dX0_membersInside_11 ⟨Nat.zero_le _, Nat.zero_le _⟩) ?_
  obtain ⟨r14, hc14, h⟩ := Ho_b h
  have hin14 := hts (.initialized RX5) (by decide +kernel)
  have hst14 := hts (.static yX5_quotient) (by decide +kernel)
  refine cs_i (va_runSN (As := [.int r4, .int r11]) (rest := []) hfix (c_X5_quotient l dC dI cI cJ  r4 r11 _ hc14) ⟨va_cnB 2 hts gX0_membersInside_X5_quotient_n48 rfl rfl rfl hK.2.2.1 hin14 (by decide +kernel) ⟨by decide, by decide⟩, hst14, trivial⟩ (roP.preS hK va_Pnil) rfl rfl hl.1 rfl (lv_room (Nat.le_of_ble_eq_true rfl)) dX0_membersInside_14 ⟨Nat.zero_le _, Nat.zero_le _⟩) ?_
  exact W.iret hx hb hr (fun t ht _ => ro_Si (Ho_e h) ht) ro_nil dX0_membersInside_17 hlk
abbrev rmJ6_bitCount_0f7a4 : Room := { frames := 0, cells := 0, slots := 0, locals := 0 }
set_option maxHeartbeats 4000000 in
set_option maxRecDepth 100000 in
theorem c_J6_bitCount_0f7a4 (l : Launch) (dC : Nat → ClassId) (dI : Nat → Nat → Nat) (cI cJ : ClassId) (x0 : Int32) (r : Int32) (hF : FJ6_bitCount_0f7a4 x0 = some r) : Met l yJ6_bitCount_0f7a4 wsJ6_bitCount_0f7a4 rmJ6_bitCount_0f7a4 (roP (dC, dI) [(cI, .int), (cJ, .long)] [] [.int x0]) (vp_Si (fun x => x = r)) 0 0 (fun _ => False) := by
  refine ro_start (cc := cJ6_bitCount_0f7a4) (maxL := 1) (ret := (some .int)) (by decide) rfl (Nat.le_of_ble_eq_true rfl) ?_
  intro p e s m args below meth c ls hx hb hml hr hlk hown hts hP hK hl
  have hown : s.vm.findClass RJ6 = some m.cls := hown
  have hl : lv_has ls 1 [(0, .int x0)] := hl
  have h : Ho (FJ6_bitCount_0f7a4 x0) (fun x => x = r) := ⟨r, hF, rfl⟩
  unfold FJ6_bitCount_0f7a4 at h
  have hfix : CallFix p m c cJ6_bitCount_0f7a4 1 s args wsJ6_bitCount_0f7a4 RJ6 := ⟨hx, hb, hml, hown, hts⟩
  have hc265 := hts (.constant RJ6 265 (1431655765)) (by decide +kernel)
  have hc266 := hts (.constant RJ6 266 (858993459)) (by decide +kernel)
  have hc267 := hts (.constant RJ6 267 (252645135)) (by decide +kernel)
  refine lv_iload_n hx hb dJ6_bitCount_0f7a4_0 rfl (lv_at hl 0 rfl) ?_
  refine lv_iload_n hx hb dJ6_bitCount_0f7a4_1 rfl (lv_at hl 0 rfl) ?_
  refine lv_iconst (v := (1 : Int32)) hx hb dJ6_bitCount_0f7a4_2 (by decide) ?_
  refine lv_iushr (v := (x0.toUInt32 >>> ((1 : Int32).toUInt32 &&& Int32.toUInt32 31)).toInt32) hx hb dJ6_bitCount_0f7a4_3 rfl ?_
  refine lv_ldcw hx hb hown hc265 dJ6_bitCount_0f7a4_4 ?_
  refine lv_iand hx hb dJ6_bitCount_0f7a4_7 ?_
  refine lv_isub hx hb dJ6_bitCount_0f7a4_8 ?_
  refine lv_istore_n (lv' := [(0, .int (x0 - (((x0.toUInt32 >>> ((1 : Int32).toUInt32 &&& Int32.toUInt32 31)).toInt32) &&& (1431655765 : Int32))))]) hx hb dJ6_bitCount_0f7a4_9 rfl hl (by decide) rfl (fun ls hl => ?_)
  refine lv_iload_n hx hb dJ6_bitCount_0f7a4_10 rfl (lv_at hl 0 rfl) ?_
  refine lv_ldcw hx hb hown hc266 dJ6_bitCount_0f7a4_11 ?_
  refine lv_iand hx hb dJ6_bitCount_0f7a4_14 ?_
  refine lv_iload_n hx hb dJ6_bitCount_0f7a4_15 rfl (lv_at hl 0 rfl) ?_
  refine lv_iconst (v := (2 : Int32)) hx hb dJ6_bitCount_0f7a4_16 (by decide) ?_
  refine lv_iushr (v := ((x0 - (((x0.toUInt32 >>> ((1 : Int32).toUInt32 &&& Int32.toUInt32 31)).toInt32) &&& (1431655765 : Int32))).toUInt32 >>> ((2 : Int32).toUInt32 &&& Int32.toUInt32 31)).toInt32) hx hb dJ6_bitCount_0f7a4_17 rfl ?_
  refine lv_ldcw hx hb hown hc266 dJ6_bitCount_0f7a4_18 ?_
  refine lv_iand hx hb dJ6_bitCount_0f7a4_21 ?_
  refine lv_iadd hx hb dJ6_bitCount_0f7a4_22 ?_
  refine lv_topi (fun w23 ew23 => ?_)
  have h := Ho_let h w23 ew23
  refine lv_istore_n (lv' := [(0, .int w23)]) hx hb dJ6_bitCount_0f7a4_23 rfl hl (by decide) rfl (fun ls hl => ?_)
  refine lv_iload_n hx hb dJ6_bitCount_0f7a4_24 rfl (lv_at hl 0 rfl) ?_
  refine lv_iload_n hx hb dJ6_bitCount_0f7a4_25 rfl (lv_at hl 0 rfl) ?_
  refine lv_iconst (v := (4 : Int32)) hx hb dJ6_bitCount_0f7a4_26 (by decide) ?_
  refine lv_iushr (v := (w23.toUInt32 >>> ((4 : Int32).toUInt32 &&& Int32.toUInt32 31)).toInt32) hx hb dJ6_bitCount_0f7a4_27 rfl ?_
  refine lv_iadd hx hb dJ6_bitCount_0f7a4_28 ?_
  refine lv_ldcw hx hb hown hc267 dJ6_bitCount_0f7a4_29 ?_
  refine lv_iand hx hb dJ6_bitCount_0f7a4_32 ?_
  refine lv_istore_n (lv' := [(0, .int ((w23 + ((w23.toUInt32 >>> ((4 : Int32).toUInt32 &&& Int32.toUInt32 31)).toInt32)) &&& (252645135 : Int32)))]) hx hb dJ6_bitCount_0f7a4_33 rfl hl (by decide) rfl (fun ls hl => ?_)
  refine lv_iload_n hx hb dJ6_bitCount_0f7a4_34 rfl (lv_at hl 0 rfl) ?_
  refine lv_iload_n hx hb dJ6_bitCount_0f7a4_35 rfl (lv_at hl 0 rfl) ?_
  refine lv_bipush (v := (8 : Int32)) hx hb dJ6_bitCount_0f7a4_36 (by decide) ?_
  refine lv_iushr (v := (((w23 + ((w23.toUInt32 >>> ((4 : Int32).toUInt32 &&& Int32.toUInt32 31)).toInt32)) &&& (252645135 : Int32)).toUInt32 >>> ((8 : Int32).toUInt32 &&& Int32.toUInt32 31)).toInt32) hx hb dJ6_bitCount_0f7a4_38 rfl ?_
  refine lv_iadd hx hb dJ6_bitCount_0f7a4_39 ?_
  refine lv_topi (fun w40 ew40 => ?_)
  have h := Ho_let h w40 ew40
  refine lv_istore_n (lv' := [(0, .int w40)]) hx hb dJ6_bitCount_0f7a4_40 rfl hl (by decide) rfl (fun ls hl => ?_)
  refine lv_iload_n hx hb dJ6_bitCount_0f7a4_41 rfl (lv_at hl 0 rfl) ?_
  refine lv_iload_n hx hb dJ6_bitCount_0f7a4_42 rfl (lv_at hl 0 rfl) ?_
  refine lv_bipush (v := (16 : Int32)) hx hb dJ6_bitCount_0f7a4_43 (by decide) ?_
  refine lv_iushr (v := (w40.toUInt32 >>> ((16 : Int32).toUInt32 &&& Int32.toUInt32 31)).toInt32) hx hb dJ6_bitCount_0f7a4_45 rfl ?_
  refine lv_iadd hx hb dJ6_bitCount_0f7a4_46 ?_
  refine lv_istore_n (lv' := [(0, .int (w40 + ((w40.toUInt32 >>> ((16 : Int32).toUInt32 &&& Int32.toUInt32 31)).toInt32)))]) hx hb dJ6_bitCount_0f7a4_47 rfl hl (by decide) rfl (fun ls hl => ?_)
  refine lv_iload_n hx hb dJ6_bitCount_0f7a4_48 rfl (lv_at hl 0 rfl) ?_
  refine lv_bipush (v := (63 : Int32)) hx hb dJ6_bitCount_0f7a4_49 (by decide) ?_
  refine lv_iand hx hb dJ6_bitCount_0f7a4_51 ?_
  exact W.iret hx hb hr (fun t ht _ => ro_Si (Ho_e h) ht) ro_nil dJ6_bitCount_0f7a4_52 hlk
abbrev rmX0_pairsApart : Room := { frames := 1, cells := 0, slots := 0, locals := 22 }
set_option maxHeartbeats 4000000 in
set_option maxRecDepth 100000 in
theorem c_X0_pairsApart (l : Launch) (dC : Nat → ClassId) (dI : Nat → Nat → Nat) (cI cJ : ClassId) (h0 : Nat) (n : Int32) (ev : Int32) (x1 : Int32) (x2 : Int32) (r : Int32) (hF : FX0_pairsApart n ev x1 x2 = some r) : Met l yX0_pairsApart wsX0_pairsApart rmX0_pairsApart (roP (dC, dI) [(cI, .int), (cJ, .long)] [(h0, .inr (0, [.int n, .int ev]))] [.ref h0, .int x1, .int x2]) (vp_Si (fun x => x = r)) 0 0 (fun _ => False) := by
  refine ro_start (cc := cX0_pairsApart) (maxL := 3) (ret := (some .int)) (by decide) rfl (Nat.le_of_ble_eq_true rfl) ?_
  intro p e s m args below meth c ls hx hb hml hr hlk hown hts hP hK hl
  have hown : s.vm.findClass RX0 = some m.cls := hown
  have hl : lv_has ls 3 [(0, .ref h0), (1, .int x1), (2, .int x2)] := hl
  have h : Ho (FX0_pairsApart n ev x1 x2) (fun x => x = r) := ⟨r, hF, rfl⟩
  unfold FX0_pairsApart at h
  have hfix : CallFix p m c cX0_pairsApart 3 s args wsX0_pairsApart RX0 := ⟨hx, hb, hml, hown, hts⟩
  refine lv_iload_n hx hb dX0_pairsApart_0 rfl (lv_at hl 1 rfl) ?_
  refine lv_aload_n hx hb dX0_pairsApart_1 rfl (lv_at hl 0 rfl) ?_
  refine lv_iload_n hx hb dX0_pairsApart_2 rfl (lv_at hl 1 rfl) ?_
  refine lv_iload_n hx hb dX0_pairsApart_3 rfl (lv_at hl 2 rfl) ?_
  obtain ⟨r4, hc4, h⟩ := Ho_b h
  have hPc : va_P (dC, dI) vwCl [(h0, .inr (0, [.int n, .int ev]))] s.heap := hP.sub [0] rfl
  refine cs_i (va_runV (As := [.int x1, .int x2]) (rest := [.int x1]) hfix (c_X0_turned l dC dI cI cJ h0 n ev x1 x2 _ hc4) (cwV 2 hts gX0_pairsApart_X0_turned rfl rfl rfl (by decide +kernel) ⟨by decide, by decide⟩) (roP.preV hK hPc (ci := 0) rfl rfl) rfl rfl hl.1 rfl (lv_room (Nat.le_of_ble_eq_true rfl)) dX0_pairsApart_4 ⟨Nat.zero_le _, Nat.zero_le _⟩) ?_
  refine lv_iand hx hb dX0_pairsApart_7 ?_
  obtain ⟨r8, hc8, h⟩ := Ho_b h
  refine cs_i (va_runS (As := [.int (x1 &&& r4)]) (rest := []) hfix (c_J6_bitCount_0f7a4 l dC dI cI cJ  (x1 &&& r4) _ hc8) (va_cwS 1 hts gX0_pairsApart_J6_bitCount_0f7a4 rfl rfl rfl (by decide +kernel) ⟨by decide, by decide⟩) (roP.preS hK va_Pnil) rfl rfl hl.1 rfl (lv_room (Nat.le_of_ble_eq_true rfl)) dX0_pairsApart_8 ⟨Nat.zero_le _, Nat.zero_le _⟩) ?_
  exact W.iret hx hb hr (fun t ht _ => ro_Si (Ho_e h) ht) ro_nil dX0_pairsApart_11 hlk
abbrev rmX0_hasLikeWays : Room := { frames := 1, cells := 0, slots := 0, locals := 24 }
set_option maxHeartbeats 4000000 in
set_option maxRecDepth 100000 in
theorem c_X0_hasLikeWays (l : Launch) (dC : Nat → ClassId) (dI : Nat → Nat → Nat) (cI cJ : ClassId) (h0 : Nat) (n : Int32) (ev : Int32) (x1 : Int32) (x2 : Int32) (r : Int32) (hF : FX0_hasLikeWays n x1 x2 = some r) : Met l yX0_hasLikeWays wsX0_hasLikeWays rmX0_hasLikeWays (roP (dC, dI) [(cI, .int), (cJ, .long)] [(h0, .inr (0, [.int n, .int ev]))] [.ref h0, .int x1, .int x2]) (vp_Si (fun x => x = r)) 0 0 (fun _ => False) := by
  refine ro_start (cc := cX0_hasLikeWays) (maxL := 9) (ret := (some .boolean)) (by decide) rfl (Nat.le_of_ble_eq_true rfl) ?_
  intro p e s m args below meth c ls hx hb hml hr hlk hown hts hP hK hl
  have hown : s.vm.findClass RX0 = some m.cls := hown
  have hl : lv_has ls 9 [(0, .ref h0), (1, .int x1), (2, .int x2)] := hl
  have h : Ho (FX0_hasLikeWays n x1 x2) (fun x => x = r) := ⟨r, hF, rfl⟩
  unfold FX0_hasLikeWays at h
  have hfix : CallFix p m c cX0_hasLikeWays 9 s args wsX0_hasLikeWays RX0 := ⟨hx, hb, hml, hown, hts⟩
  have hiX0 : ∀ w ∈ u_ws RX0 TX0 2, w ∈ wsX0_hasLikeWays := by decide +kernel
  have hf9 := hts (.fieldLink RX0 9 "RowClasses$Circle" "n" "I") (by decide +kernel)
  have hm36 := hts (.methodLink RX0 36 Lib.Math.min.name) (by decide +kernel)
  have hms_min := hts (.static Lib.Math.min.name) (by decide +kernel)
  have hmc_min := hts (.code Lib.Math.min.name Lib.Math.min.code 2 (some .int)) (by decide +kernel)
  have hm62 := hts (.methodLink RX0 62 Lib.Math.max.name) (by decide +kernel)
  have hms_max := hts (.static Lib.Math.max.name) (by decide +kernel)
  have hmc_max := hts (.code Lib.Math.max.name Lib.Math.max.code 2 (some .int)) (by decide +kernel)
  have hmi := hts (.initialized "java/lang/Math") (by decide +kernel)
  have J92 : ∀ (v3 : Int32) (v4 : Int32) (ls : Array Slot), lv_has ls 9 [(3, .int v3), (4, .int v4)] → Ho (X0_hasLikeWays_92 v3 v4) (fun x => x = r) → W p l e rmX0_hasLikeWays s m args below meth c s.heap [] 0 0 (MQ below (vp_Si (fun x => x = r)) args s 0 0 (fun _ => False)) (F0 m 92 ls []) := by
    intro v3 v4 ls hl h
    unfold X0_hasLikeWays_92 at h
    refine lv_iload hx hb dX0_hasLikeWays_92 (lv_at hl 1 rfl) ?_
    refine lv_iload_n hx hb dX0_hasLikeWays_94 rfl (lv_at hl 0 rfl) ?_
    refine lv_isub hx hb dX0_hasLikeWays_95 ?_
    refine lv_iconst (v := (1 : Int32)) hx hb dX0_hasLikeWays_96 (by decide) ?_
    refine lv_icmp_gt (tgt := 104) hx hb dX0_hasLikeWays_97 (by decide) (fun q97 => ?_) (fun q97 => ?_)
    · have h := Ho_t h q97
      refine lv_iconst (v := (0 : Int32)) hx hb dX0_hasLikeWays_104 (by decide) ?_
      exact W.zret (ty := .boolean) hx hb hr rfl (fun t ht _ => ro_Si (Ho_e h) ht) ro_nil dX0_hasLikeWays_105 hlk
    · have h := Ho_f h q97
      refine lv_iconst (v := (1 : Int32)) hx hb dX0_hasLikeWays_100 (by decide) ?_
      refine lv_goto (tgt := 105) hx hb dX0_hasLikeWays_101 (by decide) ?_
      exact W.zret (ty := .boolean) hx hb hr rfl (fun t ht _ => ro_Si (Ho_e h) ht) ro_nil dX0_hasLikeWays_105 hlk
  have J17 : ∀ (v3 : Int32) (v4 : Int32) (v5 : Int32) (v6 : Int32) (ls : Array Slot), lv_has ls 9 [(0, .ref h0), (1, .int x1), (2, .int x2), (3, .int v3), (4, .int v4), (5, .int v5), (6, .int v6)] → Ho ((X0_hasLikeWays_17_l n x1 x2 v5 v3 v4 v6).bind (fun ex => X0_hasLikeWays_92 ex.1 ex.2)) (fun x => x = r) → W p l e rmX0_hasLikeWays s m args below meth c s.heap [] 0 0 (MQ below (vp_Si (fun x => x = r)) args s 0 0 (fun _ => False)) (F0 m 17 ls []) := by
    intro v3 v4 v5 v6 ls hl h
    refine loop_use2 (fun z : Int32 × Int32 × Int32 => ∀ (ls : Array Slot), lv_has ls 9 [(0, .ref h0), (1, .int x1), (2, .int x2), (3, .int z.1), (4, .int z.2.1), (5, .int v5), (6, .int z.2.2)] → W p l e rmX0_hasLikeWays s m args below meth c s.heap [] 0 0 (MQ below (vp_Si (fun x => x = r)) args s 0 0 (fun _ => False)) (F0 m 17 ls [])) ?_ FU _ h ls hl
    intro Q17 hi17 ho17 z h ls hl
    obtain ⟨v3, v4, v6⟩ := z
    have h : Ho (X0_hasLikeWays_17_s n x1 x2 v5 v3 v4 v6) Q17 := h
    unfold X0_hasLikeWays_17_s at h
    have hl : lv_has ls 9 [(0, .ref h0), (1, .int x1), (2, .int x2), (3, .int v3), (4, .int v4), (5, .int v5), (6, .int v6)] := hl
    have J47 : ∀ (v3 : Int32) (v4 : Int32) (v6 : Int32) (t0 : Int32) (ls : Array Slot), lv_has ls 9 [(0, .ref h0), (1, .int x1), (2, .int x2), (3, .int v3), (4, .int v4), (5, .int v5), (6, .int v6)] → Ho (X0_hasLikeWays_47 n x1 v3 v4 v5 v6 t0) Q17 → W p l e rmX0_hasLikeWays s m args below meth c s.heap [] 0 0 (MQ below (vp_Si (fun x => x = r)) args s 0 0 (fun _ => False)) (F0 m 47 ls [.int t0]) := by
      intro v3 v4 v6 t0 ls hl h
      unfold X0_hasLikeWays_47 at h
      refine lv_istore (lv' := [(7, .int t0), (0, .ref h0), (1, .int x1), (2, .int x2), (3, .int v3), (4, .int v4), (5, .int v5), (6, .int v6)]) hx hb dX0_hasLikeWays_47 hl (by decide) rfl (fun ls hl => ?_)
      refine lv_aload_n hx hb dX0_hasLikeWays_49 rfl (lv_at hl 1 rfl) ?_
      refine lv_aload_n hx hb dX0_hasLikeWays_50 rfl (lv_at hl 1 rfl) ?_
      refine lv_iload_n hx hb dX0_hasLikeWays_51 rfl (lv_at hl 2 rfl) ?_
      refine lv_iload hx hb dX0_hasLikeWays_52 (lv_at hl 0 rfl) ?_
      obtain ⟨r54, hc54, h⟩ := Ho_b h
      have hPc : va_P (dC, dI) vwCl [(h0, .inr (0, [.int n, .int ev]))] s.heap := hP.sub [0] rfl
      refine cs_i (va_runV (As := [.int x1, .int t0]) (rest := [.ref h0]) hfix (c_X0_stepAt l dC dI cI cJ h0 n ev x1 t0 _ hc54) (cwV 2 hts gX0_hasLikeWays_X0_stepAt rfl rfl rfl (by decide +kernel) ⟨by decide, by decide⟩) (roP.preV hK hPc (ci := 0) rfl rfl) rfl rfl hl.1 rfl (lv_room (Nat.le_of_ble_eq_true rfl)) dX0_hasLikeWays_54 ⟨Nat.zero_le _, Nat.zero_le _⟩) ?_
      refine lv_aload_n hx hb dX0_hasLikeWays_57 rfl (lv_at hl 1 rfl) ?_
      refine lv_iload_n hx hb dX0_hasLikeWays_58 rfl (lv_at hl 2 rfl) ?_
      refine lv_iload hx hb dX0_hasLikeWays_59 (lv_at hl 7 rfl) ?_
      obtain ⟨r61, hc61, h⟩ := Ho_b h
      have hPc : va_P (dC, dI) vwCl [(h0, .inr (0, [.int n, .int ev]))] s.heap := hP.sub [0] rfl
      refine cs_i (va_runV (As := [.int x1, .int v6]) (rest := [.int r54, .ref h0]) hfix (c_X0_stepAt l dC dI cI cJ h0 n ev x1 v6 _ hc61) (cwV 2 hts gX0_hasLikeWays_X0_stepAt rfl rfl rfl (by decide +kernel) ⟨by decide, by decide⟩) (roP.preV hK hPc (ci := 0) rfl rfl) rfl rfl hl.1 rfl (lv_room (Nat.le_of_ble_eq_true rfl)) dX0_hasLikeWays_61 ⟨Nat.zero_le _, Nat.zero_le _⟩) ?_
      refine lv_isub hx hb dX0_hasLikeWays_64 ?_
      obtain ⟨r65, hc65, h⟩ := Ho_b h
      have hPc : va_P (dC, dI) vwCl [(h0, .inr (0, [.int n, .int ev]))] s.heap := hP.sub [0] rfl
      refine cs_i (va_runV (As := [.int (r54 - r61)]) (rest := []) hfix (c_X0_wrapped l dC dI cI cJ h0 n ev (r54 - r61) _ hc65) (cwV 1 hts gX0_hasLikeWays_X0_wrapped rfl rfl rfl (by decide +kernel) ⟨by decide, by decide⟩) (roP.preV hK hPc (ci := 0) rfl rfl) rfl rfl hl.1 rfl (lv_room (Nat.le_of_ble_eq_true rfl)) dX0_hasLikeWays_65 ⟨Nat.zero_le _, Nat.zero_le _⟩) ?_
      refine lv_istore (lv' := [(8, .int r65), (7, .int t0), (0, .ref h0), (1, .int x1), (2, .int x2), (3, .int v3), (4, .int v4), (5, .int v5), (6, .int v6)]) hx hb dX0_hasLikeWays_68 hl (by decide) rfl (fun ls hl => ?_)
      refine lv_iload_n hx hb dX0_hasLikeWays_70 rfl (lv_at hl 5 rfl) ?_
      refine lv_iload hx hb dX0_hasLikeWays_71 (lv_at hl 0 rfl) ?_
      refine va_mmin hx hb (hml.trans hl.1.symm) hown hm36 hms_min hmi hmc_min (by decide) (by decide) (Nat.zero_le _) (Nat.zero_le _) dX0_hasLikeWays_73 ?_
      refine lv_topi (fun r73 er73 => ?_)
      have h := Ho_let h r73 er73
      refine lv_istore_n (lv' := [(3, .int r73), (8, .int r65), (7, .int t0), (0, .ref h0), (1, .int x1), (2, .int x2), (4, .int v4), (5, .int v5), (6, .int v6)]) hx hb dX0_hasLikeWays_76 rfl hl (by decide) rfl (fun ls hl => ?_)
      refine lv_iload hx hb dX0_hasLikeWays_77 (lv_at hl 6 rfl) ?_
      refine lv_iload hx hb dX0_hasLikeWays_79 (lv_at hl 1 rfl) ?_
      refine va_mmax hx hb (hml.trans hl.1.symm) hown hm62 hms_max hmi hmc_max (by decide) (by decide) (Nat.zero_le _) (Nat.zero_le _) dX0_hasLikeWays_81 ?_
      refine lv_topi (fun r81 er81 => ?_)
      have h := Ho_let h r81 er81
      refine lv_istore (lv' := [(4, .int r81), (3, .int r73), (8, .int r65), (7, .int t0), (0, .ref h0), (1, .int x1), (2, .int x2), (5, .int v5), (6, .int v6)]) hx hb dX0_hasLikeWays_84 hl (by decide) rfl (fun ls hl => ?_)
      refine lv_iinc (v := v6 + 1) (lv' := [(6, .int (v6 + 1)), (4, .int r81), (3, .int r73), (8, .int r65), (7, .int t0), (0, .ref h0), (1, .int x1), (2, .int x2), (5, .int v5)]) hx hb dX0_hasLikeWays_86 hl (k := 8) rfl rfl (by decide) rfl (fun ls hl => ?_)
      refine lv_goto (tgt := 17) hx hb dX0_hasLikeWays_89 (by decide) ?_
      exact hi17 _ (Ho_s h) ls (lv_sub hl [5, 6, 7, 2, 1, 8, 0] rfl)
    refine lv_iload hx hb dX0_hasLikeWays_17 (lv_at hl 6 rfl) ?_
    refine lv_iload hx hb dX0_hasLikeWays_19 (lv_at hl 5 rfl) ?_
    refine lv_icmp_ge (tgt := 92) hx hb dX0_hasLikeWays_21 (by decide) (fun q21 => ?_) (fun q21 => ?_)
    · have h := Ho_t h q21
      have h := ho17 _ (Ho_s h)
      exact J92 v3 v4 ls (lv_sub hl [3, 4] rfl) h
    · have h := Ho_f h q21
      refine lv_iload hx hb dX0_hasLikeWays_24 (lv_at hl 6 rfl) ?_
      refine lv_iload_n hx hb dX0_hasLikeWays_26 rfl (lv_at hl 2 rfl) ?_
      refine lv_iadd hx hb dX0_hasLikeWays_27 ?_
      refine lv_iload hx hb dX0_hasLikeWays_28 (lv_at hl 5 rfl) ?_
      refine lv_icmp_ge (tgt := 40) hx hb dX0_hasLikeWays_30 (by decide) (fun q30 => ?_) (fun q30 => ?_)
      · have h := Ho_t h q30
        refine lv_iload hx hb dX0_hasLikeWays_40 (lv_at hl 6 rfl) ?_
        refine lv_iload_n hx hb dX0_hasLikeWays_42 rfl (lv_at hl 2 rfl) ?_
        refine lv_iadd hx hb dX0_hasLikeWays_43 ?_
        refine lv_iload hx hb dX0_hasLikeWays_44 (lv_at hl 5 rfl) ?_
        refine lv_isub hx hb dX0_hasLikeWays_46 ?_
        exact J47 v3 v4 v6 ((v6 + x2) - v5) ls (lv_sub hl [0, 1, 2, 3, 4, 5, 6] rfl) h
      · have h := Ho_f h q30
        refine lv_iload hx hb dX0_hasLikeWays_33 (lv_at hl 6 rfl) ?_
        refine lv_iload_n hx hb dX0_hasLikeWays_35 rfl (lv_at hl 2 rfl) ?_
        refine lv_iadd hx hb dX0_hasLikeWays_36 ?_
        refine lv_goto (tgt := 47) hx hb dX0_hasLikeWays_37 (by decide) ?_
        exact J47 v3 v4 v6 (v6 + x2) ls (lv_sub hl [0, 1, 2, 3, 4, 5, 6] rfl) h
  refine lv_aload_n hx hb dX0_hasLikeWays_0 rfl (lv_at hl 0 rfl) ?_
  refine va_get (D := (dC, dI)) (ci := 0) (v := .int n) (C := RX0) (T := TX0) (N := 2) hx hb hts hiX0 hown hK.1 hP 0 rfl rfl 0 (by decide) hf9 (fun _ h9 => h9) rfl dX0_hasLikeWays_1 ?_
  refine lv_istore_n (lv' := [(3, .int n), (0, .ref h0), (1, .int x1), (2, .int x2)]) hx hb dX0_hasLikeWays_4 rfl hl (by decide) rfl (fun ls hl => ?_)
  refine lv_iconst (v := (0 : Int32)) hx hb dX0_hasLikeWays_5 (by decide) ?_
  refine lv_istore (lv' := [(4, .int (0 : Int32)), (3, .int n), (0, .ref h0), (1, .int x1), (2, .int x2)]) hx hb dX0_hasLikeWays_6 hl (by decide) rfl (fun ls hl => ?_)
  refine lv_iload_n hx hb dX0_hasLikeWays_8 rfl (lv_at hl 3 rfl) ?_
  obtain ⟨r9, hc9, h⟩ := Ho_b h
  refine cs_i (va_runS (As := [.int x1]) (rest := []) hfix (c_J6_bitCount_0f7a4 l dC dI cI cJ  x1 _ hc9) (va_cwS 1 hts gX0_hasLikeWays_J6_bitCount_0f7a4 rfl rfl rfl (by decide +kernel) ⟨by decide, by decide⟩) (roP.preS hK va_Pnil) rfl rfl hl.1 rfl (lv_room (Nat.le_of_ble_eq_true rfl)) dX0_hasLikeWays_9 ⟨Nat.zero_le _, Nat.zero_le _⟩) ?_
  refine lv_istore (lv' := [(5, .int r9), (4, .int (0 : Int32)), (3, .int n), (0, .ref h0), (1, .int x1), (2, .int x2)]) hx hb dX0_hasLikeWays_12 hl (by decide) rfl (fun ls hl => ?_)
  refine lv_iconst (v := (0 : Int32)) hx hb dX0_hasLikeWays_14 (by decide) ?_
  refine lv_istore (lv' := [(6, .int (0 : Int32)), (5, .int r9), (4, .int (0 : Int32)), (3, .int n), (0, .ref h0), (1, .int x1), (2, .int x2)]) hx hb dX0_hasLikeWays_15 hl (by decide) rfl (fun ls hl => ?_)
  exact J17 n (0 : Int32) r9 (0 : Int32) ls (lv_sub hl [4, 5, 6, 3, 2, 1, 0] rfl) h
