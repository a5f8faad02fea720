abbrev rmX0_count : Room := { frames := 0, cells := 0, slots := 0, locals := 0 }
set_option maxHeartbeats 4000000 in
set_option maxRecDepth 100000 in
theorem c_X0_count (l : Launch) (dC : Nat → ClassId) (dI : Nat → Nat → Nat) (cI cJ : ClassId) (h0 : Nat) (n : Int32) (ev : Int32) (r : Int32) (hF : FX0_count n = some r) : Met l yX0_count wsX0_count rmX0_count (roP (dC, dI) [(cI, .int), (cJ, .long)] [(h0, .inr (0, [.int n, .int ev]))] [.ref h0]) (vp_Si (fun x => x = r)) 0 0 (fun _ => False) := by
  refine ro_start (cc := cX0_count) (maxL := 1) (ret := (some .int)) (by decide) rfl (Nat.le_of_ble_eq_true rfl) ?_
  intro p e s m args below meth c ls hx hb hml hr hlk hown hts hP hK hl
  have hown : s.vm.findClass RX0 = some m.cls := hown
  have hl : lv_has ls 1 [(0, .ref h0)] := hl
  have h : Ho (FX0_count n) (fun x => x = r) := ⟨r, hF, rfl⟩
  unfold FX0_count at h
  have hfix : CallFix p m c cX0_count 1 s args wsX0_count RX0 := ⟨hx, hb, hml, hown, hts⟩
  have hiX0 : ∀ w ∈ u_ws RX0 TX0 2, w ∈ wsX0_count := by decide +kernel
  have hf9 := hts (.fieldLink RX0 9 "RowClasses$Circle" "n" "I") (by decide +kernel)
  refine lv_aload_n hx hb dX0_count_0 rfl (lv_at hl 0 rfl) ?_
  refine va_get (D := (dC, dI)) (ci := 0) (v := .int n) (C := RX0) (T := TX0) (N := 2) hx hb hts hiX0 hown hK.1 hP 0 rfl rfl 0 (by decide) hf9 (fun _ h9 => h9) rfl dX0_count_1 ?_
  exact W.iret hx hb hr (fun t ht _ => ro_Si (Ho_e h) ht) ro_nil dX0_count_4 hlk
abbrev rmX0_become : Room := { frames := 0, cells := 0, slots := 0, locals := 0 }
set_option maxHeartbeats 4000000 in
set_option maxRecDepth 100000 in
theorem c_X0_become (l : Launch) (dC : Nat → ClassId) (dI : Nat → Nat → Nat) (cI cJ : ClassId) (h0 : Nat) (sz : Nat) (n : Int32) (ev : Int32) (x1 : Int32) (n' : Int32) (ev' : Int32) (hF : FX0_become n ev x1 = some (n', ev')) : Met l yX0_become wsX0_become rmX0_become (rwP (dC, dI) [(cI, .int), (cJ, .long)] sz [(h0, .inr (0, [.int n, .int ev]))] [.ref h0, .int x1]) (va_Qv (fun _ : Unit => True) (fun _ t => va_P (dC, dI) vwCl [(h0, .inr (0, [.int n', .int ev']))] t.heap ∧ vK (dC, dI) [(cI, .int), (cJ, .long)] t ∧ va_D (va_A [(h0, .inr (0, [.int n, .int ev]))] sz) [(h0, .inr (0, [.int n', .int ev']))]) (va_A [(h0, .inr (0, [.int n, .int ev]))] sz)) 0 0 (va_A [(h0, .inr (0, [.int n, .int ev]))] sz) := by
  refine rw_start (cc := cX0_become) (maxL := 2) (ret := none) (by decide) rfl (Nat.le_of_ble_eq_true rfl) ?_
  intro p e s m args below meth c ls A H locs hx hb hml hr hlk hown hts hsz hP hK hD hA hS hAe hl
  have hown : s.vm.findClass RX0 = some m.cls := hown
  have hl : lv_has ls 2 [(0, .ref h0), (1, .int x1)] := hl
  have h : Ho (FX0_become n ev x1) (fun x => x = (n', ev')) := ⟨_, hF, rfl⟩
  unfold FX0_become at h
  have QI : ∀ {n9 : Int32} {ev9 : Int32} {t : State}, (n9, ev9) = (n', ev') → va_P (dC, dI) vwCl [(h0, .inr (0, [.int n9, .int ev9]))] t.heap → vK (dC, dI) [(cI, .int), (cJ, .long)] t → va_D A [(h0, .inr (0, [.int n9, .int ev9]))] → va_F A s t → (va_Qv (fun _ : Unit => True) (fun _ t => va_P (dC, dI) vwCl [(h0, .inr (0, [.int n', .int ev']))] t.heap ∧ vK (dC, dI) [(cI, .int), (cJ, .long)] t ∧ va_D (va_A [(h0, .inr (0, [.int n, .int ev]))] sz) [(h0, .inr (0, [.int n', .int ev']))]) (va_A [(h0, .inr (0, [.int n, .int ev]))] sz)) args s (.returned none) t := by
    intro n9 ev9 t e9 q1 q2 q3 q4
    cases e9
    subst hAe
    exact ⟨⟨(), rfl, trivial, q1, q2, q3⟩, q4⟩
  have hfix : CallFix p m c cX0_become 2 s args wsX0_become RX0 := ⟨hx, hb, hml, hown, hts⟩
  have hiX0 : ∀ w ∈ u_ws RX0 TX0 2, w ∈ wsX0_become := by decide +kernel
  have hf9 := hts (.fieldLink RX0 9 "RowClasses$Circle" "n" "I") (by decide +kernel)
  have hf15 := hts (.fieldLink RX0 15 "RowClasses$Circle" "everyStep" "I") (by decide +kernel)
  refine lv_aload_n hx hb dX0_become_0 rfl (lv_at hl 0 rfl) ?_
  refine lv_iload_n hx hb dX0_become_1 rfl (lv_at hl 1 rfl) ?_
  refine va_put (D := (dC, dI)) (ci := 0) (v := .int x1) (ty := .int) (C := RX0) (T := TX0) (N := 2) hx hb hts hiX0 tyX0 tyX0_ok nmX0 hown hK.1 hP hD hS 0 rfl rfl 0 (by decide) hf9 (fun _ h9 => h9) rfl (by decide +kernel) rfl rfl (Nat.le_of_ble_eq_true rfl) dX0_become_2 (fun H locs hP hD hS => ?_)
  have hP : va_P (dC, dI) vwCl [(h0, .inr (0, [.int x1, .int ev]))] H := hP
  have hD : va_D A [(h0, .inr (0, [.int x1, .int ev]))] := hD
  refine lv_aload_n hx hb dX0_become_5 rfl (lv_at hl 0 rfl) ?_
  refine lv_iconst (v := (1 : Int32)) hx hb dX0_become_6 (by decide) ?_
  refine lv_iload_n hx hb dX0_become_7 rfl (lv_at hl 1 rfl) ?_
  refine lv_ishl hx hb dX0_become_8 ?_
  refine lv_iconst (v := (1 : Int32)) hx hb dX0_become_9 (by decide) ?_
  refine lv_isub hx hb dX0_become_10 ?_
  refine va_put (D := (dC, dI)) (ci := 0) (v := .int (((1 : Int32) <<< (x1 &&& 31)) - (1 : Int32))) (ty := .int) (C := RX0) (T := TX0) (N := 2) hx hb hts hiX0 tyX0 tyX0_ok nmX0 hown hK.1 hP hD hS 0 rfl rfl 1 (by decide) hf15 (fun _ h9 => h9) rfl (by decide +kernel) rfl rfl (Nat.le_of_ble_eq_true rfl) dX0_become_11 (fun H locs hP hD hS => ?_)
  have hP : va_P (dC, dI) vwCl [(h0, .inr (0, [.int x1, .int (((1 : Int32) <<< (x1 &&& 31)) - (1 : Int32))]))] H := hP
  have hD : va_D A [(h0, .inr (0, [.int x1, .int (((1 : Int32) <<< (x1 &&& 31)) - (1 : Int32))]))] := hD
  exact W.vret hx hb hr (fun t ht hW => QI (Ho_e h) (by rw [ht]; exact hP) (hK.warm hW) hD (hS.F ht)) hS.2.2 dX0_become_14 hlk
abbrev rmX0_all : Room := { frames := 0, cells := 0, slots := 0, locals := 0 }
set_option maxHeartbeats 4000000 in
set_option maxRecDepth 100000 in
theorem c_X0_all (l : Launch) (dC : Nat → ClassId) (dI : Nat → Nat → Nat) (cI cJ : ClassId) (h0 : Nat) (n : Int32) (ev : Int32) (r : Int32) (hF : FX0_all ev = some r) : Met l yX0_all wsX0_all rmX0_all (roP (dC, dI) [(cI, .int), (cJ, .long)] [(h0, .inr (0, [.int n, .int ev]))] [.ref h0]) (vp_Si (fun x => x = r)) 0 0 (fun _ => False) := by
  refine ro_start (cc := cX0_all) (maxL := 1) (ret := (some .int)) (by decide) rfl (Nat.le_of_ble_eq_true rfl) ?_
  intro p e s m args below meth c ls hx hb hml hr hlk hown hts hP hK hl
  have hown : s.vm.findClass RX0 = some m.cls := hown
  have hl : lv_has ls 1 [(0, .ref h0)] := hl
  have h : Ho (FX0_all ev) (fun x => x = r) := ⟨r, hF, rfl⟩
  unfold FX0_all at h
  have hfix : CallFix p m c cX0_all 1 s args wsX0_all RX0 := ⟨hx, hb, hml, hown, hts⟩
  have hiX0 : ∀ w ∈ u_ws RX0 TX0 2, w ∈ wsX0_all := by decide +kernel
  have hf15 := hts (.fieldLink RX0 15 "RowClasses$Circle" "everyStep" "I") (by decide +kernel)
  refine lv_aload_n hx hb dX0_all_0 rfl (lv_at hl 0 rfl) ?_
  refine va_get (D := (dC, dI)) (ci := 0) (v := .int ev) (C := RX0) (T := TX0) (N := 2) hx hb hts hiX0 hown hK.1 hP 0 rfl rfl 1 (by decide) hf15 (fun _ h9 => h9) rfl dX0_all_1 ?_
  exact W.iret hx hb hr (fun t ht _ => ro_Si (Ho_e h) ht) ro_nil dX0_all_4 hlk
abbrev rmX0_hasStep : Room := { frames := 0, cells := 0, slots := 0, locals := 0 }
set_option maxHeartbeats 4000000 in
set_option maxRecDepth 100000 in
theorem c_X0_hasStep (l : Launch) (dC : Nat → ClassId) (dI : Nat → Nat → Nat) (cI cJ : ClassId) (h0 : Nat) (n : Int32) (ev : Int32) (x1 : Int32) (r : Int32) (hF : FX0_hasStep n x1 = some r) : Met l yX0_hasStep wsX0_hasStep rmX0_hasStep (roP (dC, dI) [(cI, .int), (cJ, .long)] [(h0, .inr (0, [.int n, .int ev]))] [.ref h0, .int x1]) (vp_Si (fun x => x = r)) 0 0 (fun _ => False) := by
  refine ro_start (cc := cX0_hasStep) (maxL := 2) (ret := (some .boolean)) (by decide) rfl (Nat.le_of_ble_eq_true rfl) ?_
  intro p e s m args below meth c ls hx hb hml hr hlk hown hts hP hK hl
  have hown : s.vm.findClass RX0 = some m.cls := hown
  have hl : lv_has ls 2 [(0, .ref h0), (1, .int x1)] := hl
  have h : Ho (FX0_hasStep n x1) (fun x => x = r) := ⟨r, hF, rfl⟩
  unfold FX0_hasStep at h
  have hfix : CallFix p m c cX0_hasStep 2 s args wsX0_hasStep RX0 := ⟨hx, hb, hml, hown, hts⟩
  have hiX0 : ∀ w ∈ u_ws RX0 TX0 2, w ∈ wsX0_hasStep := by decide +kernel
  have hf9 := hts (.fieldLink RX0 9 "RowClasses$Circle" "n" "I") (by decide +kernel)
  refine lv_iload_n hx hb dX0_hasStep_0 rfl (lv_at hl 1 rfl) ?_
  refine lv_if_lt (tgt := 16) hx hb dX0_hasStep_1 (by decide) (fun q1 => ?_) (fun q1 => ?_)
  · have h := Ho_t h q1
    refine lv_iconst (v := (0 : Int32)) hx hb dX0_hasStep_16 (by decide) ?_
    exact W.zret (ty := .boolean) hx hb hr rfl (fun t ht _ => ro_Si (Ho_e h) ht) ro_nil dX0_hasStep_17 hlk
  · have h := Ho_f h q1
    refine lv_iload_n hx hb dX0_hasStep_4 rfl (lv_at hl 1 rfl) ?_
    refine lv_aload_n hx hb dX0_hasStep_5 rfl (lv_at hl 0 rfl) ?_
    refine va_get (D := (dC, dI)) (ci := 0) (v := .int n) (C := RX0) (T := TX0) (N := 2) hx hb hts hiX0 hown hK.1 hP 0 rfl rfl 0 (by decide) hf9 (fun _ h9 => h9) rfl dX0_hasStep_6 ?_
    refine lv_icmp_ge (tgt := 16) hx hb dX0_hasStep_9 (by decide) (fun q9 => ?_) (fun q9 => ?_)
    · have h := Ho_t h q9
      refine lv_iconst (v := (0 : Int32)) hx hb dX0_hasStep_16 (by decide) ?_
      exact W.zret (ty := .boolean) hx hb hr rfl (fun t ht _ => ro_Si (Ho_e h) ht) ro_nil dX0_hasStep_17 hlk
    · have h := Ho_f h q9
      refine lv_iconst (v := (1 : Int32)) hx hb dX0_hasStep_12 (by decide) ?_
      refine lv_goto (tgt := 17) hx hb dX0_hasStep_13 (by decide) ?_
      exact W.zret (ty := .boolean) hx hb hr rfl (fun t ht _ => ro_Si (Ho_e h) ht) ro_nil dX0_hasStep_17 hlk
abbrev rmX0_hasSet : Room := { frames := 0, cells := 0, slots := 0, locals := 0 }
set_option maxHeartbeats 4000000 in
set_option maxRecDepth 100000 in
theorem c_X0_hasSet (l : Launch) (dC : Nat → ClassId) (dI : Nat → Nat → Nat) (cI cJ : ClassId) (h0 : Nat) (n : Int32) (ev : Int32) (x1 : Int32) (r : Int32) (hF : FX0_hasSet ev x1 = some r) : Met l yX0_hasSet wsX0_hasSet rmX0_hasSet (roP (dC, dI) [(cI, .int), (cJ, .long)] [(h0, .inr (0, [.int n, .int ev]))] [.ref h0, .int x1]) (vp_Si (fun x => x = r)) 0 0 (fun _ => False) := by
  refine ro_start (cc := cX0_hasSet) (maxL := 2) (ret := (some .boolean)) (by decide) rfl (Nat.le_of_ble_eq_true rfl) ?_
  intro p e s m args below meth c ls hx hb hml hr hlk hown hts hP hK hl
  have hown : s.vm.findClass RX0 = some m.cls := hown
  have hl : lv_has ls 2 [(0, .ref h0), (1, .int x1)] := hl
  have h : Ho (FX0_hasSet ev x1) (fun x => x = r) := ⟨r, hF, rfl⟩
  unfold FX0_hasSet at h
  have hfix : CallFix p m c cX0_hasSet 2 s args wsX0_hasSet RX0 := ⟨hx, hb, hml, hown, hts⟩
  have hiX0 : ∀ w ∈ u_ws RX0 TX0 2, w ∈ wsX0_hasSet := by decide +kernel
  have hf15 := hts (.fieldLink RX0 15 "RowClasses$Circle" "everyStep" "I") (by decide +kernel)
  refine lv_iload_n hx hb dX0_hasSet_0 rfl (lv_at hl 1 rfl) ?_
  refine lv_if_lt (tgt := 16) hx hb dX0_hasSet_1 (by decide) (fun q1 => ?_) (fun q1 => ?_)
  · have h := Ho_t h q1
    refine lv_iconst (v := (0 : Int32)) hx hb dX0_hasSet_16 (by decide) ?_
    exact W.zret (ty := .boolean) hx hb hr rfl (fun t ht _ => ro_Si (Ho_e h) ht) ro_nil dX0_hasSet_17 hlk
  · have h := Ho_f h q1
    refine lv_iload_n hx hb dX0_hasSet_4 rfl (lv_at hl 1 rfl) ?_
    refine lv_aload_n hx hb dX0_hasSet_5 rfl (lv_at hl 0 rfl) ?_
    refine va_get (D := (dC, dI)) (ci := 0) (v := .int ev) (C := RX0) (T := TX0) (N := 2) hx hb hts hiX0 hown hK.1 hP 0 rfl rfl 1 (by decide) hf15 (fun _ h9 => h9) rfl dX0_hasSet_6 ?_
    refine lv_icmp_gt (tgt := 16) hx hb dX0_hasSet_9 (by decide) (fun q9 => ?_) (fun q9 => ?_)
    · have h := Ho_t h q9
      refine lv_iconst (v := (0 : Int32)) hx hb dX0_hasSet_16 (by decide) ?_
      exact W.zret (ty := .boolean) hx hb hr rfl (fun t ht _ => ro_Si (Ho_e h) ht) ro_nil dX0_hasSet_17 hlk
    · have h := Ho_f h q9
      refine lv_iconst (v := (1 : Int32)) hx hb dX0_hasSet_12 (by decide) ?_
      refine lv_goto (tgt := 17) hx hb dX0_hasSet_13 (by decide) ?_
      exact W.zret (ty := .boolean) hx hb hr rfl (fun t ht _ => ro_Si (Ho_e h) ht) ro_nil dX0_hasSet_17 hlk
abbrev rmX0_wrapped : Room := { frames := 0, cells := 0, slots := 0, locals := 0 }
set_option maxHeartbeats 4000000 in
set_option maxRecDepth 100000 in
theorem c_X0_wrapped (l : Launch) (dC : Nat → ClassId) (dI : Nat → Nat → Nat) (cI cJ : ClassId) (h0 : Nat) (n : Int32) (ev : Int32) (x1 : Int32) (r : Int32) (hF : FX0_wrapped n x1 = some r) : Met l yX0_wrapped wsX0_wrapped rmX0_wrapped (roP (dC, dI) [(cI, .int), (cJ, .long)] [(h0, .inr (0, [.int n, .int ev]))] [.ref h0, .int x1]) (vp_Si (fun x => x = r)) 0 0 (fun _ => False) := by
  refine ro_start (cc := cX0_wrapped) (maxL := 3) (ret := (some .int)) (by decide) rfl (Nat.le_of_ble_eq_true rfl) ?_
  intro p e s m args below meth c ls hx hb hml hr hlk hown hts hP hK hl
  have hown : s.vm.findClass RX0 = some m.cls := hown
  have hl : lv_has ls 3 [(0, .ref h0), (1, .int x1)] := hl
  have h : Ho (FX0_wrapped n x1) (fun x => x = r) := ⟨r, hF, rfl⟩
  unfold FX0_wrapped at h
  have hfix : CallFix p m c cX0_wrapped 3 s args wsX0_wrapped RX0 := ⟨hx, hb, hml, hown, hts⟩
  have hiX0 : ∀ w ∈ u_ws RX0 TX0 2, w ∈ wsX0_wrapped := by decide +kernel
  have hf9 := hts (.fieldLink RX0 9 "RowClasses$Circle" "n" "I") (by decide +kernel)
  have J18 : ∀ (t0 : Int32) (ls : Array Slot), lv_has ls 3 [(0, .ref h0)] → Ho (X0_wrapped_18 n t0) (fun x => x = r) → W p l e rmX0_wrapped s m args below meth c s.heap [] 0 0 (MQ below (vp_Si (fun x => x = r)) args s 0 0 (fun _ => False)) (F0 m 18 ls [.int t0]) := by
    intro t0 ls hl h
    unfold X0_wrapped_18 at h
    refine lv_istore_n (lv' := [(2, .int t0), (0, .ref h0)]) hx hb dX0_wrapped_18 rfl hl (by decide) rfl (fun ls hl => ?_)
    refine lv_iload_n hx hb dX0_wrapped_19 rfl (lv_at hl 0 rfl) ?_
    refine lv_if_ge (tgt := 32) hx hb dX0_wrapped_20 (by decide) (fun q20 => ?_) (fun q20 => ?_)
    · have h := Ho_t h q20
      refine lv_iload_n hx hb dX0_wrapped_32 rfl (lv_at hl 0 rfl) ?_
      exact W.iret hx hb hr (fun t ht _ => ro_Si (Ho_e h) ht) ro_nil dX0_wrapped_33 hlk
    · have h := Ho_f h q20
      refine lv_iload_n hx hb dX0_wrapped_23 rfl (lv_at hl 0 rfl) ?_
      refine lv_aload_n hx hb dX0_wrapped_24 rfl (lv_at hl 1 rfl) ?_
      refine va_get (D := (dC, dI)) (ci := 0) (v := .int n) (C := RX0) (T := TX0) (N := 2) hx hb hts hiX0 hown hK.1 hP 0 rfl rfl 0 (by decide) hf9 (fun _ h9 => h9) rfl dX0_wrapped_25 ?_
      refine lv_iadd hx hb dX0_wrapped_28 ?_
      refine lv_goto (tgt := 33) hx hb dX0_wrapped_29 (by decide) ?_
      exact W.iret hx hb hr (fun t ht _ => ro_Si (Ho_e h) ht) ro_nil dX0_wrapped_33 hlk
  refine lv_aload_n hx hb dX0_wrapped_0 rfl (lv_at hl 0 rfl) ?_
  refine va_get (D := (dC, dI)) (ci := 0) (v := .int n) (C := RX0) (T := TX0) (N := 2) hx hb hts hiX0 hown hK.1 hP 0 rfl rfl 0 (by decide) hf9 (fun _ h9 => h9) rfl dX0_wrapped_1 ?_
  refine lv_iconst (v := (1 : Int32)) hx hb dX0_wrapped_4 (by decide) ?_
  refine lv_icmp_ge (tgt := 12) hx hb dX0_wrapped_5 (by decide) (fun q5 => ?_) (fun q5 => ?_)
  · have h := Ho_t h q5
    refine lv_iload_n hx hb dX0_wrapped_12 rfl (lv_at hl 1 rfl) ?_
    refine lv_aload_n hx hb dX0_wrapped_13 rfl (lv_at hl 0 rfl) ?_
    refine va_get (D := (dC, dI)) (ci := 0) (v := .int n) (C := RX0) (T := TX0) (N := 2) hx hb hts hiX0 hown hK.1 hP 0 rfl rfl 0 (by decide) hf9 (fun _ h9 => h9) rfl dX0_wrapped_14 ?_
    obtain ⟨hz17, h⟩ := Ho_nz h
    refine lv_irem hx hb dX0_wrapped_17 hz17 ?_
    exact J18 (x1 - x1 / n * n) ls (lv_sub hl [0] rfl) h
  · have h := Ho_f h q5
    refine lv_iconst (v := (0 : Int32)) hx hb dX0_wrapped_8 (by decide) ?_
    refine lv_goto (tgt := 18) hx hb dX0_wrapped_9 (by decide) ?_
    exact J18 (0 : Int32) ls (lv_sub hl [0] rfl) h
abbrev rmX0_stepAt : Room := { frames := 0, cells := 0, slots := 0, locals := 0 }
set_option maxHeartbeats 4000000 in
set_option maxRecDepth 100000 in
theorem c_X0_stepAt (l : Launch) (dC : Nat → ClassId) (dI : Nat → Nat → Nat) (cI cJ : ClassId) (h0 : Nat) (n : Int32) (ev : Int32) (x1 : Int32) (x2 : Int32) (r : Int32) (hF : FX0_stepAt n x1 x2 = some r) : Met l yX0_stepAt wsX0_stepAt rmX0_stepAt (roP (dC, dI) [(cI, .int), (cJ, .long)] [(h0, .inr (0, [.int n, .int ev]))] [.ref h0, .int x1, .int x2]) (vp_Si (fun x => x = r)) 0 0 (fun _ => False) := by
  refine ro_start (cc := cX0_stepAt) (maxL := 5) (ret := (some .int)) (by decide) rfl (Nat.le_of_ble_eq_true rfl) ?_
  intro p e s m args below meth c ls hx hb hml hr hlk hown hts hP hK hl
  have hown : s.vm.findClass RX0 = some m.cls := hown
  have hl : lv_has ls 5 [(0, .ref h0), (1, .int x1), (2, .int x2)] := hl
  have h : Ho (FX0_stepAt n x1 x2) (fun x => x = r) := ⟨r, hF, rfl⟩
  unfold FX0_stepAt at h
  have hfix : CallFix p m c cX0_stepAt 5 s args wsX0_stepAt RX0 := ⟨hx, hb, hml, hown, hts⟩
  have hiX0 : ∀ w ∈ u_ws RX0 TX0 2, w ∈ wsX0_stepAt := by decide +kernel
  have hf9 := hts (.fieldLink RX0 9 "RowClasses$Circle" "n" "I") (by decide +kernel)
  have J41 : ∀  (ls : Array Slot), lv_has ls 5 [] → Ho (X0_stepAt_41) (fun x => x = r) → W p l e rmX0_stepAt s m args below meth c s.heap [] 0 0 (MQ below (vp_Si (fun x => x = r)) args s 0 0 (fun _ => False)) (F0 m 41 ls []) := by
    intro  ls hl h
    unfold X0_stepAt_41 at h
    refine lv_iconst (v := (-1 : Int32)) hx hb dX0_stepAt_41 (by decide) ?_
    exact W.iret hx hb hr (fun t ht _ => ro_Si (Ho_e h) ht) ro_nil dX0_stepAt_42 hlk
  have J29 : ∀ (v4 : Int32) (ls : Array Slot), lv_has ls 5 [(4, .int v4)] → Ho (X0_stepAt_29 v4) (fun x => x = r) → W p l e rmX0_stepAt s m args below meth c s.heap [] 0 0 (MQ below (vp_Si (fun x => x = r)) args s 0 0 (fun _ => False)) (F0 m 29 ls []) := by
    intro v4 ls hl h
    unfold X0_stepAt_29 at h
    refine lv_iload hx hb dX0_stepAt_29 (lv_at hl 0 rfl) ?_
    exact W.iret hx hb hr (fun t ht _ => ro_Si (Ho_e h) ht) ro_nil dX0_stepAt_31 hlk
  have J5 : ∀ (v3 : Int32) (v4 : Int32) (ls : Array Slot), lv_has ls 5 [(0, .ref h0), (1, .int x1), (2, .int x2), (3, .int v3), (4, .int v4)] → Ho ((X0_stepAt_5_l n x1 x2 v3 v4).bind (fun ex => Sum.elim (fun xy => X0_stepAt_29 xy) (fun xy => X0_stepAt_41) ex)) (fun x => x = r) → W p l e rmX0_stepAt s m args below meth c s.heap [] 0 0 (MQ below (vp_Si (fun x => x = r)) args s 0 0 (fun _ => False)) (F0 m 5 ls []) := by
    intro v3 v4 ls hl h
    refine loop_use2 (fun z : Int32 × Int32 => ∀ (ls : Array Slot), lv_has ls 5 [(0, .ref h0), (1, .int x1), (2, .int x2), (3, .int z.1), (4, .int z.2)] → W p l e rmX0_stepAt s m args below meth c s.heap [] 0 0 (MQ below (vp_Si (fun x => x = r)) args s 0 0 (fun _ => False)) (F0 m 5 ls [])) ?_ FU _ h ls hl
    intro Q5 hi5 ho5 z h ls hl
    obtain ⟨v3, v4⟩ := z
    have h : Ho (X0_stepAt_5_s n x1 x2 v3 v4) Q5 := h
    unfold X0_stepAt_5_s at h
    have hl : lv_has ls 5 [(0, .ref h0), (1, .int x1), (2, .int x2), (3, .int v3), (4, .int v4)] := hl
    refine lv_iload hx hb dX0_stepAt_5 (lv_at hl 4 rfl) ?_
    refine lv_aload_n hx hb dX0_stepAt_7 rfl (lv_at hl 0 rfl) ?_
    refine va_get (D := (dC, dI)) (ci := 0) (v := .int n) (C := RX0) (T := TX0) (N := 2) hx hb hts hiX0 hown hK.1 hP 0 rfl rfl 0 (by decide) hf9 (fun _ h9 => h9) rfl dX0_stepAt_8 ?_
    refine lv_icmp_ge (tgt := 41) hx hb dX0_stepAt_11 (by decide) (fun q11 => ?_) (fun q11 => ?_)
    · have h := Ho_t h q11
      have h := ho5 _ (Ho_s h)
      exact J41  ls (lv_sub hl [] rfl) h
    · have h := Ho_f h q11
      refine lv_iload_n hx hb dX0_stepAt_14 rfl (lv_at hl 1 rfl) ?_
      refine lv_iload hx hb dX0_stepAt_15 (lv_at hl 4 rfl) ?_
      refine lv_ishr hx hb dX0_stepAt_17 ?_
      refine lv_iconst (v := (1 : Int32)) hx hb dX0_stepAt_18 (by decide) ?_
      refine lv_iand hx hb dX0_stepAt_19 ?_
      refine lv_iconst (v := (1 : Int32)) hx hb dX0_stepAt_20 (by decide) ?_
      refine lv_icmp_ne (tgt := 35) hx hb dX0_stepAt_21 (by decide) (fun q21 => ?_) (fun q21 => ?_)
      · have h := Ho_f h q21
        refine lv_iinc (v := v4 + 1) (lv' := [(4, .int (v4 + 1)), (0, .ref h0), (1, .int x1), (2, .int x2), (3, .int v3)]) hx hb dX0_stepAt_35 hl (k := 4) rfl rfl (by decide) rfl (fun ls hl => ?_)
        refine lv_goto (tgt := 5) hx hb dX0_stepAt_38 (by decide) ?_
        exact hi5 _ (Ho_s h) ls (lv_sub hl [1, 2, 3, 4, 0] rfl)
      · have h := Ho_t h q21
        refine lv_iload_n hx hb dX0_stepAt_24 rfl (lv_at hl 3 rfl) ?_
        refine lv_iload_n hx hb dX0_stepAt_25 rfl (lv_at hl 2 rfl) ?_
        refine lv_icmp_ne (tgt := 32) hx hb dX0_stepAt_26 (by decide) (fun q26 => ?_) (fun q26 => ?_)
        · have h := Ho_f h q26
          refine lv_iinc (v := v3 + 1) (lv' := [(3, .int (v3 + 1)), (0, .ref h0), (1, .int x1), (2, .int x2), (4, .int v4)]) hx hb dX0_stepAt_32 hl (k := 3) rfl rfl (by decide) rfl (fun ls hl => ?_)
          refine lv_iinc (v := v4 + 1) (lv' := [(4, .int (v4 + 1)), (3, .int (v3 + 1)), (0, .ref h0), (1, .int x1), (2, .int x2)]) hx hb dX0_stepAt_35 hl (k := 4) rfl rfl (by decide) rfl (fun ls hl => ?_)
          refine lv_goto (tgt := 5) hx hb dX0_stepAt_38 (by decide) ?_
          exact hi5 _ (Ho_s h) ls (lv_sub hl [2, 3, 4, 1, 0] rfl)
        · have h := Ho_t h q26
          have h := ho5 _ (Ho_s h)
          exact J29 v4 ls (lv_sub hl [4] rfl) h
  refine lv_iconst (v := (0 : Int32)) hx hb dX0_stepAt_0 (by decide) ?_
  refine lv_istore_n (lv' := [(3, .int (0 : Int32)), (0, .ref h0), (1, .int x1), (2, .int x2)]) hx hb dX0_stepAt_1 rfl hl (by decide) rfl (fun ls hl => ?_)
  refine lv_iconst (v := (0 : Int32)) hx hb dX0_stepAt_2 (by decide) ?_
  refine lv_istore (lv' := [(4, .int (0 : Int32)), (3, .int (0 : Int32)), (0, .ref h0), (1, .int x1), (2, .int x2)]) hx hb dX0_stepAt_3 hl (by decide) rfl (fun ls hl => ?_)
  exact J5 (0 : Int32) (0 : Int32) ls (lv_sub hl [2, 3, 4, 1, 0] rfl) h
abbrev rmX0_turned : Room := { frames := 0, cells := 0, slots := 0, locals := 0 }
set_option maxHeartbeats 4000000 in
set_option maxRecDepth 100000 in
theorem c_X0_turned (l : Launch) (dC : Nat → ClassId) (dI : Nat → Nat → Nat) (cI cJ : ClassId) (h0 : Nat) (n : Int32) (ev : Int32) (x1 : Int32) (x2 : Int32) (r : Int32) (hF : FX0_turned n ev x1 x2 = some r) : Met l yX0_turned wsX0_turned rmX0_turned (roP (dC, dI) [(cI, .int), (cJ, .long)] [(h0, .inr (0, [.int n, .int ev]))] [.ref h0, .int x1, .int x2]) (vp_Si (fun x => x = r)) 0 0 (fun _ => False) := by
  refine ro_start (cc := cX0_turned) (maxL := 3) (ret := (some .int)) (by decide) rfl (Nat.le_of_ble_eq_true rfl) ?_
  intro p e s m args below meth c ls hx hb hml hr hlk hown hts hP hK hl
  have hown : s.vm.findClass RX0 = some m.cls := hown
  have hl : lv_has ls 3 [(0, .ref h0), (1, .int x1), (2, .int x2)] := hl
  have h : Ho (FX0_turned n ev x1 x2) (fun x => x = r) := ⟨r, hF, rfl⟩
  unfold FX0_turned at h
  have hfix : CallFix p m c cX0_turned 3 s args wsX0_turned RX0 := ⟨hx, hb, hml, hown, hts⟩
  have hiX0 : ∀ w ∈ u_ws RX0 TX0 2, w ∈ wsX0_turned := by decide +kernel
  have hf9 := hts (.fieldLink RX0 9 "RowClasses$Circle" "n" "I") (by decide +kernel)
  have hf15 := hts (.fieldLink RX0 15 "RowClasses$Circle" "everyStep" "I") (by decide +kernel)
  refine lv_iload_n hx hb dX0_turned_0 rfl (lv_at hl 1 rfl) ?_
  refine lv_iload_n hx hb dX0_turned_1 rfl (lv_at hl 2 rfl) ?_
  refine lv_ishl hx hb dX0_turned_2 ?_
  refine lv_iload_n hx hb dX0_turned_3 rfl (lv_at hl 1 rfl) ?_
  refine lv_aload_n hx hb dX0_turned_4 rfl (lv_at hl 0 rfl) ?_
  refine va_get (D := (dC, dI)) (ci := 0) (v := .int n) (C := RX0) (T := TX0) (N := 2) hx hb hts hiX0 hown hK.1 hP 0 rfl rfl 0 (by decide) hf9 (fun _ h9 => h9) rfl dX0_turned_5 ?_
  refine lv_iload_n hx hb dX0_turned_8 rfl (lv_at hl 2 rfl) ?_
  refine lv_isub hx hb dX0_turned_9 ?_
  refine lv_ishr hx hb dX0_turned_10 ?_
  refine lv_ior hx hb dX0_turned_11 ?_
  refine lv_aload_n hx hb dX0_turned_12 rfl (lv_at hl 0 rfl) ?_
  refine va_get (D := (dC, dI)) (ci := 0) (v := .int ev) (C := RX0) (T := TX0) (N := 2) hx hb hts hiX0 hown hK.1 hP 0 rfl rfl 1 (by decide) hf15 (fun _ h9 => h9) rfl dX0_turned_13 ?_
  refine lv_iand hx hb dX0_turned_16 ?_
  exact W.iret hx hb hr (fun t ht _ => ro_Si (Ho_e h) ht) ro_nil dX0_turned_17 hlk
abbrev rmX0_timesEach : Room := { frames := 1, cells := 0, slots := 0, locals := 22 }
set_option maxHeartbeats 4000000 in
set_option maxRecDepth 100000 in
theorem c_X0_timesEach (l : Launch) (dC : Nat → ClassId) (dI : Nat → Nat → Nat) (cI cJ : ClassId) (h0 : Nat) (n : Int32) (ev : Int32) (x1 : Int32) (x2 : Int32) (r : Int32) (hF : FX0_timesEach n x1 x2 = some r) : Met l yX0_timesEach wsX0_timesEach rmX0_timesEach (roP (dC, dI) [(cI, .int), (cJ, .long)] [(h0, .inr (0, [.int n, .int ev]))] [.ref h0, .int x1, .int x2]) (vp_Si (fun x => x = r)) 0 0 (fun _ => False) := by
  refine ro_start (cc := cX0_timesEach) (maxL := 5) (ret := (some .int)) (by decide) rfl (Nat.le_of_ble_eq_true rfl) ?_
  intro p e s m args below meth c ls hx hb hml hr hlk hown hts hP hK hl
  have hown : s.vm.findClass RX0 = some m.cls := hown
  have hl : lv_has ls 5 [(0, .ref h0), (1, .int x1), (2, .int x2)] := hl
  have h : Ho (FX0_timesEach n x1 x2) (fun x => x = r) := ⟨r, hF, rfl⟩
  unfold FX0_timesEach at h
  have hfix : CallFix p m c cX0_timesEach 5 s args wsX0_timesEach RX0 := ⟨hx, hb, hml, hown, hts⟩
  have hiX0 : ∀ w ∈ u_ws RX0 TX0 2, w ∈ wsX0_timesEach := by decide +kernel
  have hf9 := hts (.fieldLink RX0 9 "RowClasses$Circle" "n" "I") (by decide +kernel)
  have J43 : ∀ (v3 : Int32) (ls : Array Slot), lv_has ls 5 [(3, .int v3)] → Ho (X0_timesEach_43 v3) (fun x => x = r) → W p l e rmX0_timesEach s m args below meth c s.heap [] 0 0 (MQ below (vp_Si (fun x => x = r)) args s 0 0 (fun _ => False)) (F0 m 43 ls []) := by
    intro v3 ls hl h
    unfold X0_timesEach_43 at h
    refine lv_iload_n hx hb dX0_timesEach_43 rfl (lv_at hl 0 rfl) ?_
    exact W.iret hx hb hr (fun t ht _ => ro_Si (Ho_e h) ht) ro_nil dX0_timesEach_44 hlk
  have J5 : ∀ (v3 : Int32) (v4 : Int32) (ls : Array Slot), lv_has ls 5 [(0, .ref h0), (1, .int x1), (2, .int x2), (3, .int v3), (4, .int v4)] → Ho ((X0_timesEach_5_l n x1 x2 v3 v4).bind (fun ex => X0_timesEach_43 ex)) (fun x => x = r) → W p l e rmX0_timesEach s m args below meth c s.heap [] 0 0 (MQ below (vp_Si (fun x => x = r)) args s 0 0 (fun _ => False)) (F0 m 5 ls []) := by
    intro v3 v4 ls hl h
    refine loop_use2 (fun z : Int32 × Int32 => ∀ (ls : Array Slot), lv_has ls 5 [(0, .ref h0), (1, .int x1), (2, .int x2), (3, .int z.1), (4, .int z.2)] → W p l e rmX0_timesEach s m args below meth c s.heap [] 0 0 (MQ below (vp_Si (fun x => x = r)) args s 0 0 (fun _ => False)) (F0 m 5 ls [])) ?_ FU _ h ls hl
    intro Q5 hi5 ho5 z h ls hl
    obtain ⟨v3, v4⟩ := z
    have h : Ho (X0_timesEach_5_s n x1 x2 v3 v4) Q5 := h
    unfold X0_timesEach_5_s at h
    have hl : lv_has ls 5 [(0, .ref h0), (1, .int x1), (2, .int x2), (3, .int v3), (4, .int v4)] := hl
    refine lv_iload hx hb dX0_timesEach_5 (lv_at hl 4 rfl) ?_
    refine lv_aload_n hx hb dX0_timesEach_7 rfl (lv_at hl 0 rfl) ?_
    refine va_get (D := (dC, dI)) (ci := 0) (v := .int n) (C := RX0) (T := TX0) (N := 2) hx hb hts hiX0 hown hK.1 hP 0 rfl rfl 0 (by decide) hf9 (fun _ h9 => h9) rfl dX0_timesEach_8 ?_
    refine lv_icmp_ge (tgt := 43) hx hb dX0_timesEach_11 (by decide) (fun q11 => ?_) (fun q11 => ?_)
    · have h := Ho_t h q11
      have h := ho5 _ (Ho_s h)
      exact J43 v3 ls (lv_sub hl [3] rfl) h
    · have h := Ho_f h q11
      refine lv_iload_n hx hb dX0_timesEach_14 rfl (lv_at hl 1 rfl) ?_
      refine lv_iload hx hb dX0_timesEach_15 (lv_at hl 4 rfl) ?_
      refine lv_ishr hx hb dX0_timesEach_17 ?_
      refine lv_iconst (v := (1 : Int32)) hx hb dX0_timesEach_18 (by decide) ?_
      refine lv_iand hx hb dX0_timesEach_19 ?_
      refine lv_iconst (v := (1 : Int32)) hx hb dX0_timesEach_20 (by decide) ?_
      refine lv_icmp_ne (tgt := 37) hx hb dX0_timesEach_21 (by decide) (fun q21 => ?_) (fun q21 => ?_)
      · have h := Ho_f h q21
        refine lv_iinc (v := v4 + 1) (lv' := [(4, .int (v4 + 1)), (0, .ref h0), (1, .int x1), (2, .int x2), (3, .int v3)]) hx hb dX0_timesEach_37 hl (k := 4) rfl rfl (by decide) rfl (fun ls hl => ?_)
        refine lv_goto (tgt := 5) hx hb dX0_timesEach_40 (by decide) ?_
        exact hi5 _ (Ho_s h) ls (lv_sub hl [1, 2, 3, 4, 0] rfl)
      · have h := Ho_t h q21
        refine lv_iload_n hx hb dX0_timesEach_24 rfl (lv_at hl 3 rfl) ?_
        refine lv_iconst (v := (1 : Int32)) hx hb dX0_timesEach_25 (by decide) ?_
        refine lv_aload_n hx hb dX0_timesEach_26 rfl (lv_at hl 0 rfl) ?_
        refine lv_iload hx hb dX0_timesEach_27 (lv_at hl 4 rfl) ?_
        refine lv_iload_n hx hb dX0_timesEach_29 rfl (lv_at hl 2 rfl) ?_
        refine lv_imul hx hb dX0_timesEach_30 ?_
        obtain ⟨r31, hc31, h⟩ := Ho_b h
        have hPc : va_P (dC, dI) vwCl [(h0, .inr (0, [.int n, .int ev]))] s.heap := hP.sub [0] rfl
        refine cs_i (va_runV (As := [.int (v4 * x2)]) (rest := [.int (1 : Int32), .int v3]) hfix (c_X0_wrapped l dC dI cI cJ h0 n ev (v4 * x2) _ hc31) (cwV 1 hts gX0_timesEach_X0_wrapped rfl rfl rfl (by decide +kernel) ⟨by decide, by decide⟩) (roP.preV hK hPc (ci := 0) rfl rfl) rfl rfl hl.1 rfl (lv_room (Nat.le_of_ble_eq_true rfl)) dX0_timesEach_31 ⟨Nat.zero_le _, Nat.zero_le _⟩) ?_
        refine lv_ishl hx hb dX0_timesEach_34 ?_
        refine lv_ior hx hb dX0_timesEach_35 ?_
        refine lv_istore_n (lv' := [(3, .int (v3 ||| ((1 : Int32) <<< (r31 &&& 31)))), (0, .ref h0), (1, .int x1), (2, .int x2), (4, .int v4)]) hx hb dX0_timesEach_36 rfl hl (by decide) rfl (fun ls hl => ?_)
        refine lv_iinc (v := v4 + 1) (lv' := [(4, .int (v4 + 1)), (3, .int (v3 ||| ((1 : Int32) <<< (r31 &&& 31)))), (0, .ref h0), (1, .int x1), (2, .int x2)]) hx hb dX0_timesEach_37 hl (k := 4) rfl rfl (by decide) rfl (fun ls hl => ?_)
        refine lv_goto (tgt := 5) hx hb dX0_timesEach_40 (by decide) ?_
        exact hi5 _ (Ho_s h) ls (lv_sub hl [2, 3, 4, 1, 0] rfl)
  refine lv_iconst (v := (0 : Int32)) hx hb dX0_timesEach_0 (by decide) ?_
  refine lv_istore_n (lv' := [(3, .int (0 : Int32)), (0, .ref h0), (1, .int x1), (2, .int x2)]) hx hb dX0_timesEach_1 rfl hl (by decide) rfl (fun ls hl => ?_)
  refine lv_iconst (v := (0 : Int32)) hx hb dX0_timesEach_2 (by decide) ?_
  refine lv_istore (lv' := [(4, .int (0 : Int32)), (3, .int (0 : Int32)), (0, .ref h0), (1, .int x1), (2, .int x2)]) hx hb dX0_timesEach_3 hl (by decide) rfl (fun ls hl => ?_)
  exact J5 (0 : Int32) (0 : Int32) ls (lv_sub hl [2, 3, 4, 1, 0] rfl) h
abbrev rmX0_mirroredIf : Room := { frames := 2, cells := 0, slots := 0, locals := 46 }
set_option maxHeartbeats 4000000 in
set_option maxRecDepth 100000 in
theorem c_X0_mirroredIf (l : Launch) (dC : Nat → ClassId) (dI : Nat → Nat → Nat) (cI cJ : ClassId) (h0 : Nat) (n : Int32) (ev : Int32) (x1 : Int32) (x2 : Int32) (r : Int32) (hF : FX0_mirroredIf n x1 x2 = some r) : Met l yX0_mirroredIf wsX0_mirroredIf rmX0_mirroredIf (roP (dC, dI) [(cI, .int), (cJ, .long)] [(h0, .inr (0, [.int n, .int ev]))] [.ref h0, .int x1, .int x2]) (vp_Si (fun x => x = r)) 0 0 (fun _ => False) := by
  refine ro_start (cc := cX0_mirroredIf) (maxL := 3) (ret := (some .int)) (by decide) rfl (Nat.le_of_ble_eq_true rfl) ?_
  intro p e s m args below meth c ls hx hb hml hr hlk hown hts hP hK hl
  have hown : s.vm.findClass RX0 = some m.cls := hown
  have hl : lv_has ls 3 [(0, .ref h0), (1, .int x1), (2, .int x2)] := hl
  have h : Ho (FX0_mirroredIf n x1 x2) (fun x => x = r) := ⟨r, hF, rfl⟩
  unfold FX0_mirroredIf at h
  have hfix : CallFix p m c cX0_mirroredIf 3 s args wsX0_mirroredIf RX0 := ⟨hx, hb, hml, hown, hts⟩
  have hiX0 : ∀ w ∈ u_ws RX0 TX0 2, w ∈ wsX0_mirroredIf := by decide +kernel
  have hf9 := hts (.fieldLink RX0 9 "RowClasses$Circle" "n" "I") (by decide +kernel)
  refine lv_iload_n hx hb dX0_mirroredIf_0 rfl (lv_at hl 2 rfl) ?_
  refine lv_if_eq (tgt := 18) hx hb dX0_mirroredIf_1 (by decide) (fun q1 => ?_) (fun q1 => ?_)
  · have h := Ho_t h q1
    refine lv_iload_n hx hb dX0_mirroredIf_18 rfl (lv_at hl 1 rfl) ?_
    exact W.iret hx hb hr (fun t ht _ => ro_Si (Ho_e h) ht) ro_nil dX0_mirroredIf_19 hlk
  · have h := Ho_f h q1
    refine lv_aload_n hx hb dX0_mirroredIf_4 rfl (lv_at hl 0 rfl) ?_
    refine lv_iload_n hx hb dX0_mirroredIf_5 rfl (lv_at hl 1 rfl) ?_
    refine lv_aload_n hx hb dX0_mirroredIf_6 rfl (lv_at hl 0 rfl) ?_
    refine va_get (D := (dC, dI)) (ci := 0) (v := .int n) (C := RX0) (T := TX0) (N := 2) hx hb hts hiX0 hown hK.1 hP 0 rfl rfl 0 (by decide) hf9 (fun _ h9 => h9) rfl dX0_mirroredIf_7 ?_
    refine lv_iconst (v := (1 : Int32)) hx hb dX0_mirroredIf_10 (by decide) ?_
    refine lv_isub hx hb dX0_mirroredIf_11 ?_
    obtain ⟨r12, hc12, h⟩ := Ho_b h
    have hPc : va_P (dC, dI) vwCl [(h0, .inr (0, [.int n, .int ev]))] s.heap := hP.sub [0] rfl
    refine cs_i (va_runV (As := [.int x1, .int (n - (1 : Int32))]) (rest := []) hfix (c_X0_timesEach l dC dI cI cJ h0 n ev x1 (n - (1 : Int32)) _ hc12) (cwV 2 hts gX0_mirroredIf_X0_timesEach rfl rfl rfl (by decide +kernel) ⟨by decide, by decide⟩) (roP.preV hK hPc (ci := 0) rfl rfl) rfl rfl hl.1 rfl (lv_room (Nat.le_of_ble_eq_true rfl)) dX0_mirroredIf_12 ⟨Nat.zero_le _, Nat.zero_le _⟩) ?_
    refine lv_goto (tgt := 19) hx hb dX0_mirroredIf_15 (by decide) ?_
    exact W.iret hx hb hr (fun t ht _ => ro_Si (Ho_e h) ht) ro_nil dX0_mirroredIf_19 hlk
abbrev rmX5_commonDivisor : Room := { frames := 0, cells := 0, slots := 0, locals := 0 }
set_option maxHeartbeats 4000000 in
set_option maxRecDepth 100000 in
theorem c_X5_commonDivisor (l : Launch) (dC : Nat → ClassId) (dI : Nat → Nat → Nat) (cI cJ : ClassId) (x0 : Int32) (x1 : Int32) (r : Int32) (hF : FX5_commonDivisor x0 x1 = some r) : Met l yX5_commonDivisor wsX5_commonDivisor rmX5_commonDivisor (roP (dC, dI) [(cI, .int), (cJ, .long)] [] [.int x0, .int x1]) (vp_Si (fun x => x = r)) 0 0 (fun _ => False) := by
  refine ro_start (cc := cX5_commonDivisor) (maxL := 3) (ret := (some .int)) (by decide) rfl (Nat.le_of_ble_eq_true rfl) ?_
  intro p e s m args below meth c ls hx hb hml hr hlk hown hts hP hK hl
  have hown : s.vm.findClass RX5 = some m.cls := hown
  have hl : lv_has ls 3 [(0, .int x0), (1, .int x1)] := hl
  have h : Ho (FX5_commonDivisor x0 x1) (fun x => x = r) := ⟨r, hF, rfl⟩
  unfold FX5_commonDivisor at h
  have hfix : CallFix p m c cX5_commonDivisor 3 s args wsX5_commonDivisor RX5 := ⟨hx, hb, hml, hown, hts⟩
  have J27 : ∀  (ls : Array Slot), lv_has ls 3 [] → Ho (X5_commonDivisor_27) (fun x => x = r) → W p l e rmX5_commonDivisor s m args below meth c s.heap [] 0 0 (MQ below (vp_Si (fun x => x = r)) args s 0 0 (fun _ => False)) (F0 m 27 ls []) := by
    intro  ls hl h
    unfold X5_commonDivisor_27 at h
    refine lv_iconst (v := (1 : Int32)) hx hb dX5_commonDivisor_27 (by decide) ?_
    exact W.iret hx hb hr (fun t ht _ => ro_Si (Ho_e h) ht) ro_nil dX5_commonDivisor_28 hlk
  have J19 : ∀ (v2 : Int32) (ls : Array Slot), lv_has ls 3 [(2, .int v2)] → Ho (X5_commonDivisor_19 v2) (fun x => x = r) → W p l e rmX5_commonDivisor s m args below meth c s.heap [] 0 0 (MQ below (vp_Si (fun x => x = r)) args s 0 0 (fun _ => False)) (F0 m 19 ls []) := by
    intro v2 ls hl h
    unfold X5_commonDivisor_19 at h
    refine lv_iload_n hx hb dX5_commonDivisor_19 rfl (lv_at hl 0 rfl) ?_
    exact W.iret hx hb hr (fun t ht _ => ro_Si (Ho_e h) ht) ro_nil dX5_commonDivisor_20 hlk
  have J2 : ∀ (v2 : Int32) (ls : Array Slot), lv_has ls 3 [(0, .int x0), (1, .int x1), (2, .int v2)] → Ho ((X5_commonDivisor_2_l x0 x1 v2).bind (fun ex => Sum.elim (fun xy => X5_commonDivisor_19 xy) (fun xy => X5_commonDivisor_27) ex)) (fun x => x = r) → W p l e rmX5_commonDivisor s m args below meth c s.heap [] 0 0 (MQ below (vp_Si (fun x => x = r)) args s 0 0 (fun _ => False)) (F0 m 2 ls []) := by
    intro v2 ls hl h
    refine loop_use2 (fun z : Int32 => ∀ (ls : Array Slot), lv_has ls 3 [(0, .int x0), (1, .int x1), (2, .int z)] → W p l e rmX5_commonDivisor s m args below meth c s.heap [] 0 0 (MQ below (vp_Si (fun x => x = r)) args s 0 0 (fun _ => False)) (F0 m 2 ls [])) ?_ FU _ h ls hl
    intro Q2 hi2 ho2 z h ls hl
    obtain ⟨v2, rfl⟩ : ∃ q, q = z := ⟨_, rfl⟩
    have h : Ho (X5_commonDivisor_2_s x0 x1 v2) Q2 := h
    unfold X5_commonDivisor_2_s at h
    have hl : lv_has ls 3 [(0, .int x0), (1, .int x1), (2, .int v2)] := hl
    refine lv_iload_n hx hb dX5_commonDivisor_2 rfl (lv_at hl 2 rfl) ?_
    refine lv_iconst (v := (1 : Int32)) hx hb dX5_commonDivisor_3 (by decide) ?_
    refine lv_icmp_le (tgt := 27) hx hb dX5_commonDivisor_4 (by decide) (fun q4 => ?_) (fun q4 => ?_)
    · have h := Ho_t h q4
      have h := ho2 _ (Ho_s h)
      exact J27  ls (lv_sub hl [] rfl) h
    · have h := Ho_f h q4
      refine lv_iload_n hx hb dX5_commonDivisor_7 rfl (lv_at hl 0 rfl) ?_
      refine lv_iload_n hx hb dX5_commonDivisor_8 rfl (lv_at hl 2 rfl) ?_
      obtain ⟨hz9, h⟩ := Ho_nz h
      refine lv_irem hx hb dX5_commonDivisor_9 hz9 ?_
      refine lv_if_ne (tgt := 21) hx hb dX5_commonDivisor_10 (by decide) (fun q10 => ?_) (fun q10 => ?_)
      · have h := Ho_f h q10
        refine lv_iinc (v := v2 + (-1)) (lv' := [(2, .int (v2 + (-1))), (0, .int x0), (1, .int x1)]) hx hb dX5_commonDivisor_21 hl (k := 2) rfl rfl (by decide) rfl (fun ls hl => ?_)
        refine lv_goto (tgt := 2) hx hb dX5_commonDivisor_24 (by decide) ?_
        exact hi2 _ (Ho_s h) ls (lv_sub hl [1, 2, 0] rfl)
      · have h := Ho_t h q10
        refine lv_iload_n hx hb dX5_commonDivisor_13 rfl (lv_at hl 1 rfl) ?_
        refine lv_iload_n hx hb dX5_commonDivisor_14 rfl (lv_at hl 2 rfl) ?_
        obtain ⟨hz15, h⟩ := Ho_nz h
        refine lv_irem hx hb dX5_commonDivisor_15 hz15 ?_
        refine lv_if_ne (tgt := 21) hx hb dX5_commonDivisor_16 (by decide) (fun q16 => ?_) (fun q16 => ?_)
        · have h := Ho_f h q16
          refine lv_iinc (v := v2 + (-1)) (lv' := [(2, .int (v2 + (-1))), (0, .int x0), (1, .int x1)]) hx hb dX5_commonDivisor_21 hl (k := 2) rfl rfl (by decide) rfl (fun ls hl => ?_)
          refine lv_goto (tgt := 2) hx hb dX5_commonDivisor_24 (by decide) ?_
          exact hi2 _ (Ho_s h) ls (lv_sub hl [1, 2, 0] rfl)
        · have h := Ho_t h q16
          have h := ho2 _ (Ho_s h)
          exact J19 v2 ls (lv_sub hl [2] rfl) h
  refine lv_iload_n hx hb dX5_commonDivisor_0 rfl (lv_at hl 1 rfl) ?_
  refine lv_istore_n (lv' := [(2, .int x1), (0, .int x0), (1, .int x1)]) hx hb dX5_commonDivisor_1 rfl hl (by decide) rfl (fun ls hl => ?_)
  exact J2 x1 ls (lv_sub hl [1, 2, 0] rfl) h
abbrev rmX0_isMultiplier : Room := { frames := 1, cells := 0, slots := 0, locals := 22 }
set_option maxHeartbeats 4000000 in
set_option maxRecDepth 100000 in
theorem c_X0_isMultiplier (l : Launch) (dC : Nat → ClassId) (dI : Nat → Nat → Nat) (cI cJ : ClassId) (h0 : Nat) (n : Int32) (ev : Int32) (x1 : Int32) (x2 : Int32) (r : Int32) (hF : FX0_isMultiplier n x1 x2 = some r) : Met l yX0_isMultiplier wsX0_isMultiplier rmX0_isMultiplier (roP (dC, dI) [(cI, .int), (cJ, .long)] [(h0, .inr (0, [.int n, .int ev]))] [.ref h0, .int x1, .int x2]) (vp_Si (fun x => x = r)) 0 0 (fun _ => False) := by
  refine ro_start (cc := cX0_isMultiplier) (maxL := 3) (ret := (some .boolean)) (by decide) rfl (Nat.le_of_ble_eq_true rfl) ?_
  intro p e s m args below meth c ls hx hb hml hr hlk hown hts hP hK hl
  have hown : s.vm.findClass RX0 = some m.cls := hown
  have hl : lv_has ls 3 [(0, .ref h0), (1, .int x1), (2, .int x2)] := hl
  have h : Ho (FX0_isMultiplier n x1 x2) (fun x => x = r) := ⟨r, hF, rfl⟩
  unfold FX0_isMultiplier at h
  have hfix : CallFix p m c cX0_isMultiplier 3 s args wsX0_isMultiplier RX0 := ⟨hx, hb, hml, hown, hts⟩
  have hiX0 : ∀ w ∈ u_ws RX0 TX0 2, w ∈ wsX0_isMultiplier := by decide +kernel
  have hf9 := hts (.fieldLink RX0 9 "RowClasses$Circle" "n" "I") (by decide +kernel)
  refine lv_iload_n hx hb dX0_isMultiplier_0 rfl (lv_at hl 2 rfl) ?_
  refine lv_iconst (v := (2 : Int32)) hx hb dX0_isMultiplier_1 (by decide) ?_
  refine lv_icmp_ne (tgt := 23) hx hb dX0_isMultiplier_2 (by decide) (fun q2 => ?_) (fun q2 => ?_)
  · have h := Ho_f h q2
    refine lv_iload_n hx hb dX0_isMultiplier_23 rfl (lv_at hl 1 rfl) ?_
    refine lv_aload_n hx hb dX0_isMultiplier_24 rfl (lv_at hl 0 rfl) ?_
    refine lv_iconst (v := (1 : Int32)) hx hb dX0_isMultiplier_25 (by decide) ?_
    obtain ⟨r26, hc26, h⟩ := Ho_b h
    have hPc : va_P (dC, dI) vwCl [(h0, .inr (0, [.int n, .int ev]))] s.heap := hP.sub [0] rfl
    refine cs_i (va_runV (As := [.int (1 : Int32)]) (rest := [.int x1]) hfix (c_X0_wrapped l dC dI cI cJ h0 n ev (1 : Int32) _ hc26) (cwV 1 hts gX0_isMultiplier_X0_wrapped rfl rfl rfl (by decide +kernel) ⟨by decide, by decide⟩) (roP.preV hK hPc (ci := 0) rfl rfl) rfl rfl hl.1 rfl (lv_room (Nat.le_of_ble_eq_true rfl)) dX0_isMultiplier_26 ⟨Nat.zero_le _, Nat.zero_le _⟩) ?_
    refine lv_icmp_eq (tgt := 47) hx hb dX0_isMultiplier_29 (by decide) (fun q29 => ?_) (fun q29 => ?_)
    · have h := Ho_t h q29
      refine lv_iconst (v := (1 : Int32)) hx hb dX0_isMultiplier_47 (by decide) ?_
      refine lv_goto (tgt := 52) hx hb dX0_isMultiplier_48 (by decide) ?_
      exact W.zret (ty := .boolean) hx hb hr rfl (fun t ht _ => ro_Si (Ho_e h) ht) ro_nil dX0_isMultiplier_52 hlk
    · have h := Ho_f h q29
      refine lv_iload_n hx hb dX0_isMultiplier_32 rfl (lv_at hl 2 rfl) ?_
      refine lv_iconst (v := (1 : Int32)) hx hb dX0_isMultiplier_33 (by decide) ?_
      refine lv_icmp_ne (tgt := 51) hx hb dX0_isMultiplier_34 (by decide) (fun q34 => ?_) (fun q34 => ?_)
      · have h := Ho_f h q34
        refine lv_iconst (v := (0 : Int32)) hx hb dX0_isMultiplier_51 (by decide) ?_
        exact W.zret (ty := .boolean) hx hb hr rfl (fun t ht _ => ro_Si (Ho_e h) ht) ro_nil dX0_isMultiplier_52 hlk
      · have h := Ho_t h q34
        refine lv_iload_n hx hb dX0_isMultiplier_37 rfl (lv_at hl 1 rfl) ?_
        refine lv_aload_n hx hb dX0_isMultiplier_38 rfl (lv_at hl 0 rfl) ?_
        refine va_get (D := (dC, dI)) (ci := 0) (v := .int n) (C := RX0) (T := TX0) (N := 2) hx hb hts hiX0 hown hK.1 hP 0 rfl rfl 0 (by decide) hf9 (fun _ h9 => h9) rfl dX0_isMultiplier_39 ?_
        refine lv_iconst (v := (1 : Int32)) hx hb dX0_isMultiplier_42 (by decide) ?_
        refine lv_isub hx hb dX0_isMultiplier_43 ?_
        refine lv_icmp_ne (tgt := 51) hx hb dX0_isMultiplier_44 (by decide) (fun q44 => ?_) (fun q44 => ?_)
        · have h := Ho_f h q44
          refine lv_iconst (v := (0 : Int32)) hx hb dX0_isMultiplier_51 (by decide) ?_
          exact W.zret (ty := .boolean) hx hb hr rfl (fun t ht _ => ro_Si (Ho_e h) ht) ro_nil dX0_isMultiplier_52 hlk
        · have h := Ho_t h q44
          refine lv_iconst (v := (1 : Int32)) hx hb dX0_isMultiplier_47 (by decide) ?_
          refine lv_goto (tgt := 52) hx hb dX0_isMultiplier_48 (by decide) ?_
          exact W.zret (ty := .boolean) hx hb hr rfl (fun t ht _ => ro_Si (Ho_e h) ht) ro_nil dX0_isMultiplier_52 hlk
  · have h := Ho_t h q2
    refine lv_iload_n hx hb dX0_isMultiplier_5 rfl (lv_at hl 1 rfl) ?_
    refine lv_aload_n hx hb dX0_isMultiplier_6 rfl (lv_at hl 0 rfl) ?_
    refine va_get (D := (dC, dI)) (ci := 0) (v := .int n) (C := RX0) (T := TX0) (N := 2) hx hb hts hiX0 hown hK.1 hP 0 rfl rfl 0 (by decide) hf9 (fun _ h9 => h9) rfl dX0_isMultiplier_7 ?_
    obtain ⟨r10, hc10, h⟩ := Ho_b h
    have hin10 := hts (.initialized RX5) (by decide +kernel)
    have hst10 := hts (.static yX5_commonDivisor) (by decide +kernel)
    refine cs_i (va_runSN (As := [.int x1, .int n]) (rest := []) hfix (c_X5_commonDivisor l dC dI cI cJ  x1 n _ hc10) ⟨va_cnB 2 hts gX0_isMultiplier_X5_commonDivisor_n26 rfl rfl rfl hK.2.1 hin10 (by decide +kernel) ⟨by decide, by decide⟩, hst10, trivial⟩ (roP.preS hK va_Pnil) rfl rfl hl.1 rfl (lv_room (Nat.le_of_ble_eq_true rfl)) dX0_isMultiplier_10 ⟨Nat.zero_le _, Nat.zero_le _⟩) ?_
    refine lv_iconst (v := (1 : Int32)) hx hb dX0_isMultiplier_13 (by decide) ?_
    refine lv_icmp_ne (tgt := 21) hx hb dX0_isMultiplier_14 (by decide) (fun q14 => ?_) (fun q14 => ?_)
    · have h := Ho_f h q14
      refine lv_iconst (v := (0 : Int32)) hx hb dX0_isMultiplier_21 (by decide) ?_
      exact W.zret (ty := .boolean) hx hb hr rfl (fun t ht _ => ro_Si (Ho_e h) ht) ro_nil dX0_isMultiplier_22 hlk
    · have h := Ho_t h q14
      refine lv_iconst (v := (1 : Int32)) hx hb dX0_isMultiplier_17 (by decide) ?_
      refine lv_goto (tgt := 22) hx hb dX0_isMultiplier_18 (by decide) ?_
      exact W.zret (ty := .boolean) hx hb hr rfl (fun t ht _ => ro_Si (Ho_e h) ht) ro_nil dX0_isMultiplier_22 hlk
abbrev rmX0_leastTurned : Room := { frames := 1, cells := 0, slots := 0, locals := 24 }
set_option maxHeartbeats 4000000 in
set_option maxRecDepth 100000 in
theorem c_X0_leastTurned (l : Launch) (dC : Nat → ClassId) (dI : Nat → Nat → Nat) (cI cJ : ClassId) (h0 : Nat) (n : Int32) (ev : Int32) (x1 : Int32) (r : Int32) (hF : FX0_leastTurned n ev x1 = some r) : Met l yX0_leastTurned wsX0_leastTurned rmX0_leastTurned (roP (dC, dI) [(cI, .int), (cJ, .long)] [(h0, .inr (0, [.int n, .int ev]))] [.ref h0, .int x1]) (vp_Si (fun x => x = r)) 0 0 (fun _ => False) := by
  refine ro_start (cc := cX0_leastTurned) (maxL := 4) (ret := (some .int)) (by decide) rfl (Nat.le_of_ble_eq_true rfl) ?_
  intro p e s m args below meth c ls hx hb hml hr hlk hown hts hP hK hl
  have hown : s.vm.findClass RX0 = some m.cls := hown
  have hl : lv_has ls 4 [(0, .ref h0), (1, .int x1)] := hl
  have h : Ho (FX0_leastTurned n ev x1) (fun x => x = r) := ⟨r, hF, rfl⟩
  unfold FX0_leastTurned at h
  have hfix : CallFix p m c cX0_leastTurned 4 s args wsX0_leastTurned RX0 := ⟨hx, hb, hml, hown, hts⟩
  have hiX0 : ∀ w ∈ u_ws RX0 TX0 2, w ∈ wsX0_leastTurned := by decide +kernel
  have hf9 := hts (.fieldLink RX0 9 "RowClasses$Circle" "n" "I") (by decide +kernel)
  have hm36 := hts (.methodLink RX0 36 Lib.Math.min.name) (by decide +kernel)
  have hms_min := hts (.static Lib.Math.min.name) (by decide +kernel)
  have hmc_min := hts (.code Lib.Math.min.name Lib.Math.min.code 2 (some .int)) (by decide +kernel)
  have hmi := hts (.initialized "java/lang/Math") (by decide +kernel)
  have J29 : ∀ (v2 : Int32) (ls : Array Slot), lv_has ls 4 [(2, .int v2)] → Ho (X0_leastTurned_29 v2) (fun x => x = r) → W p l e rmX0_leastTurned s m args below meth c s.heap [] 0 0 (MQ below (vp_Si (fun x => x = r)) args s 0 0 (fun _ => False)) (F0 m 29 ls []) := by
    intro v2 ls hl h
    unfold X0_leastTurned_29 at h
    refine lv_iload_n hx hb dX0_leastTurned_29 rfl (lv_at hl 0 rfl) ?_
    exact W.iret hx hb hr (fun t ht _ => ro_Si (Ho_e h) ht) ro_nil dX0_leastTurned_30 hlk
  have J4 : ∀ (v2 : Int32) (v3 : Int32) (ls : Array Slot), lv_has ls 4 [(0, .ref h0), (1, .int x1), (2, .int v2), (3, .int v3)] → Ho ((X0_leastTurned_4_l n ev x1 v2 v3).bind (fun ex => X0_leastTurned_29 ex)) (fun x => x = r) → W p l e rmX0_leastTurned s m args below meth c s.heap [] 0 0 (MQ below (vp_Si (fun x => x = r)) args s 0 0 (fun _ => False)) (F0 m 4 ls []) := by
    intro v2 v3 ls hl h
    refine loop_use2 (fun z : Int32 × Int32 => ∀ (ls : Array Slot), lv_has ls 4 [(0, .ref h0), (1, .int x1), (2, .int z.1), (3, .int z.2)] → W p l e rmX0_leastTurned s m args below meth c s.heap [] 0 0 (MQ below (vp_Si (fun x => x = r)) args s 0 0 (fun _ => False)) (F0 m 4 ls [])) ?_ FU _ h ls hl
    intro Q4 hi4 ho4 z h ls hl
    obtain ⟨v2, v3⟩ := z
    have h : Ho (X0_leastTurned_4_s n ev x1 v2 v3) Q4 := h
    unfold X0_leastTurned_4_s at h
    have hl : lv_has ls 4 [(0, .ref h0), (1, .int x1), (2, .int v2), (3, .int v3)] := hl
    refine lv_iload_n hx hb dX0_leastTurned_4 rfl (lv_at hl 3 rfl) ?_
    refine lv_aload_n hx hb dX0_leastTurned_5 rfl (lv_at hl 0 rfl) ?_
    refine va_get (D := (dC, dI)) (ci := 0) (v := .int n) (C := RX0) (T := TX0) (N := 2) hx hb hts hiX0 hown hK.1 hP 0 rfl rfl 0 (by decide) hf9 (fun _ h9 => h9) rfl dX0_leastTurned_6 ?_
    refine lv_icmp_ge (tgt := 29) hx hb dX0_leastTurned_9 (by decide) (fun q9 => ?_) (fun q9 => ?_)
    · have h := Ho_t h q9
      have h := ho4 _ (Ho_s h)
      exact J29 v2 ls (lv_sub hl [2] rfl) h
    · have h := Ho_f h q9
      refine lv_iload_n hx hb dX0_leastTurned_12 rfl (lv_at hl 2 rfl) ?_
      refine lv_aload_n hx hb dX0_leastTurned_13 rfl (lv_at hl 0 rfl) ?_
      refine lv_iload_n hx hb dX0_leastTurned_14 rfl (lv_at hl 1 rfl) ?_
      refine lv_iload_n hx hb dX0_leastTurned_15 rfl (lv_at hl 3 rfl) ?_
      obtain ⟨r16, hc16, h⟩ := Ho_b h
      have hPc : va_P (dC, dI) vwCl [(h0, .inr (0, [.int n, .int ev]))] s.heap := hP.sub [0] rfl
      refine cs_i (va_runV (As := [.int x1, .int v3]) (rest := [.int v2]) hfix (c_X0_turned l dC dI cI cJ h0 n ev x1 v3 _ hc16) (cwV 2 hts gX0_leastTurned_X0_turned rfl rfl rfl (by decide +kernel) ⟨by decide, by decide⟩) (roP.preV hK hPc (ci := 0) rfl rfl) rfl rfl hl.1 rfl (lv_room (Nat.le_of_ble_eq_true rfl)) dX0_leastTurned_16 ⟨Nat.zero_le _, Nat.zero_le _⟩) ?_
      refine va_mmin hx hb (hml.trans hl.1.symm) hown hm36 hms_min hmi hmc_min (by decide) (by decide) (Nat.zero_le _) (Nat.zero_le _) dX0_leastTurned_19 ?_
      refine lv_topi (fun r19 er19 => ?_)
      have h := Ho_let h r19 er19
      refine lv_istore_n (lv' := [(2, .int r19), (0, .ref h0), (1, .int x1), (3, .int v3)]) hx hb dX0_leastTurned_22 rfl hl (by decide) rfl (fun ls hl => ?_)
      refine lv_iinc (v := v3 + 1) (lv' := [(3, .int (v3 + 1)), (2, .int r19), (0, .ref h0), (1, .int x1)]) hx hb dX0_leastTurned_23 hl (k := 3) rfl rfl (by decide) rfl (fun ls hl => ?_)
      refine lv_goto (tgt := 4) hx hb dX0_leastTurned_26 (by decide) ?_
      exact hi4 _ (Ho_s h) ls (lv_sub hl [2, 3, 1, 0] rfl)
  refine lv_iload_n hx hb dX0_leastTurned_0 rfl (lv_at hl 1 rfl) ?_
  refine lv_istore_n (lv' := [(2, .int x1), (0, .ref h0), (1, .int x1)]) hx hb dX0_leastTurned_1 rfl hl (by decide) rfl (fun ls hl => ?_)
  refine lv_iconst (v := (1 : Int32)) hx hb dX0_leastTurned_2 (by decide) ?_
  refine lv_istore_n (lv' := [(3, .int (1 : Int32)), (2, .int x1), (0, .ref h0), (1, .int x1)]) hx hb dX0_leastTurned_3 rfl hl (by decide) rfl (fun ls hl => ?_)
  exact J4 x1 (1 : Int32) ls (lv_sub hl [2, 3, 1, 0] rfl) h
