abbrev rmX3_empty : Room := { frames := 0, cells := 0, slots := 0, locals := 0 }
set_option maxHeartbeats 4000000 in
set_option maxRecDepth 100000 in
theorem c_X3_empty (l : Launch) (dC : Nat → ClassId) (dI : Nat → Nat → Nat) (cI cJ : ClassId) (h0 hc ha : Nat) (sz : Nat) (tk : Int32) (mb : Int32) (n : Int32) (ev : Int32) (f : Nat → Int32) (tk' : Int32) (mb' : Int32) (hF : FX3_empty tk mb = some (tk', mb')) : Met l yX3_empty wsX3_empty rmX3_empty (rwP (dC, dI) [(cI, .int), (cJ, .long)] sz [(h0, .inr (3, [.ref hc, .ref ha, .int tk, .int mb])), (hc, .inr (0, [.int n, .int ev])), (ha, .inl (cI, 12, .inl f))] [.ref h0]) (va_Qv (fun _ : Unit => True) (fun _ t => va_P (dC, dI) vwCl [(h0, .inr (3, [.ref hc, .ref ha, .int tk', .int mb'])), (hc, .inr (0, [.int n, .int ev])), (ha, .inl (cI, 12, .inl f))] t.heap ∧ vK (dC, dI) [(cI, .int), (cJ, .long)] t ∧ va_D (va_A [(h0, .inr (3, [.ref hc, .ref ha, .int tk, .int mb])), (hc, .inr (0, [.int n, .int ev])), (ha, .inl (cI, 12, .inl f))] sz) [(h0, .inr (3, [.ref hc, .ref ha, .int tk', .int mb'])), (hc, .inr (0, [.int n, .int ev])), (ha, .inl (cI, 12, .inl f))]) (va_A [(h0, .inr (3, [.ref hc, .ref ha, .int tk, .int mb])), (hc, .inr (0, [.int n, .int ev])), (ha, .inl (cI, 12, .inl f))] sz)) 0 0 (va_A [(h0, .inr (3, [.ref hc, .ref ha, .int tk, .int mb])), (hc, .inr (0, [.int n, .int ev])), (ha, .inl (cI, 12, .inl f))] sz) := by
  refine rw_start (cc := cX3_empty) (maxL := 1) (ret := none) (by decide) rfl (Nat.le_of_ble_eq_true rfl) ?_
  intro p e s m args below meth c ls A H locs hx hb hml hr hlk hown hts hsz hP hK hD hA hS hAe hl
  have hown : s.vm.findClass RX3 = some m.cls := hown
  have hl : lv_has ls 1 [(0, .ref h0)] := hl
  have h : Ho (FX3_empty tk mb) (fun x => x = (tk', mb')) := ⟨_, hF, rfl⟩
  unfold FX3_empty at h
  have QI : ∀ {tk9 : Int32} {mb9 : Int32} {t : State}, (tk9, mb9) = (tk', mb') → va_P (dC, dI) vwCl [(h0, .inr (3, [.ref hc, .ref ha, .int tk9, .int mb9])), (hc, .inr (0, [.int n, .int ev])), (ha, .inl (cI, 12, .inl f))] t.heap → vK (dC, dI) [(cI, .int), (cJ, .long)] t → va_D A [(h0, .inr (3, [.ref hc, .ref ha, .int tk9, .int mb9])), (hc, .inr (0, [.int n, .int ev])), (ha, .inl (cI, 12, .inl f))] → va_F A s t → (va_Qv (fun _ : Unit => True) (fun _ t => va_P (dC, dI) vwCl [(h0, .inr (3, [.ref hc, .ref ha, .int tk', .int mb'])), (hc, .inr (0, [.int n, .int ev])), (ha, .inl (cI, 12, .inl f))] t.heap ∧ vK (dC, dI) [(cI, .int), (cJ, .long)] t ∧ va_D (va_A [(h0, .inr (3, [.ref hc, .ref ha, .int tk, .int mb])), (hc, .inr (0, [.int n, .int ev])), (ha, .inl (cI, 12, .inl f))] sz) [(h0, .inr (3, [.ref hc, .ref ha, .int tk', .int mb'])), (hc, .inr (0, [.int n, .int ev])), (ha, .inl (cI, 12, .inl f))]) (va_A [(h0, .inr (3, [.ref hc, .ref ha, .int tk, .int mb])), (hc, .inr (0, [.int n, .int ev])), (ha, .inl (cI, 12, .inl f))] sz)) args s (.returned none) t := by
    intro tk9 mb9 t e9 q1 q2 q3 q4
    cases e9
    subst hAe
    exact ⟨⟨(), rfl, trivial, q1, q2, q3⟩, q4⟩
  have hfix : CallFix p m c cX3_empty 1 s args wsX3_empty RX3 := ⟨hx, hb, hml, hown, hts⟩
  have hiX3 : ∀ w ∈ u_ws RX3 TX3 4, w ∈ wsX3_empty := by decide +kernel
  have hf19 := hts (.fieldLink RX3 19 "RowClasses$Row" "taken" "I") (by decide +kernel)
  have hf23 := hts (.fieldLink RX3 23 "RowClasses$Row" "members" "I") (by decide +kernel)
  refine lv_aload_n hx hb dX3_empty_0 rfl (lv_at hl 0 rfl) ?_
  refine lv_iconst (v := (0 : Int32)) hx hb dX3_empty_1 (by decide) ?_
  refine va_put (D := (dC, dI)) (ci := 3) (v := .int (0 : Int32)) (ty := .int) (C := RX3) (T := TX3) (N := 4) hx hb hts hiX3 tyX3 tyX3_ok nmX3 hown hK.1 hP hD hS 0 rfl rfl 2 (by decide) hf19 (fun _ h9 => h9) rfl (by decide +kernel) rfl rfl (Nat.le_of_ble_eq_true rfl) dX3_empty_2 (fun H locs hP hD hS => ?_)
  have hP : va_P (dC, dI) vwCl [(h0, .inr (3, [.ref hc, .ref ha, .int (0 : Int32), .int mb])), (hc, .inr (0, [.int n, .int ev])), (ha, .inl (cI, 12, .inl f))] H := hP
  have hD : va_D A [(h0, .inr (3, [.ref hc, .ref ha, .int (0 : Int32), .int mb])), (hc, .inr (0, [.int n, .int ev])), (ha, .inl (cI, 12, .inl f))] := hD
  refine lv_aload_n hx hb dX3_empty_5 rfl (lv_at hl 0 rfl) ?_
  refine lv_iconst (v := (0 : Int32)) hx hb dX3_empty_6 (by decide) ?_
  refine va_put (D := (dC, dI)) (ci := 3) (v := .int (0 : Int32)) (ty := .int) (C := RX3) (T := TX3) (N := 4) hx hb hts hiX3 tyX3 tyX3_ok nmX3 hown hK.1 hP hD hS 0 rfl rfl 3 (by decide) hf23 (fun _ h9 => h9) rfl (by decide +kernel) rfl rfl (Nat.le_of_ble_eq_true rfl) dX3_empty_7 (fun H locs hP hD hS => ?_)
  have hP : va_P (dC, dI) vwCl [(h0, .inr (3, [.ref hc, .ref ha, .int (0 : Int32), .int (0 : Int32)])), (hc, .inr (0, [.int n, .int ev])), (ha, .inl (cI, 12, .inl f))] H := hP
  have hD : va_D A [(h0, .inr (3, [.ref hc, .ref ha, .int (0 : Int32), .int (0 : Int32)])), (hc, .inr (0, [.int n, .int ev])), (ha, .inl (cI, 12, .inl f))] := hD
  exact W.vret hx hb hr (fun t ht hW => QI (Ho_e h) (by rw [ht]; exact hP) (hK.warm hW) hD (hS.F ht)) hS.2.2 dX3_empty_10 hlk
abbrev rmX3_length : Room := { frames := 0, cells := 0, slots := 0, locals := 0 }
set_option maxHeartbeats 4000000 in
set_option maxRecDepth 100000 in
theorem c_X3_length (l : Launch) (dC : Nat → ClassId) (dI : Nat → Nat → Nat) (cI cJ : ClassId) (h0 hc ha : Nat) (tk : Int32) (mb : Int32) (n : Int32) (ev : Int32) (f : Nat → Int32) (r : Int32) (hF : FX3_length tk = some r) : Met l yX3_length wsX3_length rmX3_length (roP (dC, dI) [(cI, .int), (cJ, .long)] [(h0, .inr (3, [.ref hc, .ref ha, .int tk, .int mb])), (hc, .inr (0, [.int n, .int ev])), (ha, .inl (cI, 12, .inl f))] [.ref h0]) (vp_Si (fun x => x = r)) 0 0 (fun _ => False) := by
  refine ro_start (cc := cX3_length) (maxL := 1) (ret := (some .int)) (by decide) rfl (Nat.le_of_ble_eq_true rfl) ?_
  intro p e s m args below meth c ls hx hb hml hr hlk hown hts hP hK hl
  have hown : s.vm.findClass RX3 = some m.cls := hown
  have hl : lv_has ls 1 [(0, .ref h0)] := hl
  have h : Ho (FX3_length tk) (fun x => x = r) := ⟨r, hF, rfl⟩
  unfold FX3_length at h
  have hfix : CallFix p m c cX3_length 1 s args wsX3_length RX3 := ⟨hx, hb, hml, hown, hts⟩
  have hiX3 : ∀ w ∈ u_ws RX3 TX3 4, w ∈ wsX3_length := by decide +kernel
  have hf19 := hts (.fieldLink RX3 19 "RowClasses$Row" "taken" "I") (by decide +kernel)
  refine lv_aload_n hx hb dX3_length_0 rfl (lv_at hl 0 rfl) ?_
  refine va_get (D := (dC, dI)) (ci := 3) (v := .int tk) (C := RX3) (T := TX3) (N := 4) hx hb hts hiX3 hown hK.1 hP 0 rfl rfl 2 (by decide) hf19 (fun _ h9 => h9) rfl dX3_length_1 ?_
  exact W.iret hx hb hr (fun t ht _ => ro_Si (Ho_e h) ht) ro_nil dX3_length_4 hlk
abbrev rmX3_isWhole : Room := { frames := 1, cells := 0, slots := 0, locals := 20 }
set_option maxHeartbeats 4000000 in
set_option maxRecDepth 100000 in
theorem c_X3_isWhole (l : Launch) (dC : Nat → ClassId) (dI : Nat → Nat → Nat) (cI cJ : ClassId) (h0 hc ha : Nat) (tk : Int32) (mb : Int32) (n : Int32) (ev : Int32) (f : Nat → Int32) (r : Int32) (hF : FX3_isWhole tk n = some r) : Met l yX3_isWhole wsX3_isWhole rmX3_isWhole (roP (dC, dI) [(cI, .int), (cJ, .long)] [(h0, .inr (3, [.ref hc, .ref ha, .int tk, .int mb])), (hc, .inr (0, [.int n, .int ev])), (ha, .inl (cI, 12, .inl f))] [.ref h0]) (vp_Si (fun x => x = r)) 0 0 (fun _ => False) := by
  refine ro_start (cc := cX3_isWhole) (maxL := 1) (ret := (some .boolean)) (by decide) rfl (Nat.le_of_ble_eq_true rfl) ?_
  intro p e s m args below meth c ls hx hb hml hr hlk hown hts hP hK hl
  have hown : s.vm.findClass RX3 = some m.cls := hown
  have hl : lv_has ls 1 [(0, .ref h0)] := hl
  have h : Ho (FX3_isWhole tk n) (fun x => x = r) := ⟨r, hF, rfl⟩
  unfold FX3_isWhole at h
  have hfix : CallFix p m c cX3_isWhole 1 s args wsX3_isWhole RX3 := ⟨hx, hb, hml, hown, hts⟩
  have hiX3 : ∀ w ∈ u_ws RX3 TX3 4, w ∈ wsX3_isWhole := by decide +kernel
  have hf9 := hts (.fieldLink RX3 9 "RowClasses$Row" "circle" "LRowClasses$Circle;") (by decide +kernel)
  have hf19 := hts (.fieldLink RX3 19 "RowClasses$Row" "taken" "I") (by decide +kernel)
  refine lv_aload_n hx hb dX3_isWhole_0 rfl (lv_at hl 0 rfl) ?_
  refine va_get (D := (dC, dI)) (ci := 3) (v := .int tk) (C := RX3) (T := TX3) (N := 4) hx hb hts hiX3 hown hK.1 hP 0 rfl rfl 2 (by decide) hf19 (fun _ h9 => h9) rfl dX3_isWhole_1 ?_
  refine lv_aload_n hx hb dX3_isWhole_4 rfl (lv_at hl 0 rfl) ?_
  refine va_get (D := (dC, dI)) (ci := 3) (v := .ref hc) (C := RX3) (T := TX3) (N := 4) hx hb hts hiX3 hown hK.1 hP 0 rfl rfl 0 (by decide) hf9 (fun _ h9 => h9) rfl dX3_isWhole_5 ?_
  obtain ⟨r8, hc8, h⟩ := Ho_b h
  have hPc : va_P (dC, dI) vwCl [(hc, .inr (0, [.int n, .int ev]))] s.heap := hP.sub [1] rfl
  refine cs_i (va_runV (As := []) (rest := [.int tk]) hfix (c_X0_count l dC dI cI cJ hc n ev _ hc8) (cwV 0 hts gX3_isWhole_X0_count rfl rfl rfl (by decide +kernel) ⟨by decide, by decide⟩) (roP.preV hK hPc (ci := 0) rfl rfl) rfl rfl hl.1 rfl (lv_room (Nat.le_of_ble_eq_true rfl)) dX3_isWhole_8 ⟨Nat.zero_le _, Nat.zero_le _⟩) ?_
  refine lv_icmp_ne (tgt := 18) hx hb dX3_isWhole_11 (by decide) (fun q11 => ?_) (fun q11 => ?_)
  · have h := Ho_f h q11
    refine lv_iconst (v := (0 : Int32)) hx hb dX3_isWhole_18 (by decide) ?_
    exact W.zret (ty := .boolean) hx hb hr rfl (fun t ht _ => ro_Si (Ho_e h) ht) ro_nil dX3_isWhole_19 hlk
  · have h := Ho_t h q11
    refine lv_iconst (v := (1 : Int32)) hx hb dX3_isWhole_14 (by decide) ?_
    refine lv_goto (tgt := 19) hx hb dX3_isWhole_15 (by decide) ?_
    exact W.zret (ty := .boolean) hx hb hr rfl (fun t ht _ => ro_Si (Ho_e h) ht) ro_nil dX3_isWhole_19 hlk
abbrev rmX3_hasPlace : Room := { frames := 0, cells := 0, slots := 0, locals := 0 }
set_option maxHeartbeats 4000000 in
set_option maxRecDepth 100000 in
theorem c_X3_hasPlace (l : Launch) (dC : Nat → ClassId) (dI : Nat → Nat → Nat) (cI cJ : ClassId) (h0 hc ha : Nat) (tk : Int32) (mb : Int32) (n : Int32) (ev : Int32) (f : Nat → Int32) (x1 : Int32) (r : Int32) (hF : FX3_hasPlace tk x1 = some r) : Met l yX3_hasPlace wsX3_hasPlace rmX3_hasPlace (roP (dC, dI) [(cI, .int), (cJ, .long)] [(h0, .inr (3, [.ref hc, .ref ha, .int tk, .int mb])), (hc, .inr (0, [.int n, .int ev])), (ha, .inl (cI, 12, .inl f))] [.ref h0, .int x1]) (vp_Si (fun x => x = r)) 0 0 (fun _ => False) := by
  refine ro_start (cc := cX3_hasPlace) (maxL := 2) (ret := (some .boolean)) (by decide) rfl (Nat.le_of_ble_eq_true rfl) ?_
  intro p e s m args below meth c ls hx hb hml hr hlk hown hts hP hK hl
  have hown : s.vm.findClass RX3 = some m.cls := hown
  have hl : lv_has ls 2 [(0, .ref h0), (1, .int x1)] := hl
  have h : Ho (FX3_hasPlace tk x1) (fun x => x = r) := ⟨r, hF, rfl⟩
  unfold FX3_hasPlace at h
  have hfix : CallFix p m c cX3_hasPlace 2 s args wsX3_hasPlace RX3 := ⟨hx, hb, hml, hown, hts⟩
  have hiX3 : ∀ w ∈ u_ws RX3 TX3 4, w ∈ wsX3_hasPlace := by decide +kernel
  have hf19 := hts (.fieldLink RX3 19 "RowClasses$Row" "taken" "I") (by decide +kernel)
  refine lv_iload_n hx hb dX3_hasPlace_0 rfl (lv_at hl 1 rfl) ?_
  refine lv_if_lt (tgt := 16) hx hb dX3_hasPlace_1 (by decide) (fun q1 => ?_) (fun q1 => ?_)
  · have h := Ho_t h q1
    refine lv_iconst (v := (0 : Int32)) hx hb dX3_hasPlace_16 (by decide) ?_
    exact W.zret (ty := .boolean) hx hb hr rfl (fun t ht _ => ro_Si (Ho_e h) ht) ro_nil dX3_hasPlace_17 hlk
  · have h := Ho_f h q1
    refine lv_iload_n hx hb dX3_hasPlace_4 rfl (lv_at hl 1 rfl) ?_
    refine lv_aload_n hx hb dX3_hasPlace_5 rfl (lv_at hl 0 rfl) ?_
    refine va_get (D := (dC, dI)) (ci := 3) (v := .int tk) (C := RX3) (T := TX3) (N := 4) hx hb hts hiX3 hown hK.1 hP 0 rfl rfl 2 (by decide) hf19 (fun _ h9 => h9) rfl dX3_hasPlace_6 ?_
    refine lv_icmp_ge (tgt := 16) hx hb dX3_hasPlace_9 (by decide) (fun q9 => ?_) (fun q9 => ?_)
    · have h := Ho_t h q9
      refine lv_iconst (v := (0 : Int32)) hx hb dX3_hasPlace_16 (by decide) ?_
      exact W.zret (ty := .boolean) hx hb hr rfl (fun t ht _ => ro_Si (Ho_e h) ht) ro_nil dX3_hasPlace_17 hlk
    · have h := Ho_f h q9
      refine lv_iconst (v := (1 : Int32)) hx hb dX3_hasPlace_12 (by decide) ?_
      refine lv_goto (tgt := 17) hx hb dX3_hasPlace_13 (by decide) ?_
      exact W.zret (ty := .boolean) hx hb hr rfl (fun t ht _ => ro_Si (Ho_e h) ht) ro_nil dX3_hasPlace_17 hlk
abbrev rmX3_has : Room := { frames := 0, cells := 0, slots := 0, locals := 0 }
set_option maxHeartbeats 4000000 in
set_option maxRecDepth 100000 in
theorem c_X3_has (l : Launch) (dC : Nat → ClassId) (dI : Nat → Nat → Nat) (cI cJ : ClassId) (h0 hc ha : Nat) (tk : Int32) (mb : Int32) (n : Int32) (ev : Int32) (f : Nat → Int32) (x1 : Int32) (r : Int32) (hF : FX3_has mb x1 = some r) : Met l yX3_has wsX3_has rmX3_has (roP (dC, dI) [(cI, .int), (cJ, .long)] [(h0, .inr (3, [.ref hc, .ref ha, .int tk, .int mb])), (hc, .inr (0, [.int n, .int ev])), (ha, .inl (cI, 12, .inl f))] [.ref h0, .int x1]) (vp_Si (fun x => x = r)) 0 0 (fun _ => False) := by
  refine ro_start (cc := cX3_has) (maxL := 2) (ret := (some .boolean)) (by decide) rfl (Nat.le_of_ble_eq_true rfl) ?_
  intro p e s m args below meth c ls hx hb hml hr hlk hown hts hP hK hl
  have hown : s.vm.findClass RX3 = some m.cls := hown
  have hl : lv_has ls 2 [(0, .ref h0), (1, .int x1)] := hl
  have h : Ho (FX3_has mb x1) (fun x => x = r) := ⟨r, hF, rfl⟩
  unfold FX3_has at h
  have hfix : CallFix p m c cX3_has 2 s args wsX3_has RX3 := ⟨hx, hb, hml, hown, hts⟩
  have hiX3 : ∀ w ∈ u_ws RX3 TX3 4, w ∈ wsX3_has := by decide +kernel
  have hf23 := hts (.fieldLink RX3 23 "RowClasses$Row" "members" "I") (by decide +kernel)
  refine lv_aload_n hx hb dX3_has_0 rfl (lv_at hl 0 rfl) ?_
  refine va_get (D := (dC, dI)) (ci := 3) (v := .int mb) (C := RX3) (T := TX3) (N := 4) hx hb hts hiX3 hown hK.1 hP 0 rfl rfl 3 (by decide) hf23 (fun _ h9 => h9) rfl dX3_has_1 ?_
  refine lv_iload_n hx hb dX3_has_4 rfl (lv_at hl 1 rfl) ?_
  refine lv_ishr hx hb dX3_has_5 ?_
  refine lv_iconst (v := (1 : Int32)) hx hb dX3_has_6 (by decide) ?_
  refine lv_iand hx hb dX3_has_7 ?_
  refine lv_iconst (v := (1 : Int32)) hx hb dX3_has_8 (by decide) ?_
  refine lv_icmp_ne (tgt := 16) hx hb dX3_has_9 (by decide) (fun q9 => ?_) (fun q9 => ?_)
  · have h := Ho_f h q9
    refine lv_iconst (v := (0 : Int32)) hx hb dX3_has_16 (by decide) ?_
    exact W.zret (ty := .boolean) hx hb hr rfl (fun t ht _ => ro_Si (Ho_e h) ht) ro_nil dX3_has_17 hlk
  · have h := Ho_t h q9
    refine lv_iconst (v := (1 : Int32)) hx hb dX3_has_12 (by decide) ?_
    refine lv_goto (tgt := 17) hx hb dX3_has_13 (by decide) ?_
    exact W.zret (ty := .boolean) hx hb hr rfl (fun t ht _ => ro_Si (Ho_e h) ht) ro_nil dX3_has_17 hlk
abbrev rmX3_append : Room := { frames := 0, cells := 0, slots := 0, locals := 0 }
set_option maxHeartbeats 4000000 in
set_option maxRecDepth 100000 in
theorem c_X3_append (l : Launch) (dC : Nat → ClassId) (dI : Nat → Nat → Nat) (cI cJ : ClassId) (h0 hc ha : Nat) (sz : Nat) (tk : Int32) (mb : Int32) (n : Int32) (ev : Int32) (f : Nat → Int32) (x1 : Int32) (tk' : Int32) (mb' : Int32) (f' : Nat → Int32) (hF : FX3_append tk mb f x1 = some (tk', mb', f')) : Met l yX3_append wsX3_append rmX3_append (rwP (dC, dI) [(cI, .int), (cJ, .long)] sz [(h0, .inr (3, [.ref hc, .ref ha, .int tk, .int mb])), (hc, .inr (0, [.int n, .int ev])), (ha, .inl (cI, 12, .inl f))] [.ref h0, .int x1]) (va_Qv (fun _ : Unit => True) (fun _ t => va_P (dC, dI) vwCl [(h0, .inr (3, [.ref hc, .ref ha, .int tk', .int mb'])), (hc, .inr (0, [.int n, .int ev])), (ha, .inl (cI, 12, .inl f'))] t.heap ∧ vK (dC, dI) [(cI, .int), (cJ, .long)] t ∧ va_D (va_A [(h0, .inr (3, [.ref hc, .ref ha, .int tk, .int mb])), (hc, .inr (0, [.int n, .int ev])), (ha, .inl (cI, 12, .inl f))] sz) [(h0, .inr (3, [.ref hc, .ref ha, .int tk', .int mb'])), (hc, .inr (0, [.int n, .int ev])), (ha, .inl (cI, 12, .inl f'))]) (va_A [(h0, .inr (3, [.ref hc, .ref ha, .int tk, .int mb])), (hc, .inr (0, [.int n, .int ev])), (ha, .inl (cI, 12, .inl f))] sz)) 0 0 (va_A [(h0, .inr (3, [.ref hc, .ref ha, .int tk, .int mb])), (hc, .inr (0, [.int n, .int ev])), (ha, .inl (cI, 12, .inl f))] sz) := by
  refine rw_start (cc := cX3_append) (maxL := 2) (ret := none) (by decide) rfl (Nat.le_of_ble_eq_true rfl) ?_
  intro p e s m args below meth c ls A H locs hx hb hml hr hlk hown hts hsz hP hK hD hA hS hAe hl
  have hown : s.vm.findClass RX3 = some m.cls := hown
  have hl : lv_has ls 2 [(0, .ref h0), (1, .int x1)] := hl
  have h : Ho (FX3_append tk mb f x1) (fun x => x = (tk', mb', f')) := ⟨_, hF, rfl⟩
  unfold FX3_append at h
  have QI : ∀ {tk9 : Int32} {mb9 : Int32} {f9 : Nat → Int32} {t : State}, (tk9, mb9, f9) = (tk', mb', f') → va_P (dC, dI) vwCl [(h0, .inr (3, [.ref hc, .ref ha, .int tk9, .int mb9])), (hc, .inr (0, [.int n, .int ev])), (ha, .inl (cI, 12, .inl f9))] t.heap → vK (dC, dI) [(cI, .int), (cJ, .long)] t → va_D A [(h0, .inr (3, [.ref hc, .ref ha, .int tk9, .int mb9])), (hc, .inr (0, [.int n, .int ev])), (ha, .inl (cI, 12, .inl f9))] → va_F A s t → (va_Qv (fun _ : Unit => True) (fun _ t => va_P (dC, dI) vwCl [(h0, .inr (3, [.ref hc, .ref ha, .int tk', .int mb'])), (hc, .inr (0, [.int n, .int ev])), (ha, .inl (cI, 12, .inl f'))] t.heap ∧ vK (dC, dI) [(cI, .int), (cJ, .long)] t ∧ va_D (va_A [(h0, .inr (3, [.ref hc, .ref ha, .int tk, .int mb])), (hc, .inr (0, [.int n, .int ev])), (ha, .inl (cI, 12, .inl f))] sz) [(h0, .inr (3, [.ref hc, .ref ha, .int tk', .int mb'])), (hc, .inr (0, [.int n, .int ev])), (ha, .inl (cI, 12, .inl f'))]) (va_A [(h0, .inr (3, [.ref hc, .ref ha, .int tk, .int mb])), (hc, .inr (0, [.int n, .int ev])), (ha, .inl (cI, 12, .inl f))] sz)) args s (.returned none) t := by
    intro tk9 mb9 f9 t e9 q1 q2 q3 q4
    cases e9
    subst hAe
    exact ⟨⟨(), rfl, trivial, q1, q2, q3⟩, q4⟩
  have hfix : CallFix p m c cX3_append 2 s args wsX3_append RX3 := ⟨hx, hb, hml, hown, hts⟩
  have hiX3 : ∀ w ∈ u_ws RX3 TX3 4, w ∈ wsX3_append := by decide +kernel
  have hf15 := hts (.fieldLink RX3 15 "RowClasses$Row" "order" "[I") (by decide +kernel)
  have hf19 := hts (.fieldLink RX3 19 "RowClasses$Row" "taken" "I") (by decide +kernel)
  have hf23 := hts (.fieldLink RX3 23 "RowClasses$Row" "members" "I") (by decide +kernel)
  refine lv_aload_n hx hb dX3_append_0 rfl (lv_at hl 0 rfl) ?_
  refine va_get (D := (dC, dI)) (ci := 3) (v := .int tk) (C := RX3) (T := TX3) (N := 4) hx hb hts hiX3 hown hK.1 hP 0 rfl rfl 2 (by decide) hf19 (fun _ h9 => h9) rfl dX3_append_1 ?_
  refine lv_bipush (v := (12 : Int32)) hx hb dX3_append_4 (by decide) ?_
  refine lv_icmp_ge (tgt := 41) hx hb dX3_append_6 (by decide) (fun q6 => ?_) (fun q6 => ?_)
  · have h := Ho_t h q6
    exact W.vret hx hb hr (fun t ht hW => QI (Ho_e h) (by rw [ht]; exact hP) (hK.warm hW) hD (hS.F ht)) hS.2.2 dX3_append_41 hlk
  · have h := Ho_f h q6
    refine lv_aload_n hx hb dX3_append_9 rfl (lv_at hl 0 rfl) ?_
    refine va_get (D := (dC, dI)) (ci := 3) (v := .ref ha) (C := RX3) (T := TX3) (N := 4) hx hb hts hiX3 hown hK.1 hP 0 rfl rfl 1 (by decide) hf15 (fun _ h9 => h9) rfl dX3_append_10 ?_
    refine lv_aload_n hx hb dX3_append_13 rfl (lv_at hl 0 rfl) ?_
    refine va_get (D := (dC, dI)) (ci := 3) (v := .int tk) (C := RX3) (T := TX3) (N := 4) hx hb hts hiX3 hown hK.1 hP 0 rfl rfl 2 (by decide) hf19 (fun _ h9 => h9) rfl dX3_append_14 ?_
    refine lv_iload_n hx hb dX3_append_17 rfl (lv_at hl 1 rfl) ?_
    obtain ⟨hz18, h⟩ := Ho_ix h
    refine va_iast hx hb hK.1 hP hD hS 2 0 rfl rfl hz18 dX3_append_18 (fun H locs hP hD hS => ?_)
    have hP : va_P (dC, dI) vwCl [(h0, .inr (3, [.ref hc, .ref ha, .int tk, .int mb])), (hc, .inr (0, [.int n, .int ev])), (ha, .inl (cI, 12, .inl (upd f tk.toNatClampNeg x1)))] H := hP
    have hD : va_D A [(h0, .inr (3, [.ref hc, .ref ha, .int tk, .int mb])), (hc, .inr (0, [.int n, .int ev])), (ha, .inl (cI, 12, .inl (upd f tk.toNatClampNeg x1)))] := hD
    refine lv_aload_n hx hb dX3_append_19 rfl (lv_at hl 0 rfl) ?_
    refine lv_dup hx hb dX3_append_20 rfl ?_
    refine va_get (D := (dC, dI)) (ci := 3) (v := .int tk) (C := RX3) (T := TX3) (N := 4) hx hb hts hiX3 hown hK.1 hP 0 rfl rfl 2 (by decide) hf19 (fun _ h9 => h9) rfl dX3_append_21 ?_
    refine lv_iconst (v := (1 : Int32)) hx hb dX3_append_24 (by decide) ?_
    refine lv_iadd hx hb dX3_append_25 ?_
    refine va_put (D := (dC, dI)) (ci := 3) (v := .int (tk + (1 : Int32))) (ty := .int) (C := RX3) (T := TX3) (N := 4) hx hb hts hiX3 tyX3 tyX3_ok nmX3 hown hK.1 hP hD hS 0 rfl rfl 2 (by decide) hf19 (fun _ h9 => h9) rfl (by decide +kernel) rfl rfl (Nat.le_of_ble_eq_true rfl) dX3_append_26 (fun H locs hP hD hS => ?_)
    have hP : va_P (dC, dI) vwCl [(h0, .inr (3, [.ref hc, .ref ha, .int (tk + (1 : Int32)), .int mb])), (hc, .inr (0, [.int n, .int ev])), (ha, .inl (cI, 12, .inl (upd f tk.toNatClampNeg x1)))] H := hP
    have hD : va_D A [(h0, .inr (3, [.ref hc, .ref ha, .int (tk + (1 : Int32)), .int mb])), (hc, .inr (0, [.int n, .int ev])), (ha, .inl (cI, 12, .inl (upd f tk.toNatClampNeg x1)))] := hD
    refine lv_aload_n hx hb dX3_append_29 rfl (lv_at hl 0 rfl) ?_
    refine lv_dup hx hb dX3_append_30 rfl ?_
    refine va_get (D := (dC, dI)) (ci := 3) (v := .int mb) (C := RX3) (T := TX3) (N := 4) hx hb hts hiX3 hown hK.1 hP 0 rfl rfl 3 (by decide) hf23 (fun _ h9 => h9) rfl dX3_append_31 ?_
    refine lv_iconst (v := (1 : Int32)) hx hb dX3_append_34 (by decide) ?_
    refine lv_iload_n hx hb dX3_append_35 rfl (lv_at hl 1 rfl) ?_
    refine lv_ishl hx hb dX3_append_36 ?_
    refine lv_ior hx hb dX3_append_37 ?_
    refine va_put (D := (dC, dI)) (ci := 3) (v := .int (mb ||| ((1 : Int32) <<< (x1 &&& 31)))) (ty := .int) (C := RX3) (T := TX3) (N := 4) hx hb hts hiX3 tyX3 tyX3_ok nmX3 hown hK.1 hP hD hS 0 rfl rfl 3 (by decide) hf23 (fun _ h9 => h9) rfl (by decide +kernel) rfl rfl (Nat.le_of_ble_eq_true rfl) dX3_append_38 (fun H locs hP hD hS => ?_)
    have hP : va_P (dC, dI) vwCl [(h0, .inr (3, [.ref hc, .ref ha, .int (tk + (1 : Int32)), .int (mb ||| ((1 : Int32) <<< (x1 &&& 31)))])), (hc, .inr (0, [.int n, .int ev])), (ha, .inl (cI, 12, .inl (upd f tk.toNatClampNeg x1)))] H := hP
    have hD : va_D A [(h0, .inr (3, [.ref hc, .ref ha, .int (tk + (1 : Int32)), .int (mb ||| ((1 : Int32) <<< (x1 &&& 31)))])), (hc, .inr (0, [.int n, .int ev])), (ha, .inl (cI, 12, .inl (upd f tk.toNatClampNeg x1)))] := hD
    exact W.vret hx hb hr (fun t ht hW => QI (Ho_e h) (by rw [ht]; exact hP) (hK.warm hW) hD (hS.F ht)) hS.2.2 dX3_append_41 hlk
abbrev rmX3_at : Room := { frames := 1, cells := 0, slots := 0, locals := 21 }
set_option maxHeartbeats 4000000 in
set_option maxRecDepth 100000 in
theorem c_X3_at (l : Launch) (dC : Nat → ClassId) (dI : Nat → Nat → Nat) (cI cJ : ClassId) (h0 hc ha : Nat) (tk : Int32) (mb : Int32) (n : Int32) (ev : Int32) (f : Nat → Int32) (x1 : Int32) (r : Int32) (hF : FX3_at tk f x1 = some r) : Met l yX3_at wsX3_at rmX3_at (roP (dC, dI) [(cI, .int), (cJ, .long)] [(h0, .inr (3, [.ref hc, .ref ha, .int tk, .int mb])), (hc, .inr (0, [.int n, .int ev])), (ha, .inl (cI, 12, .inl f))] [.ref h0, .int x1]) (vp_Si (fun x => x = r)) 0 0 (fun _ => False) := by
  refine ro_start (cc := cX3_at) (maxL := 2) (ret := (some .int)) (by decide) rfl (Nat.le_of_ble_eq_true rfl) ?_
  intro p e s m args below meth c ls hx hb hml hr hlk hown hts hP hK hl
  have hown : s.vm.findClass RX3 = some m.cls := hown
  have hl : lv_has ls 2 [(0, .ref h0), (1, .int x1)] := hl
  have h : Ho (FX3_at tk f x1) (fun x => x = r) := ⟨r, hF, rfl⟩
  unfold FX3_at at h
  have hfix : CallFix p m c cX3_at 2 s args wsX3_at RX3 := ⟨hx, hb, hml, hown, hts⟩
  have hiX3 : ∀ w ∈ u_ws RX3 TX3 4, w ∈ wsX3_at := by decide +kernel
  have hf15 := hts (.fieldLink RX3 15 "RowClasses$Row" "order" "[I") (by decide +kernel)
  refine lv_aload_n hx hb dX3_at_0 rfl (lv_at hl 0 rfl) ?_
  refine lv_iload_n hx hb dX3_at_1 rfl (lv_at hl 1 rfl) ?_
  obtain ⟨r2, hc2, h⟩ := Ho_b h
  have hPc : va_P (dC, dI) vwCl [(h0, .inr (3, [.ref hc, .ref ha, .int tk, .int mb])), (hc, .inr (0, [.int n, .int ev])), (ha, .inl (cI, 12, .inl f))] s.heap := hP.sub [0, 1, 2] rfl
  refine cs_i (va_runV (As := [.int x1]) (rest := []) hfix (c_X3_hasPlace l dC dI cI cJ h0 hc ha tk mb n ev f x1 _ hc2) (cwV 1 hts gX3_at_X3_hasPlace rfl rfl rfl (by decide +kernel) ⟨by decide, by decide⟩) (roP.preV hK hPc (ci := 3) rfl rfl) rfl rfl hl.1 rfl (lv_room (Nat.le_of_ble_eq_true rfl)) dX3_at_2 ⟨Nat.zero_le _, Nat.zero_le _⟩) ?_
  refine lv_if_eq (tgt := 23) hx hb dX3_at_5 (by decide) (fun q5 => ?_) (fun q5 => ?_)
  · have h := Ho_t h q5
    refine lv_iconst (v := (0 : Int32)) hx hb dX3_at_23 (by decide) ?_
    exact W.iret hx hb hr (fun t ht _ => ro_Si (Ho_e h) ht) ro_nil dX3_at_24 hlk
  · have h := Ho_f h q5
    refine lv_iload_n hx hb dX3_at_8 rfl (lv_at hl 1 rfl) ?_
    refine lv_bipush (v := (12 : Int32)) hx hb dX3_at_9 (by decide) ?_
    refine lv_icmp_ge (tgt := 23) hx hb dX3_at_11 (by decide) (fun q11 => ?_) (fun q11 => ?_)
    · have h := Ho_t h q11
      refine lv_iconst (v := (0 : Int32)) hx hb dX3_at_23 (by decide) ?_
      exact W.iret hx hb hr (fun t ht _ => ro_Si (Ho_e h) ht) ro_nil dX3_at_24 hlk
    · have h := Ho_f h q11
      refine lv_aload_n hx hb dX3_at_14 rfl (lv_at hl 0 rfl) ?_
      refine va_get (D := (dC, dI)) (ci := 3) (v := .ref ha) (C := RX3) (T := TX3) (N := 4) hx hb hts hiX3 hown hK.1 hP 0 rfl rfl 1 (by decide) hf15 (fun _ h9 => h9) rfl dX3_at_15 ?_
      refine lv_iload_n hx hb dX3_at_18 rfl (lv_at hl 1 rfl) ?_
      obtain ⟨hz19, h⟩ := Ho_ix h
      refine va_iald hx hb hK.1 hP 2 0 rfl rfl hz19 dX3_at_19 ?_
      refine lv_goto (tgt := 24) hx hb dX3_at_20 (by decide) ?_
      exact W.iret hx hb hr (fun t ht _ => ro_Si (Ho_e h) ht) ro_nil dX3_at_24 hlk
abbrev rmX3_formStep : Room := { frames := 2, cells := 0, slots := 0, locals := 42 }
set_option maxHeartbeats 4000000 in
set_option maxRecDepth 100000 in
theorem c_X3_formStep (l : Launch) (dC : Nat → ClassId) (dI : Nat → Nat → Nat) (cI cJ : ClassId) (h0 hc ha : Nat) (tk : Int32) (mb : Int32) (n : Int32) (ev : Int32) (f : Nat → Int32) (x1 : Int32) (x2 : Int32) (x3 : Int32) (r : Int32) (hF : FX3_formStep tk n f x1 x2 x3 = some r) : Met l yX3_formStep wsX3_formStep rmX3_formStep (roP (dC, dI) [(cI, .int), (cJ, .long)] [(h0, .inr (3, [.ref hc, .ref ha, .int tk, .int mb])), (hc, .inr (0, [.int n, .int ev])), (ha, .inl (cI, 12, .inl f))] [.ref h0, .int x1, .int x2, .int x3]) (vp_Si (fun x => x = r)) 0 0 (fun _ => False) := by
  refine ro_start (cc := cX3_formStep) (maxL := 7) (ret := (some .int)) (by decide) rfl (Nat.le_of_ble_eq_true rfl) ?_
  intro p e s m args below meth c ls hx hb hml hr hlk hown hts hP hK hl
  have hown : s.vm.findClass RX3 = some m.cls := hown
  have hl : lv_has ls 7 [(0, .ref h0), (1, .int x1), (2, .int x2), (3, .int x3)] := hl
  have h : Ho (FX3_formStep tk n f x1 x2 x3) (fun x => x = r) := ⟨r, hF, rfl⟩
  unfold FX3_formStep at h
  have hfix : CallFix p m c cX3_formStep 7 s args wsX3_formStep RX3 := ⟨hx, hb, hml, hown, hts⟩
  have hiX3 : ∀ w ∈ u_ws RX3 TX3 4, w ∈ wsX3_formStep := by decide +kernel
  have hf9 := hts (.fieldLink RX3 9 "RowClasses$Row" "circle" "LRowClasses$Circle;") (by decide +kernel)
  have hf19 := hts (.fieldLink RX3 19 "RowClasses$Row" "taken" "I") (by decide +kernel)
  have J75 : ∀ (t1 : Int32) (ls : Array Slot), lv_has ls 7 [] → Ho (X3_formStep_75 n t1) (fun x => x = r) → W p l e rmX3_formStep s m args below meth c s.heap [] 0 0 (MQ below (vp_Si (fun x => x = r)) args s 0 0 (fun _ => False)) (F0 m 75 ls [.int t1, .ref hc]) := by
    intro t1 ls hl h
    unfold X3_formStep_75 at h
    obtain ⟨r75, hc75, h⟩ := Ho_b h
    have hPc : va_P (dC, dI) vwCl [(hc, .inr (0, [.int n, .int ev]))] s.heap := hP.sub [1] rfl
    refine cs_i (va_runV (As := [.int t1]) (rest := []) hfix (c_X0_wrapped l dC dI cI cJ hc n ev t1 _ hc75) (cwV 1 hts gX3_formStep_X0_wrapped rfl rfl rfl (by decide +kernel) ⟨by decide, by decide⟩) (roP.preV hK hPc (ci := 0) rfl rfl) rfl rfl hl.1 rfl (lv_room (Nat.le_of_ble_eq_true rfl)) dX3_formStep_75 ⟨Nat.zero_le _, Nat.zero_le _⟩) ?_
    exact W.iret hx hb hr (fun t ht _ => ro_Si (Ho_e h) ht) ro_nil dX3_formStep_78 hlk
  have J44 : ∀ (v5 : Int32) (t1 : Int32) (ls : Array Slot), lv_has ls 7 [(0, .ref h0), (2, .int x2), (5, .int v5)] → Ho (X3_formStep_44 tk n f x2 v5 t1) (fun x => x = r) → W p l e rmX3_formStep s m args below meth c s.heap [] 0 0 (MQ below (vp_Si (fun x => x = r)) args s 0 0 (fun _ => False)) (F0 m 44 ls [.int t1, .ref h0]) := by
    intro v5 t1 ls hl h
    unfold X3_formStep_44 at h
    obtain ⟨r44, hc44, h⟩ := Ho_b h
    have hPc : va_P (dC, dI) vwCl [(h0, .inr (3, [.ref hc, .ref ha, .int tk, .int mb])), (hc, .inr (0, [.int n, .int ev])), (ha, .inl (cI, 12, .inl f))] s.heap := hP.sub [0, 1, 2] rfl
    refine cs_i (va_runV (As := [.int t1]) (rest := []) hfix (c_X3_at l dC dI cI cJ h0 hc ha tk mb n ev f t1 _ hc44) (cwV 1 hts gX3_formStep_X3_at rfl rfl rfl (by decide +kernel) ⟨by decide, by decide⟩) (roP.preV hK hPc (ci := 3) rfl rfl) rfl rfl hl.1 rfl (lv_room (Nat.le_of_ble_eq_true rfl)) dX3_formStep_44 ⟨Nat.zero_le _, Nat.zero_le _⟩) ?_
    refine lv_aload_n hx hb dX3_formStep_47 rfl (lv_at hl 0 rfl) ?_
    refine lv_iconst (v := (0 : Int32)) hx hb dX3_formStep_48 (by decide) ?_
    obtain ⟨r49, hc49, h⟩ := Ho_b h
    have hPc : va_P (dC, dI) vwCl [(h0, .inr (3, [.ref hc, .ref ha, .int tk, .int mb])), (hc, .inr (0, [.int n, .int ev])), (ha, .inl (cI, 12, .inl f))] s.heap := hP.sub [0, 1, 2] rfl
    refine cs_i (va_runV (As := [.int (0 : Int32)]) (rest := [.int r44]) hfix (c_X3_at l dC dI cI cJ h0 hc ha tk mb n ev f (0 : Int32) _ hc49) (cwV 1 hts gX3_formStep_X3_at rfl rfl rfl (by decide +kernel) ⟨by decide, by decide⟩) (roP.preV hK hPc (ci := 3) rfl rfl) rfl rfl hl.1 rfl (lv_room (Nat.le_of_ble_eq_true rfl)) dX3_formStep_49 ⟨Nat.zero_le _, Nat.zero_le _⟩) ?_
    refine lv_isub hx hb dX3_formStep_52 ?_
    refine lv_istore (lv' := [(6, .int (r44 - r49)), (0, .ref h0), (2, .int x2), (5, .int v5)]) hx hb dX3_formStep_53 hl (by decide) rfl (fun ls hl => ?_)
    refine lv_aload_n hx hb dX3_formStep_55 rfl (lv_at hl 1 rfl) ?_
    refine va_get (D := (dC, dI)) (ci := 3) (v := .ref hc) (C := RX3) (T := TX3) (N := 4) hx hb hts hiX3 hown hK.1 hP 0 rfl rfl 0 (by decide) hf9 (fun _ h9 => h9) rfl dX3_formStep_56 ?_
    refine lv_iload hx hb dX3_formStep_59 (lv_at hl 3 rfl) ?_
    refine lv_if_eq (tgt := 71) hx hb dX3_formStep_61 (by decide) (fun q61 => ?_) (fun q61 => ?_)
    · have h := Ho_t h q61
      refine lv_iload_n hx hb dX3_formStep_71 rfl (lv_at hl 2 rfl) ?_
      refine lv_iload hx hb dX3_formStep_72 (lv_at hl 0 rfl) ?_
      refine lv_iadd hx hb dX3_formStep_74 ?_
      exact J75 (x2 + (r44 - r49)) ls (lv_sub hl [] rfl) h
    · have h := Ho_f h q61
      refine lv_iload_n hx hb dX3_formStep_64 rfl (lv_at hl 2 rfl) ?_
      refine lv_iload hx hb dX3_formStep_65 (lv_at hl 0 rfl) ?_
      refine lv_isub hx hb dX3_formStep_67 ?_
      refine lv_goto (tgt := 75) hx hb dX3_formStep_68 (by decide) ?_
      exact J75 (x2 - (r44 - r49)) ls (lv_sub hl [] rfl) h
  have J24 : ∀ (v4 : Int32) (t0 : Int32) (ls : Array Slot), lv_has ls 7 [(0, .ref h0), (2, .int x2), (3, .int x3), (4, .int v4)] → Ho (X3_formStep_24 tk n f x2 x3 v4 t0) (fun x => x = r) → W p l e rmX3_formStep s m args below meth c s.heap [] 0 0 (MQ below (vp_Si (fun x => x = r)) args s 0 0 (fun _ => False)) (F0 m 24 ls [.int t0]) := by
    intro v4 t0 ls hl h
    unfold X3_formStep_24 at h
    refine lv_istore (lv' := [(5, .int t0), (0, .ref h0), (2, .int x2), (3, .int x3), (4, .int v4)]) hx hb dX3_formStep_24 hl (by decide) rfl (fun ls hl => ?_)
    refine lv_aload_n hx hb dX3_formStep_26 rfl (lv_at hl 1 rfl) ?_
    refine lv_iload hx hb dX3_formStep_27 (lv_at hl 4 rfl) ?_
    refine lv_if_eq (tgt := 43) hx hb dX3_formStep_29 (by decide) (fun q29 => ?_) (fun q29 => ?_)
    · have h := Ho_t h q29
      refine lv_iload_n hx hb dX3_formStep_43 rfl (lv_at hl 3 rfl) ?_
      exact J44 t0 x3 ls (lv_sub hl [1, 2, 0] rfl) h
    · have h := Ho_f h q29
      refine lv_aload_n hx hb dX3_formStep_32 rfl (lv_at hl 1 rfl) ?_
      refine va_get (D := (dC, dI)) (ci := 3) (v := .int tk) (C := RX3) (T := TX3) (N := 4) hx hb hts hiX3 hown hK.1 hP 0 rfl rfl 2 (by decide) hf19 (fun _ h9 => h9) rfl dX3_formStep_33 ?_
      refine lv_iconst (v := (1 : Int32)) hx hb dX3_formStep_36 (by decide) ?_
      refine lv_isub hx hb dX3_formStep_37 ?_
      refine lv_iload_n hx hb dX3_formStep_38 rfl (lv_at hl 3 rfl) ?_
      refine lv_isub hx hb dX3_formStep_39 ?_
      refine lv_goto (tgt := 44) hx hb dX3_formStep_40 (by decide) ?_
      exact J44 t0 ((tk - (1 : Int32)) - x3) ls (lv_sub hl [1, 2, 0] rfl) h
  have J10 : ∀ (t0 : Int32) (ls : Array Slot), lv_has ls 7 [(0, .ref h0), (1, .int x1), (2, .int x2), (3, .int x3)] → Ho (X3_formStep_10 tk n f x1 x2 x3 t0) (fun x => x = r) → W p l e rmX3_formStep s m args below meth c s.heap [] 0 0 (MQ below (vp_Si (fun x => x = r)) args s 0 0 (fun _ => False)) (F0 m 10 ls [.int t0]) := by
    intro t0 ls hl h
    unfold X3_formStep_10 at h
    refine lv_istore (lv' := [(4, .int t0), (0, .ref h0), (1, .int x1), (2, .int x2), (3, .int x3)]) hx hb dX3_formStep_10 hl (by decide) rfl (fun ls hl => ?_)
    refine lv_iload_n hx hb dX3_formStep_12 rfl (lv_at hl 2 rfl) ?_
    refine lv_iconst (v := (2 : Int32)) hx hb dX3_formStep_13 (by decide) ?_
    refine lv_irem hx hb dX3_formStep_14 (by decide) ?_
    refine lv_iconst (v := (1 : Int32)) hx hb dX3_formStep_15 (by decide) ?_
    refine lv_icmp_ne (tgt := 23) hx hb dX3_formStep_16 (by decide) (fun q16 => ?_) (fun q16 => ?_)
    · have h := Ho_f h q16
      refine lv_iconst (v := (0 : Int32)) hx hb dX3_formStep_23 (by decide) ?_
      exact J24 t0 (0 : Int32) ls (lv_sub hl [1, 3, 4, 0] rfl) h
    · have h := Ho_t h q16
      refine lv_iconst (v := (1 : Int32)) hx hb dX3_formStep_19 (by decide) ?_
      refine lv_goto (tgt := 24) hx hb dX3_formStep_20 (by decide) ?_
      exact J24 t0 (1 : Int32) ls (lv_sub hl [1, 3, 4, 0] rfl) h
  refine lv_iload_n hx hb dX3_formStep_0 rfl (lv_at hl 1 rfl) ?_
  refine lv_iconst (v := (2 : Int32)) hx hb dX3_formStep_1 (by decide) ?_
  refine lv_icmp_lt (tgt := 9) hx hb dX3_formStep_2 (by decide) (fun q2 => ?_) (fun q2 => ?_)
  · have h := Ho_t h q2
    refine lv_iconst (v := (0 : Int32)) hx hb dX3_formStep_9 (by decide) ?_
    exact J10 (0 : Int32) ls (lv_sub hl [0, 1, 2, 3] rfl) h
  · have h := Ho_f h q2
    refine lv_iconst (v := (1 : Int32)) hx hb dX3_formStep_5 (by decide) ?_
    refine lv_goto (tgt := 10) hx hb dX3_formStep_6 (by decide) ?_
    exact J10 (1 : Int32) ls (lv_sub hl [0, 1, 2, 3] rfl) h
abbrev rmX3_isFormItself : Room := { frames := 3, cells := 0, slots := 0, locals := 68 }
set_option maxHeartbeats 4000000 in
set_option maxRecDepth 100000 in
theorem c_X3_isFormItself (l : Launch) (dC : Nat → ClassId) (dI : Nat → Nat → Nat) (cI cJ : ClassId) (h0 hc ha : Nat) (tk : Int32) (mb : Int32) (n : Int32) (ev : Int32) (f : Nat → Int32) (x1 : Int32) (x2 : Int32) (r : Int32) (hF : FX3_isFormItself tk n f x1 x2 = some r) : Met l yX3_isFormItself wsX3_isFormItself rmX3_isFormItself (roP (dC, dI) [(cI, .int), (cJ, .long)] [(h0, .inr (3, [.ref hc, .ref ha, .int tk, .int mb])), (hc, .inr (0, [.int n, .int ev])), (ha, .inl (cI, 12, .inl f))] [.ref h0, .int x1, .int x2]) (vp_Si (fun x => x = r)) 0 0 (fun _ => False) := by
  refine ro_start (cc := cX3_isFormItself) (maxL := 4) (ret := (some .boolean)) (by decide) rfl (Nat.le_of_ble_eq_true rfl) ?_
  intro p e s m args below meth c ls hx hb hml hr hlk hown hts hP hK hl
  have hown : s.vm.findClass RX3 = some m.cls := hown
  have hl : lv_has ls 4 [(0, .ref h0), (1, .int x1), (2, .int x2)] := hl
  have h : Ho (FX3_isFormItself tk n f x1 x2) (fun x => x = r) := ⟨r, hF, rfl⟩
  unfold FX3_isFormItself at h
  have hfix : CallFix p m c cX3_isFormItself 4 s args wsX3_isFormItself RX3 := ⟨hx, hb, hml, hown, hts⟩
  have hiX3 : ∀ w ∈ u_ws RX3 TX3 4, w ∈ wsX3_isFormItself := by decide +kernel
  have hf19 := hts (.fieldLink RX3 19 "RowClasses$Row" "taken" "I") (by decide +kernel)
  have J33 : ∀  (ls : Array Slot), lv_has ls 4 [] → Ho (X3_isFormItself_33) (fun x => x = r) → W p l e rmX3_isFormItself s m args below meth c s.heap [] 0 0 (MQ below (vp_Si (fun x => x = r)) args s 0 0 (fun _ => False)) (F0 m 33 ls []) := by
    intro  ls hl h
    unfold X3_isFormItself_33 at h
    refine lv_iconst (v := (1 : Int32)) hx hb dX3_isFormItself_33 (by decide) ?_
    exact W.zret (ty := .boolean) hx hb hr rfl (fun t ht _ => ro_Si (Ho_e h) ht) ro_nil dX3_isFormItself_34 hlk
  have J25 : ∀  (ls : Array Slot), lv_has ls 4 [] → Ho (X3_isFormItself_25) (fun x => x = r) → W p l e rmX3_isFormItself s m args below meth c s.heap [] 0 0 (MQ below (vp_Si (fun x => x = r)) args s 0 0 (fun _ => False)) (F0 m 25 ls []) := by
    intro  ls hl h
    unfold X3_isFormItself_25 at h
    refine lv_iconst (v := (0 : Int32)) hx hb dX3_isFormItself_25 (by decide) ?_
    exact W.zret (ty := .boolean) hx hb hr rfl (fun t ht _ => ro_Si (Ho_e h) ht) ro_nil dX3_isFormItself_26 hlk
  have J2 : ∀ (v3 : Int32) (ls : Array Slot), lv_has ls 4 [(0, .ref h0), (1, .int x1), (2, .int x2), (3, .int v3)] → Ho ((X3_isFormItself_2_l tk n f x1 x2 v3).bind (fun ex => Sum.elim (fun xy => X3_isFormItself_25) (fun xy => X3_isFormItself_33) ex)) (fun x => x = r) → W p l e rmX3_isFormItself s m args below meth c s.heap [] 0 0 (MQ below (vp_Si (fun x => x = r)) args s 0 0 (fun _ => False)) (F0 m 2 ls []) := by
    intro v3 ls hl h
    refine loop_use2 (fun z : Int32 => ∀ (ls : Array Slot), lv_has ls 4 [(0, .ref h0), (1, .int x1), (2, .int x2), (3, .int z)] → W p l e rmX3_isFormItself s m args below meth c s.heap [] 0 0 (MQ below (vp_Si (fun x => x = r)) args s 0 0 (fun _ => False)) (F0 m 2 ls [])) ?_ FU _ h ls hl
    intro Q2 hi2 ho2 z h ls hl
    obtain ⟨v3, rfl⟩ : ∃ q, q = z := ⟨_, rfl⟩
    have h : Ho (X3_isFormItself_2_s tk n f x1 x2 v3) Q2 := h
    unfold X3_isFormItself_2_s at h
    have hl : lv_has ls 4 [(0, .ref h0), (1, .int x1), (2, .int x2), (3, .int v3)] := hl
    refine lv_iload_n hx hb dX3_isFormItself_2 rfl (lv_at hl 3 rfl) ?_
    refine lv_aload_n hx hb dX3_isFormItself_3 rfl (lv_at hl 0 rfl) ?_
    refine va_get (D := (dC, dI)) (ci := 3) (v := .int tk) (C := RX3) (T := TX3) (N := 4) hx hb hts hiX3 hown hK.1 hP 0 rfl rfl 2 (by decide) hf19 (fun _ h9 => h9) rfl dX3_isFormItself_4 ?_
    refine lv_icmp_ge (tgt := 33) hx hb dX3_isFormItself_7 (by decide) (fun q7 => ?_) (fun q7 => ?_)
    · have h := Ho_t h q7
      have h := ho2 _ (Ho_s h)
      exact J33  ls (lv_sub hl [] rfl) h
    · have h := Ho_f h q7
      refine lv_aload_n hx hb dX3_isFormItself_10 rfl (lv_at hl 0 rfl) ?_
      refine lv_iload_n hx hb dX3_isFormItself_11 rfl (lv_at hl 1 rfl) ?_
      refine lv_iload_n hx hb dX3_isFormItself_12 rfl (lv_at hl 2 rfl) ?_
      refine lv_iload_n hx hb dX3_isFormItself_13 rfl (lv_at hl 3 rfl) ?_
      obtain ⟨r14, hc14, h⟩ := Ho_b h
      have hPc : va_P (dC, dI) vwCl [(h0, .inr (3, [.ref hc, .ref ha, .int tk, .int mb])), (hc, .inr (0, [.int n, .int ev])), (ha, .inl (cI, 12, .inl f))] s.heap := hP.sub [0, 1, 2] rfl
      refine cs_i (va_runV (As := [.int x1, .int x2, .int v3]) (rest := []) hfix (c_X3_formStep l dC dI cI cJ h0 hc ha tk mb n ev f x1 x2 v3 _ hc14) (cwV 3 hts gX3_isFormItself_X3_formStep rfl rfl rfl (by decide +kernel) ⟨by decide, by decide⟩) (roP.preV hK hPc (ci := 3) rfl rfl) rfl rfl hl.1 rfl (lv_room (Nat.le_of_ble_eq_true rfl)) dX3_isFormItself_14 ⟨Nat.zero_le _, Nat.zero_le _⟩) ?_
      refine lv_aload_n hx hb dX3_isFormItself_17 rfl (lv_at hl 0 rfl) ?_
      refine lv_iload_n hx hb dX3_isFormItself_18 rfl (lv_at hl 3 rfl) ?_
      obtain ⟨r19, hc19, h⟩ := Ho_b h
      have hPc : va_P (dC, dI) vwCl [(h0, .inr (3, [.ref hc, .ref ha, .int tk, .int mb])), (hc, .inr (0, [.int n, .int ev])), (ha, .inl (cI, 12, .inl f))] s.heap := hP.sub [0, 1, 2] rfl
      refine cs_i (va_runV (As := [.int v3]) (rest := [.int r14]) hfix (c_X3_at l dC dI cI cJ h0 hc ha tk mb n ev f v3 _ hc19) (cwV 1 hts gX3_isFormItself_X3_at rfl rfl rfl (by decide +kernel) ⟨by decide, by decide⟩) (roP.preV hK hPc (ci := 3) rfl rfl) rfl rfl hl.1 rfl (lv_room (Nat.le_of_ble_eq_true rfl)) dX3_isFormItself_19 ⟨Nat.zero_le _, Nat.zero_le _⟩) ?_
      refine lv_icmp_eq (tgt := 27) hx hb dX3_isFormItself_22 (by decide) (fun q22 => ?_) (fun q22 => ?_)
      · have h := Ho_t h q22
        refine lv_iinc (v := v3 + 1) (lv' := [(3, .int (v3 + 1)), (0, .ref h0), (1, .int x1), (2, .int x2)]) hx hb dX3_isFormItself_27 hl (k := 3) rfl rfl (by decide) rfl (fun ls hl => ?_)
        refine lv_goto (tgt := 2) hx hb dX3_isFormItself_30 (by decide) ?_
        exact hi2 _ (Ho_s h) ls (lv_sub hl [1, 2, 3, 0] rfl)
      · have h := Ho_f h q22
        have h := ho2 _ (Ho_s h)
        exact J25  ls (lv_sub hl [] rfl) h
  refine lv_iconst (v := (0 : Int32)) hx hb dX3_isFormItself_0 (by decide) ?_
  refine lv_istore_n (lv' := [(3, .int (0 : Int32)), (0, .ref h0), (1, .int x1), (2, .int x2)]) hx hb dX3_isFormItself_1 rfl hl (by decide) rfl (fun ls hl => ?_)
  exact J2 (0 : Int32) ls (lv_sub hl [1, 2, 3, 0] rfl) h
abbrev rmX3_piece : Room := { frames := 2, cells := 0, slots := 0, locals := 42 }
set_option maxHeartbeats 4000000 in
set_option maxRecDepth 100000 in
theorem c_X3_piece (l : Launch) (dC : Nat → ClassId) (dI : Nat → Nat → Nat) (cI cJ : ClassId) (h0 hc ha : Nat) (tk : Int32) (mb : Int32) (n : Int32) (ev : Int32) (f : Nat → Int32) (x1 : Int32) (x2 : Int32) (r : Int32) (hF : FX3_piece tk f x1 x2 = some r) : Met l yX3_piece wsX3_piece rmX3_piece (roP (dC, dI) [(cI, .int), (cJ, .long)] [(h0, .inr (3, [.ref hc, .ref ha, .int tk, .int mb])), (hc, .inr (0, [.int n, .int ev])), (ha, .inl (cI, 12, .inl f))] [.ref h0, .int x1, .int x2]) (vp_Si (fun x => x = r)) 0 0 (fun _ => False) := by
  refine ro_start (cc := cX3_piece) (maxL := 5) (ret := (some .int)) (by decide) rfl (Nat.le_of_ble_eq_true rfl) ?_
  intro p e s m args below meth c ls hx hb hml hr hlk hown hts hP hK hl
  have hown : s.vm.findClass RX3 = some m.cls := hown
  have hl : lv_has ls 5 [(0, .ref h0), (1, .int x1), (2, .int x2)] := hl
  have h : Ho (FX3_piece tk f x1 x2) (fun x => x = r) := ⟨r, hF, rfl⟩
  unfold FX3_piece at h
  have hfix : CallFix p m c cX3_piece 5 s args wsX3_piece RX3 := ⟨hx, hb, hml, hown, hts⟩
  have J30 : ∀ (v3 : Int32) (ls : Array Slot), lv_has ls 5 [(3, .int v3)] → Ho (X3_piece_30 v3) (fun x => x = r) → W p l e rmX3_piece s m args below meth c s.heap [] 0 0 (MQ below (vp_Si (fun x => x = r)) args s 0 0 (fun _ => False)) (F0 m 30 ls []) := by
    intro v3 ls hl h
    unfold X3_piece_30 at h
    refine lv_iload_n hx hb dX3_piece_30 rfl (lv_at hl 0 rfl) ?_
    exact W.iret hx hb hr (fun t ht _ => ro_Si (Ho_e h) ht) ro_nil dX3_piece_31 hlk
  have J5 : ∀ (v3 : Int32) (v4 : Int32) (ls : Array Slot), lv_has ls 5 [(0, .ref h0), (1, .int x1), (2, .int x2), (3, .int v3), (4, .int v4)] → Ho ((X3_piece_5_l tk f x1 x2 v3 v4).bind (fun ex => X3_piece_30 ex)) (fun x => x = r) → W p l e rmX3_piece s m args below meth c s.heap [] 0 0 (MQ below (vp_Si (fun x => x = r)) args s 0 0 (fun _ => False)) (F0 m 5 ls []) := by
    intro v3 v4 ls hl h
    refine loop_use2 (fun z : Int32 × Int32 => ∀ (ls : Array Slot), lv_has ls 5 [(0, .ref h0), (1, .int x1), (2, .int x2), (3, .int z.1), (4, .int z.2)] → W p l e rmX3_piece s m args below meth c s.heap [] 0 0 (MQ below (vp_Si (fun x => x = r)) args s 0 0 (fun _ => False)) (F0 m 5 ls [])) ?_ FU _ h ls hl
    intro Q5 hi5 ho5 z h ls hl
    obtain ⟨v3, v4⟩ := z
    have h : Ho (X3_piece_5_s tk f x1 x2 v3 v4) Q5 := h
    unfold X3_piece_5_s at h
    have hl : lv_has ls 5 [(0, .ref h0), (1, .int x1), (2, .int x2), (3, .int v3), (4, .int v4)] := hl
    refine lv_iload hx hb dX3_piece_5 (lv_at hl 4 rfl) ?_
    refine lv_iload_n hx hb dX3_piece_7 rfl (lv_at hl 1 rfl) ?_
    refine lv_iload_n hx hb dX3_piece_8 rfl (lv_at hl 2 rfl) ?_
    refine lv_iadd hx hb dX3_piece_9 ?_
    refine lv_icmp_ge (tgt := 30) hx hb dX3_piece_10 (by decide) (fun q10 => ?_) (fun q10 => ?_)
    · have h := Ho_t h q10
      have h := ho5 _ (Ho_s h)
      exact J30 v3 ls (lv_sub hl [3] rfl) h
    · have h := Ho_f h q10
      refine lv_iload_n hx hb dX3_piece_13 rfl (lv_at hl 3 rfl) ?_
      refine lv_iconst (v := (1 : Int32)) hx hb dX3_piece_14 (by decide) ?_
      refine lv_aload_n hx hb dX3_piece_15 rfl (lv_at hl 0 rfl) ?_
      refine lv_iload hx hb dX3_piece_16 (lv_at hl 4 rfl) ?_
      obtain ⟨r18, hc18, h⟩ := Ho_b h
      have hPc : va_P (dC, dI) vwCl [(h0, .inr (3, [.ref hc, .ref ha, .int tk, .int mb])), (hc, .inr (0, [.int n, .int ev])), (ha, .inl (cI, 12, .inl f))] s.heap := hP.sub [0, 1, 2] rfl
      refine cs_i (va_runV (As := [.int v4]) (rest := [.int (1 : Int32), .int v3]) hfix (c_X3_at l dC dI cI cJ h0 hc ha tk mb n ev f v4 _ hc18) (cwV 1 hts gX3_piece_X3_at rfl rfl rfl (by decide +kernel) ⟨by decide, by decide⟩) (roP.preV hK hPc (ci := 3) rfl rfl) rfl rfl hl.1 rfl (lv_room (Nat.le_of_ble_eq_true rfl)) dX3_piece_18 ⟨Nat.zero_le _, Nat.zero_le _⟩) ?_
      refine lv_ishl hx hb dX3_piece_21 ?_
      refine lv_ior hx hb dX3_piece_22 ?_
      refine lv_istore_n (lv' := [(3, .int (v3 ||| ((1 : Int32) <<< (r18 &&& 31)))), (0, .ref h0), (1, .int x1), (2, .int x2), (4, .int v4)]) hx hb dX3_piece_23 rfl hl (by decide) rfl (fun ls hl => ?_)
      refine lv_iinc (v := v4 + 1) (lv' := [(4, .int (v4 + 1)), (3, .int (v3 ||| ((1 : Int32) <<< (r18 &&& 31)))), (0, .ref h0), (1, .int x1), (2, .int x2)]) hx hb dX3_piece_24 hl (k := 4) rfl rfl (by decide) rfl (fun ls hl => ?_)
      refine lv_goto (tgt := 5) hx hb dX3_piece_27 (by decide) ?_
      exact hi5 _ (Ho_s h) ls (lv_sub hl [2, 3, 4, 1, 0] rfl)
  refine lv_iconst (v := (0 : Int32)) hx hb dX3_piece_0 (by decide) ?_
  refine lv_istore_n (lv' := [(3, .int (0 : Int32)), (0, .ref h0), (1, .int x1), (2, .int x2)]) hx hb dX3_piece_1 rfl hl (by decide) rfl (fun ls hl => ?_)
  refine lv_iload_n hx hb dX3_piece_2 rfl (lv_at hl 2 rfl) ?_
  refine lv_istore (lv' := [(4, .int x1), (3, .int (0 : Int32)), (0, .ref h0), (1, .int x1), (2, .int x2)]) hx hb dX3_piece_3 hl (by decide) rfl (fun ls hl => ?_)
  exact J5 (0 : Int32) x1 ls (lv_sub hl [2, 3, 4, 1, 0] rfl) h
