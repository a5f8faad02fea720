abbrev rmX1_forget : Room := { frames := 0, cells := 0, slots := 0, locals := 0 }
set_option maxHeartbeats 4000000 in
set_option maxRecDepth 100000 in
theorem c_X1_forget (l : Launch) (dC : Nat → ClassId) (dI : Nat → Nat → Nat) (cI cJ : ClassId) (h0 hc ha : Nat) (sz : Nat) (kd : Int32) (ld : Int32) (n : Int32) (ev : Int32) (f : Nat → Int32) (ld' : Int32) (hF : FX1_forget ld = some ld') : Met l yX1_forget wsX1_forget rmX1_forget (rwP (dC, dI) [(cI, .int), (cJ, .long)] sz [(h0, .inr (1, [.ref hc, .int kd, .ref ha, .int ld])), (hc, .inr (0, [.int n, .int ev])), (ha, .inl (cI, 352, .inl f))] [.ref h0]) (va_Qv (fun _ : Unit => True) (fun _ t => va_P (dC, dI) vwCl [(h0, .inr (1, [.ref hc, .int kd, .ref ha, .int ld'])), (hc, .inr (0, [.int n, .int ev])), (ha, .inl (cI, 352, .inl f))] t.heap ∧ vK (dC, dI) [(cI, .int), (cJ, .long)] t ∧ va_D (va_A [(h0, .inr (1, [.ref hc, .int kd, .ref ha, .int ld])), (hc, .inr (0, [.int n, .int ev])), (ha, .inl (cI, 352, .inl f))] sz) [(h0, .inr (1, [.ref hc, .int kd, .ref ha, .int ld'])), (hc, .inr (0, [.int n, .int ev])), (ha, .inl (cI, 352, .inl f))]) (va_A [(h0, .inr (1, [.ref hc, .int kd, .ref ha, .int ld])), (hc, .inr (0, [.int n, .int ev])), (ha, .inl (cI, 352, .inl f))] sz)) 0 0 (va_A [(h0, .inr (1, [.ref hc, .int kd, .ref ha, .int ld])), (hc, .inr (0, [.int n, .int ev])), (ha, .inl (cI, 352, .inl f))] sz) := by
  refine rw_start (cc := cX1_forget) (maxL := 1) (ret := none) (by decide) rfl (Nat.le_of_ble_eq_true rfl) ?_
  intro p e s m args below meth c ls A H locs hx hb hml hr hlk hown hts hsz hP hK hD hA hS hAe hl
  have hown : s.vm.findClass RX1 = some m.cls := hown
  have hl : lv_has ls 1 [(0, .ref h0)] := hl
  have h : Ho (FX1_forget ld) (fun x => x = ld') := ⟨_, hF, rfl⟩
  unfold FX1_forget at h
  have QI : ∀ {ld9 : Int32} {t : State}, ld9 = ld' → va_P (dC, dI) vwCl [(h0, .inr (1, [.ref hc, .int kd, .ref ha, .int ld9])), (hc, .inr (0, [.int n, .int ev])), (ha, .inl (cI, 352, .inl f))] t.heap → vK (dC, dI) [(cI, .int), (cJ, .long)] t → va_D A [(h0, .inr (1, [.ref hc, .int kd, .ref ha, .int ld9])), (hc, .inr (0, [.int n, .int ev])), (ha, .inl (cI, 352, .inl f))] → va_F A s t → (va_Qv (fun _ : Unit => True) (fun _ t => va_P (dC, dI) vwCl [(h0, .inr (1, [.ref hc, .int kd, .ref ha, .int ld'])), (hc, .inr (0, [.int n, .int ev])), (ha, .inl (cI, 352, .inl f))] t.heap ∧ vK (dC, dI) [(cI, .int), (cJ, .long)] t ∧ va_D (va_A [(h0, .inr (1, [.ref hc, .int kd, .ref ha, .int ld])), (hc, .inr (0, [.int n, .int ev])), (ha, .inl (cI, 352, .inl f))] sz) [(h0, .inr (1, [.ref hc, .int kd, .ref ha, .int ld'])), (hc, .inr (0, [.int n, .int ev])), (ha, .inl (cI, 352, .inl f))]) (va_A [(h0, .inr (1, [.ref hc, .int kd, .ref ha, .int ld])), (hc, .inr (0, [.int n, .int ev])), (ha, .inl (cI, 352, .inl f))] sz)) args s (.returned none) t := by
    intro ld9 t e9 q1 q2 q3 q4
    cases e9
    subst hAe
    exact ⟨⟨(), rfl, trivial, q1, q2, q3⟩, q4⟩
  have hfix : CallFix p m c cX1_forget 1 s args wsX1_forget RX1 := ⟨hx, hb, hml, hown, hts⟩
  have hiX1 : ∀ w ∈ u_ws RX1 TX1 4, w ∈ wsX1_forget := by decide +kernel
  have hf23 := hts (.fieldLink RX1 23 "RowClasses$ClassList" "listed" "I") (by decide +kernel)
  refine lv_aload_n hx hb dX1_forget_0 rfl (lv_at hl 0 rfl) ?_
  refine lv_iconst (v := (0 : Int32)) hx hb dX1_forget_1 (by decide) ?_
  refine va_put (D := (dC, dI)) (ci := 1) (v := .int (0 : Int32)) (ty := .int) (C := RX1) (T := TX1) (N := 4) hx hb hts hiX1 tyX1 tyX1_ok nmX1 hown hK.1 hP hD hS 0 rfl rfl 3 (by decide) hf23 (fun _ h9 => h9) rfl (by decide +kernel) rfl rfl (Nat.le_of_ble_eq_true rfl) dX1_forget_2 (fun H locs hP hD hS => ?_)
  have hP : va_P (dC, dI) vwCl [(h0, .inr (1, [.ref hc, .int kd, .ref ha, .int (0 : Int32)])), (hc, .inr (0, [.int n, .int ev])), (ha, .inl (cI, 352, .inl f))] H := hP
  have hD : va_D A [(h0, .inr (1, [.ref hc, .int kd, .ref ha, .int (0 : Int32)])), (hc, .inr (0, [.int n, .int ev])), (ha, .inl (cI, 352, .inl f))] := hD
  exact W.vret hx hb hr (fun t ht hW => QI (Ho_e h) (by rw [ht]; exact hP) (hK.warm hW) hD (hS.F ht)) hS.2.2 dX1_forget_5 hlk
abbrev rmX1_keep : Room := { frames := 0, cells := 0, slots := 0, locals := 0 }
set_option maxHeartbeats 4000000 in
set_option maxRecDepth 100000 in
theorem c_X1_keep (l : Launch) (dC : Nat → ClassId) (dI : Nat → Nat → Nat) (cI cJ : ClassId) (h0 hc ha : Nat) (sz : Nat) (kd : Int32) (ld : Int32) (n : Int32) (ev : Int32) (f : Nat → Int32) (x1 : Int32) (ld' : Int32) (f' : Nat → Int32) (hF : FX1_keep ld f x1 = some (ld', f')) : Met l yX1_keep wsX1_keep rmX1_keep (rwP (dC, dI) [(cI, .int), (cJ, .long)] sz [(h0, .inr (1, [.ref hc, .int kd, .ref ha, .int ld])), (hc, .inr (0, [.int n, .int ev])), (ha, .inl (cI, 352, .inl f))] [.ref h0, .int x1]) (va_Qv (fun _ : Unit => True) (fun _ t => va_P (dC, dI) vwCl [(h0, .inr (1, [.ref hc, .int kd, .ref ha, .int ld'])), (hc, .inr (0, [.int n, .int ev])), (ha, .inl (cI, 352, .inl f'))] t.heap ∧ vK (dC, dI) [(cI, .int), (cJ, .long)] t ∧ va_D (va_A [(h0, .inr (1, [.ref hc, .int kd, .ref ha, .int ld])), (hc, .inr (0, [.int n, .int ev])), (ha, .inl (cI, 352, .inl f))] sz) [(h0, .inr (1, [.ref hc, .int kd, .ref ha, .int ld'])), (hc, .inr (0, [.int n, .int ev])), (ha, .inl (cI, 352, .inl f'))]) (va_A [(h0, .inr (1, [.ref hc, .int kd, .ref ha, .int ld])), (hc, .inr (0, [.int n, .int ev])), (ha, .inl (cI, 352, .inl f))] sz)) 0 0 (va_A [(h0, .inr (1, [.ref hc, .int kd, .ref ha, .int ld])), (hc, .inr (0, [.int n, .int ev])), (ha, .inl (cI, 352, .inl f))] sz) := by
  refine rw_start (cc := cX1_keep) (maxL := 2) (ret := none) (by decide) rfl (Nat.le_of_ble_eq_true rfl) ?_
  intro p e s m args below meth c ls A H locs hx hb hml hr hlk hown hts hsz hP hK hD hA hS hAe hl
  have hown : s.vm.findClass RX1 = some m.cls := hown
  have hl : lv_has ls 2 [(0, .ref h0), (1, .int x1)] := hl
  have h : Ho (FX1_keep ld f x1) (fun x => x = (ld', f')) := ⟨_, hF, rfl⟩
  unfold FX1_keep at h
  have QI : ∀ {ld9 : Int32} {f9 : Nat → Int32} {t : State}, (ld9, f9) = (ld', f') → va_P (dC, dI) vwCl [(h0, .inr (1, [.ref hc, .int kd, .ref ha, .int ld9])), (hc, .inr (0, [.int n, .int ev])), (ha, .inl (cI, 352, .inl f9))] t.heap → vK (dC, dI) [(cI, .int), (cJ, .long)] t → va_D A [(h0, .inr (1, [.ref hc, .int kd, .ref ha, .int ld9])), (hc, .inr (0, [.int n, .int ev])), (ha, .inl (cI, 352, .inl f9))] → va_F A s t → (va_Qv (fun _ : Unit => True) (fun _ t => va_P (dC, dI) vwCl [(h0, .inr (1, [.ref hc, .int kd, .ref ha, .int ld'])), (hc, .inr (0, [.int n, .int ev])), (ha, .inl (cI, 352, .inl f'))] t.heap ∧ vK (dC, dI) [(cI, .int), (cJ, .long)] t ∧ va_D (va_A [(h0, .inr (1, [.ref hc, .int kd, .ref ha, .int ld])), (hc, .inr (0, [.int n, .int ev])), (ha, .inl (cI, 352, .inl f))] sz) [(h0, .inr (1, [.ref hc, .int kd, .ref ha, .int ld'])), (hc, .inr (0, [.int n, .int ev])), (ha, .inl (cI, 352, .inl f'))]) (va_A [(h0, .inr (1, [.ref hc, .int kd, .ref ha, .int ld])), (hc, .inr (0, [.int n, .int ev])), (ha, .inl (cI, 352, .inl f))] sz)) args s (.returned none) t := by
    intro ld9 f9 t e9 q1 q2 q3 q4
    cases e9
    subst hAe
    exact ⟨⟨(), rfl, trivial, q1, q2, q3⟩, q4⟩
  have hfix : CallFix p m c cX1_keep 2 s args wsX1_keep RX1 := ⟨hx, hb, hml, hown, hts⟩
  have hiX1 : ∀ w ∈ u_ws RX1 TX1 4, w ∈ wsX1_keep := by decide +kernel
  have hf19 := hts (.fieldLink RX1 19 "RowClasses$ClassList" "leasts" "[I") (by decide +kernel)
  have hf23 := hts (.fieldLink RX1 23 "RowClasses$ClassList" "listed" "I") (by decide +kernel)
  refine lv_aload_n hx hb dX1_keep_0 rfl (lv_at hl 0 rfl) ?_
  refine va_get (D := (dC, dI)) (ci := 1) (v := .int ld) (C := RX1) (T := TX1) (N := 4) hx hb hts hiX1 hown hK.1 hP 0 rfl rfl 3 (by decide) hf23 (fun _ h9 => h9) rfl dX1_keep_1 ?_
  refine lv_sipush (v := (352 : Int32)) hx hb dX1_keep_4 (by decide) ?_
  refine lv_icmp_ge (tgt := 30) hx hb dX1_keep_7 (by decide) (fun q7 => ?_) (fun q7 => ?_)
  · have h := Ho_t h q7
    exact W.vret hx hb hr (fun t ht hW => QI (Ho_e h) (by rw [ht]; exact hP) (hK.warm hW) hD (hS.F ht)) hS.2.2 dX1_keep_30 hlk
  · have h := Ho_f h q7
    refine lv_aload_n hx hb dX1_keep_10 rfl (lv_at hl 0 rfl) ?_
    refine va_get (D := (dC, dI)) (ci := 1) (v := .ref ha) (C := RX1) (T := TX1) (N := 4) hx hb hts hiX1 hown hK.1 hP 0 rfl rfl 2 (by decide) hf19 (fun _ h9 => h9) rfl dX1_keep_11 ?_
    refine lv_aload_n hx hb dX1_keep_14 rfl (lv_at hl 0 rfl) ?_
    refine va_get (D := (dC, dI)) (ci := 1) (v := .int ld) (C := RX1) (T := TX1) (N := 4) hx hb hts hiX1 hown hK.1 hP 0 rfl rfl 3 (by decide) hf23 (fun _ h9 => h9) rfl dX1_keep_15 ?_
    refine lv_iload_n hx hb dX1_keep_18 rfl (lv_at hl 1 rfl) ?_
    obtain ⟨hz19, h⟩ := Ho_ix h
    refine va_iast hx hb hK.1 hP hD hS 2 0 rfl rfl hz19 dX1_keep_19 (fun H locs hP hD hS => ?_)
    have hP : va_P (dC, dI) vwCl [(h0, .inr (1, [.ref hc, .int kd, .ref ha, .int ld])), (hc, .inr (0, [.int n, .int ev])), (ha, .inl (cI, 352, .inl (upd f ld.toNatClampNeg x1)))] H := hP
    have hD : va_D A [(h0, .inr (1, [.ref hc, .int kd, .ref ha, .int ld])), (hc, .inr (0, [.int n, .int ev])), (ha, .inl (cI, 352, .inl (upd f ld.toNatClampNeg x1)))] := hD
    refine lv_aload_n hx hb dX1_keep_20 rfl (lv_at hl 0 rfl) ?_
    refine lv_dup hx hb dX1_keep_21 rfl ?_
    refine va_get (D := (dC, dI)) (ci := 1) (v := .int ld) (C := RX1) (T := TX1) (N := 4) hx hb hts hiX1 hown hK.1 hP 0 rfl rfl 3 (by decide) hf23 (fun _ h9 => h9) rfl dX1_keep_22 ?_
    refine lv_iconst (v := (1 : Int32)) hx hb dX1_keep_25 (by decide) ?_
    refine lv_iadd hx hb dX1_keep_26 ?_
    refine va_put (D := (dC, dI)) (ci := 1) (v := .int (ld + (1 : Int32))) (ty := .int) (C := RX1) (T := TX1) (N := 4) hx hb hts hiX1 tyX1 tyX1_ok nmX1 hown hK.1 hP hD hS 0 rfl rfl 3 (by decide) hf23 (fun _ h9 => h9) rfl (by decide +kernel) rfl rfl (Nat.le_of_ble_eq_true rfl) dX1_keep_27 (fun H locs hP hD hS => ?_)
    have hP : va_P (dC, dI) vwCl [(h0, .inr (1, [.ref hc, .int kd, .ref ha, .int (ld + (1 : Int32))])), (hc, .inr (0, [.int n, .int ev])), (ha, .inl (cI, 352, .inl (upd f ld.toNatClampNeg x1)))] H := hP
    have hD : va_D A [(h0, .inr (1, [.ref hc, .int kd, .ref ha, .int (ld + (1 : Int32))])), (hc, .inr (0, [.int n, .int ev])), (ha, .inl (cI, 352, .inl (upd f ld.toNatClampNeg x1)))] := hD
    exact W.vret hx hb hr (fun t ht hW => QI (Ho_e h) (by rw [ht]; exact hP) (hK.warm hW) hD (hS.F ht)) hS.2.2 dX1_keep_30 hlk
abbrev rmX1_list : Room := { frames := 3, cells := 0, slots := 0, locals := 71 }
set_option maxHeartbeats 4000000 in
set_option maxRecDepth 100000 in
theorem c_X1_list (l : Launch) (dC : Nat → ClassId) (dI : Nat → Nat → Nat) (cI cJ : ClassId) (h0 hc ha : Nat) (sz : Nat) (kd : Int32) (ld : Int32) (n : Int32) (ev : Int32) (f : Nat → Int32) (ld' : Int32) (f' : Nat → Int32) (hF : FX1_list kd ld n ev f = some (ld', f')) : Met l yX1_list wsX1_list rmX1_list (rwP (dC, dI) [(cI, .int), (cJ, .long)] sz [(h0, .inr (1, [.ref hc, .int kd, .ref ha, .int ld])), (hc, .inr (0, [.int n, .int ev])), (ha, .inl (cI, 352, .inl f))] [.ref h0]) (va_Qv (fun _ : Unit => True) (fun _ t => va_P (dC, dI) vwCl [(h0, .inr (1, [.ref hc, .int kd, .ref ha, .int ld'])), (hc, .inr (0, [.int n, .int ev])), (ha, .inl (cI, 352, .inl f'))] t.heap ∧ vK (dC, dI) [(cI, .int), (cJ, .long)] t ∧ va_D (va_A [(h0, .inr (1, [.ref hc, .int kd, .ref ha, .int ld])), (hc, .inr (0, [.int n, .int ev])), (ha, .inl (cI, 352, .inl f))] sz) [(h0, .inr (1, [.ref hc, .int kd, .ref ha, .int ld'])), (hc, .inr (0, [.int n, .int ev])), (ha, .inl (cI, 352, .inl f'))]) (va_A [(h0, .inr (1, [.ref hc, .int kd, .ref ha, .int ld])), (hc, .inr (0, [.int n, .int ev])), (ha, .inl (cI, 352, .inl f))] sz)) 0 0 (va_A [(h0, .inr (1, [.ref hc, .int kd, .ref ha, .int ld])), (hc, .inr (0, [.int n, .int ev])), (ha, .inl (cI, 352, .inl f))] sz) := by
  refine rw_start (cc := cX1_list) (maxL := 2) (ret := none) (by decide) rfl (Nat.le_of_ble_eq_true rfl) ?_
  intro p e s m args below meth c ls A H locs hx hb hml hr hlk hown hts hsz hP hK hD hA hS hAe hl
  have hown : s.vm.findClass RX1 = some m.cls := hown
  have hl : lv_has ls 2 [(0, .ref h0)] := hl
  have h : Ho (FX1_list kd ld n ev f) (fun x => x = (ld', f')) := ⟨_, hF, rfl⟩
  unfold FX1_list at h
  have QI : ∀ {ld9 : Int32} {f9 : Nat → Int32} {t : State}, (ld9, f9) = (ld', f') → va_P (dC, dI) vwCl [(h0, .inr (1, [.ref hc, .int kd, .ref ha, .int ld9])), (hc, .inr (0, [.int n, .int ev])), (ha, .inl (cI, 352, .inl f9))] t.heap → vK (dC, dI) [(cI, .int), (cJ, .long)] t → va_D A [(h0, .inr (1, [.ref hc, .int kd, .ref ha, .int ld9])), (hc, .inr (0, [.int n, .int ev])), (ha, .inl (cI, 352, .inl f9))] → va_F A s t → (va_Qv (fun _ : Unit => True) (fun _ t => va_P (dC, dI) vwCl [(h0, .inr (1, [.ref hc, .int kd, .ref ha, .int ld'])), (hc, .inr (0, [.int n, .int ev])), (ha, .inl (cI, 352, .inl f'))] t.heap ∧ vK (dC, dI) [(cI, .int), (cJ, .long)] t ∧ va_D (va_A [(h0, .inr (1, [.ref hc, .int kd, .ref ha, .int ld])), (hc, .inr (0, [.int n, .int ev])), (ha, .inl (cI, 352, .inl f))] sz) [(h0, .inr (1, [.ref hc, .int kd, .ref ha, .int ld'])), (hc, .inr (0, [.int n, .int ev])), (ha, .inl (cI, 352, .inl f'))]) (va_A [(h0, .inr (1, [.ref hc, .int kd, .ref ha, .int ld])), (hc, .inr (0, [.int n, .int ev])), (ha, .inl (cI, 352, .inl f))] sz)) args s (.returned none) t := by
    intro ld9 f9 t e9 q1 q2 q3 q4
    cases e9
    subst hAe
    exact ⟨⟨(), rfl, trivial, q1, q2, q3⟩, q4⟩
  have hfix : CallFix p m c cX1_list 2 s args wsX1_list RX1 := ⟨hx, hb, hml, hown, hts⟩
  have hiX1 : ∀ w ∈ u_ws RX1 TX1 4, w ∈ wsX1_list := by decide +kernel
  have hf9 := hts (.fieldLink RX1 9 "RowClasses$ClassList" "circle" "LRowClasses$Circle;") (by decide +kernel)
  have hf15 := hts (.fieldLink RX1 15 "RowClasses$ClassList" "kind" "I") (by decide +kernel)
  have J56 : ∀ (ldk : Int32) (fk : Nat → Int32) (H : Heap) (locs : List Loc) (ls : Array Slot), va_P (dC, dI) vwCl [(h0, .inr (1, [.ref hc, .int kd, .ref ha, .int ldk])), (hc, .inr (0, [.int n, .int ev])), (ha, .inl (cI, 352, .inl fk))] H → va_D A [(h0, .inr (1, [.ref hc, .int kd, .ref ha, .int ldk])), (hc, .inr (0, [.int n, .int ev])), (ha, .inl (cI, 352, .inl fk))] → va_S A s.heap H locs → lv_has ls 2 [] → Ho (X1_list_56 ldk fk) (fun x => x = (ld', f')) → W p l e rmX1_list s m args below meth c H locs 0 0 (MQ below (va_Qv (fun _ : Unit => True) (fun _ t => va_P (dC, dI) vwCl [(h0, .inr (1, [.ref hc, .int kd, .ref ha, .int ld'])), (hc, .inr (0, [.int n, .int ev])), (ha, .inl (cI, 352, .inl f'))] t.heap ∧ vK (dC, dI) [(cI, .int), (cJ, .long)] t ∧ va_D (va_A [(h0, .inr (1, [.ref hc, .int kd, .ref ha, .int ld])), (hc, .inr (0, [.int n, .int ev])), (ha, .inl (cI, 352, .inl f))] sz) [(h0, .inr (1, [.ref hc, .int kd, .ref ha, .int ld'])), (hc, .inr (0, [.int n, .int ev])), (ha, .inl (cI, 352, .inl f'))]) (va_A [(h0, .inr (1, [.ref hc, .int kd, .ref ha, .int ld])), (hc, .inr (0, [.int n, .int ev])), (ha, .inl (cI, 352, .inl f))] sz)) args s 0 0 A) (F0 m 56 ls []) := by
    intro ldk fk H locs ls hP hD hS hl h
    unfold X1_list_56 at h
    exact W.vret hx hb hr (fun t ht hW => QI (Ho_e h) (by rw [ht]; exact hP) (hK.warm hW) hD (hS.F ht)) hS.2.2 dX1_list_56 hlk
  have J7 : ∀ (ldk : Int32) (fk : Nat → Int32) (v1 : Int32) (H : Heap) (locs : List Loc) (ls : Array Slot), va_P (dC, dI) vwCl [(h0, .inr (1, [.ref hc, .int kd, .ref ha, .int ldk])), (hc, .inr (0, [.int n, .int ev])), (ha, .inl (cI, 352, .inl fk))] H → va_D A [(h0, .inr (1, [.ref hc, .int kd, .ref ha, .int ldk])), (hc, .inr (0, [.int n, .int ev])), (ha, .inl (cI, 352, .inl fk))] → va_S A s.heap H locs → lv_has ls 2 [(0, .ref h0), (1, .int v1)] → Ho ((X1_list_7_l kd n ev ldk fk v1).bind (fun ex => X1_list_56 ex.1 ex.2)) (fun x => x = (ld', f')) → W p l e rmX1_list s m args below meth c H locs 0 0 (MQ below (va_Qv (fun _ : Unit => True) (fun _ t => va_P (dC, dI) vwCl [(h0, .inr (1, [.ref hc, .int kd, .ref ha, .int ld'])), (hc, .inr (0, [.int n, .int ev])), (ha, .inl (cI, 352, .inl f'))] t.heap ∧ vK (dC, dI) [(cI, .int), (cJ, .long)] t ∧ va_D (va_A [(h0, .inr (1, [.ref hc, .int kd, .ref ha, .int ld])), (hc, .inr (0, [.int n, .int ev])), (ha, .inl (cI, 352, .inl f))] sz) [(h0, .inr (1, [.ref hc, .int kd, .ref ha, .int ld'])), (hc, .inr (0, [.int n, .int ev])), (ha, .inl (cI, 352, .inl f'))]) (va_A [(h0, .inr (1, [.ref hc, .int kd, .ref ha, .int ld])), (hc, .inr (0, [.int n, .int ev])), (ha, .inl (cI, 352, .inl f))] sz)) args s 0 0 A) (F0 m 7 ls []) := by
    intro ldk fk v1 H locs ls hP hD hS hl h
    refine loop_use2 (fun z : Int32 × (Nat → Int32) × Int32 => ∀ (H : Heap) (locs : List Loc) (ls : Array Slot), va_P (dC, dI) vwCl [(h0, .inr (1, [.ref hc, .int kd, .ref ha, .int z.1])), (hc, .inr (0, [.int n, .int ev])), (ha, .inl (cI, 352, .inl z.2.1))] H → va_D A [(h0, .inr (1, [.ref hc, .int kd, .ref ha, .int z.1])), (hc, .inr (0, [.int n, .int ev])), (ha, .inl (cI, 352, .inl z.2.1))] → va_S A s.heap H locs → lv_has ls 2 [(0, .ref h0), (1, .int z.2.2)] → W p l e rmX1_list s m args below meth c H locs 0 0 (MQ below (va_Qv (fun _ : Unit => True) (fun _ t => va_P (dC, dI) vwCl [(h0, .inr (1, [.ref hc, .int kd, .ref ha, .int ld'])), (hc, .inr (0, [.int n, .int ev])), (ha, .inl (cI, 352, .inl f'))] t.heap ∧ vK (dC, dI) [(cI, .int), (cJ, .long)] t ∧ va_D (va_A [(h0, .inr (1, [.ref hc, .int kd, .ref ha, .int ld])), (hc, .inr (0, [.int n, .int ev])), (ha, .inl (cI, 352, .inl f))] sz) [(h0, .inr (1, [.ref hc, .int kd, .ref ha, .int ld'])), (hc, .inr (0, [.int n, .int ev])), (ha, .inl (cI, 352, .inl f'))]) (va_A [(h0, .inr (1, [.ref hc, .int kd, .ref ha, .int ld])), (hc, .inr (0, [.int n, .int ev])), (ha, .inl (cI, 352, .inl f))] sz)) args s 0 0 A) (F0 m 7 ls [])) ?_ FU _ h H locs ls hP hD hS hl
    intro Q7 hi7 ho7 z h H locs ls hP hD hS hl
    obtain ⟨ldk, fk, v1⟩ := z
    have h : Ho (X1_list_7_s kd n ev ldk fk v1) Q7 := h
    unfold X1_list_7_s at h
    have hl : lv_has ls 2 [(0, .ref h0), (1, .int v1)] := hl
    have hP : va_P (dC, dI) vwCl [(h0, .inr (1, [.ref hc, .int kd, .ref ha, .int ldk])), (hc, .inr (0, [.int n, .int ev])), (ha, .inl (cI, 352, .inl fk))] H := hP
    have hD : va_D A [(h0, .inr (1, [.ref hc, .int kd, .ref ha, .int ldk])), (hc, .inr (0, [.int n, .int ev])), (ha, .inl (cI, 352, .inl fk))] := hD
    refine lv_iload_n hx hb dX1_list_7 rfl (lv_at hl 1 rfl) ?_
    refine lv_aload_n hx hb dX1_list_8 rfl (lv_at hl 0 rfl) ?_
    refine va_get (D := (dC, dI)) (ci := 1) (v := .ref hc) (C := RX1) (T := TX1) (N := 4) hx hb hts hiX1 hown hK.1 hP 0 rfl rfl 0 (by decide) hf9 (fun _ h9 => h9) rfl dX1_list_9 ?_
    obtain ⟨r12, hc12, h⟩ := Ho_b h
    have hPc : va_P (dC, dI) vwCl [(hc, .inr (0, [.int n, .int ev]))] H := hP.sub [1] rfl
    refine cs_i (va_runV (As := []) (rest := [.int v1]) hfix (c_X0_all l dC dI cI cJ hc n ev _ hc12) (cwV 0 hts gX1_list_X0_all rfl rfl rfl (by decide +kernel) ⟨by decide, by decide⟩) (roP.preV hK hPc (ci := 0) rfl rfl) rfl rfl hl.1 rfl (lv_room (Nat.le_of_ble_eq_true rfl)) dX1_list_12 ⟨Nat.zero_le _, Nat.zero_le _⟩) ?_
    refine lv_icmp_gt (tgt := 56) hx hb dX1_list_15 (by decide) (fun q15 => ?_) (fun q15 => ?_)
    · have h := Ho_t h q15
      have h := ho7 _ (Ho_s h)
      exact J56 ldk fk _ _ ls hP hD hS (lv_sub hl [] rfl) h
    · have h := Ho_f h q15
      refine lv_aload_n hx hb dX1_list_18 rfl (lv_at hl 0 rfl) ?_
      refine va_get (D := (dC, dI)) (ci := 1) (v := .ref hc) (C := RX1) (T := TX1) (N := 4) hx hb hts hiX1 hown hK.1 hP 0 rfl rfl 0 (by decide) hf9 (fun _ h9 => h9) rfl dX1_list_19 ?_
      refine lv_iload_n hx hb dX1_list_22 rfl (lv_at hl 1 rfl) ?_
      obtain ⟨r23, hc23, h⟩ := Ho_b h
      have hPc : va_P (dC, dI) vwCl [(hc, .inr (0, [.int n, .int ev]))] H := hP.sub [1] rfl
      refine cs_i (va_runV (As := [.int v1]) (rest := []) hfix (c_X0_isLeastTurned l dC dI cI cJ hc n ev v1 _ hc23) (cwV 1 hts gX1_list_X0_isLeastTurned rfl rfl rfl (by decide +kernel) ⟨by decide, by decide⟩) (roP.preV hK hPc (ci := 0) rfl rfl) rfl rfl hl.1 rfl (lv_room (Nat.le_of_ble_eq_true rfl)) dX1_list_23 ⟨Nat.zero_le _, Nat.zero_le _⟩) ?_
      refine lv_if_eq (tgt := 50) hx hb dX1_list_26 (by decide) (fun q26 => ?_) (fun q26 => ?_)
      · have h := Ho_t h q26
        refine lv_iinc (v := v1 + 2) (lv' := [(1, .int (v1 + 2)), (0, .ref h0)]) hx hb dX1_list_50 hl (k := 1) rfl rfl (by decide) rfl (fun ls hl => ?_)
        refine lv_goto (tgt := 7) hx hb dX1_list_53 (by decide) ?_
        exact hi7 _ (Ho_s h) _ _ ls hP hD hS (lv_sub hl [1, 0] rfl)
      · have h := Ho_f h q26
        refine lv_aload_n hx hb dX1_list_29 rfl (lv_at hl 0 rfl) ?_
        refine va_get (D := (dC, dI)) (ci := 1) (v := .ref hc) (C := RX1) (T := TX1) (N := 4) hx hb hts hiX1 hown hK.1 hP 0 rfl rfl 0 (by decide) hf9 (fun _ h9 => h9) rfl dX1_list_30 ?_
        refine lv_iload_n hx hb dX1_list_33 rfl (lv_at hl 1 rfl) ?_
        refine lv_aload_n hx hb dX1_list_34 rfl (lv_at hl 0 rfl) ?_
        refine va_get (D := (dC, dI)) (ci := 1) (v := .int kd) (C := RX1) (T := TX1) (N := 4) hx hb hts hiX1 hown hK.1 hP 0 rfl rfl 1 (by decide) hf15 (fun _ h9 => h9) rfl dX1_list_35 ?_
        obtain ⟨r38, hc38, h⟩ := Ho_b h
        have hPc : va_P (dC, dI) vwCl [(hc, .inr (0, [.int n, .int ev]))] H := hP.sub [1] rfl
        refine cs_i (va_runV (As := [.int v1, .int kd]) (rest := []) hfix (c_X0_leastOf l dC dI cI cJ hc n ev v1 kd _ hc38) (cwV 2 hts gX1_list_X0_leastOf rfl rfl rfl (by decide +kernel) ⟨by decide, by decide⟩) (roP.preV hK hPc (ci := 0) rfl rfl) rfl rfl hl.1 rfl (lv_room (Nat.le_of_ble_eq_true rfl)) dX1_list_38 ⟨Nat.zero_le _, Nat.zero_le _⟩) ?_
        refine lv_iload_n hx hb dX1_list_41 rfl (lv_at hl 1 rfl) ?_
        refine lv_icmp_ne (tgt := 50) hx hb dX1_list_42 (by decide) (fun q42 => ?_) (fun q42 => ?_)
        · have h := Ho_f h q42
          refine lv_iinc (v := v1 + 2) (lv' := [(1, .int (v1 + 2)), (0, .ref h0)]) hx hb dX1_list_50 hl (k := 1) rfl rfl (by decide) rfl (fun ls hl => ?_)
          refine lv_goto (tgt := 7) hx hb dX1_list_53 (by decide) ?_
          exact hi7 _ (Ho_s h) _ _ ls hP hD hS (lv_sub hl [1, 0] rfl)
        · have h := Ho_t h q42
          refine lv_aload_n hx hb dX1_list_45 rfl (lv_at hl 0 rfl) ?_
          refine lv_iload_n hx hb dX1_list_46 rfl (lv_at hl 1 rfl) ?_
          obtain ⟨ld_47, f_47, hc47, h⟩ := Ho_b2 h
          have hPc : va_P (dC, dI) vwCl [(h0, .inr (1, [.ref hc, .int kd, .ref ha, .int ldk])), (hc, .inr (0, [.int n, .int ev])), (ha, .inl (cI, 352, .inl fk))] H := hP.sub [0, 1, 2] rfl
          have hDc : va_D A [(h0, .inr (1, [.ref hc, .int kd, .ref ha, .int ldk])), (hc, .inr (0, [.int n, .int ev])), (ha, .inl (cI, 352, .inl fk))] := hD.sub [0, 1, 2] (by decide) rfl
          have hFc := va_free (wc := [(h0, .inr (1, [.ref hc, .int kd, .ref ha, .int ldk])), (hc, .inr (0, [.int n, .int ev])), (ha, .inl (cI, 352, .inl fk))]) hD hS hA [0, 1, 2] rfl
          refine va_callv (va_runV (As := [.int v1]) (rest := []) hfix (c_X1_keep l dC dI cI cJ h0 hc ha H.size kd ldk n ev fk v1 _ _ hc47) (cwV 1 hts gX1_list_X1_keep rfl rfl rfl (by decide +kernel) ⟨by decide, by decide⟩) (rwP.preV hK hPc hDc rfl (ci := 1) rfl rfl) rfl rfl hl.1 rfl (lv_room (Nat.le_of_ble_eq_true rfl)) dX1_list_47 ⟨Nat.zero_le _, Nat.zero_le _⟩) hS (fun q _ h => hFc q h) hFc (fun u t H1 locs ht hvm hw hB hz1 hk1 hS => ?_)
          obtain ⟨hP1, -, hD1⟩ := hB
          rw [ht] at hP1
          obtain ⟨hP, hD⟩ := va_join (wr := []) (w1 := [(h0, .inr (1, [.ref hc, .int kd, .ref ha, .int ld_47])), (hc, .inr (0, [.int n, .int ev])), (ha, .inl (cI, 352, .inl f_47))]) hP hD [0, 1, 2] [] rfl rfl (by decide) (by decide) hk1 hFc hP1 hD1
          generalize H1 = H at hP hS ⊢
          have hP : va_P (dC, dI) vwCl [(h0, .inr (1, [.ref hc, .int kd, .ref ha, .int ld_47])), (hc, .inr (0, [.int n, .int ev])), (ha, .inl (cI, 352, .inl f_47))] H := hP.sub [0, 1, 2] rfl
          have hD : va_D A [(h0, .inr (1, [.ref hc, .int kd, .ref ha, .int ld_47])), (hc, .inr (0, [.int n, .int ev])), (ha, .inl (cI, 352, .inl f_47))] := hD.sub [0, 1, 2] (by decide) rfl
          refine lv_iinc (v := v1 + 2) (lv' := [(1, .int (v1 + 2)), (0, .ref h0)]) hx hb dX1_list_50 hl (k := 1) rfl rfl (by decide) rfl (fun ls hl => ?_)
          refine lv_goto (tgt := 7) hx hb dX1_list_53 (by decide) ?_
          exact hi7 _ (Ho_s h) _ _ ls hP hD hS (lv_sub hl [1, 0] rfl)
  refine lv_aload_n hx hb dX1_list_0 rfl (lv_at hl 0 rfl) ?_
  refine lv_iconst (v := (0 : Int32)) hx hb dX1_list_1 (by decide) ?_
  obtain ⟨ld_2, f_2, hc2, h⟩ := Ho_b2 h
  have hPc : va_P (dC, dI) vwCl [(h0, .inr (1, [.ref hc, .int kd, .ref ha, .int ld])), (hc, .inr (0, [.int n, .int ev])), (ha, .inl (cI, 352, .inl f))] H := hP.sub [0, 1, 2] rfl
  have hDc : va_D A [(h0, .inr (1, [.ref hc, .int kd, .ref ha, .int ld])), (hc, .inr (0, [.int n, .int ev])), (ha, .inl (cI, 352, .inl f))] := hD.sub [0, 1, 2] (by decide) rfl
  have hFc := va_free (wc := [(h0, .inr (1, [.ref hc, .int kd, .ref ha, .int ld])), (hc, .inr (0, [.int n, .int ev])), (ha, .inl (cI, 352, .inl f))]) hD hS hA [0, 1, 2] rfl
  refine va_callv (va_runV (As := [.int (0 : Int32)]) (rest := []) hfix (c_X1_keep l dC dI cI cJ h0 hc ha H.size kd ld n ev f (0 : Int32) _ _ hc2) (cwV 1 hts gX1_list_X1_keep rfl rfl rfl (by decide +kernel) ⟨by decide, by decide⟩) (rwP.preV hK hPc hDc rfl (ci := 1) rfl rfl) rfl rfl hl.1 rfl (lv_room (Nat.le_of_ble_eq_true rfl)) dX1_list_2 ⟨Nat.zero_le _, Nat.zero_le _⟩) hS (fun q _ h => hFc q h) hFc (fun u t H1 locs ht hvm hw hB hz1 hk1 hS => ?_)
  obtain ⟨hP1, -, hD1⟩ := hB
  rw [ht] at hP1
  obtain ⟨hP, hD⟩ := va_join (wr := []) (w1 := [(h0, .inr (1, [.ref hc, .int kd, .ref ha, .int ld_2])), (hc, .inr (0, [.int n, .int ev])), (ha, .inl (cI, 352, .inl f_2))]) hP hD [0, 1, 2] [] rfl rfl (by decide) (by decide) hk1 hFc hP1 hD1
  generalize H1 = H at hP hS ⊢
  have hP : va_P (dC, dI) vwCl [(h0, .inr (1, [.ref hc, .int kd, .ref ha, .int ld_2])), (hc, .inr (0, [.int n, .int ev])), (ha, .inl (cI, 352, .inl f_2))] H := hP.sub [0, 1, 2] rfl
  have hD : va_D A [(h0, .inr (1, [.ref hc, .int kd, .ref ha, .int ld_2])), (hc, .inr (0, [.int n, .int ev])), (ha, .inl (cI, 352, .inl f_2))] := hD.sub [0, 1, 2] (by decide) rfl
  refine lv_iconst (v := (1 : Int32)) hx hb dX1_list_5 (by decide) ?_
  refine lv_istore_n (lv' := [(1, .int (1 : Int32)), (0, .ref h0)]) hx hb dX1_list_6 rfl hl (by decide) rfl (fun ls hl => ?_)
  exact J7 ld_2 f_2 (1 : Int32) _ _ ls hP hD hS (lv_sub hl [1, 0] rfl) h
abbrev rmX1_count : Room := { frames := 4, cells := 0, slots := 0, locals := 92 }
set_option maxHeartbeats 4000000 in
set_option maxRecDepth 100000 in
theorem c_X1_count (l : Launch) (dC : Nat → ClassId) (dI : Nat → Nat → Nat) (cI cJ : ClassId) (h0 hc ha : Nat) (sz : Nat) (kd : Int32) (ld : Int32) (n : Int32) (ev : Int32) (f : Nat → Int32) (r : Int32) (ld' : Int32) (f' : Nat → Int32) (hF : FX1_count kd ld n ev f = some (r, ld', f')) : Met l yX1_count wsX1_count rmX1_count (rwP (dC, dI) [(cI, .int), (cJ, .long)] sz [(h0, .inr (1, [.ref hc, .int kd, .ref ha, .int ld])), (hc, .inr (0, [.int n, .int ev])), (ha, .inl (cI, 352, .inl f))] [.ref h0]) (va_Qi (fun (x : Int32) (_ : Unit) => x = r) (fun _ t => va_P (dC, dI) vwCl [(h0, .inr (1, [.ref hc, .int kd, .ref ha, .int ld'])), (hc, .inr (0, [.int n, .int ev])), (ha, .inl (cI, 352, .inl f'))] t.heap ∧ vK (dC, dI) [(cI, .int), (cJ, .long)] t ∧ va_D (va_A [(h0, .inr (1, [.ref hc, .int kd, .ref ha, .int ld])), (hc, .inr (0, [.int n, .int ev])), (ha, .inl (cI, 352, .inl f))] sz) [(h0, .inr (1, [.ref hc, .int kd, .ref ha, .int ld'])), (hc, .inr (0, [.int n, .int ev])), (ha, .inl (cI, 352, .inl f'))]) (va_A [(h0, .inr (1, [.ref hc, .int kd, .ref ha, .int ld])), (hc, .inr (0, [.int n, .int ev])), (ha, .inl (cI, 352, .inl f))] sz)) 0 0 (va_A [(h0, .inr (1, [.ref hc, .int kd, .ref ha, .int ld])), (hc, .inr (0, [.int n, .int ev])), (ha, .inl (cI, 352, .inl f))] sz) := by
  refine rw_start (cc := cX1_count) (maxL := 1) (ret := (some .int)) (by decide) rfl (Nat.le_of_ble_eq_true rfl) ?_
  intro p e s m args below meth c ls A H locs hx hb hml hr hlk hown hts hsz hP hK hD hA hS hAe hl
  have hown : s.vm.findClass RX1 = some m.cls := hown
  have hl : lv_has ls 1 [(0, .ref h0)] := hl
  have h : Ho (FX1_count kd ld n ev f) (fun x => x = (r, ld', f')) := ⟨_, hF, rfl⟩
  unfold FX1_count at h
  have QI : ∀ {v0 : Int32} {ld9 : Int32} {f9 : Nat → Int32} {t : State}, (v0, ld9, f9) = (r, ld', f') → va_P (dC, dI) vwCl [(h0, .inr (1, [.ref hc, .int kd, .ref ha, .int ld9])), (hc, .inr (0, [.int n, .int ev])), (ha, .inl (cI, 352, .inl f9))] t.heap → vK (dC, dI) [(cI, .int), (cJ, .long)] t → va_D A [(h0, .inr (1, [.ref hc, .int kd, .ref ha, .int ld9])), (hc, .inr (0, [.int n, .int ev])), (ha, .inl (cI, 352, .inl f9))] → va_F A s t → (va_Qi (fun (x : Int32) (_ : Unit) => x = r) (fun _ t => va_P (dC, dI) vwCl [(h0, .inr (1, [.ref hc, .int kd, .ref ha, .int ld'])), (hc, .inr (0, [.int n, .int ev])), (ha, .inl (cI, 352, .inl f'))] t.heap ∧ vK (dC, dI) [(cI, .int), (cJ, .long)] t ∧ va_D (va_A [(h0, .inr (1, [.ref hc, .int kd, .ref ha, .int ld])), (hc, .inr (0, [.int n, .int ev])), (ha, .inl (cI, 352, .inl f))] sz) [(h0, .inr (1, [.ref hc, .int kd, .ref ha, .int ld'])), (hc, .inr (0, [.int n, .int ev])), (ha, .inl (cI, 352, .inl f'))]) (va_A [(h0, .inr (1, [.ref hc, .int kd, .ref ha, .int ld])), (hc, .inr (0, [.int n, .int ev])), (ha, .inl (cI, 352, .inl f))] sz)) args s (.returned (some (.int v0))) t := by
    intro v0 ld9 f9 t e9 q1 q2 q3 q4
    cases e9
    subst hAe
    exact ⟨⟨_, (), rfl, rfl, q1, q2, q3⟩, q4⟩
  have hfix : CallFix p m c cX1_count 1 s args wsX1_count RX1 := ⟨hx, hb, hml, hown, hts⟩
  have hiX1 : ∀ w ∈ u_ws RX1 TX1 4, w ∈ wsX1_count := by decide +kernel
  have hf23 := hts (.fieldLink RX1 23 "RowClasses$ClassList" "listed" "I") (by decide +kernel)
  have J11 : ∀ (ldk : Int32) (fk : Nat → Int32) (H : Heap) (locs : List Loc) (ls : Array Slot), va_P (dC, dI) vwCl [(h0, .inr (1, [.ref hc, .int kd, .ref ha, .int ldk])), (hc, .inr (0, [.int n, .int ev])), (ha, .inl (cI, 352, .inl fk))] H → va_D A [(h0, .inr (1, [.ref hc, .int kd, .ref ha, .int ldk])), (hc, .inr (0, [.int n, .int ev])), (ha, .inl (cI, 352, .inl fk))] → va_S A s.heap H locs → lv_has ls 1 [(0, .ref h0)] → Ho (X1_count_11 ldk fk) (fun x => x = (r, ld', f')) → W p l e rmX1_count s m args below meth c H locs 0 0 (MQ below (va_Qi (fun (x : Int32) (_ : Unit) => x = r) (fun _ t => va_P (dC, dI) vwCl [(h0, .inr (1, [.ref hc, .int kd, .ref ha, .int ld'])), (hc, .inr (0, [.int n, .int ev])), (ha, .inl (cI, 352, .inl f'))] t.heap ∧ vK (dC, dI) [(cI, .int), (cJ, .long)] t ∧ va_D (va_A [(h0, .inr (1, [.ref hc, .int kd, .ref ha, .int ld])), (hc, .inr (0, [.int n, .int ev])), (ha, .inl (cI, 352, .inl f))] sz) [(h0, .inr (1, [.ref hc, .int kd, .ref ha, .int ld'])), (hc, .inr (0, [.int n, .int ev])), (ha, .inl (cI, 352, .inl f'))]) (va_A [(h0, .inr (1, [.ref hc, .int kd, .ref ha, .int ld])), (hc, .inr (0, [.int n, .int ev])), (ha, .inl (cI, 352, .inl f))] sz)) args s 0 0 A) (F0 m 11 ls []) := by
    intro ldk fk H locs ls hP hD hS hl h
    unfold X1_count_11 at h
    refine lv_aload_n hx hb dX1_count_11 rfl (lv_at hl 0 rfl) ?_
    refine va_get (D := (dC, dI)) (ci := 1) (v := .int ldk) (C := RX1) (T := TX1) (N := 4) hx hb hts hiX1 hown hK.1 hP 0 rfl rfl 3 (by decide) hf23 (fun _ h9 => h9) rfl dX1_count_12 ?_
    exact W.iret hx hb hr (fun t ht hW => QI (Ho_e h) (by rw [ht]; exact hP) (hK.warm hW) hD (hS.F ht)) hS.2.2 dX1_count_15 hlk
  refine lv_aload_n hx hb dX1_count_0 rfl (lv_at hl 0 rfl) ?_
  refine va_get (D := (dC, dI)) (ci := 1) (v := .int ld) (C := RX1) (T := TX1) (N := 4) hx hb hts hiX1 hown hK.1 hP 0 rfl rfl 3 (by decide) hf23 (fun _ h9 => h9) rfl dX1_count_1 ?_
  refine lv_if_ne (tgt := 11) hx hb dX1_count_4 (by decide) (fun q4 => ?_) (fun q4 => ?_)
  · have h := Ho_f h q4
    exact J11 ld f _ _ ls hP hD hS (lv_sub hl [0] rfl) h
  · have h := Ho_t h q4
    refine lv_aload_n hx hb dX1_count_7 rfl (lv_at hl 0 rfl) ?_
    obtain ⟨ld_8, f_8, hc8, h⟩ := Ho_b2 h
    have hPc : va_P (dC, dI) vwCl [(h0, .inr (1, [.ref hc, .int kd, .ref ha, .int ld])), (hc, .inr (0, [.int n, .int ev])), (ha, .inl (cI, 352, .inl f))] H := hP.sub [0, 1, 2] rfl
    have hDc : va_D A [(h0, .inr (1, [.ref hc, .int kd, .ref ha, .int ld])), (hc, .inr (0, [.int n, .int ev])), (ha, .inl (cI, 352, .inl f))] := hD.sub [0, 1, 2] (by decide) rfl
    have hFc := va_free (wc := [(h0, .inr (1, [.ref hc, .int kd, .ref ha, .int ld])), (hc, .inr (0, [.int n, .int ev])), (ha, .inl (cI, 352, .inl f))]) hD hS hA [0, 1, 2] rfl
    refine va_callv (va_runV (As := []) (rest := []) hfix (c_X1_list l dC dI cI cJ h0 hc ha H.size kd ld n ev f _ _ hc8) (cwV 0 hts gX1_count_X1_list rfl rfl rfl (by decide +kernel) ⟨by decide, by decide⟩) (rwP.preV hK hPc hDc rfl (ci := 1) rfl rfl) rfl rfl hl.1 rfl (lv_room (Nat.le_of_ble_eq_true rfl)) dX1_count_8 ⟨Nat.zero_le _, Nat.zero_le _⟩) hS (fun q _ h => hFc q h) hFc (fun u t H1 locs ht hvm hw hB hz1 hk1 hS => ?_)
    obtain ⟨hP1, -, hD1⟩ := hB
    rw [ht] at hP1
    obtain ⟨hP, hD⟩ := va_join (wr := []) (w1 := [(h0, .inr (1, [.ref hc, .int kd, .ref ha, .int ld_8])), (hc, .inr (0, [.int n, .int ev])), (ha, .inl (cI, 352, .inl f_8))]) hP hD [0, 1, 2] [] rfl rfl (by decide) (by decide) hk1 hFc hP1 hD1
    generalize H1 = H at hP hS ⊢
    have hP : va_P (dC, dI) vwCl [(h0, .inr (1, [.ref hc, .int kd, .ref ha, .int ld_8])), (hc, .inr (0, [.int n, .int ev])), (ha, .inl (cI, 352, .inl f_8))] H := hP.sub [0, 1, 2] rfl
    have hD : va_D A [(h0, .inr (1, [.ref hc, .int kd, .ref ha, .int ld_8])), (hc, .inr (0, [.int n, .int ev])), (ha, .inl (cI, 352, .inl f_8))] := hD.sub [0, 1, 2] (by decide) rfl
    exact J11 ld_8 f_8 _ _ ls hP hD hS (lv_sub hl [0] rfl) h
abbrev rmX1_at : Room := { frames := 0, cells := 0, slots := 0, locals := 0 }
set_option maxHeartbeats 4000000 in
set_option maxRecDepth 100000 in
theorem c_X1_at (l : Launch) (dC : Nat → ClassId) (dI : Nat → Nat → Nat) (cI cJ : ClassId) (h0 hc ha : Nat) (kd : Int32) (ld : Int32) (n : Int32) (ev : Int32) (f : Nat → Int32) (x1 : Int32) (r : Int32) (hF : FX1_at ld f x1 = some r) : Met l yX1_at wsX1_at rmX1_at (roP (dC, dI) [(cI, .int), (cJ, .long)] [(h0, .inr (1, [.ref hc, .int kd, .ref ha, .int ld])), (hc, .inr (0, [.int n, .int ev])), (ha, .inl (cI, 352, .inl f))] [.ref h0, .int x1]) (vp_Si (fun x => x = r)) 0 0 (fun _ => False) := by
  refine ro_start (cc := cX1_at) (maxL := 2) (ret := (some .int)) (by decide) rfl (Nat.le_of_ble_eq_true rfl) ?_
  intro p e s m args below meth c ls hx hb hml hr hlk hown hts hP hK hl
  have hown : s.vm.findClass RX1 = some m.cls := hown
  have hl : lv_has ls 2 [(0, .ref h0), (1, .int x1)] := hl
  have h : Ho (FX1_at ld f x1) (fun x => x = r) := ⟨r, hF, rfl⟩
  unfold FX1_at at h
  have hfix : CallFix p m c cX1_at 2 s args wsX1_at RX1 := ⟨hx, hb, hml, hown, hts⟩
  have hiX1 : ∀ w ∈ u_ws RX1 TX1 4, w ∈ wsX1_at := by decide +kernel
  have hf19 := hts (.fieldLink RX1 19 "RowClasses$ClassList" "leasts" "[I") (by decide +kernel)
  have hf23 := hts (.fieldLink RX1 23 "RowClasses$ClassList" "listed" "I") (by decide +kernel)
  refine lv_iload_n hx hb dX1_at_0 rfl (lv_at hl 1 rfl) ?_
  refine lv_if_lt (tgt := 28) hx hb dX1_at_1 (by decide) (fun q1 => ?_) (fun q1 => ?_)
  · have h := Ho_t h q1
    refine lv_iconst (v := (0 : Int32)) hx hb dX1_at_28 (by decide) ?_
    exact W.iret hx hb hr (fun t ht _ => ro_Si (Ho_e h) ht) ro_nil dX1_at_29 hlk
  · have h := Ho_f h q1
    refine lv_iload_n hx hb dX1_at_4 rfl (lv_at hl 1 rfl) ?_
    refine lv_aload_n hx hb dX1_at_5 rfl (lv_at hl 0 rfl) ?_
    refine va_get (D := (dC, dI)) (ci := 1) (v := .int ld) (C := RX1) (T := TX1) (N := 4) hx hb hts hiX1 hown hK.1 hP 0 rfl rfl 3 (by decide) hf23 (fun _ h9 => h9) rfl dX1_at_6 ?_
    refine lv_icmp_ge (tgt := 28) hx hb dX1_at_9 (by decide) (fun q9 => ?_) (fun q9 => ?_)
    · have h := Ho_t h q9
      refine lv_iconst (v := (0 : Int32)) hx hb dX1_at_28 (by decide) ?_
      exact W.iret hx hb hr (fun t ht _ => ro_Si (Ho_e h) ht) ro_nil dX1_at_29 hlk
    · have h := Ho_f h q9
      refine lv_iload_n hx hb dX1_at_12 rfl (lv_at hl 1 rfl) ?_
      refine lv_sipush (v := (352 : Int32)) hx hb dX1_at_13 (by decide) ?_
      refine lv_icmp_ge (tgt := 28) hx hb dX1_at_16 (by decide) (fun q16 => ?_) (fun q16 => ?_)
      · have h := Ho_t h q16
        refine lv_iconst (v := (0 : Int32)) hx hb dX1_at_28 (by decide) ?_
        exact W.iret hx hb hr (fun t ht _ => ro_Si (Ho_e h) ht) ro_nil dX1_at_29 hlk
      · have h := Ho_f h q16
        refine lv_aload_n hx hb dX1_at_19 rfl (lv_at hl 0 rfl) ?_
        refine va_get (D := (dC, dI)) (ci := 1) (v := .ref ha) (C := RX1) (T := TX1) (N := 4) hx hb hts hiX1 hown hK.1 hP 0 rfl rfl 2 (by decide) hf19 (fun _ h9 => h9) rfl dX1_at_20 ?_
        refine lv_iload_n hx hb dX1_at_23 rfl (lv_at hl 1 rfl) ?_
        obtain ⟨hz24, h⟩ := Ho_ix h
        refine va_iald hx hb hK.1 hP 2 0 rfl rfl hz24 dX1_at_24 ?_
        refine lv_goto (tgt := 29) hx hb dX1_at_25 (by decide) ?_
        exact W.iret hx hb hr (fun t ht _ => ro_Si (Ho_e h) ht) ro_nil dX1_at_29 hlk
abbrev rmX1_countOfSize : Room := { frames := 5, cells := 0, slots := 0, locals := 112 }
set_option maxHeartbeats 4000000 in
set_option maxRecDepth 100000 in
theorem c_X1_countOfSize (l : Launch) (dC : Nat → ClassId) (dI : Nat → Nat → Nat) (cI cJ : ClassId) (h0 hc ha : Nat) (sz : Nat) (kd : Int32) (ld : Int32) (n : Int32) (ev : Int32) (f : Nat → Int32) (x1 : Int32) (r : Int32) (ld' : Int32) (f' : Nat → Int32) (hF : FX1_countOfSize kd ld n ev f x1 = some (r, ld', f')) : Met l yX1_countOfSize wsX1_countOfSize rmX1_countOfSize (rwP (dC, dI) [(cI, .int), (cJ, .long)] sz [(h0, .inr (1, [.ref hc, .int kd, .ref ha, .int ld])), (hc, .inr (0, [.int n, .int ev])), (ha, .inl (cI, 352, .inl f))] [.ref h0, .int x1]) (va_Qi (fun (x : Int32) (_ : Unit) => x = r) (fun _ t => va_P (dC, dI) vwCl [(h0, .inr (1, [.ref hc, .int kd, .ref ha, .int ld'])), (hc, .inr (0, [.int n, .int ev])), (ha, .inl (cI, 352, .inl f'))] t.heap ∧ vK (dC, dI) [(cI, .int), (cJ, .long)] t ∧ va_D (va_A [(h0, .inr (1, [.ref hc, .int kd, .ref ha, .int ld])), (hc, .inr (0, [.int n, .int ev])), (ha, .inl (cI, 352, .inl f))] sz) [(h0, .inr (1, [.ref hc, .int kd, .ref ha, .int ld'])), (hc, .inr (0, [.int n, .int ev])), (ha, .inl (cI, 352, .inl f'))]) (va_A [(h0, .inr (1, [.ref hc, .int kd, .ref ha, .int ld])), (hc, .inr (0, [.int n, .int ev])), (ha, .inl (cI, 352, .inl f))] sz)) 0 0 (va_A [(h0, .inr (1, [.ref hc, .int kd, .ref ha, .int ld])), (hc, .inr (0, [.int n, .int ev])), (ha, .inl (cI, 352, .inl f))] sz) := by
  refine rw_start (cc := cX1_countOfSize) (maxL := 5) (ret := (some .int)) (by decide) rfl (Nat.le_of_ble_eq_true rfl) ?_
  intro p e s m args below meth c ls A H locs hx hb hml hr hlk hown hts hsz hP hK hD hA hS hAe hl
  have hown : s.vm.findClass RX1 = some m.cls := hown
  have hl : lv_has ls 5 [(0, .ref h0), (1, .int x1)] := hl
  have h : Ho (FX1_countOfSize kd ld n ev f x1) (fun x => x = (r, ld', f')) := ⟨_, hF, rfl⟩
  unfold FX1_countOfSize at h
  have QI : ∀ {v0 : Int32} {ld9 : Int32} {f9 : Nat → Int32} {t : State}, (v0, ld9, f9) = (r, ld', f') → va_P (dC, dI) vwCl [(h0, .inr (1, [.ref hc, .int kd, .ref ha, .int ld9])), (hc, .inr (0, [.int n, .int ev])), (ha, .inl (cI, 352, .inl f9))] t.heap → vK (dC, dI) [(cI, .int), (cJ, .long)] t → va_D A [(h0, .inr (1, [.ref hc, .int kd, .ref ha, .int ld9])), (hc, .inr (0, [.int n, .int ev])), (ha, .inl (cI, 352, .inl f9))] → va_F A s t → (va_Qi (fun (x : Int32) (_ : Unit) => x = r) (fun _ t => va_P (dC, dI) vwCl [(h0, .inr (1, [.ref hc, .int kd, .ref ha, .int ld'])), (hc, .inr (0, [.int n, .int ev])), (ha, .inl (cI, 352, .inl f'))] t.heap ∧ vK (dC, dI) [(cI, .int), (cJ, .long)] t ∧ va_D (va_A [(h0, .inr (1, [.ref hc, .int kd, .ref ha, .int ld])), (hc, .inr (0, [.int n, .int ev])), (ha, .inl (cI, 352, .inl f))] sz) [(h0, .inr (1, [.ref hc, .int kd, .ref ha, .int ld'])), (hc, .inr (0, [.int n, .int ev])), (ha, .inl (cI, 352, .inl f'))]) (va_A [(h0, .inr (1, [.ref hc, .int kd, .ref ha, .int ld])), (hc, .inr (0, [.int n, .int ev])), (ha, .inl (cI, 352, .inl f))] sz)) args s (.returned (some (.int v0))) t := by
    intro v0 ld9 f9 t e9 q1 q2 q3 q4
    cases e9
    subst hAe
    exact ⟨⟨_, (), rfl, rfl, q1, q2, q3⟩, q4⟩
  have hfix : CallFix p m c cX1_countOfSize 5 s args wsX1_countOfSize RX1 := ⟨hx, hb, hml, hown, hts⟩
  have J38 : ∀ (ldk : Int32) (fk : Nat → Int32) (v2 : Int32) (H : Heap) (locs : List Loc) (ls : Array Slot), va_P (dC, dI) vwCl [(h0, .inr (1, [.ref hc, .int kd, .ref ha, .int ldk])), (hc, .inr (0, [.int n, .int ev])), (ha, .inl (cI, 352, .inl fk))] H → va_D A [(h0, .inr (1, [.ref hc, .int kd, .ref ha, .int ldk])), (hc, .inr (0, [.int n, .int ev])), (ha, .inl (cI, 352, .inl fk))] → va_S A s.heap H locs → lv_has ls 5 [(2, .int v2)] → Ho (X1_countOfSize_38 ldk fk v2) (fun x => x = (r, ld', f')) → W p l e rmX1_countOfSize s m args below meth c H locs 0 0 (MQ below (va_Qi (fun (x : Int32) (_ : Unit) => x = r) (fun _ t => va_P (dC, dI) vwCl [(h0, .inr (1, [.ref hc, .int kd, .ref ha, .int ld'])), (hc, .inr (0, [.int n, .int ev])), (ha, .inl (cI, 352, .inl f'))] t.heap ∧ vK (dC, dI) [(cI, .int), (cJ, .long)] t ∧ va_D (va_A [(h0, .inr (1, [.ref hc, .int kd, .ref ha, .int ld])), (hc, .inr (0, [.int n, .int ev])), (ha, .inl (cI, 352, .inl f))] sz) [(h0, .inr (1, [.ref hc, .int kd, .ref ha, .int ld'])), (hc, .inr (0, [.int n, .int ev])), (ha, .inl (cI, 352, .inl f'))]) (va_A [(h0, .inr (1, [.ref hc, .int kd, .ref ha, .int ld])), (hc, .inr (0, [.int n, .int ev])), (ha, .inl (cI, 352, .inl f))] sz)) args s 0 0 A) (F0 m 38 ls []) := by
    intro ldk fk v2 H locs ls hP hD hS hl h
    unfold X1_countOfSize_38 at h
    refine lv_iload_n hx hb dX1_countOfSize_38 rfl (lv_at hl 0 rfl) ?_
    exact W.iret hx hb hr (fun t ht hW => QI (Ho_e h) (by rw [ht]; exact hP) (hK.warm hW) hD (hS.F ht)) hS.2.2 dX1_countOfSize_39 hlk
  have J10 : ∀ (ldk : Int32) (fk : Nat → Int32) (v2 : Int32) (v3 : Int32) (v4 : Int32) (H : Heap) (locs : List Loc) (ls : Array Slot), va_P (dC, dI) vwCl [(h0, .inr (1, [.ref hc, .int kd, .ref ha, .int ldk])), (hc, .inr (0, [.int n, .int ev])), (ha, .inl (cI, 352, .inl fk))] H → va_D A [(h0, .inr (1, [.ref hc, .int kd, .ref ha, .int ldk])), (hc, .inr (0, [.int n, .int ev])), (ha, .inl (cI, 352, .inl fk))] → va_S A s.heap H locs → lv_has ls 5 [(0, .ref h0), (1, .int x1), (2, .int v2), (3, .int v3), (4, .int v4)] → Ho ((X1_countOfSize_10_l x1 ldk fk v3 v2 v4).bind (fun ex => X1_countOfSize_38 ldk fk ex)) (fun x => x = (r, ld', f')) → W p l e rmX1_countOfSize s m args below meth c H locs 0 0 (MQ below (va_Qi (fun (x : Int32) (_ : Unit) => x = r) (fun _ t => va_P (dC, dI) vwCl [(h0, .inr (1, [.ref hc, .int kd, .ref ha, .int ld'])), (hc, .inr (0, [.int n, .int ev])), (ha, .inl (cI, 352, .inl f'))] t.heap ∧ vK (dC, dI) [(cI, .int), (cJ, .long)] t ∧ va_D (va_A [(h0, .inr (1, [.ref hc, .int kd, .ref ha, .int ld])), (hc, .inr (0, [.int n, .int ev])), (ha, .inl (cI, 352, .inl f))] sz) [(h0, .inr (1, [.ref hc, .int kd, .ref ha, .int ld'])), (hc, .inr (0, [.int n, .int ev])), (ha, .inl (cI, 352, .inl f'))]) (va_A [(h0, .inr (1, [.ref hc, .int kd, .ref ha, .int ld])), (hc, .inr (0, [.int n, .int ev])), (ha, .inl (cI, 352, .inl f))] sz)) args s 0 0 A) (F0 m 10 ls []) := by
    intro ldk fk v2 v3 v4 H locs ls hP hD hS hl h
    refine loop_use2 (fun z : Int32 × Int32 => ∀ (H : Heap) (locs : List Loc) (ls : Array Slot), va_P (dC, dI) vwCl [(h0, .inr (1, [.ref hc, .int kd, .ref ha, .int ldk])), (hc, .inr (0, [.int n, .int ev])), (ha, .inl (cI, 352, .inl fk))] H → va_D A [(h0, .inr (1, [.ref hc, .int kd, .ref ha, .int ldk])), (hc, .inr (0, [.int n, .int ev])), (ha, .inl (cI, 352, .inl fk))] → va_S A s.heap H locs → lv_has ls 5 [(0, .ref h0), (1, .int x1), (2, .int z.1), (3, .int v3), (4, .int z.2)] → W p l e rmX1_countOfSize s m args below meth c H locs 0 0 (MQ below (va_Qi (fun (x : Int32) (_ : Unit) => x = r) (fun _ t => va_P (dC, dI) vwCl [(h0, .inr (1, [.ref hc, .int kd, .ref ha, .int ld'])), (hc, .inr (0, [.int n, .int ev])), (ha, .inl (cI, 352, .inl f'))] t.heap ∧ vK (dC, dI) [(cI, .int), (cJ, .long)] t ∧ va_D (va_A [(h0, .inr (1, [.ref hc, .int kd, .ref ha, .int ld])), (hc, .inr (0, [.int n, .int ev])), (ha, .inl (cI, 352, .inl f))] sz) [(h0, .inr (1, [.ref hc, .int kd, .ref ha, .int ld'])), (hc, .inr (0, [.int n, .int ev])), (ha, .inl (cI, 352, .inl f'))]) (va_A [(h0, .inr (1, [.ref hc, .int kd, .ref ha, .int ld])), (hc, .inr (0, [.int n, .int ev])), (ha, .inl (cI, 352, .inl f))] sz)) args s 0 0 A) (F0 m 10 ls [])) ?_ FU _ h H locs ls hP hD hS hl
    intro Q10 hi10 ho10 z h H locs ls hP hD hS hl
    obtain ⟨v2, v4⟩ := z
    have h : Ho (X1_countOfSize_10_s x1 ldk fk v3 v2 v4) Q10 := h
    unfold X1_countOfSize_10_s at h
    have hl : lv_has ls 5 [(0, .ref h0), (1, .int x1), (2, .int v2), (3, .int v3), (4, .int v4)] := hl
    have hP : va_P (dC, dI) vwCl [(h0, .inr (1, [.ref hc, .int kd, .ref ha, .int ldk])), (hc, .inr (0, [.int n, .int ev])), (ha, .inl (cI, 352, .inl fk))] H := hP
    have hD : va_D A [(h0, .inr (1, [.ref hc, .int kd, .ref ha, .int ldk])), (hc, .inr (0, [.int n, .int ev])), (ha, .inl (cI, 352, .inl fk))] := hD
    refine lv_iload hx hb dX1_countOfSize_10 (lv_at hl 4 rfl) ?_
    refine lv_iload_n hx hb dX1_countOfSize_12 rfl (lv_at hl 3 rfl) ?_
    refine lv_icmp_ge (tgt := 38) hx hb dX1_countOfSize_13 (by decide) (fun q13 => ?_) (fun q13 => ?_)
    · have h := Ho_t h q13
      have h := ho10 _ (Ho_s h)
      exact J38 ldk fk v2 _ _ ls hP hD hS (lv_sub hl [2] rfl) h
    · have h := Ho_f h q13
      refine lv_aload_n hx hb dX1_countOfSize_16 rfl (lv_at hl 0 rfl) ?_
      refine lv_iload hx hb dX1_countOfSize_17 (lv_at hl 4 rfl) ?_
      obtain ⟨r19, hc19, h⟩ := Ho_b h
      have hPc : va_P (dC, dI) vwCl [(h0, .inr (1, [.ref hc, .int kd, .ref ha, .int ldk])), (hc, .inr (0, [.int n, .int ev])), (ha, .inl (cI, 352, .inl fk))] H := hP.sub [0, 1, 2] rfl
      refine cs_i (va_runV (As := [.int v4]) (rest := []) hfix (c_X1_at l dC dI cI cJ h0 hc ha kd ldk n ev fk v4 _ hc19) (cwV 1 hts gX1_countOfSize_X1_at rfl rfl rfl (by decide +kernel) ⟨by decide, by decide⟩) (roP.preV hK hPc (ci := 1) rfl rfl) rfl rfl hl.1 rfl (lv_room (Nat.le_of_ble_eq_true rfl)) dX1_countOfSize_19 ⟨Nat.zero_le _, Nat.zero_le _⟩) ?_
      obtain ⟨r22, hc22, h⟩ := Ho_b h
      refine cs_i (va_runS (As := [.int r19]) (rest := []) hfix (c_J6_bitCount_0f7a4 l dC dI cI cJ  r19 _ hc22) (va_cwS 1 hts gX1_countOfSize_J6_bitCount_0f7a4 rfl rfl rfl (by decide +kernel) ⟨by decide, by decide⟩) (roP.preS hK va_Pnil) rfl rfl hl.1 rfl (lv_room (Nat.le_of_ble_eq_true rfl)) dX1_countOfSize_22 ⟨Nat.zero_le _, Nat.zero_le _⟩) ?_
      refine lv_iload_n hx hb dX1_countOfSize_25 rfl (lv_at hl 1 rfl) ?_
      refine lv_icmp_ne (tgt := 32) hx hb dX1_countOfSize_26 (by decide) (fun q26 => ?_) (fun q26 => ?_)
      · have h := Ho_f h q26
        refine lv_iinc (v := v4 + 1) (lv' := [(4, .int (v4 + 1)), (0, .ref h0), (1, .int x1), (2, .int v2), (3, .int v3)]) hx hb dX1_countOfSize_32 hl (k := 4) rfl rfl (by decide) rfl (fun ls hl => ?_)
        refine lv_goto (tgt := 10) hx hb dX1_countOfSize_35 (by decide) ?_
        exact hi10 _ (Ho_s h) _ _ ls hP hD hS (lv_sub hl [1, 2, 3, 4, 0] rfl)
      · have h := Ho_t h q26
        refine lv_iinc (v := v2 + 1) (lv' := [(2, .int (v2 + 1)), (0, .ref h0), (1, .int x1), (3, .int v3), (4, .int v4)]) hx hb dX1_countOfSize_29 hl (k := 2) rfl rfl (by decide) rfl (fun ls hl => ?_)
        refine lv_iinc (v := v4 + 1) (lv' := [(4, .int (v4 + 1)), (2, .int (v2 + 1)), (0, .ref h0), (1, .int x1), (3, .int v3)]) hx hb dX1_countOfSize_32 hl (k := 4) rfl rfl (by decide) rfl (fun ls hl => ?_)
        refine lv_goto (tgt := 10) hx hb dX1_countOfSize_35 (by decide) ?_
        exact hi10 _ (Ho_s h) _ _ ls hP hD hS (lv_sub hl [2, 3, 1, 4, 0] rfl)
  refine lv_iconst (v := (0 : Int32)) hx hb dX1_countOfSize_0 (by decide) ?_
  refine lv_istore_n (lv' := [(2, .int (0 : Int32)), (0, .ref h0), (1, .int x1)]) hx hb dX1_countOfSize_1 rfl hl (by decide) rfl (fun ls hl => ?_)
  refine lv_aload_n hx hb dX1_countOfSize_2 rfl (lv_at hl 1 rfl) ?_
  obtain ⟨r3, ld_3, f_3, hc3, h⟩ := Ho_b3 h
  have hPc : va_P (dC, dI) vwCl [(h0, .inr (1, [.ref hc, .int kd, .ref ha, .int ld])), (hc, .inr (0, [.int n, .int ev])), (ha, .inl (cI, 352, .inl f))] H := hP.sub [0, 1, 2] rfl
  have hDc : va_D A [(h0, .inr (1, [.ref hc, .int kd, .ref ha, .int ld])), (hc, .inr (0, [.int n, .int ev])), (ha, .inl (cI, 352, .inl f))] := hD.sub [0, 1, 2] (by decide) rfl
  have hFc := va_free (wc := [(h0, .inr (1, [.ref hc, .int kd, .ref ha, .int ld])), (hc, .inr (0, [.int n, .int ev])), (ha, .inl (cI, 352, .inl f))]) hD hS hA [0, 1, 2] rfl
  refine va_calli (va_runV (As := []) (rest := []) hfix (c_X1_count l dC dI cI cJ h0 hc ha H.size kd ld n ev f _ _ _ hc3) (cwV 0 hts gX1_countOfSize_X1_count rfl rfl rfl (by decide +kernel) ⟨by decide, by decide⟩) (rwP.preV hK hPc hDc rfl (ci := 1) rfl rfl) rfl rfl hl.1 rfl (lv_room (Nat.le_of_ble_eq_true rfl)) dX1_countOfSize_3 ⟨Nat.zero_le _, Nat.zero_le _⟩) hS (fun q _ h => hFc q h) hFc (fun y3 u t H1 locs ht hvm hw hB hz1 hk1 hS => ?_)
  obtain ⟨hP1, -, hD1⟩ := hB
  rw [ht] at hP1
  have hw : y3 = r3 := hw
  rw [hw]
  obtain ⟨hP, hD⟩ := va_join (wr := []) (w1 := [(h0, .inr (1, [.ref hc, .int kd, .ref ha, .int ld_3])), (hc, .inr (0, [.int n, .int ev])), (ha, .inl (cI, 352, .inl f_3))]) hP hD [0, 1, 2] [] rfl rfl (by decide) (by decide) hk1 hFc hP1 hD1
  generalize H1 = H at hP hS ⊢
  have hP : va_P (dC, dI) vwCl [(h0, .inr (1, [.ref hc, .int kd, .ref ha, .int ld_3])), (hc, .inr (0, [.int n, .int ev])), (ha, .inl (cI, 352, .inl f_3))] H := hP.sub [0, 1, 2] rfl
  have hD : va_D A [(h0, .inr (1, [.ref hc, .int kd, .ref ha, .int ld_3])), (hc, .inr (0, [.int n, .int ev])), (ha, .inl (cI, 352, .inl f_3))] := hD.sub [0, 1, 2] (by decide) rfl
  refine lv_istore_n (lv' := [(3, .int r3), (2, .int (0 : Int32)), (0, .ref h0), (1, .int x1)]) hx hb dX1_countOfSize_6 rfl hl (by decide) rfl (fun ls hl => ?_)
  refine lv_iconst (v := (0 : Int32)) hx hb dX1_countOfSize_7 (by decide) ?_
  refine lv_istore (lv' := [(4, .int (0 : Int32)), (3, .int r3), (2, .int (0 : Int32)), (0, .ref h0), (1, .int x1)]) hx hb dX1_countOfSize_8 hl (by decide) rfl (fun ls hl => ?_)
  exact J10 ld_3 f_3 (0 : Int32) r3 (0 : Int32) _ _ ls hP hD hS (lv_sub hl [3, 4, 2, 1, 0] rfl) h
