abbrev rmX4_countFor : Room := { frames := 14, cells := 0, slots := 0, locals := 389 }
set_option maxHeartbeats 4000000 in
set_option maxRecDepth 100000 in
theorem c_X4_countFor (l : Launch) (dC : Nat → ClassId) (dI : Nat → Nat → Nat) (cI cJ : ClassId) (h0 ha : Nat) (sz : Nat) (f : Nat → Int32) (x1 : Int32) (r : Int32) (f' : Nat → Int32) (hF : FX4_countFor f x1 = some (r, f')) : Met l yX4_countFor wsX4_countFor rmX4_countFor (rwP (dC, dI) [(cI, .int), (cJ, .long)] sz [(h0, .inr (4, [.ref ha])), (ha, .inl (cI, 13, .inl f))] [.ref h0, .int x1]) (va_Qi (fun (x : Int32) (_ : Unit) => x = r) (fun _ t => va_P (dC, dI) vwCl [(h0, .inr (4, [.ref ha])), (ha, .inl (cI, 13, .inl f'))] t.heap ∧ vK (dC, dI) [(cI, .int), (cJ, .long)] t ∧ va_D (va_A [(h0, .inr (4, [.ref ha])), (ha, .inl (cI, 13, .inl f))] sz) [(h0, .inr (4, [.ref ha])), (ha, .inl (cI, 13, .inl f'))]) (va_A [(h0, .inr (4, [.ref ha])), (ha, .inl (cI, 13, .inl f))] sz)) 0 0 (va_A [(h0, .inr (4, [.ref ha])), (ha, .inl (cI, 13, .inl f))] sz) := by
  refine rw_start (cc := cX4_countFor) (maxL := 2) (ret := (some .int)) (by decide) rfl (Nat.le_of_ble_eq_true rfl) ?_
  intro p e s m args below meth c ls A H locs hx hb hml hr hlk hown hts hsz hP hK hD hA hS hAe hl
  have hown : s.vm.findClass RX4 = some m.cls := hown
  have hl : lv_has ls 2 [(0, .ref h0), (1, .int x1)] := hl
  have h : Ho (FX4_countFor f x1) (fun x => x = (r, f')) := ⟨_, hF, rfl⟩
  unfold FX4_countFor at h
  have QI : ∀ {v0 : Int32} {f9 : Nat → Int32} {t : State}, (v0, f9) = (r, f') → va_P (dC, dI) vwCl [(h0, .inr (4, [.ref ha])), (ha, .inl (cI, 13, .inl f9))] t.heap → vK (dC, dI) [(cI, .int), (cJ, .long)] t → va_D A [(h0, .inr (4, [.ref ha])), (ha, .inl (cI, 13, .inl f9))] → va_F A s t → (va_Qi (fun (x : Int32) (_ : Unit) => x = r) (fun _ t => va_P (dC, dI) vwCl [(h0, .inr (4, [.ref ha])), (ha, .inl (cI, 13, .inl f'))] t.heap ∧ vK (dC, dI) [(cI, .int), (cJ, .long)] t ∧ va_D (va_A [(h0, .inr (4, [.ref ha])), (ha, .inl (cI, 13, .inl f))] sz) [(h0, .inr (4, [.ref ha])), (ha, .inl (cI, 13, .inl f'))]) (va_A [(h0, .inr (4, [.ref ha])), (ha, .inl (cI, 13, .inl f))] sz)) args s (.returned (some (.int v0))) t := by
    intro v0 f9 t e9 q1 q2 q3 q4
    cases e9
    subst hAe
    exact ⟨⟨_, (), rfl, rfl, q1, q2, q3⟩, q4⟩
  have hfix : CallFix p m c cX4_countFor 2 s args wsX4_countFor RX4 := ⟨hx, hb, hml, hown, hts⟩
  have hiX4 : ∀ w ∈ u_ws RX4 TX4 1, w ∈ wsX4_countFor := by decide +kernel
  have hf9 := hts (.fieldLink RX4 9 "RowClasses$UnlikeRows" "counted" "[I") (by decide +kernel)
  have J50 : ∀ (fk : Nat → Int32) (H : Heap) (locs : List Loc) (ls : Array Slot), va_P (dC, dI) vwCl [(h0, .inr (4, [.ref ha])), (ha, .inl (cI, 13, .inl fk))] H → va_D A [(h0, .inr (4, [.ref ha])), (ha, .inl (cI, 13, .inl fk))] → va_S A s.heap H locs → lv_has ls 2 [(0, .ref h0), (1, .int x1)] → Ho (X4_countFor_50 x1 fk) (fun x => x = (r, f')) → W p l e rmX4_countFor s m args below meth c H locs 0 0 (MQ below (va_Qi (fun (x : Int32) (_ : Unit) => x = r) (fun _ t => va_P (dC, dI) vwCl [(h0, .inr (4, [.ref ha])), (ha, .inl (cI, 13, .inl f'))] t.heap ∧ vK (dC, dI) [(cI, .int), (cJ, .long)] t ∧ va_D (va_A [(h0, .inr (4, [.ref ha])), (ha, .inl (cI, 13, .inl f))] sz) [(h0, .inr (4, [.ref ha])), (ha, .inl (cI, 13, .inl f'))]) (va_A [(h0, .inr (4, [.ref ha])), (ha, .inl (cI, 13, .inl f))] sz)) args s 0 0 A) (F0 m 50 ls []) := by
    intro fk H locs ls hP hD hS hl h
    unfold X4_countFor_50 at h
    refine lv_aload_n hx hb dX4_countFor_50 rfl (lv_at hl 0 rfl) ?_
    refine va_get (D := (dC, dI)) (ci := 4) (v := .ref ha) (C := RX4) (T := TX4) (N := 1) hx hb hts hiX4 hown hK.1 hP 0 rfl rfl 0 (by decide) hf9 (fun _ h9 => h9) rfl dX4_countFor_51 ?_
    refine lv_iload_n hx hb dX4_countFor_54 rfl (lv_at hl 1 rfl) ?_
    obtain ⟨hz55, h⟩ := Ho_ix h
    refine va_iald hx hb hK.1 hP 1 0 rfl rfl hz55 dX4_countFor_55 ?_
    exact W.iret hx hb hr (fun t ht hW => QI (Ho_e h) (by rw [ht]; exact hP) (hK.warm hW) hD (hS.F ht)) hS.2.2 dX4_countFor_56 hlk
  refine lv_iload_n hx hb dX4_countFor_0 rfl (lv_at hl 1 rfl) ?_
  refine lv_iconst (v := (1 : Int32)) hx hb dX4_countFor_1 (by decide) ?_
  refine lv_icmp_lt (tgt := 11) hx hb dX4_countFor_2 (by decide) (fun q2 => ?_) (fun q2 => ?_)
  · have h := Ho_t h q2
    refine lv_iconst (v := (0 : Int32)) hx hb dX4_countFor_11 (by decide) ?_
    exact W.iret hx hb hr (fun t ht hW => QI (Ho_e h) (by rw [ht]; exact hP) (hK.warm hW) hD (hS.F ht)) hS.2.2 dX4_countFor_12 hlk
  · have h := Ho_f h q2
    refine lv_iload_n hx hb dX4_countFor_5 rfl (lv_at hl 1 rfl) ?_
    refine lv_bipush (v := (12 : Int32)) hx hb dX4_countFor_6 (by decide) ?_
    refine lv_icmp_le (tgt := 13) hx hb dX4_countFor_8 (by decide) (fun q8 => ?_) (fun q8 => ?_)
    · have h := Ho_t h q8
      refine lv_iload_n hx hb dX4_countFor_13 rfl (lv_at hl 1 rfl) ?_
      refine lv_iconst (v := (2 : Int32)) hx hb dX4_countFor_14 (by decide) ?_
      refine lv_irem hx hb dX4_countFor_15 (by decide) ?_
      refine lv_iconst (v := (1 : Int32)) hx hb dX4_countFor_16 (by decide) ?_
      refine lv_icmp_ne (tgt := 31) hx hb dX4_countFor_17 (by decide) (fun q17 => ?_) (fun q17 => ?_)
      · have h := Ho_f h q17
        refine lv_aload_n hx hb dX4_countFor_31 rfl (lv_at hl 0 rfl) ?_
        refine va_get (D := (dC, dI)) (ci := 4) (v := .ref ha) (C := RX4) (T := TX4) (N := 1) hx hb hts hiX4 hown hK.1 hP 0 rfl rfl 0 (by decide) hf9 (fun _ h9 => h9) rfl dX4_countFor_32 ?_
        refine lv_iload_n hx hb dX4_countFor_35 rfl (lv_at hl 1 rfl) ?_
        obtain ⟨hz36, h⟩ := Ho_ix h
        refine va_iald hx hb hK.1 hP 1 0 rfl rfl hz36 dX4_countFor_36 ?_
        refine lv_if_ne (tgt := 50) hx hb dX4_countFor_37 (by decide) (fun q37 => ?_) (fun q37 => ?_)
        · have h := Ho_f h q37
          exact J50 f _ _ ls hP hD hS (lv_sub hl [0, 1] rfl) h
        · have h := Ho_t h q37
          refine lv_aload_n hx hb dX4_countFor_40 rfl (lv_at hl 0 rfl) ?_
          refine va_get (D := (dC, dI)) (ci := 4) (v := .ref ha) (C := RX4) (T := TX4) (N := 1) hx hb hts hiX4 hown hK.1 hP 0 rfl rfl 0 (by decide) hf9 (fun _ h9 => h9) rfl dX4_countFor_41 ?_
          refine lv_iload_n hx hb dX4_countFor_44 rfl (lv_at hl 1 rfl) ?_
          refine lv_iload_n hx hb dX4_countFor_45 rfl (lv_at hl 1 rfl) ?_
          obtain ⟨r46, hc46, h⟩ := Ho_b h
          refine cs_i (va_runS (As := [.int x1]) (rest := [.int x1, .ref ha]) hfix (c_X4_search l dC dI cI cJ  x1 _ hc46) (va_cwS 1 hts gX4_countFor_X4_search rfl rfl rfl (by decide +kernel) ⟨by decide, by decide⟩) (roP.preS hK va_Pnil) rfl rfl hl.1 rfl (lv_room (Nat.le_of_ble_eq_true rfl)) dX4_countFor_46 ⟨Nat.zero_le _, Nat.zero_le _⟩) ?_
          obtain ⟨hz49, h⟩ := Ho_ix h
          refine va_iast hx hb hK.1 hP hD hS 1 0 rfl rfl hz49 dX4_countFor_49 (fun H locs hP hD hS => ?_)
          have hP : va_P (dC, dI) vwCl [(h0, .inr (4, [.ref ha])), (ha, .inl (cI, 13, .inl (upd f x1.toNatClampNeg r46)))] H := hP
          have hD : va_D A [(h0, .inr (4, [.ref ha])), (ha, .inl (cI, 13, .inl (upd f x1.toNatClampNeg r46)))] := hD
          exact J50 (upd f x1.toNatClampNeg r46) _ _ ls hP hD hS (lv_sub hl [0, 1] rfl) h
      · have h := Ho_t h q17
        refine lv_iload_n hx hb dX4_countFor_20 rfl (lv_at hl 1 rfl) ?_
        refine lv_iconst (v := (1 : Int32)) hx hb dX4_countFor_21 (by decide) ?_
        refine lv_icmp_ne (tgt := 29) hx hb dX4_countFor_22 (by decide) (fun q22 => ?_) (fun q22 => ?_)
        · have h := Ho_f h q22
          refine lv_iconst (v := (0 : Int32)) hx hb dX4_countFor_29 (by decide) ?_
          exact W.iret hx hb hr (fun t ht hW => QI (Ho_e h) (by rw [ht]; exact hP) (hK.warm hW) hD (hS.F ht)) hS.2.2 dX4_countFor_30 hlk
        · have h := Ho_t h q22
          refine lv_iconst (v := (1 : Int32)) hx hb dX4_countFor_25 (by decide) ?_
          refine lv_goto (tgt := 30) hx hb dX4_countFor_26 (by decide) ?_
          exact W.iret hx hb hr (fun t ht hW => QI (Ho_e h) (by rw [ht]; exact hP) (hK.warm hW) hD (hS.F ht)) hS.2.2 dX4_countFor_30 hlk
    · have h := Ho_f h q8
      refine lv_iconst (v := (0 : Int32)) hx hb dX4_countFor_11 (by decide) ?_
      exact W.iret hx hb hr (fun t ht hW => QI (Ho_e h) (by rw [ht]; exact hP) (hK.warm hW) hD (hS.F ht)) hS.2.2 dX4_countFor_12 hlk
