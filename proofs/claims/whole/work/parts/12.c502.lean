abbrev rmX5_twin : Room := { frames := 5, cells := 0, slots := 0, locals := 112 }
set_option maxHeartbeats 4000000 in
set_option maxRecDepth 100000 in
theorem c_X5_twin (l : Launch) (dC : Nat → ClassId) (dI : Nat → Nat → Nat) (cI cJ : ClassId) (ad : Nat → Nat) (sz : Nat) (n : Int32) (ev : Int32) (ld0 : Int32) (ld1 : Int32) (ld2 : Int32) (tk : Int32) (mb : Int32) (f0 : Nat → Int32) (f1 : Nat → Int32) (f2 : Nat → Int32) (fr : Nat → Int32) (fu : Nat → Int32) (x1 : Int32) (r : Int32) (ld1' : Int32) (f1' : Nat → Int32) (hF : FX5_twin n ev ld1 f1 x1 = some (r, ld1', f1')) : Met l yX5_twin wsX5_twin rmX5_twin (rwP (dC, dI) [(cI, .int), (cJ, .long)] sz (wX5 cI cJ ad n ev ld0 ld1 ld2 tk mb f0 f1 f2 fr fu) [.ref (ad 0), .int x1]) (va_Qi (fun (x : Int32) (_ : Unit) => x = r) (fun _ t => va_P (dC, dI) vwCl (wX5 cI cJ ad n ev ld0 ld1' ld2 tk mb f0 f1' f2 fr fu) t.heap ∧ vK (dC, dI) [(cI, .int), (cJ, .long)] t ∧ va_D (va_A (wX5 cI cJ ad n ev ld0 ld1 ld2 tk mb f0 f1 f2 fr fu) sz) (wX5 cI cJ ad n ev ld0 ld1' ld2 tk mb f0 f1' f2 fr fu)) (va_A (wX5 cI cJ ad n ev ld0 ld1 ld2 tk mb f0 f1 f2 fr fu) sz)) 0 0 (va_A (wX5 cI cJ ad n ev ld0 ld1 ld2 tk mb f0 f1 f2 fr fu) sz) := by
  refine rw_start (cc := cX5_twin) (maxL := 6) (ret := (some .int)) (by decide) rfl (Nat.le_of_ble_eq_true rfl) ?_
  intro p e s m args below meth c ls A H locs hx hb hml hr hlk hown hts hsz hP hK hD hA hS hAe hl
  have hown : s.vm.findClass RX5 = some m.cls := hown
  have hl : lv_has ls 6 [(0, .ref (ad 0)), (1, .int x1)] := hl
  have h : Ho (FX5_twin n ev ld1 f1 x1) (fun x => x = (r, ld1', f1')) := ⟨_, hF, rfl⟩
  unfold FX5_twin at h
  have QI : ∀ {v0 : Int32} {ld19 : Int32} {f19 : Nat → Int32} {t : State}, (v0, ld19, f19) = (r, ld1', f1') → va_P (dC, dI) vwCl (wX5 cI cJ ad n ev ld0 ld19 ld2 tk mb f0 f19 f2 fr fu) t.heap → vK (dC, dI) [(cI, .int), (cJ, .long)] t → va_D A (wX5 cI cJ ad n ev ld0 ld19 ld2 tk mb f0 f19 f2 fr fu) → va_F A s t → (va_Qi (fun (x : Int32) (_ : Unit) => x = r) (fun _ t => va_P (dC, dI) vwCl (wX5 cI cJ ad n ev ld0 ld1' ld2 tk mb f0 f1' f2 fr fu) t.heap ∧ vK (dC, dI) [(cI, .int), (cJ, .long)] t ∧ va_D (va_A (wX5 cI cJ ad n ev ld0 ld1 ld2 tk mb f0 f1 f2 fr fu) sz) (wX5 cI cJ ad n ev ld0 ld1' ld2 tk mb f0 f1' f2 fr fu)) (va_A (wX5 cI cJ ad n ev ld0 ld1 ld2 tk mb f0 f1 f2 fr fu) sz)) args s (.returned (some (.int v0))) t := by
    intro v0 ld19 f19 t e9 q1 q2 q3 q4
    cases e9
    subst hAe
    exact ⟨⟨_, (), rfl, rfl, q1, q2, q3⟩, q4⟩
  have hfix : CallFix p m c cX5_twin 6 s args wsX5_twin RX5 := ⟨hx, hb, hml, hown, hts⟩
  have hiX5 : ∀ w ∈ u_ws RX5 TX5 7, w ∈ wsX5_twin := by decide +kernel
  have hf10 := hts (.fieldLink RX5 10 "RowClasses" "circle" "LRowClasses$Circle;") (by decide +kernel)
  have hf34 := hts (.fieldLink RX5 34 "RowClasses" "mirroredClasses" "LRowClasses$ClassList;") (by decide +kernel)
  have J77 : ∀ (ld1k : Int32) (f1k : Nat → Int32) (H : Heap) (locs : List Loc) (ls : Array Slot), va_P (dC, dI) vwCl (wX5 cI cJ ad n ev ld0 ld1k ld2 tk mb f0 f1k f2 fr fu) H → va_D A (wX5 cI cJ ad n ev ld0 ld1k ld2 tk mb f0 f1k f2 fr fu) → va_S A s.heap H locs → lv_has ls 6 [] → Ho (X5_twin_77 ld1k f1k) (fun x => x = (r, ld1', f1')) → W p l e rmX5_twin s m args below meth c H locs 0 0 (MQ below (va_Qi (fun (x : Int32) (_ : Unit) => x = r) (fun _ t => va_P (dC, dI) vwCl (wX5 cI cJ ad n ev ld0 ld1' ld2 tk mb f0 f1' f2 fr fu) t.heap ∧ vK (dC, dI) [(cI, .int), (cJ, .long)] t ∧ va_D (va_A (wX5 cI cJ ad n ev ld0 ld1 ld2 tk mb f0 f1 f2 fr fu) sz) (wX5 cI cJ ad n ev ld0 ld1' ld2 tk mb f0 f1' f2 fr fu)) (va_A (wX5 cI cJ ad n ev ld0 ld1 ld2 tk mb f0 f1 f2 fr fu) sz)) args s 0 0 A) (F0 m 77 ls []) := by
    intro ld1k f1k H locs ls hP hD hS hl h
    unfold X5_twin_77 at h
    refine lv_bipush (v := (-3 : Int32)) hx hb dX5_twin_77 (by decide) ?_
    exact W.iret hx hb hr (fun t ht hW => QI (Ho_e h) (by rw [ht]; exact hP) (hK.warm hW) hD (hS.F ht)) hS.2.2 dX5_twin_79 hlk
  have J68 : ∀ (ld1k : Int32) (f1k : Nat → Int32) (v5 : Int32) (H : Heap) (locs : List Loc) (ls : Array Slot), va_P (dC, dI) vwCl (wX5 cI cJ ad n ev ld0 ld1k ld2 tk mb f0 f1k f2 fr fu) H → va_D A (wX5 cI cJ ad n ev ld0 ld1k ld2 tk mb f0 f1k f2 fr fu) → va_S A s.heap H locs → lv_has ls 6 [(5, .int v5)] → Ho (X5_twin_68 ld1k f1k v5) (fun x => x = (r, ld1', f1')) → W p l e rmX5_twin s m args below meth c H locs 0 0 (MQ below (va_Qi (fun (x : Int32) (_ : Unit) => x = r) (fun _ t => va_P (dC, dI) vwCl (wX5 cI cJ ad n ev ld0 ld1' ld2 tk mb f0 f1' f2 fr fu) t.heap ∧ vK (dC, dI) [(cI, .int), (cJ, .long)] t ∧ va_D (va_A (wX5 cI cJ ad n ev ld0 ld1 ld2 tk mb f0 f1 f2 fr fu) sz) (wX5 cI cJ ad n ev ld0 ld1' ld2 tk mb f0 f1' f2 fr fu)) (va_A (wX5 cI cJ ad n ev ld0 ld1 ld2 tk mb f0 f1 f2 fr fu) sz)) args s 0 0 A) (F0 m 68 ls []) := by
    intro ld1k f1k v5 H locs ls hP hD hS hl h
    unfold X5_twin_68 at h
    refine lv_iload hx hb dX5_twin_68 (lv_at hl 0 rfl) ?_
    exact W.iret hx hb hr (fun t ht hW => QI (Ho_e h) (by rw [ht]; exact hP) (hK.warm hW) hD (hS.F ht)) hS.2.2 dX5_twin_70 hlk
  have J35 : ∀ (ld1k : Int32) (f1k : Nat → Int32) (v2 : Int32) (v3 : Int32) (v4 : Int32) (H : Heap) (locs : List Loc) (ls : Array Slot), va_P (dC, dI) vwCl (wX5 cI cJ ad n ev ld0 ld1k ld2 tk mb f0 f1k f2 fr fu) H → va_D A (wX5 cI cJ ad n ev ld0 ld1k ld2 tk mb f0 f1k f2 fr fu) → va_S A s.heap H locs → lv_has ls 6 [(0, .ref (ad 0)), (1, .int x1), (2, .int v2), (3, .int v3), (4, .int v4)] → Ho ((X5_twin_35_l n ev x1 ld1k f1k v2 v3 v4).bind (fun ex => Sum.elim (fun xy => X5_twin_68 ld1k f1k xy) (fun xy => X5_twin_77 ld1k f1k) ex)) (fun x => x = (r, ld1', f1')) → W p l e rmX5_twin s m args below meth c H locs 0 0 (MQ below (va_Qi (fun (x : Int32) (_ : Unit) => x = r) (fun _ t => va_P (dC, dI) vwCl (wX5 cI cJ ad n ev ld0 ld1' ld2 tk mb f0 f1' f2 fr fu) t.heap ∧ vK (dC, dI) [(cI, .int), (cJ, .long)] t ∧ va_D (va_A (wX5 cI cJ ad n ev ld0 ld1 ld2 tk mb f0 f1 f2 fr fu) sz) (wX5 cI cJ ad n ev ld0 ld1' ld2 tk mb f0 f1' f2 fr fu)) (va_A (wX5 cI cJ ad n ev ld0 ld1 ld2 tk mb f0 f1 f2 fr fu) sz)) args s 0 0 A) (F0 m 35 ls []) := by
    intro ld1k f1k v2 v3 v4 H locs ls hP hD hS hl h
    refine loop_use2 (fun z : Int32 => ∀ (H : Heap) (locs : List Loc) (ls : Array Slot), va_P (dC, dI) vwCl (wX5 cI cJ ad n ev ld0 ld1k ld2 tk mb f0 f1k f2 fr fu) H → va_D A (wX5 cI cJ ad n ev ld0 ld1k ld2 tk mb f0 f1k f2 fr fu) → va_S A s.heap H locs → lv_has ls 6 [(0, .ref (ad 0)), (1, .int x1), (2, .int v2), (3, .int v3), (4, .int z)] → W p l e rmX5_twin s m args below meth c H locs 0 0 (MQ below (va_Qi (fun (x : Int32) (_ : Unit) => x = r) (fun _ t => va_P (dC, dI) vwCl (wX5 cI cJ ad n ev ld0 ld1' ld2 tk mb f0 f1' f2 fr fu) t.heap ∧ vK (dC, dI) [(cI, .int), (cJ, .long)] t ∧ va_D (va_A (wX5 cI cJ ad n ev ld0 ld1 ld2 tk mb f0 f1 f2 fr fu) sz) (wX5 cI cJ ad n ev ld0 ld1' ld2 tk mb f0 f1' f2 fr fu)) (va_A (wX5 cI cJ ad n ev ld0 ld1 ld2 tk mb f0 f1 f2 fr fu) sz)) args s 0 0 A) (F0 m 35 ls [])) ?_ FU _ h H locs ls hP hD hS hl
    intro Q35 hi35 ho35 z h H locs ls hP hD hS hl
    obtain ⟨v4, rfl⟩ : ∃ q, q = z := ⟨_, rfl⟩
    have h : Ho (X5_twin_35_s n ev x1 ld1k f1k v2 v3 v4) Q35 := h
    unfold X5_twin_35_s at h
    have hl : lv_has ls 6 [(0, .ref (ad 0)), (1, .int x1), (2, .int v2), (3, .int v3), (4, .int v4)] := hl
    have hP : va_P (dC, dI) vwCl (wX5 cI cJ ad n ev ld0 ld1k ld2 tk mb f0 f1k f2 fr fu) H := hP
    have hD : va_D A (wX5 cI cJ ad n ev ld0 ld1k ld2 tk mb f0 f1k f2 fr fu) := hD
    refine lv_iload hx hb dX5_twin_35 (lv_at hl 4 rfl) ?_
    refine lv_iload_n hx hb dX5_twin_37 rfl (lv_at hl 3 rfl) ?_
    refine lv_icmp_ge (tgt := 77) hx hb dX5_twin_38 (by decide) (fun q38 => ?_) (fun q38 => ?_)
    · have h := Ho_t h q38
      have h := ho35 _ (Ho_s h)
      exact J77 ld1k f1k _ _ ls hP hD hS (lv_sub hl [] rfl) h
    · have h := Ho_f h q38
      refine lv_aload_n hx hb dX5_twin_41 rfl (lv_at hl 0 rfl) ?_
      refine va_get (D := (dC, dI)) (ci := 5) (v := .ref (ad 4)) (C := RX5) (T := TX5) (N := 7) hx hb hts hiX5 hown hK.1 hP 0 rfl rfl 3 (by decide) hf34 (fun _ h9 => h9) rfl dX5_twin_42 ?_
      refine lv_iload hx hb dX5_twin_45 (lv_at hl 4 rfl) ?_
      obtain ⟨r47, hc47, h⟩ := Ho_b h
      have hPc : va_P (dC, dI) vwCl [((ad 4), .inr (1, [.ref (ad 1), .int (1 : Int32), .ref (ad 9), .int ld1k])), ((ad 1), .inr (0, [.int n, .int ev])), ((ad 9), .inl (cI, 352, .inl f1k))] H := hP.sub [4, 1, 9] rfl
      refine cs_i (va_runV (As := [.int v4]) (rest := []) hfix (c_X1_at l dC dI cI cJ (ad 4) (ad 1) (ad 9) (1 : Int32) ld1k n ev f1k v4 _ hc47) (cwV 1 hts gX5_twin_X1_at rfl rfl rfl (by decide +kernel) ⟨by decide, by decide⟩) (roP.preV hK hPc (ci := 1) rfl rfl) rfl rfl hl.1 rfl (lv_room (Nat.le_of_ble_eq_true rfl)) dX5_twin_47 ⟨Nat.zero_le _, Nat.zero_le _⟩) ?_
      refine lv_istore (lv' := [(5, .int r47), (0, .ref (ad 0)), (1, .int x1), (2, .int v2), (3, .int v3), (4, .int v4)]) hx hb dX5_twin_50 hl (by decide) rfl (fun ls hl => ?_)
      refine lv_iload hx hb dX5_twin_52 (lv_at hl 0 rfl) ?_
      refine lv_iload_n hx hb dX5_twin_54 rfl (lv_at hl 3 rfl) ?_
      refine lv_icmp_eq (tgt := 71) hx hb dX5_twin_55 (by decide) (fun q55 => ?_) (fun q55 => ?_)
      · have h := Ho_t h q55
        refine lv_iinc (v := v4 + 1) (lv' := [(4, .int (v4 + 1)), (5, .int r47), (0, .ref (ad 0)), (1, .int x1), (2, .int v2), (3, .int v3)]) hx hb dX5_twin_71 hl (k := 5) rfl rfl (by decide) rfl (fun ls hl => ?_)
        refine lv_goto (tgt := 35) hx hb dX5_twin_74 (by decide) ?_
        exact hi35 _ (Ho_s h) _ _ ls hP hD hS (lv_sub hl [2, 3, 4, 5, 0] rfl)
      · have h := Ho_f h q55
        refine lv_aload_n hx hb dX5_twin_58 rfl (lv_at hl 1 rfl) ?_
        refine lv_iload_n hx hb dX5_twin_59 rfl (lv_at hl 2 rfl) ?_
        refine lv_iload hx hb dX5_twin_60 (lv_at hl 0 rfl) ?_
        obtain ⟨r62, hc62, h⟩ := Ho_b h
        have hPc : va_P (dC, dI) vwCl (wX5 cI cJ ad n ev ld0 ld1k ld2 tk mb f0 f1k f2 fr fu) H := hP.sub [0, 1, 2, 3, 4, 5, 6, 7, 8, 9, 10, 11, 12] rfl
        refine cs_i (va_runV (As := [.int x1, .int r47]) (rest := []) hfix (c_X5_sameVector l dC dI cI cJ ad n ev ld0 ld1k ld2 tk mb f0 f1k f2 fr fu x1 r47 _ hc62) (cwV 2 hts gX5_twin_X5_sameVector rfl rfl rfl (by decide +kernel) ⟨by decide, by decide⟩) (roP.preV hK hPc (ci := 5) rfl rfl) rfl rfl hl.1 rfl (lv_room (Nat.le_of_ble_eq_true rfl)) dX5_twin_62 ⟨Nat.zero_le _, Nat.zero_le _⟩) ?_
        refine lv_if_eq (tgt := 71) hx hb dX5_twin_65 (by decide) (fun q65 => ?_) (fun q65 => ?_)
        · have h := Ho_t h q65
          refine lv_iinc (v := v4 + 1) (lv' := [(4, .int (v4 + 1)), (5, .int r47), (0, .ref (ad 0)), (1, .int x1), (2, .int v2), (3, .int v3)]) hx hb dX5_twin_71 hl (k := 5) rfl rfl (by decide) rfl (fun ls hl => ?_)
          refine lv_goto (tgt := 35) hx hb dX5_twin_74 (by decide) ?_
          exact hi35 _ (Ho_s h) _ _ ls hP hD hS (lv_sub hl [2, 3, 4, 5, 0] rfl)
        · have h := Ho_f h q65
          have h := ho35 _ (Ho_s h)
          exact J68 ld1k f1k r47 _ _ ls hP hD hS (lv_sub hl [0] rfl) h
  refine lv_aload_n hx hb dX5_twin_0 rfl (lv_at hl 0 rfl) ?_
  refine va_get (D := (dC, dI)) (ci := 5) (v := .ref (ad 1)) (C := RX5) (T := TX5) (N := 7) hx hb hts hiX5 hown hK.1 hP 0 rfl rfl 0 (by decide) hf10 (fun _ h9 => h9) rfl dX5_twin_1 ?_
  refine lv_iload_n hx hb dX5_twin_4 rfl (lv_at hl 1 rfl) ?_
  obtain ⟨r5, hc5, h⟩ := Ho_b h
  have hPc : va_P (dC, dI) vwCl [((ad 1), .inr (0, [.int n, .int ev]))] H := hP.sub [1] rfl
  refine cs_i (va_runV (As := [.int x1]) (rest := []) hfix (c_X0_hasSet l dC dI cI cJ (ad 1) n ev x1 _ hc5) (cwV 1 hts gX5_twin_X0_hasSet rfl rfl rfl (by decide +kernel) ⟨by decide, by decide⟩) (roP.preV hK hPc (ci := 0) rfl rfl) rfl rfl hl.1 rfl (lv_room (Nat.le_of_ble_eq_true rfl)) dX5_twin_5 ⟨Nat.zero_le _, Nat.zero_le _⟩) ?_
  refine lv_if_ne (tgt := 14) hx hb dX5_twin_8 (by decide) (fun q8 => ?_) (fun q8 => ?_)
  · have h := Ho_f h q8
    refine lv_aload_n hx hb dX5_twin_14 rfl (lv_at hl 0 rfl) ?_
    refine va_get (D := (dC, dI)) (ci := 5) (v := .ref (ad 1)) (C := RX5) (T := TX5) (N := 7) hx hb hts hiX5 hown hK.1 hP 0 rfl rfl 0 (by decide) hf10 (fun _ h9 => h9) rfl dX5_twin_15 ?_
    refine lv_iload_n hx hb dX5_twin_18 rfl (lv_at hl 1 rfl) ?_
    refine lv_iconst (v := (1 : Int32)) hx hb dX5_twin_19 (by decide) ?_
    obtain ⟨r20, hc20, h⟩ := Ho_b h
    have hPc : va_P (dC, dI) vwCl [((ad 1), .inr (0, [.int n, .int ev]))] H := hP.sub [1] rfl
    refine cs_i (va_runV (As := [.int x1, .int (1 : Int32)]) (rest := []) hfix (c_X0_leastOf l dC dI cI cJ (ad 1) n ev x1 (1 : Int32) _ hc20) (cwV 2 hts gX5_twin_X0_leastOf rfl rfl rfl (by decide +kernel) ⟨by decide, by decide⟩) (roP.preV hK hPc (ci := 0) rfl rfl) rfl rfl hl.1 rfl (lv_room (Nat.le_of_ble_eq_true rfl)) dX5_twin_20 ⟨Nat.zero_le _, Nat.zero_le _⟩) ?_
    refine lv_istore_n (lv' := [(2, .int r20), (0, .ref (ad 0)), (1, .int x1)]) hx hb dX5_twin_23 rfl hl (by decide) rfl (fun ls hl => ?_)
    refine lv_aload_n hx hb dX5_twin_24 rfl (lv_at hl 1 rfl) ?_
    refine va_get (D := (dC, dI)) (ci := 5) (v := .ref (ad 4)) (C := RX5) (T := TX5) (N := 7) hx hb hts hiX5 hown hK.1 hP 0 rfl rfl 3 (by decide) hf34 (fun _ h9 => h9) rfl dX5_twin_25 ?_
    obtain ⟨r28, ld1_28, f1_28, hc28, h⟩ := Ho_b3 h
    have hPc : va_P (dC, dI) vwCl [((ad 4), .inr (1, [.ref (ad 1), .int (1 : Int32), .ref (ad 9), .int ld1])), ((ad 1), .inr (0, [.int n, .int ev])), ((ad 9), .inl (cI, 352, .inl f1))] H := hP.sub [4, 1, 9] rfl
    have hDc : va_D A [((ad 4), .inr (1, [.ref (ad 1), .int (1 : Int32), .ref (ad 9), .int ld1])), ((ad 1), .inr (0, [.int n, .int ev])), ((ad 9), .inl (cI, 352, .inl f1))] := hD.sub [4, 1, 9] (by decide) rfl
    have hFc := va_free (wc := [((ad 4), .inr (1, [.ref (ad 1), .int (1 : Int32), .ref (ad 9), .int ld1])), ((ad 1), .inr (0, [.int n, .int ev])), ((ad 9), .inl (cI, 352, .inl f1))]) hD hS hA [4, 1, 9] rfl
    refine va_calli (va_runV (As := []) (rest := []) hfix (c_X1_count l dC dI cI cJ (ad 4) (ad 1) (ad 9) H.size (1 : Int32) ld1 n ev f1 _ _ _ hc28) (cwV 0 hts gX5_twin_X1_count rfl rfl rfl (by decide +kernel) ⟨by decide, by decide⟩) (rwP.preV hK hPc hDc rfl (ci := 1) rfl rfl) rfl rfl hl.1 rfl (lv_room (Nat.le_of_ble_eq_true rfl)) dX5_twin_28 ⟨Nat.zero_le _, Nat.zero_le _⟩) hS (fun q _ h => hFc q h) hFc (fun y28 u t H1 locs ht hvm hw hB hz1 hk1 hS => ?_)
    obtain ⟨hP1, -, hD1⟩ := hB
    rw [ht] at hP1
    have hw : y28 = r28 := hw
    rw [hw]
    obtain ⟨hP, hD⟩ := va_join (wr := [((ad 0), .inr (5, [.ref (ad 1), .ref (ad 2), .ref (ad 3), .ref (ad 4), .ref (ad 5), .ref (ad 6), .ref (ad 7)])), ((ad 2), .inr (2, [.ref (ad 1)])), ((ad 3), .inr (1, [.ref (ad 1), .int 0, .ref (ad 8), .int ld0])), ((ad 5), .inr (1, [.ref (ad 1), .int 2, .ref (ad 10), .int ld2])), ((ad 6), .inr (3, [.ref (ad 1), .ref (ad 11), .int tk, .int mb])), ((ad 7), .inr (4, [.ref (ad 12)])), ((ad 8), .inl (cI, 352, .inl f0)), ((ad 10), .inl (cI, 352, .inl f2)), ((ad 11), .inl (cI, 12, .inl fr)), ((ad 12), .inl (cI, 13, .inl fu))]) (w1 := [((ad 4), .inr (1, [.ref (ad 1), .int (1 : Int32), .ref (ad 9), .int ld1_28])), ((ad 1), .inr (0, [.int n, .int ev])), ((ad 9), .inl (cI, 352, .inl f1_28))]) hP hD [4, 1, 9] [0, 2, 3, 5, 6, 7, 8, 10, 11, 12] rfl rfl (by decide) (by decide) hk1 hFc hP1 hD1
    generalize H1 = H at hP hS ⊢
    have hP : va_P (dC, dI) vwCl (wX5 cI cJ ad n ev ld0 ld1_28 ld2 tk mb f0 f1_28 f2 fr fu) H := hP.sub [0, 11, 1, 2, 10, 3, 4, 5, 6, 12, 7, 8, 9] rfl
    have hD : va_D A (wX5 cI cJ ad n ev ld0 ld1_28 ld2 tk mb f0 f1_28 f2 fr fu) := hD.sub [0, 11, 1, 2, 10, 3, 4, 5, 6, 12, 7, 8, 9] (by decide) rfl
    refine lv_istore_n (lv' := [(3, .int r28), (2, .int r20), (0, .ref (ad 0)), (1, .int x1)]) hx hb dX5_twin_31 rfl hl (by decide) rfl (fun ls hl => ?_)
    refine lv_iconst (v := (0 : Int32)) hx hb dX5_twin_32 (by decide) ?_
    refine lv_istore (lv' := [(4, .int (0 : Int32)), (3, .int r28), (2, .int r20), (0, .ref (ad 0)), (1, .int x1)]) hx hb dX5_twin_33 hl (by decide) rfl (fun ls hl => ?_)
    exact J35 ld1_28 f1_28 r20 r28 (0 : Int32) _ _ ls hP hD hS (lv_sub hl [3, 4, 2, 1, 0] rfl) h
  · have h := Ho_t h q8
    refine lv_bipush (v := (-2 : Int32)) hx hb dX5_twin_11 (by decide) ?_
    exact W.iret hx hb hr (fun t ht hW => QI (Ho_e h) (by rw [ht]; exact hP) (hK.warm hW) hD (hS.F ht)) hS.2.2 dX5_twin_13 hlk
abbrev rmX5_others : Room := { frames := 1, cells := 0, slots := 0, locals := 21 }
set_option maxHeartbeats 4000000 in
set_option maxRecDepth 100000 in
theorem c_X5_others (l : Launch) (dC : Nat → ClassId) (dI : Nat → Nat → Nat) (cI cJ : ClassId) (ad : Nat → Nat) (n : Int32) (ev : Int32) (ld0 : Int32) (ld1 : Int32) (ld2 : Int32) (tk : Int32) (mb : Int32) (f0 : Nat → Int32) (f1 : Nat → Int32) (f2 : Nat → Int32) (fr : Nat → Int32) (fu : Nat → Int32) (x1 : Int32) (r : Int32) (hF : FX5_others ev x1 = some r) : Met l yX5_others wsX5_others rmX5_others (roP (dC, dI) [(cI, .int), (cJ, .long)] (wX5 cI cJ ad n ev ld0 ld1 ld2 tk mb f0 f1 f2 fr fu) [.ref (ad 0), .int x1]) (vp_Si (fun x => x = r)) 0 0 (fun _ => False) := by
  refine ro_start (cc := cX5_others) (maxL := 2) (ret := (some .int)) (by decide) rfl (Nat.le_of_ble_eq_true rfl) ?_
  intro p e s m args below meth c ls hx hb hml hr hlk hown hts hP hK hl
  have hown : s.vm.findClass RX5 = some m.cls := hown
  have hl : lv_has ls 2 [(0, .ref (ad 0)), (1, .int x1)] := hl
  have h : Ho (FX5_others ev x1) (fun x => x = r) := ⟨r, hF, rfl⟩
  unfold FX5_others at h
  have hfix : CallFix p m c cX5_others 2 s args wsX5_others RX5 := ⟨hx, hb, hml, hown, hts⟩
  have hiX5 : ∀ w ∈ u_ws RX5 TX5 7, w ∈ wsX5_others := by decide +kernel
  have hf10 := hts (.fieldLink RX5 10 "RowClasses" "circle" "LRowClasses$Circle;") (by decide +kernel)
  refine lv_aload_n hx hb dX5_others_0 rfl (lv_at hl 0 rfl) ?_
  refine va_get (D := (dC, dI)) (ci := 5) (v := .ref (ad 1)) (C := RX5) (T := TX5) (N := 7) hx hb hts hiX5 hown hK.1 hP 0 rfl rfl 0 (by decide) hf10 (fun _ h9 => h9) rfl dX5_others_1 ?_
  refine lv_iload_n hx hb dX5_others_4 rfl (lv_at hl 1 rfl) ?_
  obtain ⟨r5, hc5, h⟩ := Ho_b h
  have hPc : va_P (dC, dI) vwCl [((ad 1), .inr (0, [.int n, .int ev]))] s.heap := hP.sub [1] rfl
  refine cs_i (va_runV (As := [.int x1]) (rest := []) hfix (c_X0_hasSet l dC dI cI cJ (ad 1) n ev x1 _ hc5) (cwV 1 hts gX5_others_X0_hasSet rfl rfl rfl (by decide +kernel) ⟨by decide, by decide⟩) (roP.preV hK hPc (ci := 0) rfl rfl) rfl rfl hl.1 rfl (lv_room (Nat.le_of_ble_eq_true rfl)) dX5_others_5 ⟨Nat.zero_le _, Nat.zero_le _⟩) ?_
  refine lv_if_ne (tgt := 14) hx hb dX5_others_8 (by decide) (fun q8 => ?_) (fun q8 => ?_)
  · have h := Ho_f h q8
    refine lv_aload_n hx hb dX5_others_14 rfl (lv_at hl 0 rfl) ?_
    refine va_get (D := (dC, dI)) (ci := 5) (v := .ref (ad 1)) (C := RX5) (T := TX5) (N := 7) hx hb hts hiX5 hown hK.1 hP 0 rfl rfl 0 (by decide) hf10 (fun _ h9 => h9) rfl dX5_others_15 ?_
    obtain ⟨r18, hc18, h⟩ := Ho_b h
    have hPc : va_P (dC, dI) vwCl [((ad 1), .inr (0, [.int n, .int ev]))] s.heap := hP.sub [1] rfl
    refine cs_i (va_runV (As := []) (rest := []) hfix (c_X0_all l dC dI cI cJ (ad 1) n ev _ hc18) (cwV 0 hts gX5_others_X0_all rfl rfl rfl (by decide +kernel) ⟨by decide, by decide⟩) (roP.preV hK hPc (ci := 0) rfl rfl) rfl rfl hl.1 rfl (lv_room (Nat.le_of_ble_eq_true rfl)) dX5_others_18 ⟨Nat.zero_le _, Nat.zero_le _⟩) ?_
    refine lv_iload_n hx hb dX5_others_21 rfl (lv_at hl 1 rfl) ?_
    refine lv_iconst (v := (-1 : Int32)) hx hb dX5_others_22 (by decide) ?_
    refine lv_ixor hx hb dX5_others_23 ?_
    refine lv_iand hx hb dX5_others_24 ?_
    exact W.iret hx hb hr (fun t ht _ => ro_Si (Ho_e h) ht) ro_nil dX5_others_25 hlk
  · have h := Ho_t h q8
    refine lv_bipush (v := (-2 : Int32)) hx hb dX5_others_11 (by decide) ?_
    exact W.iret hx hb hr (fun t ht _ => ro_Si (Ho_e h) ht) ro_nil dX5_others_13 hlk
abbrev rmX5_multiplied : Room := { frames := 2, cells := 0, slots := 0, locals := 46 }
set_option maxHeartbeats 4000000 in
set_option maxRecDepth 100000 in
theorem c_X5_multiplied (l : Launch) (dC : Nat → ClassId) (dI : Nat → Nat → Nat) (cI cJ : ClassId) (ad : Nat → Nat) (n : Int32) (ev : Int32) (ld0 : Int32) (ld1 : Int32) (ld2 : Int32) (tk : Int32) (mb : Int32) (f0 : Nat → Int32) (f1 : Nat → Int32) (f2 : Nat → Int32) (fr : Nat → Int32) (fu : Nat → Int32) (x1 : Int32) (x2 : Int32) (r : Int32) (hF : FX5_multiplied n ev x1 x2 = some r) : Met l yX5_multiplied wsX5_multiplied rmX5_multiplied (roP (dC, dI) [(cI, .int), (cJ, .long)] (wX5 cI cJ ad n ev ld0 ld1 ld2 tk mb f0 f1 f2 fr fu) [.ref (ad 0), .int x1, .int x2]) (vp_Si (fun x => x = r)) 0 0 (fun _ => False) := by
  refine ro_start (cc := cX5_multiplied) (maxL := 3) (ret := (some .int)) (by decide) rfl (Nat.le_of_ble_eq_true rfl) ?_
  intro p e s m args below meth c ls hx hb hml hr hlk hown hts hP hK hl
  have hown : s.vm.findClass RX5 = some m.cls := hown
  have hl : lv_has ls 3 [(0, .ref (ad 0)), (1, .int x1), (2, .int x2)] := hl
  have h : Ho (FX5_multiplied n ev x1 x2) (fun x => x = r) := ⟨r, hF, rfl⟩
  unfold FX5_multiplied at h
  have hfix : CallFix p m c cX5_multiplied 3 s args wsX5_multiplied RX5 := ⟨hx, hb, hml, hown, hts⟩
  have hiX5 : ∀ w ∈ u_ws RX5 TX5 7, w ∈ wsX5_multiplied := by decide +kernel
  have hf10 := hts (.fieldLink RX5 10 "RowClasses" "circle" "LRowClasses$Circle;") (by decide +kernel)
  refine lv_aload_n hx hb dX5_multiplied_0 rfl (lv_at hl 0 rfl) ?_
  refine va_get (D := (dC, dI)) (ci := 5) (v := .ref (ad 1)) (C := RX5) (T := TX5) (N := 7) hx hb hts hiX5 hown hK.1 hP 0 rfl rfl 0 (by decide) hf10 (fun _ h9 => h9) rfl dX5_multiplied_1 ?_
  refine lv_iload_n hx hb dX5_multiplied_4 rfl (lv_at hl 1 rfl) ?_
  obtain ⟨r5, hc5, h⟩ := Ho_b h
  have hPc : va_P (dC, dI) vwCl [((ad 1), .inr (0, [.int n, .int ev]))] s.heap := hP.sub [1] rfl
  refine cs_i (va_runV (As := [.int x1]) (rest := []) hfix (c_X0_hasSet l dC dI cI cJ (ad 1) n ev x1 _ hc5) (cwV 1 hts gX5_multiplied_X0_hasSet rfl rfl rfl (by decide +kernel) ⟨by decide, by decide⟩) (roP.preV hK hPc (ci := 0) rfl rfl) rfl rfl hl.1 rfl (lv_room (Nat.le_of_ble_eq_true rfl)) dX5_multiplied_5 ⟨Nat.zero_le _, Nat.zero_le _⟩) ?_
  refine lv_if_eq (tgt := 22) hx hb dX5_multiplied_8 (by decide) (fun q8 => ?_) (fun q8 => ?_)
  · have h := Ho_t h q8
    refine lv_bipush (v := (-2 : Int32)) hx hb dX5_multiplied_22 (by decide) ?_
    exact W.iret hx hb hr (fun t ht _ => ro_Si (Ho_e h) ht) ro_nil dX5_multiplied_24 hlk
  · have h := Ho_f h q8
    refine lv_aload_n hx hb dX5_multiplied_11 rfl (lv_at hl 0 rfl) ?_
    refine va_get (D := (dC, dI)) (ci := 5) (v := .ref (ad 1)) (C := RX5) (T := TX5) (N := 7) hx hb hts hiX5 hown hK.1 hP 0 rfl rfl 0 (by decide) hf10 (fun _ h9 => h9) rfl dX5_multiplied_12 ?_
    refine lv_iload_n hx hb dX5_multiplied_15 rfl (lv_at hl 2 rfl) ?_
    obtain ⟨r16, hc16, h⟩ := Ho_b h
    have hPc : va_P (dC, dI) vwCl [((ad 1), .inr (0, [.int n, .int ev]))] s.heap := hP.sub [1] rfl
    refine cs_i (va_runV (As := [.int x2]) (rest := []) hfix (c_X0_hasStep l dC dI cI cJ (ad 1) n ev x2 _ hc16) (cwV 1 hts gX5_multiplied_X0_hasStep rfl rfl rfl (by decide +kernel) ⟨by decide, by decide⟩) (roP.preV hK hPc (ci := 0) rfl rfl) rfl rfl hl.1 rfl (lv_room (Nat.le_of_ble_eq_true rfl)) dX5_multiplied_16 ⟨Nat.zero_le _, Nat.zero_le _⟩) ?_
    refine lv_if_ne (tgt := 25) hx hb dX5_multiplied_19 (by decide) (fun q19 => ?_) (fun q19 => ?_)
    · have h := Ho_f h q19
      refine lv_aload_n hx hb dX5_multiplied_25 rfl (lv_at hl 0 rfl) ?_
      refine va_get (D := (dC, dI)) (ci := 5) (v := .ref (ad 1)) (C := RX5) (T := TX5) (N := 7) hx hb hts hiX5 hown hK.1 hP 0 rfl rfl 0 (by decide) hf10 (fun _ h9 => h9) rfl dX5_multiplied_26 ?_
      refine lv_iload_n hx hb dX5_multiplied_29 rfl (lv_at hl 1 rfl) ?_
      refine lv_iload_n hx hb dX5_multiplied_30 rfl (lv_at hl 2 rfl) ?_
      obtain ⟨r31, hc31, h⟩ := Ho_b h
      have hPc : va_P (dC, dI) vwCl [((ad 1), .inr (0, [.int n, .int ev]))] s.heap := hP.sub [1] rfl
      refine cs_i (va_runV (As := [.int x1, .int x2]) (rest := []) hfix (c_X0_timesEach l dC dI cI cJ (ad 1) n ev x1 x2 _ hc31) (cwV 2 hts gX5_multiplied_X0_timesEach rfl rfl rfl (by decide +kernel) ⟨by decide, by decide⟩) (roP.preV hK hPc (ci := 0) rfl rfl) rfl rfl hl.1 rfl (lv_room (Nat.le_of_ble_eq_true rfl)) dX5_multiplied_31 ⟨Nat.zero_le _, Nat.zero_le _⟩) ?_
      exact W.iret hx hb hr (fun t ht _ => ro_Si (Ho_e h) ht) ro_nil dX5_multiplied_34 hlk
    · have h := Ho_t h q19
      refine lv_bipush (v := (-2 : Int32)) hx hb dX5_multiplied_22 (by decide) ?_
      exact W.iret hx hb hr (fun t ht _ => ro_Si (Ho_e h) ht) ro_nil dX5_multiplied_24 hlk
abbrev rmX5_within : Room := { frames := 4, cells := 0, slots := 0, locals := 94 }
set_option maxHeartbeats 4000000 in
set_option maxRecDepth 100000 in
theorem c_X5_within (l : Launch) (dC : Nat → ClassId) (dI : Nat → Nat → Nat) (cI cJ : ClassId) (ad : Nat → Nat) (n : Int32) (ev : Int32) (ld0 : Int32) (ld1 : Int32) (ld2 : Int32) (tk : Int32) (mb : Int32) (f0 : Nat → Int32) (f1 : Nat → Int32) (f2 : Nat → Int32) (fr : Nat → Int32) (fu : Nat → Int32) (x1 : Int32) (x2 : Int32) (x3 : Int32) (r : Int32) (hF : FX5_within n ev x1 x2 x3 = some r) : Met l yX5_within wsX5_within rmX5_within (roP (dC, dI) [(cI, .int), (cJ, .long)] (wX5 cI cJ ad n ev ld0 ld1 ld2 tk mb f0 f1 f2 fr fu) [.ref (ad 0), .int x1, .int x2, .int x3]) (vp_Si (fun x => x = r)) 0 0 (fun _ => False) := by
  refine ro_start (cc := cX5_within) (maxL := 4) (ret := (some .int)) (by decide) rfl (Nat.le_of_ble_eq_true rfl) ?_
  intro p e s m args below meth c ls hx hb hml hr hlk hown hts hP hK hl
  have hown : s.vm.findClass RX5 = some m.cls := hown
  have hl : lv_has ls 4 [(0, .ref (ad 0)), (1, .int x1), (2, .int x2), (3, .int x3)] := hl
  have h : Ho (FX5_within n ev x1 x2 x3) (fun x => x = r) := ⟨r, hF, rfl⟩
  unfold FX5_within at h
  have hfix : CallFix p m c cX5_within 4 s args wsX5_within RX5 := ⟨hx, hb, hml, hown, hts⟩
  have hiX5 : ∀ w ∈ u_ws RX5 TX5 7, w ∈ wsX5_within := by decide +kernel
  have hf10 := hts (.fieldLink RX5 10 "RowClasses" "circle" "LRowClasses$Circle;") (by decide +kernel)
  refine lv_aload_n hx hb dX5_within_0 rfl (lv_at hl 0 rfl) ?_
  refine va_get (D := (dC, dI)) (ci := 5) (v := .ref (ad 1)) (C := RX5) (T := TX5) (N := 7) hx hb hts hiX5 hown hK.1 hP 0 rfl rfl 0 (by decide) hf10 (fun _ h9 => h9) rfl dX5_within_1 ?_
  refine lv_iload_n hx hb dX5_within_4 rfl (lv_at hl 1 rfl) ?_
  obtain ⟨r5, hc5, h⟩ := Ho_b h
  have hPc : va_P (dC, dI) vwCl [((ad 1), .inr (0, [.int n, .int ev]))] s.heap := hP.sub [1] rfl
  refine cs_i (va_runV (As := [.int x1]) (rest := []) hfix (c_X0_hasSet l dC dI cI cJ (ad 1) n ev x1 _ hc5) (cwV 1 hts gX5_within_X0_hasSet rfl rfl rfl (by decide +kernel) ⟨by decide, by decide⟩) (roP.preV hK hPc (ci := 0) rfl rfl) rfl rfl hl.1 rfl (lv_room (Nat.le_of_ble_eq_true rfl)) dX5_within_5 ⟨Nat.zero_le _, Nat.zero_le _⟩) ?_
  refine lv_if_eq (tgt := 29) hx hb dX5_within_8 (by decide) (fun q8 => ?_) (fun q8 => ?_)
  · have h := Ho_t h q8
    refine lv_bipush (v := (-2 : Int32)) hx hb dX5_within_29 (by decide) ?_
    exact W.iret hx hb hr (fun t ht _ => ro_Si (Ho_e h) ht) ro_nil dX5_within_31 hlk
  · have h := Ho_f h q8
    refine lv_aload_n hx hb dX5_within_11 rfl (lv_at hl 0 rfl) ?_
    refine va_get (D := (dC, dI)) (ci := 5) (v := .ref (ad 1)) (C := RX5) (T := TX5) (N := 7) hx hb hts hiX5 hown hK.1 hP 0 rfl rfl 0 (by decide) hf10 (fun _ h9 => h9) rfl dX5_within_12 ?_
    refine lv_iload_n hx hb dX5_within_15 rfl (lv_at hl 2 rfl) ?_
    obtain ⟨r16, hc16, h⟩ := Ho_b h
    have hPc : va_P (dC, dI) vwCl [((ad 1), .inr (0, [.int n, .int ev]))] s.heap := hP.sub [1] rfl
    refine cs_i (va_runV (As := [.int x2]) (rest := []) hfix (c_X0_hasSet l dC dI cI cJ (ad 1) n ev x2 _ hc16) (cwV 1 hts gX5_within_X0_hasSet rfl rfl rfl (by decide +kernel) ⟨by decide, by decide⟩) (roP.preV hK hPc (ci := 0) rfl rfl) rfl rfl hl.1 rfl (lv_room (Nat.le_of_ble_eq_true rfl)) dX5_within_16 ⟨Nat.zero_le _, Nat.zero_le _⟩) ?_
    refine lv_if_eq (tgt := 29) hx hb dX5_within_19 (by decide) (fun q19 => ?_) (fun q19 => ?_)
    · have h := Ho_t h q19
      refine lv_bipush (v := (-2 : Int32)) hx hb dX5_within_29 (by decide) ?_
      exact W.iret hx hb hr (fun t ht _ => ro_Si (Ho_e h) ht) ro_nil dX5_within_31 hlk
    · have h := Ho_f h q19
      refine lv_iload_n hx hb dX5_within_22 rfl (lv_at hl 3 rfl) ?_
      obtain ⟨r23, hc23, h⟩ := Ho_b h
      refine cs_i (va_runS (As := [.int x3]) (rest := []) hfix (c_X5_isClassKind l dC dI cI cJ  x3 _ hc23) (va_cwS 1 hts gX5_within_X5_isClassKind rfl rfl rfl (by decide +kernel) ⟨by decide, by decide⟩) (roP.preS hK va_Pnil) rfl rfl hl.1 rfl (lv_room (Nat.le_of_ble_eq_true rfl)) dX5_within_23 ⟨Nat.zero_le _, Nat.zero_le _⟩) ?_
      refine lv_if_ne (tgt := 32) hx hb dX5_within_26 (by decide) (fun q26 => ?_) (fun q26 => ?_)
      · have h := Ho_f h q26
        refine lv_aload_n hx hb dX5_within_32 rfl (lv_at hl 0 rfl) ?_
        refine va_get (D := (dC, dI)) (ci := 5) (v := .ref (ad 1)) (C := RX5) (T := TX5) (N := 7) hx hb hts hiX5 hown hK.1 hP 0 rfl rfl 0 (by decide) hf10 (fun _ h9 => h9) rfl dX5_within_33 ?_
        refine lv_iload_n hx hb dX5_within_36 rfl (lv_at hl 2 rfl) ?_
        refine lv_iload_n hx hb dX5_within_37 rfl (lv_at hl 3 rfl) ?_
        refine lv_iload_n hx hb dX5_within_38 rfl (lv_at hl 1 rfl) ?_
        obtain ⟨r39, hc39, h⟩ := Ho_b h
        have hPc : va_P (dC, dI) vwCl [((ad 1), .inr (0, [.int n, .int ev]))] s.heap := hP.sub [1] rfl
        refine cs_i (va_runV (As := [.int x2, .int x3, .int x1]) (rest := []) hfix (c_X0_membersInside l dC dI cI cJ (ad 1) n ev x2 x3 x1 _ hc39) (cwV 3 hts gX5_within_X0_membersInside rfl rfl rfl (by decide +kernel) ⟨by decide, by decide⟩) (roP.preV hK hPc (ci := 0) rfl rfl) rfl rfl hl.1 rfl (lv_room (Nat.le_of_ble_eq_true rfl)) dX5_within_39 ⟨Nat.zero_le _, Nat.zero_le _⟩) ?_
        exact W.iret hx hb hr (fun t ht _ => ro_Si (Ho_e h) ht) ro_nil dX5_within_42 hlk
      · have h := Ho_t h q26
        refine lv_bipush (v := (-2 : Int32)) hx hb dX5_within_29 (by decide) ?_
        exact W.iret hx hb hr (fun t ht _ => ro_Si (Ho_e h) ht) ro_nil dX5_within_31 hlk
abbrev rmX5_common : Room := { frames := 3, cells := 0, slots := 0, locals := 68 }
set_option maxHeartbeats 4000000 in
set_option maxRecDepth 100000 in
theorem c_X5_common (l : Launch) (dC : Nat → ClassId) (dI : Nat → Nat → Nat) (cI cJ : ClassId) (ad : Nat → Nat) (n : Int32) (ev : Int32) (ld0 : Int32) (ld1 : Int32) (ld2 : Int32) (tk : Int32) (mb : Int32) (f0 : Nat → Int32) (f1 : Nat → Int32) (f2 : Nat → Int32) (fr : Nat → Int32) (fu : Nat → Int32) (x1 : Int32) (x2 : Int32) (x3 : Int32) (x4 : Int32) (r : Int32) (hF : FX5_common n ev x1 x2 x3 x4 = some r) : Met l yX5_common wsX5_common rmX5_common (roP (dC, dI) [(cI, .int), (cJ, .long)] (wX5 cI cJ ad n ev ld0 ld1 ld2 tk mb f0 f1 f2 fr fu) [.ref (ad 0), .int x1, .int x2, .int x3, .int x4]) (vp_Si (fun x => x = r)) 0 0 (fun _ => False) := by
  refine ro_start (cc := cX5_common) (maxL := 5) (ret := (some .int)) (by decide) rfl (Nat.le_of_ble_eq_true rfl) ?_
  intro p e s m args below meth c ls hx hb hml hr hlk hown hts hP hK hl
  have hown : s.vm.findClass RX5 = some m.cls := hown
  have hl : lv_has ls 5 [(0, .ref (ad 0)), (1, .int x1), (2, .int x2), (3, .int x3), (4, .int x4)] := hl
  have h : Ho (FX5_common n ev x1 x2 x3 x4) (fun x => x = r) := ⟨r, hF, rfl⟩
  unfold FX5_common at h
  have hfix : CallFix p m c cX5_common 5 s args wsX5_common RX5 := ⟨hx, hb, hml, hown, hts⟩
  have hiX5 : ∀ w ∈ u_ws RX5 TX5 7, w ∈ wsX5_common := by decide +kernel
  have hf10 := hts (.fieldLink RX5 10 "RowClasses" "circle" "LRowClasses$Circle;") (by decide +kernel)
  refine lv_aload_n hx hb dX5_common_0 rfl (lv_at hl 0 rfl) ?_
  refine va_get (D := (dC, dI)) (ci := 5) (v := .ref (ad 1)) (C := RX5) (T := TX5) (N := 7) hx hb hts hiX5 hown hK.1 hP 0 rfl rfl 0 (by decide) hf10 (fun _ h9 => h9) rfl dX5_common_1 ?_
  refine lv_iload_n hx hb dX5_common_4 rfl (lv_at hl 1 rfl) ?_
  obtain ⟨r5, hc5, h⟩ := Ho_b h
  have hPc : va_P (dC, dI) vwCl [((ad 1), .inr (0, [.int n, .int ev]))] s.heap := hP.sub [1] rfl
  refine cs_i (va_runV (As := [.int x1]) (rest := []) hfix (c_X0_hasSet l dC dI cI cJ (ad 1) n ev x1 _ hc5) (cwV 1 hts gX5_common_X0_hasSet rfl rfl rfl (by decide +kernel) ⟨by decide, by decide⟩) (roP.preV hK hPc (ci := 0) rfl rfl) rfl rfl hl.1 rfl (lv_room (Nat.le_of_ble_eq_true rfl)) dX5_common_5 ⟨Nat.zero_le _, Nat.zero_le _⟩) ?_
  refine lv_if_eq (tgt := 33) hx hb dX5_common_8 (by decide) (fun q8 => ?_) (fun q8 => ?_)
  · have h := Ho_t h q8
    refine lv_bipush (v := (-2 : Int32)) hx hb dX5_common_33 (by decide) ?_
    exact W.iret hx hb hr (fun t ht _ => ro_Si (Ho_e h) ht) ro_nil dX5_common_35 hlk
  · have h := Ho_f h q8
    refine lv_aload_n hx hb dX5_common_11 rfl (lv_at hl 0 rfl) ?_
    refine va_get (D := (dC, dI)) (ci := 5) (v := .ref (ad 1)) (C := RX5) (T := TX5) (N := 7) hx hb hts hiX5 hown hK.1 hP 0 rfl rfl 0 (by decide) hf10 (fun _ h9 => h9) rfl dX5_common_12 ?_
    refine lv_iload_n hx hb dX5_common_15 rfl (lv_at hl 2 rfl) ?_
    obtain ⟨r16, hc16, h⟩ := Ho_b h
    have hPc : va_P (dC, dI) vwCl [((ad 1), .inr (0, [.int n, .int ev]))] s.heap := hP.sub [1] rfl
    refine cs_i (va_runV (As := [.int x2]) (rest := []) hfix (c_X0_hasSet l dC dI cI cJ (ad 1) n ev x2 _ hc16) (cwV 1 hts gX5_common_X0_hasSet rfl rfl rfl (by decide +kernel) ⟨by decide, by decide⟩) (roP.preV hK hPc (ci := 0) rfl rfl) rfl rfl hl.1 rfl (lv_room (Nat.le_of_ble_eq_true rfl)) dX5_common_16 ⟨Nat.zero_le _, Nat.zero_le _⟩) ?_
    refine lv_if_eq (tgt := 33) hx hb dX5_common_19 (by decide) (fun q19 => ?_) (fun q19 => ?_)
    · have h := Ho_t h q19
      refine lv_bipush (v := (-2 : Int32)) hx hb dX5_common_33 (by decide) ?_
      exact W.iret hx hb hr (fun t ht _ => ro_Si (Ho_e h) ht) ro_nil dX5_common_35 hlk
    · have h := Ho_f h q19
      refine lv_aload_n hx hb dX5_common_22 rfl (lv_at hl 0 rfl) ?_
      refine va_get (D := (dC, dI)) (ci := 5) (v := .ref (ad 1)) (C := RX5) (T := TX5) (N := 7) hx hb hts hiX5 hown hK.1 hP 0 rfl rfl 0 (by decide) hf10 (fun _ h9 => h9) rfl dX5_common_23 ?_
      refine lv_iload_n hx hb dX5_common_26 rfl (lv_at hl 3 rfl) ?_
      obtain ⟨r27, hc27, h⟩ := Ho_b h
      have hPc : va_P (dC, dI) vwCl [((ad 1), .inr (0, [.int n, .int ev]))] s.heap := hP.sub [1] rfl
      refine cs_i (va_runV (As := [.int x3]) (rest := []) hfix (c_X0_hasStep l dC dI cI cJ (ad 1) n ev x3 _ hc27) (cwV 1 hts gX5_common_X0_hasStep rfl rfl rfl (by decide +kernel) ⟨by decide, by decide⟩) (roP.preV hK hPc (ci := 0) rfl rfl) rfl rfl hl.1 rfl (lv_room (Nat.le_of_ble_eq_true rfl)) dX5_common_27 ⟨Nat.zero_le _, Nat.zero_le _⟩) ?_
      refine lv_if_ne (tgt := 36) hx hb dX5_common_30 (by decide) (fun q30 => ?_) (fun q30 => ?_)
      · have h := Ho_f h q30
        refine lv_iload_n hx hb dX5_common_36 rfl (lv_at hl 1 rfl) ?_
        refine lv_aload_n hx hb dX5_common_37 rfl (lv_at hl 0 rfl) ?_
        refine va_get (D := (dC, dI)) (ci := 5) (v := .ref (ad 1)) (C := RX5) (T := TX5) (N := 7) hx hb hts hiX5 hown hK.1 hP 0 rfl rfl 0 (by decide) hf10 (fun _ h9 => h9) rfl dX5_common_38 ?_
        refine lv_aload_n hx hb dX5_common_41 rfl (lv_at hl 0 rfl) ?_
        refine va_get (D := (dC, dI)) (ci := 5) (v := .ref (ad 1)) (C := RX5) (T := TX5) (N := 7) hx hb hts hiX5 hown hK.1 hP 0 rfl rfl 0 (by decide) hf10 (fun _ h9 => h9) rfl dX5_common_42 ?_
        refine lv_iload_n hx hb dX5_common_45 rfl (lv_at hl 2 rfl) ?_
        refine lv_iload hx hb dX5_common_46 (lv_at hl 4 rfl) ?_
        obtain ⟨r48, hc48, h⟩ := Ho_b h
        have hPc : va_P (dC, dI) vwCl [((ad 1), .inr (0, [.int n, .int ev]))] s.heap := hP.sub [1] rfl
        refine cs_i (va_runV (As := [.int x2, .int x4]) (rest := [.ref (ad 1), .int x1]) hfix (c_X0_mirroredIf l dC dI cI cJ (ad 1) n ev x2 x4 _ hc48) (cwV 2 hts gX5_common_X0_mirroredIf rfl rfl rfl (by decide +kernel) ⟨by decide, by decide⟩) (roP.preV hK hPc (ci := 0) rfl rfl) rfl rfl hl.1 rfl (lv_room (Nat.le_of_ble_eq_true rfl)) dX5_common_48 ⟨Nat.zero_le _, Nat.zero_le _⟩) ?_
        refine lv_iload_n hx hb dX5_common_51 rfl (lv_at hl 3 rfl) ?_
        obtain ⟨r52, hc52, h⟩ := Ho_b h
        have hPc : va_P (dC, dI) vwCl [((ad 1), .inr (0, [.int n, .int ev]))] s.heap := hP.sub [1] rfl
        refine cs_i (va_runV (As := [.int r48, .int x3]) (rest := [.int x1]) hfix (c_X0_turned l dC dI cI cJ (ad 1) n ev r48 x3 _ hc52) (cwV 2 hts gX5_common_X0_turned rfl rfl rfl (by decide +kernel) ⟨by decide, by decide⟩) (roP.preV hK hPc (ci := 0) rfl rfl) rfl rfl hl.1 rfl (lv_room (Nat.le_of_ble_eq_true rfl)) dX5_common_52 ⟨Nat.zero_le _, Nat.zero_le _⟩) ?_
        refine lv_iand hx hb dX5_common_55 ?_
        obtain ⟨r56, hc56, h⟩ := Ho_b h
        refine cs_i (va_runS (As := [.int (x1 &&& r52)]) (rest := []) hfix (c_J6_bitCount_0f7a4 l dC dI cI cJ  (x1 &&& r52) _ hc56) (va_cwS 1 hts gX5_common_J6_bitCount_0f7a4 rfl rfl rfl (by decide +kernel) ⟨by decide, by decide⟩) (roP.preS hK va_Pnil) rfl rfl hl.1 rfl (lv_room (Nat.le_of_ble_eq_true rfl)) dX5_common_56 ⟨Nat.zero_le _, Nat.zero_le _⟩) ?_
        exact W.iret hx hb hr (fun t ht _ => ro_Si (Ho_e h) ht) ro_nil dX5_common_59 hlk
      · have h := Ho_t h q30
        refine lv_bipush (v := (-2 : Int32)) hx hb dX5_common_33 (by decide) ?_
        exact W.iret hx hb hr (fun t ht _ => ro_Si (Ho_e h) ht) ro_nil dX5_common_35 hlk
abbrev rmX5_best : Room := { frames := 3, cells := 0, slots := 0, locals := 68 }
set_option maxHeartbeats 4000000 in
set_option maxRecDepth 100000 in
theorem c_X5_best (l : Launch) (dC : Nat → ClassId) (dI : Nat → Nat → Nat) (cI cJ : ClassId) (ad : Nat → Nat) (n : Int32) (ev : Int32) (ld0 : Int32) (ld1 : Int32) (ld2 : Int32) (tk : Int32) (mb : Int32) (f0 : Nat → Int32) (f1 : Nat → Int32) (f2 : Nat → Int32) (fr : Nat → Int32) (fu : Nat → Int32) (x1 : Int32) (x2 : Int32) (x3 : Int32) (r : Int32) (hF : FX5_best n ev x1 x2 x3 = some r) : Met l yX5_best wsX5_best rmX5_best (roP (dC, dI) [(cI, .int), (cJ, .long)] (wX5 cI cJ ad n ev ld0 ld1 ld2 tk mb f0 f1 f2 fr fu) [.ref (ad 0), .int x1, .int x2, .int x3]) (vp_Si (fun x => x = r)) 0 0 (fun _ => False) := by
  refine ro_start (cc := cX5_best) (maxL := 9) (ret := (some .int)) (by decide) rfl (Nat.le_of_ble_eq_true rfl) ?_
  intro p e s m args below meth c ls hx hb hml hr hlk hown hts hP hK hl
  have hown : s.vm.findClass RX5 = some m.cls := hown
  have hl : lv_has ls 9 [(0, .ref (ad 0)), (1, .int x1), (2, .int x2), (3, .int x3)] := hl
  have h : Ho (FX5_best n ev x1 x2 x3) (fun x => x = r) := ⟨r, hF, rfl⟩
  unfold FX5_best at h
  have hfix : CallFix p m c cX5_best 9 s args wsX5_best RX5 := ⟨hx, hb, hml, hown, hts⟩
  have hiX5 : ∀ w ∈ u_ws RX5 TX5 7, w ∈ wsX5_best := by decide +kernel
  have hf10 := hts (.fieldLink RX5 10 "RowClasses" "circle" "LRowClasses$Circle;") (by decide +kernel)
  have J96 : ∀ (v5 : Int32) (ls : Array Slot), lv_has ls 9 [(5, .int v5)] → Ho (X5_best_96 v5) (fun x => x = r) → W p l e rmX5_best s m args below meth c s.heap [] 0 0 (MQ below (vp_Si (fun x => x = r)) args s 0 0 (fun _ => False)) (F0 m 96 ls []) := by
    intro v5 ls hl h
    unfold X5_best_96 at h
    refine lv_iload hx hb dX5_best_96 (lv_at hl 0 rfl) ?_
    exact W.iret hx hb hr (fun t ht _ => ro_Si (Ho_e h) ht) ro_nil dX5_best_98 hlk
  have J45 : ∀ (v4 : Int32) (v5 : Int32) (v6 : Int32) (v7 : Int32) (ls : Array Slot), lv_has ls 9 [(0, .ref (ad 0)), (1, .int x1), (4, .int v4), (5, .int v5), (6, .int v6), (7, .int v7)] → Ho ((X5_best_45_l n ev x1 v4 v5 v6 v7).bind (fun ex => X5_best_96 ex)) (fun x => x = r) → W p l e rmX5_best s m args below meth c s.heap [] 0 0 (MQ below (vp_Si (fun x => x = r)) args s 0 0 (fun _ => False)) (F0 m 45 ls []) := by
    intro v4 v5 v6 v7 ls hl h
    refine loop_use2 (fun z : Int32 × Int32 × Int32 => ∀ (ls : Array Slot), lv_has ls 9 [(0, .ref (ad 0)), (1, .int x1), (4, .int v4), (5, .int z.1), (6, .int z.2.1), (7, .int z.2.2)] → W p l e rmX5_best s m args below meth c s.heap [] 0 0 (MQ below (vp_Si (fun x => x = r)) args s 0 0 (fun _ => False)) (F0 m 45 ls [])) ?_ FU _ h ls hl
    intro Q45 hi45 ho45 z h ls hl
    obtain ⟨v5, v6, v7⟩ := z
    have h : Ho (X5_best_45_s n ev x1 v4 v5 v6 v7) Q45 := h
    unfold X5_best_45_s at h
    have hl : lv_has ls 9 [(0, .ref (ad 0)), (1, .int x1), (4, .int v4), (5, .int v5), (6, .int v6), (7, .int v7)] := hl
    refine lv_iload hx hb dX5_best_45 (lv_at hl 5 rfl) ?_
    refine lv_aload_n hx hb dX5_best_47 rfl (lv_at hl 0 rfl) ?_
    refine va_get (D := (dC, dI)) (ci := 5) (v := .ref (ad 1)) (C := RX5) (T := TX5) (N := 7) hx hb hts hiX5 hown hK.1 hP 0 rfl rfl 0 (by decide) hf10 (fun _ h9 => h9) rfl dX5_best_48 ?_
    obtain ⟨r51, hc51, h⟩ := Ho_b h
    have hPc : va_P (dC, dI) vwCl [((ad 1), .inr (0, [.int n, .int ev]))] s.heap := hP.sub [1] rfl
    refine cs_i (va_runV (As := []) (rest := [.int v7]) hfix (c_X0_count l dC dI cI cJ (ad 1) n ev _ hc51) (cwV 0 hts gX5_best_X0_count rfl rfl rfl (by decide +kernel) ⟨by decide, by decide⟩) (roP.preV hK hPc (ci := 0) rfl rfl) rfl rfl hl.1 rfl (lv_room (Nat.le_of_ble_eq_true rfl)) dX5_best_51 ⟨Nat.zero_le _, Nat.zero_le _⟩) ?_
    refine lv_icmp_ge (tgt := 96) hx hb dX5_best_54 (by decide) (fun q54 => ?_) (fun q54 => ?_)
    · have h := Ho_t h q54
      have h := ho45 _ (Ho_s h)
      exact J96 v5 ls (lv_sub hl [3] rfl) h
    · have h := Ho_f h q54
      refine lv_iload_n hx hb dX5_best_57 rfl (lv_at hl 1 rfl) ?_
      refine lv_aload_n hx hb dX5_best_58 rfl (lv_at hl 0 rfl) ?_
      refine va_get (D := (dC, dI)) (ci := 5) (v := .ref (ad 1)) (C := RX5) (T := TX5) (N := 7) hx hb hts hiX5 hown hK.1 hP 0 rfl rfl 0 (by decide) hf10 (fun _ h9 => h9) rfl dX5_best_59 ?_
      refine lv_iload hx hb dX5_best_62 (lv_at hl 2 rfl) ?_
      refine lv_iload hx hb dX5_best_64 (lv_at hl 5 rfl) ?_
      obtain ⟨r66, hc66, h⟩ := Ho_b h
      have hPc : va_P (dC, dI) vwCl [((ad 1), .inr (0, [.int n, .int ev]))] s.heap := hP.sub [1] rfl
      refine cs_i (va_runV (As := [.int v4, .int v7]) (rest := [.int x1]) hfix (c_X0_turned l dC dI cI cJ (ad 1) n ev v4 v7 _ hc66) (cwV 2 hts gX5_best_X0_turned rfl rfl rfl (by decide +kernel) ⟨by decide, by decide⟩) (roP.preV hK hPc (ci := 0) rfl rfl) rfl rfl hl.1 rfl (lv_room (Nat.le_of_ble_eq_true rfl)) dX5_best_66 ⟨Nat.zero_le _, Nat.zero_le _⟩) ?_
      refine lv_iand hx hb dX5_best_69 ?_
      obtain ⟨r70, hc70, h⟩ := Ho_b h
      refine cs_i (va_runS (As := [.int (x1 &&& r66)]) (rest := []) hfix (c_J6_bitCount_0f7a4 l dC dI cI cJ  (x1 &&& r66) _ hc70) (va_cwS 1 hts gX5_best_J6_bitCount_0f7a4 rfl rfl rfl (by decide +kernel) ⟨by decide, by decide⟩) (roP.preS hK va_Pnil) rfl rfl hl.1 rfl (lv_room (Nat.le_of_ble_eq_true rfl)) dX5_best_70 ⟨Nat.zero_le _, Nat.zero_le _⟩) ?_
      refine lv_istore (lv' := [(8, .int r70), (0, .ref (ad 0)), (1, .int x1), (4, .int v4), (5, .int v5), (6, .int v6), (7, .int v7)]) hx hb dX5_best_73 hl (by decide) rfl (fun ls hl => ?_)
      refine lv_iload hx hb dX5_best_75 (lv_at hl 0 rfl) ?_
      refine lv_iload hx hb dX5_best_77 (lv_at hl 5 rfl) ?_
      refine lv_icmp_le (tgt := 90) hx hb dX5_best_79 (by decide) (fun q79 => ?_) (fun q79 => ?_)
      · have h := Ho_t h q79
        refine lv_iinc (v := v7 + 1) (lv' := [(7, .int (v7 + 1)), (8, .int r70), (0, .ref (ad 0)), (1, .int x1), (4, .int v4), (5, .int v5), (6, .int v6)]) hx hb dX5_best_90 hl (k := 6) rfl rfl (by decide) rfl (fun ls hl => ?_)
        refine lv_goto (tgt := 45) hx hb dX5_best_93 (by decide) ?_
        exact hi45 _ (Ho_s h) ls (lv_sub hl [2, 3, 4, 5, 6, 0] rfl)
      · have h := Ho_f h q79
        refine lv_iload hx hb dX5_best_82 (lv_at hl 0 rfl) ?_
        refine lv_istore (lv' := [(6, .int r70), (8, .int r70), (0, .ref (ad 0)), (1, .int x1), (4, .int v4), (5, .int v5), (7, .int v7)]) hx hb dX5_best_84 hl (by decide) rfl (fun ls hl => ?_)
        refine lv_iload hx hb dX5_best_86 (lv_at hl 6 rfl) ?_
        refine lv_istore (lv' := [(5, .int v7), (6, .int r70), (8, .int r70), (0, .ref (ad 0)), (1, .int x1), (4, .int v4), (7, .int v7)]) hx hb dX5_best_88 hl (by decide) rfl (fun ls hl => ?_)
        refine lv_iinc (v := v7 + 1) (lv' := [(7, .int (v7 + 1)), (5, .int v7), (6, .int r70), (8, .int r70), (0, .ref (ad 0)), (1, .int x1), (4, .int v4)]) hx hb dX5_best_90 hl (k := 6) rfl rfl (by decide) rfl (fun ls hl => ?_)
        refine lv_goto (tgt := 45) hx hb dX5_best_93 (by decide) ?_
        exact hi45 _ (Ho_s h) ls (lv_sub hl [4, 5, 6, 1, 2, 0] rfl)
  refine lv_aload_n hx hb dX5_best_0 rfl (lv_at hl 0 rfl) ?_
  refine va_get (D := (dC, dI)) (ci := 5) (v := .ref (ad 1)) (C := RX5) (T := TX5) (N := 7) hx hb hts hiX5 hown hK.1 hP 0 rfl rfl 0 (by decide) hf10 (fun _ h9 => h9) rfl dX5_best_1 ?_
  refine lv_iload_n hx hb dX5_best_4 rfl (lv_at hl 1 rfl) ?_
  obtain ⟨r5, hc5, h⟩ := Ho_b h
  have hPc : va_P (dC, dI) vwCl [((ad 1), .inr (0, [.int n, .int ev]))] s.heap := hP.sub [1] rfl
  refine cs_i (va_runV (As := [.int x1]) (rest := []) hfix (c_X0_hasSet l dC dI cI cJ (ad 1) n ev x1 _ hc5) (cwV 1 hts gX5_best_X0_hasSet rfl rfl rfl (by decide +kernel) ⟨by decide, by decide⟩) (roP.preV hK hPc (ci := 0) rfl rfl) rfl rfl hl.1 rfl (lv_room (Nat.le_of_ble_eq_true rfl)) dX5_best_5 ⟨Nat.zero_le _, Nat.zero_le _⟩) ?_
  refine lv_if_eq (tgt := 22) hx hb dX5_best_8 (by decide) (fun q8 => ?_) (fun q8 => ?_)
  · have h := Ho_t h q8
    refine lv_bipush (v := (-2 : Int32)) hx hb dX5_best_22 (by decide) ?_
    exact W.iret hx hb hr (fun t ht _ => ro_Si (Ho_e h) ht) ro_nil dX5_best_24 hlk
  · have h := Ho_f h q8
    refine lv_aload_n hx hb dX5_best_11 rfl (lv_at hl 0 rfl) ?_
    refine va_get (D := (dC, dI)) (ci := 5) (v := .ref (ad 1)) (C := RX5) (T := TX5) (N := 7) hx hb hts hiX5 hown hK.1 hP 0 rfl rfl 0 (by decide) hf10 (fun _ h9 => h9) rfl dX5_best_12 ?_
    refine lv_iload_n hx hb dX5_best_15 rfl (lv_at hl 2 rfl) ?_
    obtain ⟨r16, hc16, h⟩ := Ho_b h
    have hPc : va_P (dC, dI) vwCl [((ad 1), .inr (0, [.int n, .int ev]))] s.heap := hP.sub [1] rfl
    refine cs_i (va_runV (As := [.int x2]) (rest := []) hfix (c_X0_hasSet l dC dI cI cJ (ad 1) n ev x2 _ hc16) (cwV 1 hts gX5_best_X0_hasSet rfl rfl rfl (by decide +kernel) ⟨by decide, by decide⟩) (roP.preV hK hPc (ci := 0) rfl rfl) rfl rfl hl.1 rfl (lv_room (Nat.le_of_ble_eq_true rfl)) dX5_best_16 ⟨Nat.zero_le _, Nat.zero_le _⟩) ?_
    refine lv_if_ne (tgt := 25) hx hb dX5_best_19 (by decide) (fun q19 => ?_) (fun q19 => ?_)
    · have h := Ho_f h q19
      refine lv_aload_n hx hb dX5_best_25 rfl (lv_at hl 0 rfl) ?_
      refine va_get (D := (dC, dI)) (ci := 5) (v := .ref (ad 1)) (C := RX5) (T := TX5) (N := 7) hx hb hts hiX5 hown hK.1 hP 0 rfl rfl 0 (by decide) hf10 (fun _ h9 => h9) rfl dX5_best_26 ?_
      refine lv_iload_n hx hb dX5_best_29 rfl (lv_at hl 2 rfl) ?_
      refine lv_iload_n hx hb dX5_best_30 rfl (lv_at hl 3 rfl) ?_
      obtain ⟨r31, hc31, h⟩ := Ho_b h
      have hPc : va_P (dC, dI) vwCl [((ad 1), .inr (0, [.int n, .int ev]))] s.heap := hP.sub [1] rfl
      refine cs_i (va_runV (As := [.int x2, .int x3]) (rest := []) hfix (c_X0_mirroredIf l dC dI cI cJ (ad 1) n ev x2 x3 _ hc31) (cwV 2 hts gX5_best_X0_mirroredIf rfl rfl rfl (by decide +kernel) ⟨by decide, by decide⟩) (roP.preV hK hPc (ci := 0) rfl rfl) rfl rfl hl.1 rfl (lv_room (Nat.le_of_ble_eq_true rfl)) dX5_best_31 ⟨Nat.zero_le _, Nat.zero_le _⟩) ?_
      refine lv_istore (lv' := [(4, .int r31), (0, .ref (ad 0)), (1, .int x1), (2, .int x2), (3, .int x3)]) hx hb dX5_best_34 hl (by decide) rfl (fun ls hl => ?_)
      refine lv_iconst (v := (0 : Int32)) hx hb dX5_best_36 (by decide) ?_
      refine lv_istore (lv' := [(5, .int (0 : Int32)), (4, .int r31), (0, .ref (ad 0)), (1, .int x1), (2, .int x2), (3, .int x3)]) hx hb dX5_best_37 hl (by decide) rfl (fun ls hl => ?_)
      refine lv_iconst (v := (-1 : Int32)) hx hb dX5_best_39 (by decide) ?_
      refine lv_istore (lv' := [(6, .int (-1 : Int32)), (5, .int (0 : Int32)), (4, .int r31), (0, .ref (ad 0)), (1, .int x1), (2, .int x2), (3, .int x3)]) hx hb dX5_best_40 hl (by decide) rfl (fun ls hl => ?_)
      refine lv_iconst (v := (0 : Int32)) hx hb dX5_best_42 (by decide) ?_
      refine lv_istore (lv' := [(7, .int (0 : Int32)), (6, .int (-1 : Int32)), (5, .int (0 : Int32)), (4, .int r31), (0, .ref (ad 0)), (1, .int x1), (2, .int x2), (3, .int x3)]) hx hb dX5_best_43 hl (by decide) rfl (fun ls hl => ?_)
      exact J45 r31 (0 : Int32) (-1 : Int32) (0 : Int32) ls (lv_sub hl [4, 5, 3, 2, 1, 0] rfl) h
    · have h := Ho_t h q19
      refine lv_bipush (v := (-2 : Int32)) hx hb dX5_best_22 (by decide) ?_
      exact W.iret hx hb hr (fun t ht _ => ro_Si (Ho_e h) ht) ro_nil dX5_best_24 hlk
