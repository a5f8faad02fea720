theorem dL_steps_0 : decode cL_steps 0 = .ok (.aload_n 2, 1) := by decide +kernel
theorem dL_steps_1 : decode cL_steps 1 = .ok (.iconst 0, 1) := by decide +kernel
theorem dL_steps_2 : decode cL_steps 2 = .ok (.aload_n 0, 1) := by decide +kernel
theorem dL_steps_3 : decode cL_steps 3 = .ok (.iload_n 1, 1) := by decide +kernel
theorem dL_steps_4 : decode cL_steps 4 = .ok (.invokevirtual 7, 3) := by decide +kernel
theorem dL_steps_7 : decode cL_steps 7 = .ok (.i2l, 1) := by decide +kernel
theorem dL_steps_8 : decode cL_steps 8 = .ok (.lastore, 1) := by decide +kernel
theorem dL_steps_9 : decode cL_steps 9 = .ok (.goto 6, 3) := by decide +kernel
theorem dL_steps_12 : decode cL_steps 12 = .ok (.astore_n 3, 1) := by decide +kernel
theorem dL_steps_13 : decode cL_steps 13 = .ok (.iconst 1, 1) := by decide +kernel
theorem dL_steps_14 : decode cL_steps 14 = .ok (.ireturn, 1) := by decide +kernel
theorem dL_steps_15 : decode cL_steps 15 = .ok (.iconst 0, 1) := by decide +kernel
theorem dL_steps_16 : decode cL_steps 16 = .ok (.ireturn, 1) := by decide +kernel
def FX5_steps (n : Int32) (ev : Int32) (ld0 : Int32) (ld1 : Int32) (ld2 : Int32) (tk : Int32) (mb : Int32) (x1 : Int32) : Option (Int32 × Int32 × Int32 × Int32 × Int32 × Int32 × Int32 × Int32) := if x1 = 0 then (none) else (if x1 < 0 then (some ((-2 : Int32), n, ev, ld0, ld1, ld2, tk, mb)) else (if x1 ≤ (12 : Int32) then ((FX0_count n).bind (fun r31 => if x1 = 0 then none else bind2 (FX0_become n ev x1) (fun n_42 ev_42 => (FX1_forget ld0).bind (fun ld0_49 => (FX1_forget ld1).bind (fun ld1_56 => (FX1_forget ld2).bind (fun ld2_63 => bind2 (FX3_empty tk mb) (fun tk_70 mb_70 => some (r31 - r31 / x1 * x1, n_42, ev_42, ld0_49, ld1_56, ld2_63, tk_70, mb_70)))))))) else (some ((-2 : Int32), n, ev, ld0, ld1, ld2, tk, mb))))
abbrev rmX5_steps : Room := { frames := 1, cells := 0, slots := 0, locals := 21 }
set_option maxHeartbeats 4000000 in
set_option maxRecDepth 100000 in
theorem c_X5_steps (l : Launch) (dC : Nat → ClassId) (dI : Nat → Nat → Nat) (cI cJ : ClassId) (ad : Nat → Nat) (sz : Nat) (n : Int32) (ev : Int32) (ld0 : Int32) (ld1 : Int32) (ld2 : Int32) (tk : Int32) (mb : Int32) (f0 : Nat → Int32) (f1 : Nat → Int32) (f2 : Nat → Int32) (fr : Nat → Int32) (fu : Nat → Int32) (x1 : Int32) (r : Int32) (n' : Int32) (ev' : Int32) (ld0' : Int32) (ld1' : Int32) (ld2' : Int32) (tk' : Int32) (mb' : Int32) (hF : FX5_steps n ev ld0 ld1 ld2 tk mb x1 = some (r, n', ev', ld0', ld1', ld2', tk', mb')) : Met l yX5_steps wsX5_steps rmX5_steps (rwP (dC, dI) [(cI, .int), (cJ, .long)] sz (wX5 cI cJ ad n ev ld0 ld1 ld2 tk mb f0 f1 f2 fr fu) [.ref (ad 0), .int x1]) (va_Qi (fun (x : Int32) (_ : Unit) => x = r) (fun _ t => va_P (dC, dI) vwCl (wX5 cI cJ ad n' ev' ld0' ld1' ld2' tk' mb' f0 f1 f2 fr fu) t.heap ∧ vK (dC, dI) [(cI, .int), (cJ, .long)] t ∧ va_D (va_A (wX5 cI cJ ad n ev ld0 ld1 ld2 tk mb f0 f1 f2 fr fu) sz) (wX5 cI cJ ad n' ev' ld0' ld1' ld2' tk' mb' f0 f1 f2 fr fu)) (va_A (wX5 cI cJ ad n ev ld0 ld1 ld2 tk mb f0 f1 f2 fr fu) sz)) 0 0 (va_A (wX5 cI cJ ad n ev ld0 ld1 ld2 tk mb f0 f1 f2 fr fu) sz) := by
  refine rw_start (cc := cX5_steps) (maxL := 3) (ret := (some .int)) (by decide) rfl (Nat.le_of_ble_eq_true rfl) ?_
  intro p e s m args below meth c ls A H locs hx hb hml hr hlk hown hts hsz hP hK hD hA hS hAe hl
  have hown : s.vm.findClass RX5 = some m.cls := hown
  have hl : lv_has ls 3 [(0, .ref (ad 0)), (1, .int x1)] := hl
  have h : Ho (FX5_steps n ev ld0 ld1 ld2 tk mb x1) (fun x => x = (r, n', ev', ld0', ld1', ld2', tk', mb')) := ⟨_, hF, rfl⟩
  unfold FX5_steps at h
  have QI : ∀ {v0 : Int32} {n9 : Int32} {ev9 : Int32} {ld09 : Int32} {ld19 : Int32} {ld29 : Int32} {tk9 : Int32} {mb9 : Int32} {t : State}, (v0, n9, ev9, ld09, ld19, ld29, tk9, mb9) = (r, n', ev', ld0', ld1', ld2', tk', mb') → va_P (dC, dI) vwCl (wX5 cI cJ ad n9 ev9 ld09 ld19 ld29 tk9 mb9 f0 f1 f2 fr fu) t.heap → vK (dC, dI) [(cI, .int), (cJ, .long)] t → va_D A (wX5 cI cJ ad n9 ev9 ld09 ld19 ld29 tk9 mb9 f0 f1 f2 fr fu) → va_F A s t → (va_Qi (fun (x : Int32) (_ : Unit) => x = r) (fun _ t => va_P (dC, dI) vwCl (wX5 cI cJ ad n' ev' ld0' ld1' ld2' tk' mb' f0 f1 f2 fr fu) t.heap ∧ vK (dC, dI) [(cI, .int), (cJ, .long)] t ∧ va_D (va_A (wX5 cI cJ ad n ev ld0 ld1 ld2 tk mb f0 f1 f2 fr fu) sz) (wX5 cI cJ ad n' ev' ld0' ld1' ld2' tk' mb' f0 f1 f2 fr fu)) (va_A (wX5 cI cJ ad n ev ld0 ld1 ld2 tk mb f0 f1 f2 fr fu) sz)) args s (.returned (some (.int v0))) t := by
    intro v0 n9 ev9 ld09 ld19 ld29 tk9 mb9 t e9 q1 q2 q3 q4
    cases e9
    subst hAe
    exact ⟨⟨_, (), rfl, rfl, q1, q2, q3⟩, q4⟩
  have hfix : CallFix p m c cX5_steps 3 s args wsX5_steps RX5 := ⟨hx, hb, hml, hown, hts⟩
  have hiX5 : ∀ w ∈ u_ws RX5 TX5 7, w ∈ wsX5_steps := by decide +kernel
  have hf10 := hts (.fieldLink RX5 10 "RowClasses" "circle" "LRowClasses$Circle;") (by decide +kernel)
  have hf30 := hts (.fieldLink RX5 30 "RowClasses" "turnedClasses" "LRowClasses$ClassList;") (by decide +kernel)
  have hf34 := hts (.fieldLink RX5 34 "RowClasses" "mirroredClasses" "LRowClasses$ClassList;") (by decide +kernel)
  have hf37 := hts (.fieldLink RX5 37 "RowClasses" "unitClasses" "LRowClasses$ClassList;") (by decide +kernel)
  have hf43 := hts (.fieldLink RX5 43 "RowClasses" "row" "LRowClasses$Row;") (by decide +kernel)
  refine lv_iload_n hx hb dX5_steps_0 rfl (lv_at hl 1 rfl) ?_
  refine lv_if_ne (tgt := 14) hx hb dX5_steps_1 (by decide) (fun q1 => ?_) (fun q1 => ?_)
  · have h := Ho_f h q1
    refine lv_iload_n hx hb dX5_steps_14 rfl (lv_at hl 1 rfl) ?_
    refine lv_if_lt (tgt := 24) hx hb dX5_steps_15 (by decide) (fun q15 => ?_) (fun q15 => ?_)
    · have h := Ho_t h q15
      refine lv_bipush (v := (-2 : Int32)) hx hb dX5_steps_24 (by decide) ?_
      exact W.iret hx hb hr (fun t ht hW => QI (Ho_e h) (by rw [ht]; exact hP) (hK.warm hW) hD (hS.F ht)) hS.2.2 dX5_steps_26 hlk
    · have h := Ho_f h q15
      refine lv_iload_n hx hb dX5_steps_18 rfl (lv_at hl 1 rfl) ?_
      refine lv_bipush (v := (12 : Int32)) hx hb dX5_steps_19 (by decide) ?_
      refine lv_icmp_le (tgt := 27) hx hb dX5_steps_21 (by decide) (fun q21 => ?_) (fun q21 => ?_)
      · have h := Ho_t h q21
        refine lv_aload_n hx hb dX5_steps_27 rfl (lv_at hl 0 rfl) ?_
        refine va_get (D := (dC, dI)) (ci := 5) (v := .ref (ad 1)) (C := RX5) (T := TX5) (N := 7) hx hb hts hiX5 hown hK.1 hP 0 rfl rfl 0 (by decide) hf10 (fun _ h9 => h9) rfl dX5_steps_28 ?_
        obtain ⟨r31, hc31, h⟩ := Ho_b h
        have hPc : va_P (dC, dI) vwCl [((ad 1), .inr (0, [.int n, .int ev]))] H := hP.sub [1] rfl
        refine cs_i (va_runV (As := []) (rest := []) hfix (c_X0_count l dC dI cI cJ (ad 1) n ev _ hc31) (cwV 0 hts gX5_steps_X0_count rfl rfl rfl (by decide +kernel) ⟨by decide, by decide⟩) (roP.preV hK hPc (ci := 0) rfl rfl) rfl rfl hl.1 rfl (lv_room (Nat.le_of_ble_eq_true rfl)) dX5_steps_31 ⟨Nat.zero_le _, Nat.zero_le _⟩) ?_
        refine lv_iload_n hx hb dX5_steps_34 rfl (lv_at hl 1 rfl) ?_
        obtain ⟨hz35, h⟩ := Ho_nz h
        refine lv_irem hx hb dX5_steps_35 hz35 ?_
        refine lv_istore_n (lv' := [(2, .int (r31 - r31 / x1 * x1)), (0, .ref (ad 0)), (1, .int x1)]) hx hb dX5_steps_36 rfl hl (by decide) rfl (fun ls hl => ?_)
        refine lv_aload_n hx hb dX5_steps_37 rfl (lv_at hl 1 rfl) ?_
        refine va_get (D := (dC, dI)) (ci := 5) (v := .ref (ad 1)) (C := RX5) (T := TX5) (N := 7) hx hb hts hiX5 hown hK.1 hP 0 rfl rfl 0 (by decide) hf10 (fun _ h9 => h9) rfl dX5_steps_38 ?_
        refine lv_iload_n hx hb dX5_steps_41 rfl (lv_at hl 2 rfl) ?_
        obtain ⟨n_42, ev_42, hc42, h⟩ := Ho_b2 h
        have hPc : va_P (dC, dI) vwCl [((ad 1), .inr (0, [.int n, .int ev]))] H := hP.sub [1] rfl
        have hDc : va_D A [((ad 1), .inr (0, [.int n, .int ev]))] := hD.sub [1] (by decide) rfl
        have hFc := va_free (wc := [((ad 1), .inr (0, [.int n, .int ev]))]) hD hS hA [1] rfl
        refine va_callv (va_runV (As := [.int x1]) (rest := []) hfix (c_X0_become l dC dI cI cJ (ad 1) H.size n ev x1 _ _ hc42) (cwV 1 hts gX5_steps_X0_become rfl rfl rfl (by decide +kernel) ⟨by decide, by decide⟩) (rwP.preV hK hPc hDc rfl (ci := 0) rfl rfl) rfl rfl hl.1 rfl (lv_room (Nat.le_of_ble_eq_true rfl)) dX5_steps_42 ⟨Nat.zero_le _, Nat.zero_le _⟩) hS (fun q _ h => hFc q h) hFc (fun u t H1 locs ht hvm hw hB hz1 hk1 hS => ?_)
        obtain ⟨hP1, -, hD1⟩ := hB
        rw [ht] at hP1
        obtain ⟨hP, hD⟩ := va_join (wr := [((ad 0), .inr (5, [.ref (ad 1), .ref (ad 2), .ref (ad 3), .ref (ad 4), .ref (ad 5), .ref (ad 6), .ref (ad 7)])), ((ad 2), .inr (2, [.ref (ad 1)])), ((ad 3), .inr (1, [.ref (ad 1), .int 0, .ref (ad 8), .int ld0])), ((ad 4), .inr (1, [.ref (ad 1), .int 1, .ref (ad 9), .int ld1])), ((ad 5), .inr (1, [.ref (ad 1), .int 2, .ref (ad 10), .int ld2])), ((ad 6), .inr (3, [.ref (ad 1), .ref (ad 11), .int tk, .int mb])), ((ad 7), .inr (4, [.ref (ad 12)])), ((ad 8), .inl (cI, 352, .inl f0)), ((ad 9), .inl (cI, 352, .inl f1)), ((ad 10), .inl (cI, 352, .inl f2)), ((ad 11), .inl (cI, 12, .inl fr)), ((ad 12), .inl (cI, 13, .inl fu))]) (w1 := [((ad 1), .inr (0, [.int n_42, .int ev_42]))]) hP hD [1] [0, 2, 3, 4, 5, 6, 7, 8, 9, 10, 11, 12] rfl rfl (by decide) (by decide) hk1 hFc hP1 hD1
        generalize H1 = H at hP hS ⊢
        have hP : va_P (dC, dI) vwCl (wX5 cI cJ ad n_42 ev_42 ld0 ld1 ld2 tk mb f0 f1 f2 fr fu) H := hP.sub [0, 12, 1, 2, 3, 4, 5, 6, 7, 8, 9, 10, 11] rfl
        have hD : va_D A (wX5 cI cJ ad n_42 ev_42 ld0 ld1 ld2 tk mb f0 f1 f2 fr fu) := hD.sub [0, 12, 1, 2, 3, 4, 5, 6, 7, 8, 9, 10, 11] (by decide) rfl
        refine lv_aload_n hx hb dX5_steps_45 rfl (lv_at hl 1 rfl) ?_
        refine va_get (D := (dC, dI)) (ci := 5) (v := .ref (ad 3)) (C := RX5) (T := TX5) (N := 7) hx hb hts hiX5 hown hK.1 hP 0 rfl rfl 2 (by decide) hf30 (fun _ h9 => h9) rfl dX5_steps_46 ?_
        obtain ⟨ld0_49, hc49, h⟩ := Ho_b h
        have hPc : va_P (dC, dI) vwCl [((ad 3), .inr (1, [.ref (ad 1), .int (0 : Int32), .ref (ad 8), .int ld0])), ((ad 1), .inr (0, [.int n_42, .int ev_42])), ((ad 8), .inl (cI, 352, .inl f0))] H := hP.sub [3, 1, 8] rfl
        have hDc : va_D A [((ad 3), .inr (1, [.ref (ad 1), .int (0 : Int32), .ref (ad 8), .int ld0])), ((ad 1), .inr (0, [.int n_42, .int ev_42])), ((ad 8), .inl (cI, 352, .inl f0))] := hD.sub [3, 1, 8] (by decide) rfl
        have hFc := va_free (wc := [((ad 3), .inr (1, [.ref (ad 1), .int (0 : Int32), .ref (ad 8), .int ld0])), ((ad 1), .inr (0, [.int n_42, .int ev_42])), ((ad 8), .inl (cI, 352, .inl f0))]) hD hS hA [3, 1, 8] rfl
        refine va_callv (va_runV (As := []) (rest := []) hfix (c_X1_forget l dC dI cI cJ (ad 3) (ad 1) (ad 8) H.size (0 : Int32) ld0 n_42 ev_42 f0 _ hc49) (cwV 0 hts gX5_steps_X1_forget rfl rfl rfl (by decide +kernel) ⟨by decide, by decide⟩) (rwP.preV hK hPc hDc rfl (ci := 1) rfl rfl) rfl rfl hl.1 rfl (lv_room (Nat.le_of_ble_eq_true rfl)) dX5_steps_49 ⟨Nat.zero_le _, Nat.zero_le _⟩) hS (fun q _ h => hFc q h) hFc (fun u t H1 locs ht hvm hw hB hz1 hk1 hS => ?_)
        obtain ⟨hP1, -, hD1⟩ := hB
        rw [ht] at hP1
        obtain ⟨hP, hD⟩ := va_join (wr := [((ad 0), .inr (5, [.ref (ad 1), .ref (ad 2), .ref (ad 3), .ref (ad 4), .ref (ad 5), .ref (ad 6), .ref (ad 7)])), ((ad 2), .inr (2, [.ref (ad 1)])), ((ad 4), .inr (1, [.ref (ad 1), .int 1, .ref (ad 9), .int ld1])), ((ad 5), .inr (1, [.ref (ad 1), .int 2, .ref (ad 10), .int ld2])), ((ad 6), .inr (3, [.ref (ad 1), .ref (ad 11), .int tk, .int mb])), ((ad 7), .inr (4, [.ref (ad 12)])), ((ad 9), .inl (cI, 352, .inl f1)), ((ad 10), .inl (cI, 352, .inl f2)), ((ad 11), .inl (cI, 12, .inl fr)), ((ad 12), .inl (cI, 13, .inl fu))]) (w1 := [((ad 3), .inr (1, [.ref (ad 1), .int (0 : Int32), .ref (ad 8), .int ld0_49])), ((ad 1), .inr (0, [.int n_42, .int ev_42])), ((ad 8), .inl (cI, 352, .inl f0))]) hP hD [3, 1, 8] [0, 2, 4, 5, 6, 7, 9, 10, 11, 12] rfl rfl (by decide) (by decide) hk1 hFc hP1 hD1
        generalize H1 = H at hP hS ⊢
        have hP : va_P (dC, dI) vwCl (wX5 cI cJ ad n_42 ev_42 ld0_49 ld1 ld2 tk mb f0 f1 f2 fr fu) H := hP.sub [0, 11, 1, 10, 2, 3, 4, 5, 12, 6, 7, 8, 9] rfl
        have hD : va_D A (wX5 cI cJ ad n_42 ev_42 ld0_49 ld1 ld2 tk mb f0 f1 f2 fr fu) := hD.sub [0, 11, 1, 10, 2, 3, 4, 5, 12, 6, 7, 8, 9] (by decide) rfl
        refine lv_aload_n hx hb dX5_steps_52 rfl (lv_at hl 1 rfl) ?_
        refine va_get (D := (dC, dI)) (ci := 5) (v := .ref (ad 4)) (C := RX5) (T := TX5) (N := 7) hx hb hts hiX5 hown hK.1 hP 0 rfl rfl 3 (by decide) hf34 (fun _ h9 => h9) rfl dX5_steps_53 ?_
        obtain ⟨ld1_56, hc56, h⟩ := Ho_b h
        have hPc : va_P (dC, dI) vwCl [((ad 4), .inr (1, [.ref (ad 1), .int (1 : Int32), .ref (ad 9), .int ld1])), ((ad 1), .inr (0, [.int n_42, .int ev_42])), ((ad 9), .inl (cI, 352, .inl f1))] H := hP.sub [4, 1, 9] rfl
        have hDc : va_D A [((ad 4), .inr (1, [.ref (ad 1), .int (1 : Int32), .ref (ad 9), .int ld1])), ((ad 1), .inr (0, [.int n_42, .int ev_42])), ((ad 9), .inl (cI, 352, .inl f1))] := hD.sub [4, 1, 9] (by decide) rfl
        have hFc := va_free (wc := [((ad 4), .inr (1, [.ref (ad 1), .int (1 : Int32), .ref (ad 9), .int ld1])), ((ad 1), .inr (0, [.int n_42, .int ev_42])), ((ad 9), .inl (cI, 352, .inl f1))]) hD hS hA [4, 1, 9] rfl
        refine va_callv (va_runV (As := []) (rest := []) hfix (c_X1_forget l dC dI cI cJ (ad 4) (ad 1) (ad 9) H.size (1 : Int32) ld1 n_42 ev_42 f1 _ hc56) (cwV 0 hts gX5_steps_X1_forget rfl rfl rfl (by decide +kernel) ⟨by decide, by decide⟩) (rwP.preV hK hPc hDc rfl (ci := 1) rfl rfl) rfl rfl hl.1 rfl (lv_room (Nat.le_of_ble_eq_true rfl)) dX5_steps_56 ⟨Nat.zero_le _, Nat.zero_le _⟩) hS (fun q _ h => hFc q h) hFc (fun u t H1 locs ht hvm hw hB hz1 hk1 hS => ?_)
        obtain ⟨hP1, -, hD1⟩ := hB
        rw [ht] at hP1
        obtain ⟨hP, hD⟩ := va_join (wr := [((ad 0), .inr (5, [.ref (ad 1), .ref (ad 2), .ref (ad 3), .ref (ad 4), .ref (ad 5), .ref (ad 6), .ref (ad 7)])), ((ad 2), .inr (2, [.ref (ad 1)])), ((ad 3), .inr (1, [.ref (ad 1), .int 0, .ref (ad 8), .int ld0_49])), ((ad 5), .inr (1, [.ref (ad 1), .int 2, .ref (ad 10), .int ld2])), ((ad 6), .inr (3, [.ref (ad 1), .ref (ad 11), .int tk, .int mb])), ((ad 7), .inr (4, [.ref (ad 12)])), ((ad 8), .inl (cI, 352, .inl f0)), ((ad 10), .inl (cI, 352, .inl f2)), ((ad 11), .inl (cI, 12, .inl fr)), ((ad 12), .inl (cI, 13, .inl fu))]) (w1 := [((ad 4), .inr (1, [.ref (ad 1), .int (1 : Int32), .ref (ad 9), .int ld1_56])), ((ad 1), .inr (0, [.int n_42, .int ev_42])), ((ad 9), .inl (cI, 352, .inl f1))]) hP hD [4, 1, 9] [0, 2, 3, 5, 6, 7, 8, 10, 11, 12] rfl rfl (by decide) (by decide) hk1 hFc hP1 hD1
        generalize H1 = H at hP hS ⊢
        have hP : va_P (dC, dI) vwCl (wX5 cI cJ ad n_42 ev_42 ld0_49 ld1_56 ld2 tk mb f0 f1 f2 fr fu) H := hP.sub [0, 11, 1, 2, 10, 3, 4, 5, 6, 12, 7, 8, 9] rfl
        have hD : va_D A (wX5 cI cJ ad n_42 ev_42 ld0_49 ld1_56 ld2 tk mb f0 f1 f2 fr fu) := hD.sub [0, 11, 1, 2, 10, 3, 4, 5, 6, 12, 7, 8, 9] (by decide) rfl
        refine lv_aload_n hx hb dX5_steps_59 rfl (lv_at hl 1 rfl) ?_
        refine va_get (D := (dC, dI)) (ci := 5) (v := .ref (ad 5)) (C := RX5) (T := TX5) (N := 7) hx hb hts hiX5 hown hK.1 hP 0 rfl rfl 4 (by decide) hf37 (fun _ h9 => h9) rfl dX5_steps_60 ?_
        obtain ⟨ld2_63, hc63, h⟩ := Ho_b h
        have hPc : va_P (dC, dI) vwCl [((ad 5), .inr (1, [.ref (ad 1), .int (2 : Int32), .ref (ad 10), .int ld2])), ((ad 1), .inr (0, [.int n_42, .int ev_42])), ((ad 10), .inl (cI, 352, .inl f2))] H := hP.sub [5, 1, 10] rfl
        have hDc : va_D A [((ad 5), .inr (1, [.ref (ad 1), .int (2 : Int32), .ref (ad 10), .int ld2])), ((ad 1), .inr (0, [.int n_42, .int ev_42])), ((ad 10), .inl (cI, 352, .inl f2))] := hD.sub [5, 1, 10] (by decide) rfl
        have hFc := va_free (wc := [((ad 5), .inr (1, [.ref (ad 1), .int (2 : Int32), .ref (ad 10), .int ld2])), ((ad 1), .inr (0, [.int n_42, .int ev_42])), ((ad 10), .inl (cI, 352, .inl f2))]) hD hS hA [5, 1, 10] rfl
        refine va_callv (va_runV (As := []) (rest := []) hfix (c_X1_forget l dC dI cI cJ (ad 5) (ad 1) (ad 10) H.size (2 : Int32) ld2 n_42 ev_42 f2 _ hc63) (cwV 0 hts gX5_steps_X1_forget rfl rfl rfl (by decide +kernel) ⟨by decide, by decide⟩) (rwP.preV hK hPc hDc rfl (ci := 1) rfl rfl) rfl rfl hl.1 rfl (lv_room (Nat.le_of_ble_eq_true rfl)) dX5_steps_63 ⟨Nat.zero_le _, Nat.zero_le _⟩) hS (fun q _ h => hFc q h) hFc (fun u t H1 locs ht hvm hw hB hz1 hk1 hS => ?_)
        obtain ⟨hP1, -, hD1⟩ := hB
        rw [ht] at hP1
        obtain ⟨hP, hD⟩ := va_join (wr := [((ad 0), .inr (5, [.ref (ad 1), .ref (ad 2), .ref (ad 3), .ref (ad 4), .ref (ad 5), .ref (ad 6), .ref (ad 7)])), ((ad 2), .inr (2, [.ref (ad 1)])), ((ad 3), .inr (1, [.ref (ad 1), .int 0, .ref (ad 8), .int ld0_49])), ((ad 4), .inr (1, [.ref (ad 1), .int 1, .ref (ad 9), .int ld1_56])), ((ad 6), .inr (3, [.ref (ad 1), .ref (ad 11), .int tk, .int mb])), ((ad 7), .inr (4, [.ref (ad 12)])), ((ad 8), .inl (cI, 352, .inl f0)), ((ad 9), .inl (cI, 352, .inl f1)), ((ad 11), .inl (cI, 12, .inl fr)), ((ad 12), .inl (cI, 13, .inl fu))]) (w1 := [((ad 5), .inr (1, [.ref (ad 1), .int (2 : Int32), .ref (ad 10), .int ld2_63])), ((ad 1), .inr (0, [.int n_42, .int ev_42])), ((ad 10), .inl (cI, 352, .inl f2))]) hP hD [5, 1, 10] [0, 2, 3, 4, 6, 7, 8, 9, 11, 12] rfl rfl (by decide) (by decide) hk1 hFc hP1 hD1
        generalize H1 = H at hP hS ⊢
        have hP : va_P (dC, dI) vwCl (wX5 cI cJ ad n_42 ev_42 ld0_49 ld1_56 ld2_63 tk mb f0 f1 f2 fr fu) H := hP.sub [0, 11, 1, 2, 3, 10, 4, 5, 6, 7, 12, 8, 9] rfl
        have hD : va_D A (wX5 cI cJ ad n_42 ev_42 ld0_49 ld1_56 ld2_63 tk mb f0 f1 f2 fr fu) := hD.sub [0, 11, 1, 2, 3, 10, 4, 5, 6, 7, 12, 8, 9] (by decide) rfl
        refine lv_aload_n hx hb dX5_steps_66 rfl (lv_at hl 1 rfl) ?_
        refine va_get (D := (dC, dI)) (ci := 5) (v := .ref (ad 6)) (C := RX5) (T := TX5) (N := 7) hx hb hts hiX5 hown hK.1 hP 0 rfl rfl 5 (by decide) hf43 (fun _ h9 => h9) rfl dX5_steps_67 ?_
        obtain ⟨tk_70, mb_70, hc70, h⟩ := Ho_b2 h
        have hPc : va_P (dC, dI) vwCl [((ad 6), .inr (3, [.ref (ad 1), .ref (ad 11), .int tk, .int mb])), ((ad 1), .inr (0, [.int n_42, .int ev_42])), ((ad 11), .inl (cI, 12, .inl fr))] H := hP.sub [6, 1, 11] rfl
        have hDc : va_D A [((ad 6), .inr (3, [.ref (ad 1), .ref (ad 11), .int tk, .int mb])), ((ad 1), .inr (0, [.int n_42, .int ev_42])), ((ad 11), .inl (cI, 12, .inl fr))] := hD.sub [6, 1, 11] (by decide) rfl
        have hFc := va_free (wc := [((ad 6), .inr (3, [.ref (ad 1), .ref (ad 11), .int tk, .int mb])), ((ad 1), .inr (0, [.int n_42, .int ev_42])), ((ad 11), .inl (cI, 12, .inl fr))]) hD hS hA [6, 1, 11] rfl
        refine va_callv (va_runV (As := []) (rest := []) hfix (c_X3_empty l dC dI cI cJ (ad 6) (ad 1) (ad 11) H.size tk mb n_42 ev_42 fr _ _ hc70) (cwV 0 hts gX5_steps_X3_empty rfl rfl rfl (by decide +kernel) ⟨by decide, by decide⟩) (rwP.preV hK hPc hDc rfl (ci := 3) rfl rfl) rfl rfl hl.1 rfl (lv_room (Nat.le_of_ble_eq_true rfl)) dX5_steps_70 ⟨Nat.zero_le _, Nat.zero_le _⟩) hS (fun q _ h => hFc q h) hFc (fun u t H1 locs ht hvm hw hB hz1 hk1 hS => ?_)
        obtain ⟨hP1, -, hD1⟩ := hB
        rw [ht] at hP1
        obtain ⟨hP, hD⟩ := va_join (wr := [((ad 0), .inr (5, [.ref (ad 1), .ref (ad 2), .ref (ad 3), .ref (ad 4), .ref (ad 5), .ref (ad 6), .ref (ad 7)])), ((ad 2), .inr (2, [.ref (ad 1)])), ((ad 3), .inr (1, [.ref (ad 1), .int 0, .ref (ad 8), .int ld0_49])), ((ad 4), .inr (1, [.ref (ad 1), .int 1, .ref (ad 9), .int ld1_56])), ((ad 5), .inr (1, [.ref (ad 1), .int 2, .ref (ad 10), .int ld2_63])), ((ad 7), .inr (4, [.ref (ad 12)])), ((ad 8), .inl (cI, 352, .inl f0)), ((ad 9), .inl (cI, 352, .inl f1)), ((ad 10), .inl (cI, 352, .inl f2)), ((ad 12), .inl (cI, 13, .inl fu))]) (w1 := [((ad 6), .inr (3, [.ref (ad 1), .ref (ad 11), .int tk_70, .int mb_70])), ((ad 1), .inr (0, [.int n_42, .int ev_42])), ((ad 11), .inl (cI, 12, .inl fr))]) hP hD [6, 1, 11] [0, 2, 3, 4, 5, 7, 8, 9, 10, 12] rfl rfl (by decide) (by decide) hk1 hFc hP1 hD1
        generalize H1 = H at hP hS ⊢
        have hP : va_P (dC, dI) vwCl (wX5 cI cJ ad n_42 ev_42 ld0_49 ld1_56 ld2_63 tk_70 mb_70 f0 f1 f2 fr fu) H := hP.sub [0, 11, 1, 2, 3, 4, 10, 5, 6, 7, 8, 12, 9] rfl
        have hD : va_D A (wX5 cI cJ ad n_42 ev_42 ld0_49 ld1_56 ld2_63 tk_70 mb_70 f0 f1 f2 fr fu) := hD.sub [0, 11, 1, 2, 3, 4, 10, 5, 6, 7, 8, 12, 9] (by decide) rfl
        refine lv_iload_n hx hb dX5_steps_73 rfl (lv_at hl 0 rfl) ?_
        exact W.iret hx hb hr (fun t ht hW => QI (Ho_e h) (by rw [ht]; exact hP) (hK.warm hW) hD (hS.F ht)) hS.2.2 dX5_steps_74 hlk
      · have h := Ho_f h q21
        refine lv_bipush (v := (-2 : Int32)) hx hb dX5_steps_24 (by decide) ?_
        exact W.iret hx hb hr (fun t ht hW => QI (Ho_e h) (by rw [ht]; exact hP) (hK.warm hW) hD (hS.F ht)) hS.2.2 dX5_steps_26 hlk
  · have h := Ho_t h q1
    exact (Ho_no h).elim
