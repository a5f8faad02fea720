set_option maxHeartbeats 2000000 in
set_option maxRecDepth 100000 in
theorem law_best {p : Program} {l : Launch} {e : Env} {s : State} {m : MethodId} {below : List Frame} {meth : Method} {c : Code} {b L : Nat} {xs : Nat → Int32} (C0 : lw_At p s m meth c b L xs) {dC : Nat → ClassId} {dI : Nat → Nat → Nat} {cI cJ : ClassId} (hK : vK (dC, dI) [(cI, .int), (cJ, .long)] s) {cells slots : Nat} (hc1 : cells ≤ 601024) (hc2 : slots ≤ 7293034) {ad5 ad6 : Nat → Nat} {qo : Nat} {n : Int32} {ev : Int32} {ld0 : Int32} {ld1 : Int32} {ld2 : Int32} {tk : Int32} {mb : Int32} {f0 : Nat → Int32} {f1 : Nat → Int32} {f2 : Nat → Int32} {fr : Nat → Int32} {fu : Nat → Int32} {m_code : Int32} {m_n : Int32} {m_built : Int32} {m_length : Int32} {m_begin : Int32} {m_many : Int32} {m_leastOf : Nat → Int32} {m_sizeOf : Nat → Int32} {m_own : Nat → Int32} {m_bestRow : Nat → Int32} {m_tryRow : Nat → Int32} {m_keptRow : Nat → Int32} {m_otherRow : Nat → Int32} {m_row : Nat → Int32} {m_formRow : Nat → Int32} {m_allForms : Nat → Int32} {m_rowsOf : Nat → Int32} {m_intervals : Nat → Int32} {m_places : Nat → Int32} {m_whole : Nat → Int64} {fo : Nat → Int64} {x4 : Int32} (i1 : vp_in (x4 + (1 : Int32)) L) (i2 : vp_in (x4 + (2 : Int32)) L) (i3 : vp_in (x4 + (3 : Int32)) L) {y3 : Int32} (hy : y3 = if xs (x4 + (3 : Int32)).toNatClampNeg = 0 then 0 else 1) {r : Int32} {m_code' : Int32} (hF5 : FX5_best n ev (xs (x4 + (1 : Int32)).toNatClampNeg) (xs (x4 + (2 : Int32)).toNatClampNeg) y3 = some r) (hF6 : FX6_best m_code m_n (xs (x4 + (1 : Int32)).toNatClampNeg) (xs (x4 + (2 : Int32)).toNatClampNeg) y3 = some (r, m_code')) {H : Heap} {locs : List Loc} {ls : Array Slot} (hP : va_P (dC, dI) vwCl (wLaw cI cJ ad5 ad6 qo n ev ld0 ld1 ld2 tk mb f0 f1 f2 fr fu m_code m_n m_built m_length m_begin m_many m_leastOf m_sizeOf m_own m_bestRow m_tryRow m_keptRow m_otherRow m_row m_formRow m_allForms m_rowsOf m_intervals m_places m_whole fo) H) (hD : va_D (fun q : Nat => s.heap.size ≤ q) (wLaw cI cJ ad5 ad6 qo n ev ld0 ld1 ld2 tk mb f0 f1 f2 fr fu m_code m_n m_built m_length m_begin m_many m_leastOf m_sizeOf m_own m_bestRow m_tryRow m_keptRow m_otherRow m_row m_formRow m_allForms m_rowsOf m_intervals m_places m_whole fo)) (hS : va_S (fun q : Nat => s.heap.size ≤ q) s.heap H locs) (hl : lv_has ls 7 [(0, .ref b), (1, .ref (ad5 0)), (2, .ref (ad6 0)), (3, .ref qo), (4, .int x4)]) (kk : ∀ (H : Heap) (locs : List Loc), va_P (dC, dI) vwCl (wLaw cI cJ ad5 ad6 qo n ev ld0 ld1 ld2 tk mb f0 f1 f2 fr fu m_code' m_n m_built m_length m_begin m_many m_leastOf m_sizeOf m_own m_bestRow m_tryRow m_keptRow m_otherRow m_row m_formRow m_allForms m_rowsOf m_intervals m_places m_whole fo) H → va_D (fun q : Nat => s.heap.size ≤ q) (wLaw cI cJ ad5 ad6 qo n ev ld0 ld1 ld2 tk mb f0 f1 f2 fr fu m_code' m_n m_built m_length m_begin m_many m_leastOf m_sizeOf m_own m_bestRow m_tryRow m_keptRow m_otherRow m_row m_formRow m_allForms m_rowsOf m_intervals m_places m_whole fo) → va_S (fun q : Nat => s.heap.size ≤ q) s.heap H locs → W p l e room_1 s m #[Value.ref b] below meth c H locs cells slots (lw_Z below #[Value.ref b] s) (F0 m 1318 ls [])) : W p l e room_1 s m #[Value.ref b] below meth c H locs cells slots (lw_Z below #[Value.ref b] s) (F0 m 761 ls []) := by
  obtain ⟨hx, hb, hr, hml, hown, hts, hX, hbl, hlocks, hgv⟩ := C0
  have hA : ∀ q : Nat, s.heap.size ≤ q → (fun q : Nat => s.heap.size ≤ q) q := fun _ h => h
  have hbA : ¬ (fun q : Nat => s.heap.size ≤ q) b := Nat.not_le.mpr hbl
  have hfix : CallFix p m c cL_law 7 s #[Value.ref b] lw_tbl RL := ⟨hx, hb, hml, hown, hts⟩
  refine lv_aload_n hx hb dL_law_761 rfl (lv_at hl 1 rfl) ?_
  refine lv_aload_n hx hb dL_law_762 rfl (lv_at hl 0 rfl) ?_
  refine lv_iload hx hb dL_law_763 (lv_at hl 4 rfl) ?_
  refine lv_iconst (v := (1 : Int32)) hx hb dL_law_765 (by decide) ?_
  refine lv_iadd hx hb dL_law_766 ?_
  refine va_sld hx hb hX hbl hbA hS i1 dL_law_767 ?_
  refine lv_aload_n hx hb dL_law_768 rfl (lv_at hl 0 rfl) ?_
  refine lv_iload hx hb dL_law_769 (lv_at hl 4 rfl) ?_
  refine lv_iconst (v := (2 : Int32)) hx hb dL_law_771 (by decide) ?_
  refine lv_iadd hx hb dL_law_772 ?_
  refine va_sld hx hb hX hbl hbA hS i2 dL_law_773 ?_
  refine lv_aload_n hx hb dL_law_774 rfl (lv_at hl 0 rfl) ?_
  refine lv_iload hx hb dL_law_775 (lv_at hl 4 rfl) ?_
  refine lv_iconst (v := (3 : Int32)) hx hb dL_law_777 (by decide) ?_
  refine lv_iadd hx hb dL_law_778 ?_
  refine va_sld hx hb hX hbl hbA hS i3 dL_law_779 ?_
  refine lv_if_eq (tgt := 787) hx hb dL_law_780 (by decide) (fun qb => ?_) (fun qb => ?_)
  · have hy0 : y3 = 0 := by rw [hy, if_pos qb]
    subst hy0
    refine lv_iconst (v := (0 : Int32)) hx hb dL_law_787 (by decide) ?_
    have hPc : va_P (dC, dI) vwCl (wX5 cI cJ ad5 n ev ld0 ld1 ld2 tk mb f0 f1 f2 fr fu) H := hP.sub [0, 1, 2, 3, 4, 5, 6, 7, 8, 9, 10, 11, 12] rfl
    refine cs_i (va_runV (As := [.int (xs (x4 + (1 : Int32)).toNatClampNeg), .int (xs (x4 + (2 : Int32)).toNatClampNeg), .int (0 : Int32)]) (rest := []) hfix (c_X5_best l dC dI cI cJ ad5 n ev ld0 ld1 ld2 tk mb f0 f1 f2 fr fu (xs (x4 + (1 : Int32)).toNatClampNeg) (xs (x4 + (2 : Int32)).toNatClampNeg) (0 : Int32) _ hF5) (cwV 3 hts gv_X5_best rfl rfl rfl (by decide +kernel) ⟨by decide, by decide⟩) (roP.preV hK hPc (ci := 5) rfl rfl) rfl rfl hl.1 rfl (lv_room (Nat.le_of_ble_eq_true rfl)) dL_law_788 ⟨hc1, hc2⟩) ?_
    refine lv_aload_n hx hb dL_law_791 rfl (lv_at hl 2 rfl) ?_
    refine lv_aload_n hx hb dL_law_792 rfl (lv_at hl 0 rfl) ?_
    refine lv_iload hx hb dL_law_793 (lv_at hl 4 rfl) ?_
    refine lv_iconst (v := (1 : Int32)) hx hb dL_law_795 (by decide) ?_
    refine lv_iadd hx hb dL_law_796 ?_
    refine va_sld hx hb hX hbl hbA hS i1 dL_law_797 ?_
    refine lv_aload_n hx hb dL_law_798 rfl (lv_at hl 0 rfl) ?_
    refine lv_iload hx hb dL_law_799 (lv_at hl 4 rfl) ?_
    refine lv_iconst (v := (2 : Int32)) hx hb dL_law_801 (by decide) ?_
    refine lv_iadd hx hb dL_law_802 ?_
    refine va_sld hx hb hX hbl hbA hS i2 dL_law_803 ?_
    refine lv_aload_n hx hb dL_law_804 rfl (lv_at hl 0 rfl) ?_
    refine lv_iload hx hb dL_law_805 (lv_at hl 4 rfl) ?_
    refine lv_iconst (v := (3 : Int32)) hx hb dL_law_807 (by decide) ?_
    refine lv_iadd hx hb dL_law_808 ?_
    refine va_sld hx hb hX hbl hbA hS i3 dL_law_809 ?_
    refine lv_if_eq (tgt := 817) hx hb dL_law_810 (by decide) (fun _ => ?_) (fun q9 => absurd qb q9)
    refine lv_iconst (v := (0 : Int32)) hx hb dL_law_817 (by decide) ?_
    have hPc : va_P (dC, dI) vwCl (wX6 cI cJ ad6 m_code m_n m_built m_length m_begin m_many m_leastOf m_sizeOf m_own m_bestRow m_tryRow m_keptRow m_otherRow m_row m_formRow m_allForms m_rowsOf m_intervals m_places m_whole) H := hP.sub [13, 14, 15, 16, 17, 18, 19, 20, 21, 22, 23, 24, 25, 26, 27] rfl
    have hDc : va_D (fun q : Nat => s.heap.size ≤ q) (wX6 cI cJ ad6 m_code m_n m_built m_length m_begin m_many m_leastOf m_sizeOf m_own m_bestRow m_tryRow m_keptRow m_otherRow m_row m_formRow m_allForms m_rowsOf m_intervals m_places m_whole) := hD.sub [13, 14, 15, 16, 17, 18, 19, 20, 21, 22, 23, 24, 25, 26, 27] (by decide) rfl
    have hFc := va_free (wc := (wX6 cI cJ ad6 m_code m_n m_built m_length m_begin m_many m_leastOf m_sizeOf m_own m_bestRow m_tryRow m_keptRow m_otherRow m_row m_formRow m_allForms m_rowsOf m_intervals m_places m_whole)) hD hS hA [13, 14, 15, 16, 17, 18, 19, 20, 21, 22, 23, 24, 25, 26, 27] rfl
    refine va_calli (va_runV (As := [.int (xs (x4 + (1 : Int32)).toNatClampNeg), .int (xs (x4 + (2 : Int32)).toNatClampNeg), .int (0 : Int32)]) (rest := [.int r]) hfix (c_X6_best l dC dI cI cJ ad6 H.size m_code m_n m_built m_length m_begin m_many m_leastOf m_sizeOf m_own m_bestRow m_tryRow m_keptRow m_otherRow m_row m_formRow m_allForms m_rowsOf m_intervals m_places m_whole (xs (x4 + (1 : Int32)).toNatClampNeg) (xs (x4 + (2 : Int32)).toNatClampNeg) (0 : Int32) _ _ hF6) (cwV 3 hts gv_X6_best rfl rfl rfl (by decide +kernel) ⟨by decide, by decide⟩) (rwP.preV hK hPc hDc rfl (ci := 6) rfl rfl) rfl rfl hl.1 rfl (lv_room (Nat.le_of_ble_eq_true rfl)) dL_law_818 ⟨hc1, hc2⟩) hS (fun q _ h => hFc q h) hFc (fun y9 u t H1 locs ht hvm hw hB hz1 hk1 hS => ?_)
    obtain ⟨hP1, -, hD1⟩ := hB
    rw [ht] at hP1
    have hw : y9 = r := hw
    rw [hw]
    obtain ⟨hP, hD⟩ := va_join (wr := [((ad5 0), .inr (5, [.ref (ad5 1), .ref (ad5 2), .ref (ad5 3), .ref (ad5 4), .ref (ad5 5), .ref (ad5 6), .ref (ad5 7)])), ((ad5 1), .inr (0, [.int n, .int ev])), ((ad5 2), .inr (2, [.ref (ad5 1)])), ((ad5 3), .inr (1, [.ref (ad5 1), .int 0, .ref (ad5 8), .int ld0])), ((ad5 4), .inr (1, [.ref (ad5 1), .int 1, .ref (ad5 9), .int ld1])), ((ad5 5), .inr (1, [.ref (ad5 1), .int 2, .ref (ad5 10), .int ld2])), ((ad5 6), .inr (3, [.ref (ad5 1), .ref (ad5 11), .int tk, .int mb])), ((ad5 7), .inr (4, [.ref (ad5 12)])), ((ad5 8), .inl (cI, 352, .inl f0)), ((ad5 9), .inl (cI, 352, .inl f1)), ((ad5 10), .inl (cI, 352, .inl f2)), ((ad5 11), .inl (cI, 12, .inl fr)), ((ad5 12), .inl (cI, 13, .inl fu)), (qo, .inl (cJ, 1, .inr (.inl fo)))]) (w1 := (wX6 cI cJ ad6 m_code' m_n m_built m_length m_begin m_many m_leastOf m_sizeOf m_own m_bestRow m_tryRow m_keptRow m_otherRow m_row m_formRow m_allForms m_rowsOf m_intervals m_places m_whole)) hP hD [13, 14, 15, 16, 17, 18, 19, 20, 21, 22, 23, 24, 25, 26, 27] [0, 1, 2, 3, 4, 5, 6, 7, 8, 9, 10, 11, 12, 28] rfl rfl (by decide) (by decide) hk1 hFc hP1 hD1
    generalize H1 = H at hP hS ⊢
    have hP : va_P (dC, dI) vwCl (wLaw cI cJ ad5 ad6 qo n ev ld0 ld1 ld2 tk mb f0 f1 f2 fr fu m_code' m_n m_built m_length m_begin m_many m_leastOf m_sizeOf m_own m_bestRow m_tryRow m_keptRow m_otherRow m_row m_formRow m_allForms m_rowsOf m_intervals m_places m_whole fo) H := hP.sub [0, 1, 2, 3, 4, 5, 6, 7, 8, 9, 10, 11, 12, 14, 15, 16, 17, 18, 19, 20, 21, 22, 23, 24, 25, 26, 27, 28, 13] rfl
    have hD : va_D (fun q : Nat => s.heap.size ≤ q) (wLaw cI cJ ad5 ad6 qo n ev ld0 ld1 ld2 tk mb f0 f1 f2 fr fu m_code' m_n m_built m_length m_begin m_many m_leastOf m_sizeOf m_own m_bestRow m_tryRow m_keptRow m_otherRow m_row m_formRow m_allForms m_rowsOf m_intervals m_places m_whole fo) := hD.sub [0, 1, 2, 3, 4, 5, 6, 7, 8, 9, 10, 11, 12, 14, 15, 16, 17, 18, 19, 20, 21, 22, 23, 24, 25, 26, 27, 28, 13] (by decide) rfl
    refine lv_icmp_eq (tgt := 1318) hx hb dL_law_821 (by decide) (fun _ => ?_) (fun q9 => absurd rfl q9)
    exact kk _ _ hP hD hS
  · have hy0 : y3 = 1 := by rw [hy, if_neg qb]
    subst hy0
    refine lv_iconst (v := (1 : Int32)) hx hb dL_law_783 (by decide) ?_
    refine lv_goto (tgt := 788) hx hb dL_law_784 (by decide) ?_
    have hPc : va_P (dC, dI) vwCl (wX5 cI cJ ad5 n ev ld0 ld1 ld2 tk mb f0 f1 f2 fr fu) H := hP.sub [0, 1, 2, 3, 4, 5, 6, 7, 8, 9, 10, 11, 12] rfl
    refine cs_i (va_runV (As := [.int (xs (x4 + (1 : Int32)).toNatClampNeg), .int (xs (x4 + (2 : Int32)).toNatClampNeg), .int (1 : Int32)]) (rest := []) hfix (c_X5_best l dC dI cI cJ ad5 n ev ld0 ld1 ld2 tk mb f0 f1 f2 fr fu (xs (x4 + (1 : Int32)).toNatClampNeg) (xs (x4 + (2 : Int32)).toNatClampNeg) (1 : Int32) _ hF5) (cwV 3 hts gv_X5_best rfl rfl rfl (by decide +kernel) ⟨by decide, by decide⟩) (roP.preV hK hPc (ci := 5) rfl rfl) rfl rfl hl.1 rfl (lv_room (Nat.le_of_ble_eq_true rfl)) dL_law_788 ⟨hc1, hc2⟩) ?_
    refine lv_aload_n hx hb dL_law_791 rfl (lv_at hl 2 rfl) ?_
    refine lv_aload_n hx hb dL_law_792 rfl (lv_at hl 0 rfl) ?_
    refine lv_iload hx hb dL_law_793 (lv_at hl 4 rfl) ?_
    refine lv_iconst (v := (1 : Int32)) hx hb dL_law_795 (by decide) ?_
    refine lv_iadd hx hb dL_law_796 ?_
    refine va_sld hx hb hX hbl hbA hS i1 dL_law_797 ?_
    refine lv_aload_n hx hb dL_law_798 rfl (lv_at hl 0 rfl) ?_
    refine lv_iload hx hb dL_law_799 (lv_at hl 4 rfl) ?_
    refine lv_iconst (v := (2 : Int32)) hx hb dL_law_801 (by decide) ?_
    refine lv_iadd hx hb dL_law_802 ?_
    refine va_sld hx hb hX hbl hbA hS i2 dL_law_803 ?_
    refine lv_aload_n hx hb dL_law_804 rfl (lv_at hl 0 rfl) ?_
    refine lv_iload hx hb dL_law_805 (lv_at hl 4 rfl) ?_
    refine lv_iconst (v := (3 : Int32)) hx hb dL_law_807 (by decide) ?_
    refine lv_iadd hx hb dL_law_808 ?_
    refine va_sld hx hb hX hbl hbA hS i3 dL_law_809 ?_
    refine lv_if_eq (tgt := 817) hx hb dL_law_810 (by decide) (fun q9 => absurd q9 qb) (fun _ => ?_)
    refine lv_iconst (v := (1 : Int32)) hx hb dL_law_813 (by decide) ?_
    refine lv_goto (tgt := 818) hx hb dL_law_814 (by decide) ?_
    have hPc : va_P (dC, dI) vwCl (wX6 cI cJ ad6 m_code m_n m_built m_length m_begin m_many m_leastOf m_sizeOf m_own m_bestRow m_tryRow m_keptRow m_otherRow m_row m_formRow m_allForms m_rowsOf m_intervals m_places m_whole) H := hP.sub [13, 14, 15, 16, 17, 18, 19, 20, 21, 22, 23, 24, 25, 26, 27] rfl
    have hDc : va_D (fun q : Nat => s.heap.size ≤ q) (wX6 cI cJ ad6 m_code m_n m_built m_length m_begin m_many m_leastOf m_sizeOf m_own m_bestRow m_tryRow m_keptRow m_otherRow m_row m_formRow m_allForms m_rowsOf m_intervals m_places m_whole) := hD.sub [13, 14, 15, 16, 17, 18, 19, 20, 21, 22, 23, 24, 25, 26, 27] (by decide) rfl
    have hFc := va_free (wc := (wX6 cI cJ ad6 m_code m_n m_built m_length m_begin m_many m_leastOf m_sizeOf m_own m_bestRow m_tryRow m_keptRow m_otherRow m_row m_formRow m_allForms m_rowsOf m_intervals m_places m_whole)) hD hS hA [13, 14, 15, 16, 17, 18, 19, 20, 21, 22, 23, 24, 25, 26, 27] rfl
    refine va_calli (va_runV (As := [.int (xs (x4 + (1 : Int32)).toNatClampNeg), .int (xs (x4 + (2 : Int32)).toNatClampNeg), .int (1 : Int32)]) (rest := [.int r]) hfix (c_X6_best l dC dI cI cJ ad6 H.size m_code m_n m_built m_length m_begin m_many m_leastOf m_sizeOf m_own m_bestRow m_tryRow m_keptRow m_otherRow m_row m_formRow m_allForms m_rowsOf m_intervals m_places m_whole (xs (x4 + (1 : Int32)).toNatClampNeg) (xs (x4 + (2 : Int32)).toNatClampNeg) (1 : Int32) _ _ hF6) (cwV 3 hts gv_X6_best rfl rfl rfl (by decide +kernel) ⟨by decide, by decide⟩) (rwP.preV hK hPc hDc rfl (ci := 6) rfl rfl) rfl rfl hl.1 rfl (lv_room (Nat.le_of_ble_eq_true rfl)) dL_law_818 ⟨hc1, hc2⟩) hS (fun q _ h => hFc q h) hFc (fun y9 u t H1 locs ht hvm hw hB hz1 hk1 hS => ?_)
    obtain ⟨hP1, -, hD1⟩ := hB
    rw [ht] at hP1
    have hw : y9 = r := hw
    rw [hw]
    obtain ⟨hP, hD⟩ := va_join (wr := [((ad5 0), .inr (5, [.ref (ad5 1), .ref (ad5 2), .ref (ad5 3), .ref (ad5 4), .ref (ad5 5), .ref (ad5 6), .ref (ad5 7)])), ((ad5 1), .inr (0, [.int n, .int ev])), ((ad5 2), .inr (2, [.ref (ad5 1)])), ((ad5 3), .inr (1, [.ref (ad5 1), .int 0, .ref (ad5 8), .int ld0])), ((ad5 4), .inr (1, [.ref (ad5 1), .int 1, .ref (ad5 9), .int ld1])), ((ad5 5), .inr (1, [.ref (ad5 1), .int 2, .ref (ad5 10), .int ld2])), ((ad5 6), .inr (3, [.ref (ad5 1), .ref (ad5 11), .int tk, .int mb])), ((ad5 7), .inr (4, [.ref (ad5 12)])), ((ad5 8), .inl (cI, 352, .inl f0)), ((ad5 9), .inl (cI, 352, .inl f1)), ((ad5 10), .inl (cI, 352, .inl f2)), ((ad5 11), .inl (cI, 12, .inl fr)), ((ad5 12), .inl (cI, 13, .inl fu)), (qo, .inl (cJ, 1, .inr (.inl fo)))]) (w1 := (wX6 cI cJ ad6 m_code' m_n m_built m_length m_begin m_many m_leastOf m_sizeOf m_own m_bestRow m_tryRow m_keptRow m_otherRow m_row m_formRow m_allForms m_rowsOf m_intervals m_places m_whole)) hP hD [13, 14, 15, 16, 17, 18, 19, 20, 21, 22, 23, 24, 25, 26, 27] [0, 1, 2, 3, 4, 5, 6, 7, 8, 9, 10, 11, 12, 28] rfl rfl (by decide) (by decide) hk1 hFc hP1 hD1
    generalize H1 = H at hP hS ⊢
    have hP : va_P (dC, dI) vwCl (wLaw cI cJ ad5 ad6 qo n ev ld0 ld1 ld2 tk mb f0 f1 f2 fr fu m_code' m_n m_built m_length m_begin m_many m_leastOf m_sizeOf m_own m_bestRow m_tryRow m_keptRow m_otherRow m_row m_formRow m_allForms m_rowsOf m_intervals m_places m_whole fo) H := hP.sub [0, 1, 2, 3, 4, 5, 6, 7, 8, 9, 10, 11, 12, 14, 15, 16, 17, 18, 19, 20, 21, 22, 23, 24, 25, 26, 27, 28, 13] rfl
    have hD : va_D (fun q : Nat => s.heap.size ≤ q) (wLaw cI cJ ad5 ad6 qo n ev ld0 ld1 ld2 tk mb f0 f1 f2 fr fu m_code' m_n m_built m_length m_begin m_many m_leastOf m_sizeOf m_own m_bestRow m_tryRow m_keptRow m_otherRow m_row m_formRow m_allForms m_rowsOf m_intervals m_places m_whole fo) := hD.sub [0, 1, 2, 3, 4, 5, 6, 7, 8, 9, 10, 11, 12, 14, 15, 16, 17, 18, 19, 20, 21, 22, 23, 24, 25, 26, 27, 28, 13] (by decide) rfl
    refine lv_icmp_eq (tgt := 1318) hx hb dL_law_821 (by decide) (fun _ => ?_) (fun q9 => absurd rfl q9)
    exact kk _ _ hP hD hS
set_option maxHeartbeats 2000000 in
set_option maxRecDepth 100000 in
theorem law_keeps {p : Program} {l : Launch} {e : Env} {s : State} {m : MethodId} {below : List Frame} {meth : Method} {c : Code} {b L : Nat} {xs : Nat → Int32} (C0 : lw_At p s m meth c b L xs) {dC : Nat → ClassId} {dI : Nat → Nat → Nat} {cI cJ : ClassId} (hK : vK (dC, dI) [(cI, .int), (cJ, .long)] s) {cells slots : Nat} (hc1 : cells ≤ 601024) (hc2 : slots ≤ 7293034) {ad5 ad6 : Nat → Nat} {qo : Nat} {n : Int32} {ev : Int32} {ld0 : Int32} {ld1 : Int32} {ld2 : Int32} {tk : Int32} {mb : Int32} {f0 : Nat → Int32} {f1 : Nat → Int32} {f2 : Nat → Int32} {fr : Nat → Int32} {fu : Nat → Int32} {m_code : Int32} {m_n : Int32} {m_built : Int32} {m_length : Int32} {m_begin : Int32} {m_many : Int32} {m_leastOf : Nat → Int32} {m_sizeOf : Nat → Int32} {m_own : Nat → Int32} {m_bestRow : Nat → Int32} {m_tryRow : Nat → Int32} {m_keptRow : Nat → Int32} {m_otherRow : Nat → Int32} {m_row : Nat → Int32} {m_formRow : Nat → Int32} {m_allForms : Nat → Int32} {m_rowsOf : Nat → Int32} {m_intervals : Nat → Int32} {m_places : Nat → Int32} {m_whole : Nat → Int64} {fo : Nat → Int64} {x4 : Int32} (i1 : vp_in (x4 + (1 : Int32)) L) (i2 : vp_in (x4 + (2 : Int32)) L) {y2 : Int32} (hy : y2 = if xs (x4 + (2 : Int32)).toNatClampNeg = 0 then 0 else 1) {r : Int32} {m_code' : Int32} (hF5 : FX5_keeps n ev (xs (x4 + (1 : Int32)).toNatClampNeg) y2 = some r) (hF6 : FX6_keeps m_code m_n (xs (x4 + (1 : Int32)).toNatClampNeg) y2 = some (r, m_code')) {H : Heap} {locs : List Loc} {ls : Array Slot} (hP : va_P (dC, dI) vwCl (wLaw cI cJ ad5 ad6 qo n ev ld0 ld1 ld2 tk mb f0 f1 f2 fr fu m_code m_n m_built m_length m_begin m_many m_leastOf m_sizeOf m_own m_bestRow m_tryRow m_keptRow m_otherRow m_row m_formRow m_allForms m_rowsOf m_intervals m_places m_whole fo) H) (hD : va_D (fun q : Nat => s.heap.size ≤ q) (wLaw cI cJ ad5 ad6 qo n ev ld0 ld1 ld2 tk mb f0 f1 f2 fr fu m_code m_n m_built m_length m_begin m_many m_leastOf m_sizeOf m_own m_bestRow m_tryRow m_keptRow m_otherRow m_row m_formRow m_allForms m_rowsOf m_intervals m_places m_whole fo)) (hS : va_S (fun q : Nat => s.heap.size ≤ q) s.heap H locs) (hl : lv_has ls 7 [(0, .ref b), (1, .ref (ad5 0)), (2, .ref (ad6 0)), (3, .ref qo), (4, .int x4)]) (kk : ∀ (H : Heap) (locs : List Loc), va_P (dC, dI) vwCl (wLaw cI cJ ad5 ad6 qo n ev ld0 ld1 ld2 tk mb f0 f1 f2 fr fu m_code' m_n m_built m_length m_begin m_many m_leastOf m_sizeOf m_own m_bestRow m_tryRow m_keptRow m_otherRow m_row m_formRow m_allForms m_rowsOf m_intervals m_places m_whole fo) H → va_D (fun q : Nat => s.heap.size ≤ q) (wLaw cI cJ ad5 ad6 qo n ev ld0 ld1 ld2 tk mb f0 f1 f2 fr fu m_code' m_n m_built m_length m_begin m_many m_leastOf m_sizeOf m_own m_bestRow m_tryRow m_keptRow m_otherRow m_row m_formRow m_allForms m_rowsOf m_intervals m_places m_whole fo) → va_S (fun q : Nat => s.heap.size ≤ q) s.heap H locs → W p l e room_1 s m #[Value.ref b] below meth c H locs cells slots (lw_Z below #[Value.ref b] s) (F0 m 1318 ls [])) : W p l e room_1 s m #[Value.ref b] below meth c H locs cells slots (lw_Z below #[Value.ref b] s) (F0 m 826 ls []) := by
  obtain ⟨hx, hb, hr, hml, hown, hts, hX, hbl, hlocks, hgv⟩ := C0
  have hA : ∀ q : Nat, s.heap.size ≤ q → (fun q : Nat => s.heap.size ≤ q) q := fun _ h => h
  have hbA : ¬ (fun q : Nat => s.heap.size ≤ q) b := Nat.not_le.mpr hbl
  have hfix : CallFix p m c cL_law 7 s #[Value.ref b] lw_tbl RL := ⟨hx, hb, hml, hown, hts⟩
  refine lv_aload_n hx hb dL_law_826 rfl (lv_at hl 1 rfl) ?_
  refine lv_aload_n hx hb dL_law_827 rfl (lv_at hl 0 rfl) ?_
  refine lv_iload hx hb dL_law_828 (lv_at hl 4 rfl) ?_
  refine lv_iconst (v := (1 : Int32)) hx hb dL_law_830 (by decide) ?_
  refine lv_iadd hx hb dL_law_831 ?_
  refine va_sld hx hb hX hbl hbA hS i1 dL_law_832 ?_
  refine lv_aload_n hx hb dL_law_833 rfl (lv_at hl 0 rfl) ?_
  refine lv_iload hx hb dL_law_834 (lv_at hl 4 rfl) ?_
  refine lv_iconst (v := (2 : Int32)) hx hb dL_law_836 (by decide) ?_
  refine lv_iadd hx hb dL_law_837 ?_
  refine va_sld hx hb hX hbl hbA hS i2 dL_law_838 ?_
  refine lv_if_eq (tgt := 846) hx hb dL_law_839 (by decide) (fun qb => ?_) (fun qb => ?_)
  · have hy0 : y2 = 0 := by rw [hy, if_pos qb]
    subst hy0
    refine lv_iconst (v := (0 : Int32)) hx hb dL_law_846 (by decide) ?_
    have hPc : va_P (dC, dI) vwCl (wX5 cI cJ ad5 n ev ld0 ld1 ld2 tk mb f0 f1 f2 fr fu) H := hP.sub [0, 1, 2, 3, 4, 5, 6, 7, 8, 9, 10, 11, 12] rfl
    refine cs_i (va_runV (As := [.int (xs (x4 + (1 : Int32)).toNatClampNeg), .int (0 : Int32)]) (rest := []) hfix (c_X5_keeps l dC dI cI cJ ad5 n ev ld0 ld1 ld2 tk mb f0 f1 f2 fr fu (xs (x4 + (1 : Int32)).toNatClampNeg) (0 : Int32) _ hF5) (cwV 2 hts gv_X5_keeps rfl rfl rfl (by decide +kernel) ⟨by decide, by decide⟩) (roP.preV hK hPc (ci := 5) rfl rfl) rfl rfl hl.1 rfl (lv_room (Nat.le_of_ble_eq_true rfl)) dL_law_847 ⟨hc1, hc2⟩) ?_
    refine lv_aload_n hx hb dL_law_850 rfl (lv_at hl 2 rfl) ?_
    refine lv_aload_n hx hb dL_law_851 rfl (lv_at hl 0 rfl) ?_
    refine lv_iload hx hb dL_law_852 (lv_at hl 4 rfl) ?_
    refine lv_iconst (v := (1 : Int32)) hx hb dL_law_854 (by decide) ?_
    refine lv_iadd hx hb dL_law_855 ?_
    refine va_sld hx hb hX hbl hbA hS i1 dL_law_856 ?_
    refine lv_aload_n hx hb dL_law_857 rfl (lv_at hl 0 rfl) ?_
    refine lv_iload hx hb dL_law_858 (lv_at hl 4 rfl) ?_
    refine lv_iconst (v := (2 : Int32)) hx hb dL_law_860 (by decide) ?_
    refine lv_iadd hx hb dL_law_861 ?_
    refine va_sld hx hb hX hbl hbA hS i2 dL_law_862 ?_
    refine lv_if_eq (tgt := 870) hx hb dL_law_863 (by decide) (fun _ => ?_) (fun q9 => absurd qb q9)
    refine lv_iconst (v := (0 : Int32)) hx hb dL_law_870 (by decide) ?_
    have hPc : va_P (dC, dI) vwCl (wX6 cI cJ ad6 m_code m_n m_built m_length m_begin m_many m_leastOf m_sizeOf m_own m_bestRow m_tryRow m_keptRow m_otherRow m_row m_formRow m_allForms m_rowsOf m_intervals m_places m_whole) H := hP.sub [13, 14, 15, 16, 17, 18, 19, 20, 21, 22, 23, 24, 25, 26, 27] rfl
    have hDc : va_D (fun q : Nat => s.heap.size ≤ q) (wX6 cI cJ ad6 m_code m_n m_built m_length m_begin m_many m_leastOf m_sizeOf m_own m_bestRow m_tryRow m_keptRow m_otherRow m_row m_formRow m_allForms m_rowsOf m_intervals m_places m_whole) := hD.sub [13, 14, 15, 16, 17, 18, 19, 20, 21, 22, 23, 24, 25, 26, 27] (by decide) rfl
    have hFc := va_free (wc := (wX6 cI cJ ad6 m_code m_n m_built m_length m_begin m_many m_leastOf m_sizeOf m_own m_bestRow m_tryRow m_keptRow m_otherRow m_row m_formRow m_allForms m_rowsOf m_intervals m_places m_whole)) hD hS hA [13, 14, 15, 16, 17, 18, 19, 20, 21, 22, 23, 24, 25, 26, 27] rfl
    refine va_calli (va_runV (As := [.int (xs (x4 + (1 : Int32)).toNatClampNeg), .int (0 : Int32)]) (rest := [.int r]) hfix (c_X6_keeps l dC dI cI cJ ad6 H.size m_code m_n m_built m_length m_begin m_many m_leastOf m_sizeOf m_own m_bestRow m_tryRow m_keptRow m_otherRow m_row m_formRow m_allForms m_rowsOf m_intervals m_places m_whole (xs (x4 + (1 : Int32)).toNatClampNeg) (0 : Int32) _ _ hF6) (cwV 2 hts gv_X6_keeps rfl rfl rfl (by decide +kernel) ⟨by decide, by decide⟩) (rwP.preV hK hPc hDc rfl (ci := 6) rfl rfl) rfl rfl hl.1 rfl (lv_room (Nat.le_of_ble_eq_true rfl)) dL_law_871 ⟨hc1, hc2⟩) hS (fun q _ h => hFc q h) hFc (fun y9 u t H1 locs ht hvm hw hB hz1 hk1 hS => ?_)
    obtain ⟨hP1, -, hD1⟩ := hB
    rw [ht] at hP1
    have hw : y9 = r := hw
    rw [hw]
    obtain ⟨hP, hD⟩ := va_join (wr := [((ad5 0), .inr (5, [.ref (ad5 1), .ref (ad5 2), .ref (ad5 3), .ref (ad5 4), .ref (ad5 5), .ref (ad5 6), .ref (ad5 7)])), ((ad5 1), .inr (0, [.int n, .int ev])), ((ad5 2), .inr (2, [.ref (ad5 1)])), ((ad5 3), .inr (1, [.ref (ad5 1), .int 0, .ref (ad5 8), .int ld0])), ((ad5 4), .inr (1, [.ref (ad5 1), .int 1, .ref (ad5 9), .int ld1])), ((ad5 5), .inr (1, [.ref (ad5 1), .int 2, .ref (ad5 10), .int ld2])), ((ad5 6), .inr (3, [.ref (ad5 1), .ref (ad5 11), .int tk, .int mb])), ((ad5 7), .inr (4, [.ref (ad5 12)])), ((ad5 8), .inl (cI, 352, .inl f0)), ((ad5 9), .inl (cI, 352, .inl f1)), ((ad5 10), .inl (cI, 352, .inl f2)), ((ad5 11), .inl (cI, 12, .inl fr)), ((ad5 12), .inl (cI, 13, .inl fu)), (qo, .inl (cJ, 1, .inr (.inl fo)))]) (w1 := (wX6 cI cJ ad6 m_code' m_n m_built m_length m_begin m_many m_leastOf m_sizeOf m_own m_bestRow m_tryRow m_keptRow m_otherRow m_row m_formRow m_allForms m_rowsOf m_intervals m_places m_whole)) hP hD [13, 14, 15, 16, 17, 18, 19, 20, 21, 22, 23, 24, 25, 26, 27] [0, 1, 2, 3, 4, 5, 6, 7, 8, 9, 10, 11, 12, 28] rfl rfl (by decide) (by decide) hk1 hFc hP1 hD1
    generalize H1 = H at hP hS ⊢
    have hP : va_P (dC, dI) vwCl (wLaw cI cJ ad5 ad6 qo n ev ld0 ld1 ld2 tk mb f0 f1 f2 fr fu m_code' m_n m_built m_length m_begin m_many m_leastOf m_sizeOf m_own m_bestRow m_tryRow m_keptRow m_otherRow m_row m_formRow m_allForms m_rowsOf m_intervals m_places m_whole fo) H := hP.sub [0, 1, 2, 3, 4, 5, 6, 7, 8, 9, 10, 11, 12, 14, 15, 16, 17, 18, 19, 20, 21, 22, 23, 24, 25, 26, 27, 28, 13] rfl
    have hD : va_D (fun q : Nat => s.heap.size ≤ q) (wLaw cI cJ ad5 ad6 qo n ev ld0 ld1 ld2 tk mb f0 f1 f2 fr fu m_code' m_n m_built m_length m_begin m_many m_leastOf m_sizeOf m_own m_bestRow m_tryRow m_keptRow m_otherRow m_row m_formRow m_allForms m_rowsOf m_intervals m_places m_whole fo) := hD.sub [0, 1, 2, 3, 4, 5, 6, 7, 8, 9, 10, 11, 12, 14, 15, 16, 17, 18, 19, 20, 21, 22, 23, 24, 25, 26, 27, 28, 13] (by decide) rfl
    refine lv_icmp_eq (tgt := 1318) hx hb dL_law_874 (by decide) (fun _ => ?_) (fun q9 => absurd rfl q9)
    exact kk _ _ hP hD hS
  · have hy0 : y2 = 1 := by rw [hy, if_neg qb]
    subst hy0
    refine lv_iconst (v := (1 : Int32)) hx hb dL_law_842 (by decide) ?_
    refine lv_goto (tgt := 847) hx hb dL_law_843 (by decide) ?_
    have hPc : va_P (dC, dI) vwCl (wX5 cI cJ ad5 n ev ld0 ld1 ld2 tk mb f0 f1 f2 fr fu) H := hP.sub [0, 1, 2, 3, 4, 5, 6, 7, 8, 9, 10, 11, 12] rfl
    refine cs_i (va_runV (As := [.int (xs (x4 + (1 : Int32)).toNatClampNeg), .int (1 : Int32)]) (rest := []) hfix (c_X5_keeps l dC dI cI cJ ad5 n ev ld0 ld1 ld2 tk mb f0 f1 f2 fr fu (xs (x4 + (1 : Int32)).toNatClampNeg) (1 : Int32) _ hF5) (cwV 2 hts gv_X5_keeps rfl rfl rfl (by decide +kernel) ⟨by decide, by decide⟩) (roP.preV hK hPc (ci := 5) rfl rfl) rfl rfl hl.1 rfl (lv_room (Nat.le_of_ble_eq_true rfl)) dL_law_847 ⟨hc1, hc2⟩) ?_
    refine lv_aload_n hx hb dL_law_850 rfl (lv_at hl 2 rfl) ?_
    refine lv_aload_n hx hb dL_law_851 rfl (lv_at hl 0 rfl) ?_
    refine lv_iload hx hb dL_law_852 (lv_at hl 4 rfl) ?_
    refine lv_iconst (v := (1 : Int32)) hx hb dL_law_854 (by decide) ?_
    refine lv_iadd hx hb dL_law_855 ?_
    refine va_sld hx hb hX hbl hbA hS i1 dL_law_856 ?_
    refine lv_aload_n hx hb dL_law_857 rfl (lv_at hl 0 rfl) ?_
    refine lv_iload hx hb dL_law_858 (lv_at hl 4 rfl) ?_
    refine lv_iconst (v := (2 : Int32)) hx hb dL_law_860 (by decide) ?_
    refine lv_iadd hx hb dL_law_861 ?_
    refine va_sld hx hb hX hbl hbA hS i2 dL_law_862 ?_
    refine lv_if_eq (tgt := 870) hx hb dL_law_863 (by decide) (fun q9 => absurd q9 qb) (fun _ => ?_)
    refine lv_iconst (v := (1 : Int32)) hx hb dL_law_866 (by decide) ?_
    refine lv_goto (tgt := 871) hx hb dL_law_867 (by decide) ?_
    have hPc : va_P (dC, dI) vwCl (wX6 cI cJ ad6 m_code m_n m_built m_length m_begin m_many m_leastOf m_sizeOf m_own m_bestRow m_tryRow m_keptRow m_otherRow m_row m_formRow m_allForms m_rowsOf m_intervals m_places m_whole) H := hP.sub [13, 14, 15, 16, 17, 18, 19, 20, 21, 22, 23, 24, 25, 26, 27] rfl
    have hDc : va_D (fun q : Nat => s.heap.size ≤ q) (wX6 cI cJ ad6 m_code m_n m_built m_length m_begin m_many m_leastOf m_sizeOf m_own m_bestRow m_tryRow m_keptRow m_otherRow m_row m_formRow m_allForms m_rowsOf m_intervals m_places m_whole) := hD.sub [13, 14, 15, 16, 17, 18, 19, 20, 21, 22, 23, 24, 25, 26, 27] (by decide) rfl
    have hFc := va_free (wc := (wX6 cI cJ ad6 m_code m_n m_built m_length m_begin m_many m_leastOf m_sizeOf m_own m_bestRow m_tryRow m_keptRow m_otherRow m_row m_formRow m_allForms m_rowsOf m_intervals m_places m_whole)) hD hS hA [13, 14, 15, 16, 17, 18, 19, 20, 21, 22, 23, 24, 25, 26, 27] rfl
    refine va_calli (va_runV (As := [.int (xs (x4 + (1 : Int32)).toNatClampNeg), .int (1 : Int32)]) (rest := [.int r]) hfix (c_X6_keeps l dC dI cI cJ ad6 H.size m_code m_n m_built m_length m_begin m_many m_leastOf m_sizeOf m_own m_bestRow m_tryRow m_keptRow m_otherRow m_row m_formRow m_allForms m_rowsOf m_intervals m_places m_whole (xs (x4 + (1 : Int32)).toNatClampNeg) (1 : Int32) _ _ hF6) (cwV 2 hts gv_X6_keeps rfl rfl rfl (by decide +kernel) ⟨by decide, by decide⟩) (rwP.preV hK hPc hDc rfl (ci := 6) rfl rfl) rfl rfl hl.1 rfl (lv_room (Nat.le_of_ble_eq_true rfl)) dL_law_871 ⟨hc1, hc2⟩) hS (fun q _ h => hFc q h) hFc (fun y9 u t H1 locs ht hvm hw hB hz1 hk1 hS => ?_)
    obtain ⟨hP1, -, hD1⟩ := hB
    rw [ht] at hP1
    have hw : y9 = r := hw
    rw [hw]
    obtain ⟨hP, hD⟩ := va_join (wr := [((ad5 0), .inr (5, [.ref (ad5 1), .ref (ad5 2), .ref (ad5 3), .ref (ad5 4), .ref (ad5 5), .ref (ad5 6), .ref (ad5 7)])), ((ad5 1), .inr (0, [.int n, .int ev])), ((ad5 2), .inr (2, [.ref (ad5 1)])), ((ad5 3), .inr (1, [.ref (ad5 1), .int 0, .ref (ad5 8), .int ld0])), ((ad5 4), .inr (1, [.ref (ad5 1), .int 1, .ref (ad5 9), .int ld1])), ((ad5 5), .inr (1, [.ref (ad5 1), .int 2, .ref (ad5 10), .int ld2])), ((ad5 6), .inr (3, [.ref (ad5 1), .ref (ad5 11), .int tk, .int mb])), ((ad5 7), .inr (4, [.ref (ad5 12)])), ((ad5 8), .inl (cI, 352, .inl f0)), ((ad5 9), .inl (cI, 352, .inl f1)), ((ad5 10), .inl (cI, 352, .inl f2)), ((ad5 11), .inl (cI, 12, .inl fr)), ((ad5 12), .inl (cI, 13, .inl fu)), (qo, .inl (cJ, 1, .inr (.inl fo)))]) (w1 := (wX6 cI cJ ad6 m_code' m_n m_built m_length m_begin m_many m_leastOf m_sizeOf m_own m_bestRow m_tryRow m_keptRow m_otherRow m_row m_formRow m_allForms m_rowsOf m_intervals m_places m_whole)) hP hD [13, 14, 15, 16, 17, 18, 19, 20, 21, 22, 23, 24, 25, 26, 27] [0, 1, 2, 3, 4, 5, 6, 7, 8, 9, 10, 11, 12, 28] rfl rfl (by decide) (by decide) hk1 hFc hP1 hD1
    generalize H1 = H at hP hS ⊢
    have hP : va_P (dC, dI) vwCl (wLaw cI cJ ad5 ad6 qo n ev ld0 ld1 ld2 tk mb f0 f1 f2 fr fu m_code' m_n m_built m_length m_begin m_many m_leastOf m_sizeOf m_own m_bestRow m_tryRow m_keptRow m_otherRow m_row m_formRow m_allForms m_rowsOf m_intervals m_places m_whole fo) H := hP.sub [0, 1, 2, 3, 4, 5, 6, 7, 8, 9, 10, 11, 12, 14, 15, 16, 17, 18, 19, 20, 21, 22, 23, 24, 25, 26, 27, 28, 13] rfl
    have hD : va_D (fun q : Nat => s.heap.size ≤ q) (wLaw cI cJ ad5 ad6 qo n ev ld0 ld1 ld2 tk mb f0 f1 f2 fr fu m_code' m_n m_built m_length m_begin m_many m_leastOf m_sizeOf m_own m_bestRow m_tryRow m_keptRow m_otherRow m_row m_formRow m_allForms m_rowsOf m_intervals m_places m_whole fo) := hD.sub [0, 1, 2, 3, 4, 5, 6, 7, 8, 9, 10, 11, 12, 14, 15, 16, 17, 18, 19, 20, 21, 22, 23, 24, 25, 26, 27, 28, 13] (by decide) rfl
    refine lv_icmp_eq (tgt := 1318) hx hb dL_law_874 (by decide) (fun _ => ?_) (fun q9 => absurd rfl q9)
    exact kk _ _ hP hD hS
set_option maxHeartbeats 2000000 in
set_option maxRecDepth 100000 in
theorem law_even {p : Program} {l : Launch} {e : Env} {s : State} {m : MethodId} {below : List Frame} {meth : Method} {c : Code} {b L : Nat} {xs : Nat → Int32} (C0 : lw_At p s m meth c b L xs) {dC : Nat → ClassId} {dI : Nat → Nat → Nat} {cI cJ : ClassId} (hK : vK (dC, dI) [(cI, .int), (cJ, .long)] s) {cells slots : Nat} (hc1 : cells ≤ 601024) (hc2 : slots ≤ 7293034) {ad5 ad6 : Nat → Nat} {qo : Nat} {n : Int32} {ev : Int32} {ld0 : Int32} {ld1 : Int32} {ld2 : Int32} {tk : Int32} {mb : Int32} {f0 : Nat → Int32} {f1 : Nat → Int32} {f2 : Nat → Int32} {fr : Nat → Int32} {fu : Nat → Int32} {m_code : Int32} {m_n : Int32} {m_built : Int32} {m_length : Int32} {m_begin : Int32} {m_many : Int32} {m_leastOf : Nat → Int32} {m_sizeOf : Nat → Int32} {m_own : Nat → Int32} {m_bestRow : Nat → Int32} {m_tryRow : Nat → Int32} {m_keptRow : Nat → Int32} {m_otherRow : Nat → Int32} {m_row : Nat → Int32} {m_formRow : Nat → Int32} {m_allForms : Nat → Int32} {m_rowsOf : Nat → Int32} {m_intervals : Nat → Int32} {m_places : Nat → Int32} {m_whole : Nat → Int64} {fo : Nat → Int64} {x4 : Int32} (i1 : vp_in (x4 + (1 : Int32)) L) {r : Int32} {m_code' : Int32} {m_length' : Int32} {m_own' : Nat → Int32} (hF5 : FX5_even n ev (xs (x4 + (1 : Int32)).toNatClampNeg) = some r) (hF6 : FX6_even m_code m_n m_length m_own (xs (x4 + (1 : Int32)).toNatClampNeg) = some (r, m_code', m_length', m_own')) {H : Heap} {locs : List Loc} {ls : Array Slot} (hP : va_P (dC, dI) vwCl (wLaw cI cJ ad5 ad6 qo n ev ld0 ld1 ld2 tk mb f0 f1 f2 fr fu m_code m_n m_built m_length m_begin m_many m_leastOf m_sizeOf m_own m_bestRow m_tryRow m_keptRow m_otherRow m_row m_formRow m_allForms m_rowsOf m_intervals m_places m_whole fo) H) (hD : va_D (fun q : Nat => s.heap.size ≤ q) (wLaw cI cJ ad5 ad6 qo n ev ld0 ld1 ld2 tk mb f0 f1 f2 fr fu m_code m_n m_built m_length m_begin m_many m_leastOf m_sizeOf m_own m_bestRow m_tryRow m_keptRow m_otherRow m_row m_formRow m_allForms m_rowsOf m_intervals m_places m_whole fo)) (hS : va_S (fun q : Nat => s.heap.size ≤ q) s.heap H locs) (hl : lv_has ls 7 [(0, .ref b), (1, .ref (ad5 0)), (2, .ref (ad6 0)), (3, .ref qo), (4, .int x4)]) (kk : ∀ (H : Heap) (locs : List Loc), va_P (dC, dI) vwCl (wLaw cI cJ ad5 ad6 qo n ev ld0 ld1 ld2 tk mb f0 f1 f2 fr fu m_code' m_n m_built m_length' m_begin m_many m_leastOf m_sizeOf m_own' m_bestRow m_tryRow m_keptRow m_otherRow m_row m_formRow m_allForms m_rowsOf m_intervals m_places m_whole fo) H → va_D (fun q : Nat => s.heap.size ≤ q) (wLaw cI cJ ad5 ad6 qo n ev ld0 ld1 ld2 tk mb f0 f1 f2 fr fu m_code' m_n m_built m_length' m_begin m_many m_leastOf m_sizeOf m_own' m_bestRow m_tryRow m_keptRow m_otherRow m_row m_formRow m_allForms m_rowsOf m_intervals m_places m_whole fo) → va_S (fun q : Nat => s.heap.size ≤ q) s.heap H locs → W p l e room_1 s m #[Value.ref b] below meth c H locs cells slots (lw_Z below #[Value.ref b] s) (F0 m 1318 ls [])) : W p l e room_1 s m #[Value.ref b] below meth c H locs cells slots (lw_Z below #[Value.ref b] s) (F0 m 879 ls []) := by
  obtain ⟨hx, hb, hr, hml, hown, hts, hX, hbl, hlocks, hgv⟩ := C0
  have hA : ∀ q : Nat, s.heap.size ≤ q → (fun q : Nat => s.heap.size ≤ q) q := fun _ h => h
  have hbA : ¬ (fun q : Nat => s.heap.size ≤ q) b := Nat.not_le.mpr hbl
  have hfix : CallFix p m c cL_law 7 s #[Value.ref b] lw_tbl RL := ⟨hx, hb, hml, hown, hts⟩
  refine lv_aload_n hx hb dL_law_879 rfl (lv_at hl 1 rfl) ?_
  refine lv_aload_n hx hb dL_law_880 rfl (lv_at hl 0 rfl) ?_
  refine lv_iload hx hb dL_law_881 (lv_at hl 4 rfl) ?_
  refine lv_iconst (v := (1 : Int32)) hx hb dL_law_883 (by decide) ?_
  refine lv_iadd hx hb dL_law_884 ?_
  refine va_sld hx hb hX hbl hbA hS i1 dL_law_885 ?_
  have hPc : va_P (dC, dI) vwCl (wX5 cI cJ ad5 n ev ld0 ld1 ld2 tk mb f0 f1 f2 fr fu) H := hP.sub [0, 1, 2, 3, 4, 5, 6, 7, 8, 9, 10, 11, 12] rfl
  refine cs_i (va_runV (As := [.int (xs (x4 + (1 : Int32)).toNatClampNeg)]) (rest := []) hfix (c_X5_even l dC dI cI cJ ad5 n ev ld0 ld1 ld2 tk mb f0 f1 f2 fr fu (xs (x4 + (1 : Int32)).toNatClampNeg) _ hF5) (cwV 1 hts gv_X5_even rfl rfl rfl (by decide +kernel) ⟨by decide, by decide⟩) (roP.preV hK hPc (ci := 5) rfl rfl) rfl rfl hl.1 rfl (lv_room (Nat.le_of_ble_eq_true rfl)) dL_law_886 ⟨hc1, hc2⟩) ?_
  refine lv_aload_n hx hb dL_law_889 rfl (lv_at hl 2 rfl) ?_
  refine lv_aload_n hx hb dL_law_890 rfl (lv_at hl 0 rfl) ?_
  refine lv_iload hx hb dL_law_891 (lv_at hl 4 rfl) ?_
  refine lv_iconst (v := (1 : Int32)) hx hb dL_law_893 (by decide) ?_
  refine lv_iadd hx hb dL_law_894 ?_
  refine va_sld hx hb hX hbl hbA hS i1 dL_law_895 ?_
  have hPc : va_P (dC, dI) vwCl (wX6 cI cJ ad6 m_code m_n m_built m_length m_begin m_many m_leastOf m_sizeOf m_own m_bestRow m_tryRow m_keptRow m_otherRow m_row m_formRow m_allForms m_rowsOf m_intervals m_places m_whole) H := hP.sub [13, 14, 15, 16, 17, 18, 19, 20, 21, 22, 23, 24, 25, 26, 27] rfl
  have hDc : va_D (fun q : Nat => s.heap.size ≤ q) (wX6 cI cJ ad6 m_code m_n m_built m_length m_begin m_many m_leastOf m_sizeOf m_own m_bestRow m_tryRow m_keptRow m_otherRow m_row m_formRow m_allForms m_rowsOf m_intervals m_places m_whole) := hD.sub [13, 14, 15, 16, 17, 18, 19, 20, 21, 22, 23, 24, 25, 26, 27] (by decide) rfl
  have hFc := va_free (wc := (wX6 cI cJ ad6 m_code m_n m_built m_length m_begin m_many m_leastOf m_sizeOf m_own m_bestRow m_tryRow m_keptRow m_otherRow m_row m_formRow m_allForms m_rowsOf m_intervals m_places m_whole)) hD hS hA [13, 14, 15, 16, 17, 18, 19, 20, 21, 22, 23, 24, 25, 26, 27] rfl
  refine va_calli (va_runV (As := [.int (xs (x4 + (1 : Int32)).toNatClampNeg)]) (rest := [.int r]) hfix (c_X6_even l dC dI cI cJ ad6 H.size m_code m_n m_built m_length m_begin m_many m_leastOf m_sizeOf m_own m_bestRow m_tryRow m_keptRow m_otherRow m_row m_formRow m_allForms m_rowsOf m_intervals m_places m_whole (xs (x4 + (1 : Int32)).toNatClampNeg) _ _ _ _ hF6) (cwV 1 hts gv_X6_even rfl rfl rfl (by decide +kernel) ⟨by decide, by decide⟩) (rwP.preV hK hPc hDc rfl (ci := 6) rfl rfl) rfl rfl hl.1 rfl (lv_room (Nat.le_of_ble_eq_true rfl)) dL_law_896 ⟨hc1, hc2⟩) hS (fun q _ h => hFc q h) hFc (fun y9 u t H1 locs ht hvm hw hB hz1 hk1 hS => ?_)
  obtain ⟨hP1, -, hD1⟩ := hB
  rw [ht] at hP1
  have hw : y9 = r := hw
  rw [hw]
  obtain ⟨hP, hD⟩ := va_join (wr := [((ad5 0), .inr (5, [.ref (ad5 1), .ref (ad5 2), .ref (ad5 3), .ref (ad5 4), .ref (ad5 5), .ref (ad5 6), .ref (ad5 7)])), ((ad5 1), .inr (0, [.int n, .int ev])), ((ad5 2), .inr (2, [.ref (ad5 1)])), ((ad5 3), .inr (1, [.ref (ad5 1), .int 0, .ref (ad5 8), .int ld0])), ((ad5 4), .inr (1, [.ref (ad5 1), .int 1, .ref (ad5 9), .int ld1])), ((ad5 5), .inr (1, [.ref (ad5 1), .int 2, .ref (ad5 10), .int ld2])), ((ad5 6), .inr (3, [.ref (ad5 1), .ref (ad5 11), .int tk, .int mb])), ((ad5 7), .inr (4, [.ref (ad5 12)])), ((ad5 8), .inl (cI, 352, .inl f0)), ((ad5 9), .inl (cI, 352, .inl f1)), ((ad5 10), .inl (cI, 352, .inl f2)), ((ad5 11), .inl (cI, 12, .inl fr)), ((ad5 12), .inl (cI, 13, .inl fu)), (qo, .inl (cJ, 1, .inr (.inl fo)))]) (w1 := (wX6 cI cJ ad6 m_code' m_n m_built m_length' m_begin m_many m_leastOf m_sizeOf m_own' m_bestRow m_tryRow m_keptRow m_otherRow m_row m_formRow m_allForms m_rowsOf m_intervals m_places m_whole)) hP hD [13, 14, 15, 16, 17, 18, 19, 20, 21, 22, 23, 24, 25, 26, 27] [0, 1, 2, 3, 4, 5, 6, 7, 8, 9, 10, 11, 12, 28] rfl rfl (by decide) (by decide) hk1 hFc hP1 hD1
  generalize H1 = H at hP hS ⊢
  have hP : va_P (dC, dI) vwCl (wLaw cI cJ ad5 ad6 qo n ev ld0 ld1 ld2 tk mb f0 f1 f2 fr fu m_code' m_n m_built m_length' m_begin m_many m_leastOf m_sizeOf m_own' m_bestRow m_tryRow m_keptRow m_otherRow m_row m_formRow m_allForms m_rowsOf m_intervals m_places m_whole fo) H := hP.sub [0, 1, 2, 3, 4, 5, 6, 7, 8, 9, 10, 11, 12, 14, 15, 16, 17, 18, 19, 20, 21, 22, 23, 24, 25, 26, 27, 28, 13] rfl
  have hD : va_D (fun q : Nat => s.heap.size ≤ q) (wLaw cI cJ ad5 ad6 qo n ev ld0 ld1 ld2 tk mb f0 f1 f2 fr fu m_code' m_n m_built m_length' m_begin m_many m_leastOf m_sizeOf m_own' m_bestRow m_tryRow m_keptRow m_otherRow m_row m_formRow m_allForms m_rowsOf m_intervals m_places m_whole fo) := hD.sub [0, 1, 2, 3, 4, 5, 6, 7, 8, 9, 10, 11, 12, 14, 15, 16, 17, 18, 19, 20, 21, 22, 23, 24, 25, 26, 27, 28, 13] (by decide) rfl
  refine lv_icmp_eq (tgt := 1318) hx hb dL_law_899 (by decide) (fun _ => ?_) (fun q9 => absurd rfl q9)
  exact kk _ _ hP hD hS
set_option maxHeartbeats 2000000 in
set_option maxRecDepth 100000 in
theorem law_spread {p : Program} {l : Launch} {e : Env} {s : State} {m : MethodId} {below : List Frame} {meth : Method} {c : Code} {b L : Nat} {xs : Nat → Int32} (C0 : lw_At p s m meth c b L xs) {dC : Nat → ClassId} {dI : Nat → Nat → Nat} {cI cJ : ClassId} (hK : vK (dC, dI) [(cI, .int), (cJ, .long)] s) {cells slots : Nat} (hc1 : cells ≤ 601024) (hc2 : slots ≤ 7293034) {ad5 ad6 : Nat → Nat} {qo : Nat} {n : Int32} {ev : Int32} {ld0 : Int32} {ld1 : Int32} {ld2 : Int32} {tk : Int32} {mb : Int32} {f0 : Nat → Int32} {f1 : Nat → Int32} {f2 : Nat → Int32} {fr : Nat → Int32} {fu : Nat → Int32} {m_code : Int32} {m_n : Int32} {m_built : Int32} {m_length : Int32} {m_begin : Int32} {m_many : Int32} {m_leastOf : Nat → Int32} {m_sizeOf : Nat → Int32} {m_own : Nat → Int32} {m_bestRow : Nat → Int32} {m_tryRow : Nat → Int32} {m_keptRow : Nat → Int32} {m_otherRow : Nat → Int32} {m_row : Nat → Int32} {m_formRow : Nat → Int32} {m_allForms : Nat → Int32} {m_rowsOf : Nat → Int32} {m_intervals : Nat → Int32} {m_places : Nat → Int32} {m_whole : Nat → Int64} {fo : Nat → Int64} {x4 : Int32} (i1 : vp_in (x4 + (1 : Int32)) L) (i2 : vp_in (x4 + (2 : Int32)) L) {r : Int32} {m_code' : Int32} (hF5 : FX5_spread n (xs (x4 + (1 : Int32)).toNatClampNeg) (xs (x4 + (2 : Int32)).toNatClampNeg) = some r) (hF6 : FX6_spread m_code m_n (xs (x4 + (1 : Int32)).toNatClampNeg) (xs (x4 + (2 : Int32)).toNatClampNeg) = some (r, m_code')) {H : Heap} {locs : List Loc} {ls : Array Slot} (hP : va_P (dC, dI) vwCl (wLaw cI cJ ad5 ad6 qo n ev ld0 ld1 ld2 tk mb f0 f1 f2 fr fu m_code m_n m_built m_length m_begin m_many m_leastOf m_sizeOf m_own m_bestRow m_tryRow m_keptRow m_otherRow m_row m_formRow m_allForms m_rowsOf m_intervals m_places m_whole fo) H) (hD : va_D (fun q : Nat => s.heap.size ≤ q) (wLaw cI cJ ad5 ad6 qo n ev ld0 ld1 ld2 tk mb f0 f1 f2 fr fu m_code m_n m_built m_length m_begin m_many m_leastOf m_sizeOf m_own m_bestRow m_tryRow m_keptRow m_otherRow m_row m_formRow m_allForms m_rowsOf m_intervals m_places m_whole fo)) (hS : va_S (fun q : Nat => s.heap.size ≤ q) s.heap H locs) (hl : lv_has ls 7 [(0, .ref b), (1, .ref (ad5 0)), (2, .ref (ad6 0)), (3, .ref qo), (4, .int x4)]) (kk : ∀ (H : Heap) (locs : List Loc), va_P (dC, dI) vwCl (wLaw cI cJ ad5 ad6 qo n ev ld0 ld1 ld2 tk mb f0 f1 f2 fr fu m_code' m_n m_built m_length m_begin m_many m_leastOf m_sizeOf m_own m_bestRow m_tryRow m_keptRow m_otherRow m_row m_formRow m_allForms m_rowsOf m_intervals m_places m_whole fo) H → va_D (fun q : Nat => s.heap.size ≤ q) (wLaw cI cJ ad5 ad6 qo n ev ld0 ld1 ld2 tk mb f0 f1 f2 fr fu m_code' m_n m_built m_length m_begin m_many m_leastOf m_sizeOf m_own m_bestRow m_tryRow m_keptRow m_otherRow m_row m_formRow m_allForms m_rowsOf m_intervals m_places m_whole fo) → va_S (fun q : Nat => s.heap.size ≤ q) s.heap H locs → W p l e room_1 s m #[Value.ref b] below meth c H locs cells slots (lw_Z below #[Value.ref b] s) (F0 m 1318 ls [])) : W p l e room_1 s m #[Value.ref b] below meth c H locs cells slots (lw_Z below #[Value.ref b] s) (F0 m 904 ls []) := by
  obtain ⟨hx, hb, hr, hml, hown, hts, hX, hbl, hlocks, hgv⟩ := C0
  have hA : ∀ q : Nat, s.heap.size ≤ q → (fun q : Nat => s.heap.size ≤ q) q := fun _ h => h
  have hbA : ¬ (fun q : Nat => s.heap.size ≤ q) b := Nat.not_le.mpr hbl
  have hfix : CallFix p m c cL_law 7 s #[Value.ref b] lw_tbl RL := ⟨hx, hb, hml, hown, hts⟩
  refine lv_aload_n hx hb dL_law_904 rfl (lv_at hl 1 rfl) ?_
  refine lv_aload_n hx hb dL_law_905 rfl (lv_at hl 0 rfl) ?_
  refine lv_iload hx hb dL_law_906 (lv_at hl 4 rfl) ?_
  refine lv_iconst (v := (1 : Int32)) hx hb dL_law_908 (by decide) ?_
  refine lv_iadd hx hb dL_law_909 ?_
  refine va_sld hx hb hX hbl hbA hS i1 dL_law_910 ?_
  refine lv_aload_n hx hb dL_law_911 rfl (lv_at hl 0 rfl) ?_
  refine lv_iload hx hb dL_law_912 (lv_at hl 4 rfl) ?_
  refine lv_iconst (v := (2 : Int32)) hx hb dL_law_914 (by decide) ?_
  refine lv_iadd hx hb dL_law_915 ?_
  refine va_sld hx hb hX hbl hbA hS i2 dL_law_916 ?_
  have hPc : va_P (dC, dI) vwCl (wX5 cI cJ ad5 n ev ld0 ld1 ld2 tk mb f0 f1 f2 fr fu) H := hP.sub [0, 1, 2, 3, 4, 5, 6, 7, 8, 9, 10, 11, 12] rfl
  refine cs_i (va_runV (As := [.int (xs (x4 + (1 : Int32)).toNatClampNeg), .int (xs (x4 + (2 : Int32)).toNatClampNeg)]) (rest := []) hfix (c_X5_spread l dC dI cI cJ ad5 n ev ld0 ld1 ld2 tk mb f0 f1 f2 fr fu (xs (x4 + (1 : Int32)).toNatClampNeg) (xs (x4 + (2 : Int32)).toNatClampNeg) _ hF5) (cwV 2 hts gv_X5_spread rfl rfl rfl (by decide +kernel) ⟨by decide, by decide⟩) (roP.preV hK hPc (ci := 5) rfl rfl) rfl rfl hl.1 rfl (lv_room (Nat.le_of_ble_eq_true rfl)) dL_law_917 ⟨hc1, hc2⟩) ?_
  refine lv_aload_n hx hb dL_law_920 rfl (lv_at hl 2 rfl) ?_
  refine lv_aload_n hx hb dL_law_921 rfl (lv_at hl 0 rfl) ?_
  refine lv_iload hx hb dL_law_922 (lv_at hl 4 rfl) ?_
  refine lv_iconst (v := (1 : Int32)) hx hb dL_law_924 (by decide) ?_
  refine lv_iadd hx hb dL_law_925 ?_
  refine va_sld hx hb hX hbl hbA hS i1 dL_law_926 ?_
  refine lv_aload_n hx hb dL_law_927 rfl (lv_at hl 0 rfl) ?_
  refine lv_iload hx hb dL_law_928 (lv_at hl 4 rfl) ?_
  refine lv_iconst (v := (2 : Int32)) hx hb dL_law_930 (by decide) ?_
  refine lv_iadd hx hb dL_law_931 ?_
  refine va_sld hx hb hX hbl hbA hS i2 dL_law_932 ?_
  have hPc : va_P (dC, dI) vwCl (wX6 cI cJ ad6 m_code m_n m_built m_length m_begin m_many m_leastOf m_sizeOf m_own m_bestRow m_tryRow m_keptRow m_otherRow m_row m_formRow m_allForms m_rowsOf m_intervals m_places m_whole) H := hP.sub [13, 14, 15, 16, 17, 18, 19, 20, 21, 22, 23, 24, 25, 26, 27] rfl
  have hDc : va_D (fun q : Nat => s.heap.size ≤ q) (wX6 cI cJ ad6 m_code m_n m_built m_length m_begin m_many m_leastOf m_sizeOf m_own m_bestRow m_tryRow m_keptRow m_otherRow m_row m_formRow m_allForms m_rowsOf m_intervals m_places m_whole) := hD.sub [13, 14, 15, 16, 17, 18, 19, 20, 21, 22, 23, 24, 25, 26, 27] (by decide) rfl
  have hFc := va_free (wc := (wX6 cI cJ ad6 m_code m_n m_built m_length m_begin m_many m_leastOf m_sizeOf m_own m_bestRow m_tryRow m_keptRow m_otherRow m_row m_formRow m_allForms m_rowsOf m_intervals m_places m_whole)) hD hS hA [13, 14, 15, 16, 17, 18, 19, 20, 21, 22, 23, 24, 25, 26, 27] rfl
  refine va_calli (va_runV (As := [.int (xs (x4 + (1 : Int32)).toNatClampNeg), .int (xs (x4 + (2 : Int32)).toNatClampNeg)]) (rest := [.int r]) hfix (c_X6_spread l dC dI cI cJ ad6 H.size m_code m_n m_built m_length m_begin m_many m_leastOf m_sizeOf m_own m_bestRow m_tryRow m_keptRow m_otherRow m_row m_formRow m_allForms m_rowsOf m_intervals m_places m_whole (xs (x4 + (1 : Int32)).toNatClampNeg) (xs (x4 + (2 : Int32)).toNatClampNeg) _ _ hF6) (cwV 2 hts gv_X6_spread rfl rfl rfl (by decide +kernel) ⟨by decide, by decide⟩) (rwP.preV hK hPc hDc rfl (ci := 6) rfl rfl) rfl rfl hl.1 rfl (lv_room (Nat.le_of_ble_eq_true rfl)) dL_law_933 ⟨hc1, hc2⟩) hS (fun q _ h => hFc q h) hFc (fun y9 u t H1 locs ht hvm hw hB hz1 hk1 hS => ?_)
  obtain ⟨hP1, -, hD1⟩ := hB
  rw [ht] at hP1
  have hw : y9 = r := hw
  rw [hw]
  obtain ⟨hP, hD⟩ := va_join (wr := [((ad5 0), .inr (5, [.ref (ad5 1), .ref (ad5 2), .ref (ad5 3), .ref (ad5 4), .ref (ad5 5), .ref (ad5 6), .ref (ad5 7)])), ((ad5 1), .inr (0, [.int n, .int ev])), ((ad5 2), .inr (2, [.ref (ad5 1)])), ((ad5 3), .inr (1, [.ref (ad5 1), .int 0, .ref (ad5 8), .int ld0])), ((ad5 4), .inr (1, [.ref (ad5 1), .int 1, .ref (ad5 9), .int ld1])), ((ad5 5), .inr (1, [.ref (ad5 1), .int 2, .ref (ad5 10), .int ld2])), ((ad5 6), .inr (3, [.ref (ad5 1), .ref (ad5 11), .int tk, .int mb])), ((ad5 7), .inr (4, [.ref (ad5 12)])), ((ad5 8), .inl (cI, 352, .inl f0)), ((ad5 9), .inl (cI, 352, .inl f1)), ((ad5 10), .inl (cI, 352, .inl f2)), ((ad5 11), .inl (cI, 12, .inl fr)), ((ad5 12), .inl (cI, 13, .inl fu)), (qo, .inl (cJ, 1, .inr (.inl fo)))]) (w1 := (wX6 cI cJ ad6 m_code' m_n m_built m_length m_begin m_many m_leastOf m_sizeOf m_own m_bestRow m_tryRow m_keptRow m_otherRow m_row m_formRow m_allForms m_rowsOf m_intervals m_places m_whole)) hP hD [13, 14, 15, 16, 17, 18, 19, 20, 21, 22, 23, 24, 25, 26, 27] [0, 1, 2, 3, 4, 5, 6, 7, 8, 9, 10, 11, 12, 28] rfl rfl (by decide) (by decide) hk1 hFc hP1 hD1
  generalize H1 = H at hP hS ⊢
  have hP : va_P (dC, dI) vwCl (wLaw cI cJ ad5 ad6 qo n ev ld0 ld1 ld2 tk mb f0 f1 f2 fr fu m_code' m_n m_built m_length m_begin m_many m_leastOf m_sizeOf m_own m_bestRow m_tryRow m_keptRow m_otherRow m_row m_formRow m_allForms m_rowsOf m_intervals m_places m_whole fo) H := hP.sub [0, 1, 2, 3, 4, 5, 6, 7, 8, 9, 10, 11, 12, 14, 15, 16, 17, 18, 19, 20, 21, 22, 23, 24, 25, 26, 27, 28, 13] rfl
  have hD : va_D (fun q : Nat => s.heap.size ≤ q) (wLaw cI cJ ad5 ad6 qo n ev ld0 ld1 ld2 tk mb f0 f1 f2 fr fu m_code' m_n m_built m_length m_begin m_many m_leastOf m_sizeOf m_own m_bestRow m_tryRow m_keptRow m_otherRow m_row m_formRow m_allForms m_rowsOf m_intervals m_places m_whole fo) := hD.sub [0, 1, 2, 3, 4, 5, 6, 7, 8, 9, 10, 11, 12, 14, 15, 16, 17, 18, 19, 20, 21, 22, 23, 24, 25, 26, 27, 28, 13] (by decide) rfl
  refine lv_icmp_eq (tgt := 1318) hx hb dL_law_936 (by decide) (fun _ => ?_) (fun q9 => absurd rfl q9)
  exact kk _ _ hP hD hS
set_option maxHeartbeats 2000000 in
set_option maxRecDepth 100000 in
theorem law_generator {p : Program} {l : Launch} {e : Env} {s : State} {m : MethodId} {below : List Frame} {meth : Method} {c : Code} {b L : Nat} {xs : Nat → Int32} (C0 : lw_At p s m meth c b L xs) {dC : Nat → ClassId} {dI : Nat → Nat → Nat} {cI cJ : ClassId} (hK : vK (dC, dI) [(cI, .int), (cJ, .long)] s) {cells slots : Nat} (hc1 : cells ≤ 601024) (hc2 : slots ≤ 7293034) {ad5 ad6 : Nat → Nat} {qo : Nat} {n : Int32} {ev : Int32} {ld0 : Int32} {ld1 : Int32} {ld2 : Int32} {tk : Int32} {mb : Int32} {f0 : Nat → Int32} {f1 : Nat → Int32} {f2 : Nat → Int32} {fr : Nat → Int32} {fu : Nat → Int32} {m_code : Int32} {m_n : Int32} {m_built : Int32} {m_length : Int32} {m_begin : Int32} {m_many : Int32} {m_leastOf : Nat → Int32} {m_sizeOf : Nat → Int32} {m_own : Nat → Int32} {m_bestRow : Nat → Int32} {m_tryRow : Nat → Int32} {m_keptRow : Nat → Int32} {m_otherRow : Nat → Int32} {m_row : Nat → Int32} {m_formRow : Nat → Int32} {m_allForms : Nat → Int32} {m_rowsOf : Nat → Int32} {m_intervals : Nat → Int32} {m_places : Nat → Int32} {m_whole : Nat → Int64} {fo : Nat → Int64} {x4 : Int32} (i1 : vp_in (x4 + (1 : Int32)) L) {r : Int32} {m_code' : Int32} (hF5 : FX5_generator n ev (xs (x4 + (1 : Int32)).toNatClampNeg) = some r) (hF6 : FX6_generator m_code m_n (xs (x4 + (1 : Int32)).toNatClampNeg) = some (r, m_code')) {H : Heap} {locs : List Loc} {ls : Array Slot} (hP : va_P (dC, dI) vwCl (wLaw cI cJ ad5 ad6 qo n ev ld0 ld1 ld2 tk mb f0 f1 f2 fr fu m_code m_n m_built m_length m_begin m_many m_leastOf m_sizeOf m_own m_bestRow m_tryRow m_keptRow m_otherRow m_row m_formRow m_allForms m_rowsOf m_intervals m_places m_whole fo) H) (hD : va_D (fun q : Nat => s.heap.size ≤ q) (wLaw cI cJ ad5 ad6 qo n ev ld0 ld1 ld2 tk mb f0 f1 f2 fr fu m_code m_n m_built m_length m_begin m_many m_leastOf m_sizeOf m_own m_bestRow m_tryRow m_keptRow m_otherRow m_row m_formRow m_allForms m_rowsOf m_intervals m_places m_whole fo)) (hS : va_S (fun q : Nat => s.heap.size ≤ q) s.heap H locs) (hl : lv_has ls 7 [(0, .ref b), (1, .ref (ad5 0)), (2, .ref (ad6 0)), (3, .ref qo), (4, .int x4)]) (kk : ∀ (H : Heap) (locs : List Loc), va_P (dC, dI) vwCl (wLaw cI cJ ad5 ad6 qo n ev ld0 ld1 ld2 tk mb f0 f1 f2 fr fu m_code' m_n m_built m_length m_begin m_many m_leastOf m_sizeOf m_own m_bestRow m_tryRow m_keptRow m_otherRow m_row m_formRow m_allForms m_rowsOf m_intervals m_places m_whole fo) H → va_D (fun q : Nat => s.heap.size ≤ q) (wLaw cI cJ ad5 ad6 qo n ev ld0 ld1 ld2 tk mb f0 f1 f2 fr fu m_code' m_n m_built m_length m_begin m_many m_leastOf m_sizeOf m_own m_bestRow m_tryRow m_keptRow m_otherRow m_row m_formRow m_allForms m_rowsOf m_intervals m_places m_whole fo) → va_S (fun q : Nat => s.heap.size ≤ q) s.heap H locs → W p l e room_1 s m #[Value.ref b] below meth c H locs cells slots (lw_Z below #[Value.ref b] s) (F0 m 1318 ls [])) : W p l e room_1 s m #[Value.ref b] below meth c H locs cells slots (lw_Z below #[Value.ref b] s) (F0 m 941 ls []) := by
  obtain ⟨hx, hb, hr, hml, hown, hts, hX, hbl, hlocks, hgv⟩ := C0
  have hA : ∀ q : Nat, s.heap.size ≤ q → (fun q : Nat => s.heap.size ≤ q) q := fun _ h => h
  have hbA : ¬ (fun q : Nat => s.heap.size ≤ q) b := Nat.not_le.mpr hbl
  have hfix : CallFix p m c cL_law 7 s #[Value.ref b] lw_tbl RL := ⟨hx, hb, hml, hown, hts⟩
  refine lv_aload_n hx hb dL_law_941 rfl (lv_at hl 1 rfl) ?_
  refine lv_aload_n hx hb dL_law_942 rfl (lv_at hl 0 rfl) ?_
  refine lv_iload hx hb dL_law_943 (lv_at hl 4 rfl) ?_
  refine lv_iconst (v := (1 : Int32)) hx hb dL_law_945 (by decide) ?_
  refine lv_iadd hx hb dL_law_946 ?_
  refine va_sld hx hb hX hbl hbA hS i1 dL_law_947 ?_
  have hPc : va_P (dC, dI) vwCl (wX5 cI cJ ad5 n ev ld0 ld1 ld2 tk mb f0 f1 f2 fr fu) H := hP.sub [0, 1, 2, 3, 4, 5, 6, 7, 8, 9, 10, 11, 12] rfl
  refine cs_i (va_runV (As := [.int (xs (x4 + (1 : Int32)).toNatClampNeg)]) (rest := []) hfix (c_X5_generator l dC dI cI cJ ad5 n ev ld0 ld1 ld2 tk mb f0 f1 f2 fr fu (xs (x4 + (1 : Int32)).toNatClampNeg) _ hF5) (cwV 1 hts gv_X5_generator rfl rfl rfl (by decide +kernel) ⟨by decide, by decide⟩) (roP.preV hK hPc (ci := 5) rfl rfl) rfl rfl hl.1 rfl (lv_room (Nat.le_of_ble_eq_true rfl)) dL_law_948 ⟨hc1, hc2⟩) ?_
  refine lv_aload_n hx hb dL_law_951 rfl (lv_at hl 2 rfl) ?_
  refine lv_aload_n hx hb dL_law_952 rfl (lv_at hl 0 rfl) ?_
  refine lv_iload hx hb dL_law_953 (lv_at hl 4 rfl) ?_
  refine lv_iconst (v := (1 : Int32)) hx hb dL_law_955 (by decide) ?_
  refine lv_iadd hx hb dL_law_956 ?_
  refine va_sld hx hb hX hbl hbA hS i1 dL_law_957 ?_
  have hPc : va_P (dC, dI) vwCl (wX6 cI cJ ad6 m_code m_n m_built m_length m_begin m_many m_leastOf m_sizeOf m_own m_bestRow m_tryRow m_keptRow m_otherRow m_row m_formRow m_allForms m_rowsOf m_intervals m_places m_whole) H := hP.sub [13, 14, 15, 16, 17, 18, 19, 20, 21, 22, 23, 24, 25, 26, 27] rfl
  have hDc : va_D (fun q : Nat => s.heap.size ≤ q) (wX6 cI cJ ad6 m_code m_n m_built m_length m_begin m_many m_leastOf m_sizeOf m_own m_bestRow m_tryRow m_keptRow m_otherRow m_row m_formRow m_allForms m_rowsOf m_intervals m_places m_whole) := hD.sub [13, 14, 15, 16, 17, 18, 19, 20, 21, 22, 23, 24, 25, 26, 27] (by decide) rfl
  have hFc := va_free (wc := (wX6 cI cJ ad6 m_code m_n m_built m_length m_begin m_many m_leastOf m_sizeOf m_own m_bestRow m_tryRow m_keptRow m_otherRow m_row m_formRow m_allForms m_rowsOf m_intervals m_places m_whole)) hD hS hA [13, 14, 15, 16, 17, 18, 19, 20, 21, 22, 23, 24, 25, 26, 27] rfl
  refine va_calli (va_runV (As := [.int (xs (x4 + (1 : Int32)).toNatClampNeg)]) (rest := [.int r]) hfix (c_X6_generator l dC dI cI cJ ad6 H.size m_code m_n m_built m_length m_begin m_many m_leastOf m_sizeOf m_own m_bestRow m_tryRow m_keptRow m_otherRow m_row m_formRow m_allForms m_rowsOf m_intervals m_places m_whole (xs (x4 + (1 : Int32)).toNatClampNeg) _ _ hF6) (cwV 1 hts gv_X6_generator rfl rfl rfl (by decide +kernel) ⟨by decide, by decide⟩) (rwP.preV hK hPc hDc rfl (ci := 6) rfl rfl) rfl rfl hl.1 rfl (lv_room (Nat.le_of_ble_eq_true rfl)) dL_law_958 ⟨hc1, hc2⟩) hS (fun q _ h => hFc q h) hFc (fun y9 u t H1 locs ht hvm hw hB hz1 hk1 hS => ?_)
  obtain ⟨hP1, -, hD1⟩ := hB
  rw [ht] at hP1
  have hw : y9 = r := hw
  rw [hw]
  obtain ⟨hP, hD⟩ := va_join (wr := [((ad5 0), .inr (5, [.ref (ad5 1), .ref (ad5 2), .ref (ad5 3), .ref (ad5 4), .ref (ad5 5), .ref (ad5 6), .ref (ad5 7)])), ((ad5 1), .inr (0, [.int n, .int ev])), ((ad5 2), .inr (2, [.ref (ad5 1)])), ((ad5 3), .inr (1, [.ref (ad5 1), .int 0, .ref (ad5 8), .int ld0])), ((ad5 4), .inr (1, [.ref (ad5 1), .int 1, .ref (ad5 9), .int ld1])), ((ad5 5), .inr (1, [.ref (ad5 1), .int 2, .ref (ad5 10), .int ld2])), ((ad5 6), .inr (3, [.ref (ad5 1), .ref (ad5 11), .int tk, .int mb])), ((ad5 7), .inr (4, [.ref (ad5 12)])), ((ad5 8), .inl (cI, 352, .inl f0)), ((ad5 9), .inl (cI, 352, .inl f1)), ((ad5 10), .inl (cI, 352, .inl f2)), ((ad5 11), .inl (cI, 12, .inl fr)), ((ad5 12), .inl (cI, 13, .inl fu)), (qo, .inl (cJ, 1, .inr (.inl fo)))]) (w1 := (wX6 cI cJ ad6 m_code' m_n m_built m_length m_begin m_many m_leastOf m_sizeOf m_own m_bestRow m_tryRow m_keptRow m_otherRow m_row m_formRow m_allForms m_rowsOf m_intervals m_places m_whole)) hP hD [13, 14, 15, 16, 17, 18, 19, 20, 21, 22, 23, 24, 25, 26, 27] [0, 1, 2, 3, 4, 5, 6, 7, 8, 9, 10, 11, 12, 28] rfl rfl (by decide) (by decide) hk1 hFc hP1 hD1
  generalize H1 = H at hP hS ⊢
  have hP : va_P (dC, dI) vwCl (wLaw cI cJ ad5 ad6 qo n ev ld0 ld1 ld2 tk mb f0 f1 f2 fr fu m_code' m_n m_built m_length m_begin m_many m_leastOf m_sizeOf m_own m_bestRow m_tryRow m_keptRow m_otherRow m_row m_formRow m_allForms m_rowsOf m_intervals m_places m_whole fo) H := hP.sub [0, 1, 2, 3, 4, 5, 6, 7, 8, 9, 10, 11, 12, 14, 15, 16, 17, 18, 19, 20, 21, 22, 23, 24, 25, 26, 27, 28, 13] rfl
  have hD : va_D (fun q : Nat => s.heap.size ≤ q) (wLaw cI cJ ad5 ad6 qo n ev ld0 ld1 ld2 tk mb f0 f1 f2 fr fu m_code' m_n m_built m_length m_begin m_many m_leastOf m_sizeOf m_own m_bestRow m_tryRow m_keptRow m_otherRow m_row m_formRow m_allForms m_rowsOf m_intervals m_places m_whole fo) := hD.sub [0, 1, 2, 3, 4, 5, 6, 7, 8, 9, 10, 11, 12, 14, 15, 16, 17, 18, 19, 20, 21, 22, 23, 24, 25, 26, 27, 28, 13] (by decide) rfl
  refine lv_icmp_eq (tgt := 1318) hx hb dL_law_961 (by decide) (fun _ => ?_) (fun q9 => absurd rfl q9)
  exact kk _ _ hP hD hS
set_option maxHeartbeats 2000000 in
set_option maxRecDepth 100000 in
theorem law_add {p : Program} {l : Launch} {e : Env} {s : State} {m : MethodId} {below : List Frame} {meth : Method} {c : Code} {b L : Nat} {xs : Nat → Int32} (C0 : lw_At p s m meth c b L xs) {dC : Nat → ClassId} {dI : Nat → Nat → Nat} {cI cJ : ClassId} (hK : vK (dC, dI) [(cI, .int), (cJ, .long)] s) {cells slots : Nat} (hc1 : cells ≤ 601024) (hc2 : slots ≤ 7293034) {ad5 ad6 : Nat → Nat} {qo : Nat} {n : Int32} {ev : Int32} {ld0 : Int32} {ld1 : Int32} {ld2 : Int32} {tk : Int32} {mb : Int32} {f0 : Nat → Int32} {f1 : Nat → Int32} {f2 : Nat → Int32} {fr : Nat → Int32} {fu : Nat → Int32} {m_code : Int32} {m_n : Int32} {m_built : Int32} {m_length : Int32} {m_begin : Int32} {m_many : Int32} {m_leastOf : Nat → Int32} {m_sizeOf : Nat → Int32} {m_own : Nat → Int32} {m_bestRow : Nat → Int32} {m_tryRow : Nat → Int32} {m_keptRow : Nat → Int32} {m_otherRow : Nat → Int32} {m_row : Nat → Int32} {m_formRow : Nat → Int32} {m_allForms : Nat → Int32} {m_rowsOf : Nat → Int32} {m_intervals : Nat → Int32} {m_places : Nat → Int32} {m_whole : Nat → Int64} {fo : Nat → Int64} {x4 : Int32} (i1 : vp_in (x4 + (1 : Int32)) L) {r : Int32} {tk' : Int32} {mb' : Int32} {fr' : Nat → Int32} {m_code' : Int32} {m_many' : Int32} {m_row' : Nat → Int32} (hF5 : FX5_add n tk mb fr (xs (x4 + (1 : Int32)).toNatClampNeg) = some (r, tk', mb', fr')) (hF6 : FX6_add m_code m_n m_many m_row (xs (x4 + (1 : Int32)).toNatClampNeg) = some (r, m_code', m_many', m_row')) {H : Heap} {locs : List Loc} {ls : Array Slot} (hP : va_P (dC, dI) vwCl (wLaw cI cJ ad5 ad6 qo n ev ld0 ld1 ld2 tk mb f0 f1 f2 fr fu m_code m_n m_built m_length m_begin m_many m_leastOf m_sizeOf m_own m_bestRow m_tryRow m_keptRow m_otherRow m_row m_formRow m_allForms m_rowsOf m_intervals m_places m_whole fo) H) (hD : va_D (fun q : Nat => s.heap.size ≤ q) (wLaw cI cJ ad5 ad6 qo n ev ld0 ld1 ld2 tk mb f0 f1 f2 fr fu m_code m_n m_built m_length m_begin m_many m_leastOf m_sizeOf m_own m_bestRow m_tryRow m_keptRow m_otherRow m_row m_formRow m_allForms m_rowsOf m_intervals m_places m_whole fo)) (hS : va_S (fun q : Nat => s.heap.size ≤ q) s.heap H locs) (hl : lv_has ls 7 [(0, .ref b), (1, .ref (ad5 0)), (2, .ref (ad6 0)), (3, .ref qo), (4, .int x4)]) (kk : ∀ (H : Heap) (locs : List Loc), va_P (dC, dI) vwCl (wLaw cI cJ ad5 ad6 qo n ev ld0 ld1 ld2 tk' mb' f0 f1 f2 fr' fu m_code' m_n m_built m_length m_begin m_many' m_leastOf m_sizeOf m_own m_bestRow m_tryRow m_keptRow m_otherRow m_row' m_formRow m_allForms m_rowsOf m_intervals m_places m_whole fo) H → va_D (fun q : Nat => s.heap.size ≤ q) (wLaw cI cJ ad5 ad6 qo n ev ld0 ld1 ld2 tk' mb' f0 f1 f2 fr' fu m_code' m_n m_built m_length m_begin m_many' m_leastOf m_sizeOf m_own m_bestRow m_tryRow m_keptRow m_otherRow m_row' m_formRow m_allForms m_rowsOf m_intervals m_places m_whole fo) → va_S (fun q : Nat => s.heap.size ≤ q) s.heap H locs → W p l e room_1 s m #[Value.ref b] below meth c H locs cells slots (lw_Z below #[Value.ref b] s) (F0 m 1318 ls [])) : W p l e room_1 s m #[Value.ref b] below meth c H locs cells slots (lw_Z below #[Value.ref b] s) (F0 m 966 ls []) := by
  obtain ⟨hx, hb, hr, hml, hown, hts, hX, hbl, hlocks, hgv⟩ := C0
  have hA : ∀ q : Nat, s.heap.size ≤ q → (fun q : Nat => s.heap.size ≤ q) q := fun _ h => h
  have hbA : ¬ (fun q : Nat => s.heap.size ≤ q) b := Nat.not_le.mpr hbl
  have hfix : CallFix p m c cL_law 7 s #[Value.ref b] lw_tbl RL := ⟨hx, hb, hml, hown, hts⟩
  refine lv_aload_n hx hb dL_law_966 rfl (lv_at hl 1 rfl) ?_
  refine lv_aload_n hx hb dL_law_967 rfl (lv_at hl 0 rfl) ?_
  refine lv_iload hx hb dL_law_968 (lv_at hl 4 rfl) ?_
  refine lv_iconst (v := (1 : Int32)) hx hb dL_law_970 (by decide) ?_
  refine lv_iadd hx hb dL_law_971 ?_
  refine va_sld hx hb hX hbl hbA hS i1 dL_law_972 ?_
  have hPc : va_P (dC, dI) vwCl (wX5 cI cJ ad5 n ev ld0 ld1 ld2 tk mb f0 f1 f2 fr fu) H := hP.sub [0, 1, 2, 3, 4, 5, 6, 7, 8, 9, 10, 11, 12] rfl
  have hDc : va_D (fun q : Nat => s.heap.size ≤ q) (wX5 cI cJ ad5 n ev ld0 ld1 ld2 tk mb f0 f1 f2 fr fu) := hD.sub [0, 1, 2, 3, 4, 5, 6, 7, 8, 9, 10, 11, 12] (by decide) rfl
  have hFc := va_free (wc := (wX5 cI cJ ad5 n ev ld0 ld1 ld2 tk mb f0 f1 f2 fr fu)) hD hS hA [0, 1, 2, 3, 4, 5, 6, 7, 8, 9, 10, 11, 12] rfl
  refine va_calli (va_runV (As := [.int (xs (x4 + (1 : Int32)).toNatClampNeg)]) (rest := []) hfix (c_X5_add l dC dI cI cJ ad5 H.size n ev ld0 ld1 ld2 tk mb f0 f1 f2 fr fu (xs (x4 + (1 : Int32)).toNatClampNeg) _ _ _ _ hF5) (cwV 1 hts gv_X5_add rfl rfl rfl (by decide +kernel) ⟨by decide, by decide⟩) (rwP.preV hK hPc hDc rfl (ci := 5) rfl rfl) rfl rfl hl.1 rfl (lv_room (Nat.le_of_ble_eq_true rfl)) dL_law_973 ⟨hc1, hc2⟩) hS (fun q _ h => hFc q h) hFc (fun y9 u t H1 locs ht hvm hw hB hz1 hk1 hS => ?_)
  obtain ⟨hP1, -, hD1⟩ := hB
  rw [ht] at hP1
  have hw : y9 = r := hw
  rw [hw]
  obtain ⟨hP, hD⟩ := va_join (wr := [((ad6 0), .inr (6, [.int m_code, .int m_n, .int m_built, .ref (ad6 1), .ref (ad6 2), .int m_length, .ref (ad6 3), .ref (ad6 4), .ref (ad6 5), .ref (ad6 6), .ref (ad6 7), .int m_begin, .int m_many, .ref (ad6 8), .ref (ad6 9), .ref (ad6 10), .ref (ad6 11), .ref (ad6 12), .ref (ad6 13), .ref (ad6 14)])), ((ad6 1), .inl (cI, 12288, .inl m_leastOf)), ((ad6 2), .inl (cI, 12288, .inl m_sizeOf)), ((ad6 3), .inl (cI, 12, .inl m_own)), ((ad6 4), .inl (cI, 12, .inl m_bestRow)), ((ad6 5), .inl (cI, 12, .inl m_tryRow)), ((ad6 6), .inl (cI, 12, .inl m_keptRow)), ((ad6 7), .inl (cI, 12, .inl m_otherRow)), ((ad6 8), .inl (cI, 12, .inl m_row)), ((ad6 9), .inl (cI, 12, .inl m_formRow)), ((ad6 10), .inl (cI, 576, .inl m_allForms)), ((ad6 11), .inl (cI, 13, .inl m_rowsOf)), ((ad6 12), .inl (cI, 13, .inl m_intervals)), ((ad6 13), .inl (cI, 13, .inl m_places)), ((ad6 14), .inl (cJ, 25, .inr (.inl m_whole))), (qo, .inl (cJ, 1, .inr (.inl fo)))]) (w1 := (wX5 cI cJ ad5 n ev ld0 ld1 ld2 tk' mb' f0 f1 f2 fr' fu)) hP hD [0, 1, 2, 3, 4, 5, 6, 7, 8, 9, 10, 11, 12] [13, 14, 15, 16, 17, 18, 19, 20, 21, 22, 23, 24, 25, 26, 27, 28] rfl rfl (by decide) (by decide) hk1 hFc hP1 hD1
  generalize H1 = H at hP hS ⊢
  have hP : va_P (dC, dI) vwCl (wLaw cI cJ ad5 ad6 qo n ev ld0 ld1 ld2 tk' mb' f0 f1 f2 fr' fu m_code m_n m_built m_length m_begin m_many m_leastOf m_sizeOf m_own m_bestRow m_tryRow m_keptRow m_otherRow m_row m_formRow m_allForms m_rowsOf m_intervals m_places m_whole fo) H := hP.sub [16, 17, 18, 19, 20, 21, 22, 23, 24, 25, 26, 27, 28, 0, 1, 2, 3, 4, 5, 6, 7, 8, 9, 10, 11, 12, 13, 14, 15] rfl
  have hD : va_D (fun q : Nat => s.heap.size ≤ q) (wLaw cI cJ ad5 ad6 qo n ev ld0 ld1 ld2 tk' mb' f0 f1 f2 fr' fu m_code m_n m_built m_length m_begin m_many m_leastOf m_sizeOf m_own m_bestRow m_tryRow m_keptRow m_otherRow m_row m_formRow m_allForms m_rowsOf m_intervals m_places m_whole fo) := hD.sub [16, 17, 18, 19, 20, 21, 22, 23, 24, 25, 26, 27, 28, 0, 1, 2, 3, 4, 5, 6, 7, 8, 9, 10, 11, 12, 13, 14, 15] (by decide) rfl
  refine lv_aload_n hx hb dL_law_976 rfl (lv_at hl 2 rfl) ?_
  refine lv_aload_n hx hb dL_law_977 rfl (lv_at hl 0 rfl) ?_
  refine lv_iload hx hb dL_law_978 (lv_at hl 4 rfl) ?_
  refine lv_iconst (v := (1 : Int32)) hx hb dL_law_980 (by decide) ?_
  refine lv_iadd hx hb dL_law_981 ?_
  refine va_sld hx hb hX hbl hbA hS i1 dL_law_982 ?_
  have hPc : va_P (dC, dI) vwCl (wX6 cI cJ ad6 m_code m_n m_built m_length m_begin m_many m_leastOf m_sizeOf m_own m_bestRow m_tryRow m_keptRow m_otherRow m_row m_formRow m_allForms m_rowsOf m_intervals m_places m_whole) H := hP.sub [13, 14, 15, 16, 17, 18, 19, 20, 21, 22, 23, 24, 25, 26, 27] rfl
  have hDc : va_D (fun q : Nat => s.heap.size ≤ q) (wX6 cI cJ ad6 m_code m_n m_built m_length m_begin m_many m_leastOf m_sizeOf m_own m_bestRow m_tryRow m_keptRow m_otherRow m_row m_formRow m_allForms m_rowsOf m_intervals m_places m_whole) := hD.sub [13, 14, 15, 16, 17, 18, 19, 20, 21, 22, 23, 24, 25, 26, 27] (by decide) rfl
  have hFc := va_free (wc := (wX6 cI cJ ad6 m_code m_n m_built m_length m_begin m_many m_leastOf m_sizeOf m_own m_bestRow m_tryRow m_keptRow m_otherRow m_row m_formRow m_allForms m_rowsOf m_intervals m_places m_whole)) hD hS hA [13, 14, 15, 16, 17, 18, 19, 20, 21, 22, 23, 24, 25, 26, 27] rfl
  refine va_calli (va_runV (As := [.int (xs (x4 + (1 : Int32)).toNatClampNeg)]) (rest := [.int r]) hfix (c_X6_add l dC dI cI cJ ad6 H.size m_code m_n m_built m_length m_begin m_many m_leastOf m_sizeOf m_own m_bestRow m_tryRow m_keptRow m_otherRow m_row m_formRow m_allForms m_rowsOf m_intervals m_places m_whole (xs (x4 + (1 : Int32)).toNatClampNeg) _ _ _ _ hF6) (cwV 1 hts gv_X6_add rfl rfl rfl (by decide +kernel) ⟨by decide, by decide⟩) (rwP.preV hK hPc hDc rfl (ci := 6) rfl rfl) rfl rfl hl.1 rfl (lv_room (Nat.le_of_ble_eq_true rfl)) dL_law_983 ⟨hc1, hc2⟩) hS (fun q _ h => hFc q h) hFc (fun y9 u t H1 locs ht hvm hw hB hz1 hk1 hS => ?_)
  obtain ⟨hP1, -, hD1⟩ := hB
  rw [ht] at hP1
  have hw : y9 = r := hw
  rw [hw]
  obtain ⟨hP, hD⟩ := va_join (wr := [((ad5 0), .inr (5, [.ref (ad5 1), .ref (ad5 2), .ref (ad5 3), .ref (ad5 4), .ref (ad5 5), .ref (ad5 6), .ref (ad5 7)])), ((ad5 1), .inr (0, [.int n, .int ev])), ((ad5 2), .inr (2, [.ref (ad5 1)])), ((ad5 3), .inr (1, [.ref (ad5 1), .int 0, .ref (ad5 8), .int ld0])), ((ad5 4), .inr (1, [.ref (ad5 1), .int 1, .ref (ad5 9), .int ld1])), ((ad5 5), .inr (1, [.ref (ad5 1), .int 2, .ref (ad5 10), .int ld2])), ((ad5 6), .inr (3, [.ref (ad5 1), .ref (ad5 11), .int tk', .int mb'])), ((ad5 7), .inr (4, [.ref (ad5 12)])), ((ad5 8), .inl (cI, 352, .inl f0)), ((ad5 9), .inl (cI, 352, .inl f1)), ((ad5 10), .inl (cI, 352, .inl f2)), ((ad5 11), .inl (cI, 12, .inl fr')), ((ad5 12), .inl (cI, 13, .inl fu)), (qo, .inl (cJ, 1, .inr (.inl fo)))]) (w1 := (wX6 cI cJ ad6 m_code' m_n m_built m_length m_begin m_many' m_leastOf m_sizeOf m_own m_bestRow m_tryRow m_keptRow m_otherRow m_row' m_formRow m_allForms m_rowsOf m_intervals m_places m_whole)) hP hD [13, 14, 15, 16, 17, 18, 19, 20, 21, 22, 23, 24, 25, 26, 27] [0, 1, 2, 3, 4, 5, 6, 7, 8, 9, 10, 11, 12, 28] rfl rfl (by decide) (by decide) hk1 hFc hP1 hD1
  generalize H1 = H at hP hS ⊢
  have hP : va_P (dC, dI) vwCl (wLaw cI cJ ad5 ad6 qo n ev ld0 ld1 ld2 tk' mb' f0 f1 f2 fr' fu m_code' m_n m_built m_length m_begin m_many' m_leastOf m_sizeOf m_own m_bestRow m_tryRow m_keptRow m_otherRow m_row' m_formRow m_allForms m_rowsOf m_intervals m_places m_whole fo) H := hP.sub [0, 1, 2, 3, 4, 5, 6, 7, 8, 9, 10, 11, 12, 14, 15, 16, 17, 18, 19, 20, 21, 22, 23, 24, 25, 26, 27, 28, 13] rfl
  have hD : va_D (fun q : Nat => s.heap.size ≤ q) (wLaw cI cJ ad5 ad6 qo n ev ld0 ld1 ld2 tk' mb' f0 f1 f2 fr' fu m_code' m_n m_built m_length m_begin m_many' m_leastOf m_sizeOf m_own m_bestRow m_tryRow m_keptRow m_otherRow m_row' m_formRow m_allForms m_rowsOf m_intervals m_places m_whole fo) := hD.sub [0, 1, 2, 3, 4, 5, 6, 7, 8, 9, 10, 11, 12, 14, 15, 16, 17, 18, 19, 20, 21, 22, 23, 24, 25, 26, 27, 28, 13] (by decide) rfl
  refine lv_icmp_eq (tgt := 1318) hx hb dL_law_986 (by decide) (fun _ => ?_) (fun q9 => absurd rfl q9)
  exact kk _ _ hP hD hS
