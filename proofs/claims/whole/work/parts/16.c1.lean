set_option maxHeartbeats 2000000 in
set_option maxRecDepth 100000 in
theorem law_differ {p : Program} {l : Launch} {e : Env} {s : State} {m : MethodId} {below : List Frame} {meth : Method} {c : Code} {b L : Nat} {xs : Nat → Int32} (C0 : lw_At p s m meth c b L xs) {dC : Nat → ClassId} {dI : Nat → Nat → Nat} {cI cJ : ClassId} (hK : vK (dC, dI) [(cI, .int), (cJ, .long)] s) {cells slots : Nat} (hc1 : cells ≤ 601024) (hc2 : slots ≤ 7293034) {ad5 ad6 : Nat → Nat} {qo : Nat} {n : Int32} {ev : Int32} {ld0 : Int32} {ld1 : Int32} {ld2 : Int32} {tk : Int32} {mb : Int32} {f0 : Nat → Int32} {f1 : Nat → Int32} {f2 : Nat → Int32} {fr : Nat → Int32} {fu : Nat → Int32} {m_code : Int32} {m_n : Int32} {m_built : Int32} {m_length : Int32} {m_begin : Int32} {m_many : Int32} {m_leastOf : Nat → Int32} {m_sizeOf : Nat → Int32} {m_own : Nat → Int32} {m_bestRow : Nat → Int32} {m_tryRow : Nat → Int32} {m_keptRow : Nat → Int32} {m_otherRow : Nat → Int32} {m_row : Nat → Int32} {m_formRow : Nat → Int32} {m_allForms : Nat → Int32} {m_rowsOf : Nat → Int32} {m_intervals : Nat → Int32} {m_places : Nat → Int32} {m_whole : Nat → Int64} {fo : Nat → Int64} {x4 : Int32} (i1 : vp_in (x4 + (1 : Int32)) L) {r : Int32} {ld1' : Int32} {f1' : Nat → Int32} {m_code' : Int32} {m_built' : Int32} {m_length' : Int32} {m_begin' : Int32} {m_leastOf' : Nat → Int32} {m_sizeOf' : Nat → Int32} {m_own' : Nat → Int32} {m_bestRow' : Nat → Int32} {m_tryRow' : Nat → Int32} {m_keptRow' : Nat → Int32} {m_otherRow' : Nat → Int32} (hF5 : FX5_differ n ev ld1 f1 (xs (x4 + (1 : Int32)).toNatClampNeg) = some (r, ld1', f1')) (hF6 : FX6_differ m_code m_n m_built m_length m_begin m_leastOf m_sizeOf m_own m_bestRow m_tryRow m_keptRow m_otherRow (xs (x4 + (1 : Int32)).toNatClampNeg) = some (r, m_code', m_built', m_length', m_begin', m_leastOf', m_sizeOf', m_own', m_bestRow', m_tryRow', m_keptRow', m_otherRow')) {H : Heap} {locs : List Loc} {ls : Array Slot} (hP : va_P (dC, dI) vwCl (wLaw cI cJ ad5 ad6 qo n ev ld0 ld1 ld2 tk mb f0 f1 f2 fr fu m_code m_n m_built m_length m_begin m_many m_leastOf m_sizeOf m_own m_bestRow m_tryRow m_keptRow m_otherRow m_row m_formRow m_allForms m_rowsOf m_intervals m_places m_whole fo) H) (hD : va_D (fun q : Nat => s.heap.size ≤ q) (wLaw cI cJ ad5 ad6 qo n ev ld0 ld1 ld2 tk mb f0 f1 f2 fr fu m_code m_n m_built m_length m_begin m_many m_leastOf m_sizeOf m_own m_bestRow m_tryRow m_keptRow m_otherRow m_row m_formRow m_allForms m_rowsOf m_intervals m_places m_whole fo)) (hS : va_S (fun q : Nat => s.heap.size ≤ q) s.heap H locs) (hl : lv_has ls 7 [(0, .ref b), (1, .ref (ad5 0)), (2, .ref (ad6 0)), (3, .ref qo), (4, .int x4)]) (kk : ∀ (H : Heap) (locs : List Loc), va_P (dC, dI) vwCl (wLaw cI cJ ad5 ad6 qo n ev ld0 ld1' ld2 tk mb f0 f1' f2 fr fu m_code' m_n m_built' m_length' m_begin' m_many m_leastOf' m_sizeOf' m_own' m_bestRow' m_tryRow' m_keptRow' m_otherRow' m_row m_formRow m_allForms m_rowsOf m_intervals m_places m_whole fo) H → va_D (fun q : Nat => s.heap.size ≤ q) (wLaw cI cJ ad5 ad6 qo n ev ld0 ld1' ld2 tk mb f0 f1' f2 fr fu m_code' m_n m_built' m_length' m_begin' m_many m_leastOf' m_sizeOf' m_own' m_bestRow' m_tryRow' m_keptRow' m_otherRow' m_row m_formRow m_allForms m_rowsOf m_intervals m_places m_whole fo) → va_S (fun q : Nat => s.heap.size ≤ q) s.heap H locs → W p l e room_1 s m #[Value.ref b] below meth c H locs cells slots (lw_Z below #[Value.ref b] s) (F0 m 1318 ls [])) : W p l e room_1 s m #[Value.ref b] below meth c H locs cells slots (lw_Z below #[Value.ref b] s) (F0 m 486 ls []) := by
  obtain ⟨hx, hb, hr, hml, hown, hts, hX, hbl, hlocks, hgv⟩ := C0
  have hA : ∀ q : Nat, s.heap.size ≤ q → (fun q : Nat => s.heap.size ≤ q) q := fun _ h => h
  have hbA : ¬ (fun q : Nat => s.heap.size ≤ q) b := Nat.not_le.mpr hbl
  have hfix : CallFix p m c cL_law 7 s #[Value.ref b] lw_tbl RL := ⟨hx, hb, hml, hown, hts⟩
  refine lv_aload_n hx hb dL_law_486 rfl (lv_at hl 1 rfl) ?_
  refine lv_aload_n hx hb dL_law_487 rfl (lv_at hl 0 rfl) ?_
  refine lv_iload hx hb dL_law_488 (lv_at hl 4 rfl) ?_
  refine lv_iconst (v := (1 : Int32)) hx hb dL_law_490 (by decide) ?_
  refine lv_iadd hx hb dL_law_491 ?_
  refine va_sld hx hb hX hbl hbA hS i1 dL_law_492 ?_
  have hPc : va_P (dC, dI) vwCl (wX5 cI cJ ad5 n ev ld0 ld1 ld2 tk mb f0 f1 f2 fr fu) H := hP.sub [0, 1, 2, 3, 4, 5, 6, 7, 8, 9, 10, 11, 12] rfl
  have hDc : va_D (fun q : Nat => s.heap.size ≤ q) (wX5 cI cJ ad5 n ev ld0 ld1 ld2 tk mb f0 f1 f2 fr fu) := hD.sub [0, 1, 2, 3, 4, 5, 6, 7, 8, 9, 10, 11, 12] (by decide) rfl
  have hFc := va_free (wc := (wX5 cI cJ ad5 n ev ld0 ld1 ld2 tk mb f0 f1 f2 fr fu)) hD hS hA [0, 1, 2, 3, 4, 5, 6, 7, 8, 9, 10, 11, 12] rfl
  refine va_calli (va_runV (As := [.int (xs (x4 + (1 : Int32)).toNatClampNeg)]) (rest := []) hfix (c_X5_differ l dC dI cI cJ ad5 H.size n ev ld0 ld1 ld2 tk mb f0 f1 f2 fr fu (xs (x4 + (1 : Int32)).toNatClampNeg) _ _ _ hF5) (cwV 1 hts gv_X5_differ rfl rfl rfl (by decide +kernel) ⟨by decide, by decide⟩) (rwP.preV hK hPc hDc rfl (ci := 5) rfl rfl) rfl rfl hl.1 rfl (lv_room (Nat.le_of_ble_eq_true rfl)) dL_law_493 ⟨hc1, hc2⟩) hS (fun q _ h => hFc q h) hFc (fun y9 u t H1 locs ht hvm hw hB hz1 hk1 hS => ?_)
  obtain ⟨hP1, -, hD1⟩ := hB
  rw [ht] at hP1
  have hw : y9 = r := hw
  rw [hw]
  obtain ⟨hP, hD⟩ := va_join (wr := [((ad6 0), .inr (6, [.int m_code, .int m_n, .int m_built, .ref (ad6 1), .ref (ad6 2), .int m_length, .ref (ad6 3), .ref (ad6 4), .ref (ad6 5), .ref (ad6 6), .ref (ad6 7), .int m_begin, .int m_many, .ref (ad6 8), .ref (ad6 9), .ref (ad6 10), .ref (ad6 11), .ref (ad6 12), .ref (ad6 13), .ref (ad6 14)])), ((ad6 1), .inl (cI, 12288, .inl m_leastOf)), ((ad6 2), .inl (cI, 12288, .inl m_sizeOf)), ((ad6 3), .inl (cI, 12, .inl m_own)), ((ad6 4), .inl (cI, 12, .inl m_bestRow)), ((ad6 5), .inl (cI, 12, .inl m_tryRow)), ((ad6 6), .inl (cI, 12, .inl m_keptRow)), ((ad6 7), .inl (cI, 12, .inl m_otherRow)), ((ad6 8), .inl (cI, 12, .inl m_row)), ((ad6 9), .inl (cI, 12, .inl m_formRow)), ((ad6 10), .inl (cI, 576, .inl m_allForms)), ((ad6 11), .inl (cI, 13, .inl m_rowsOf)), ((ad6 12), .inl (cI, 13, .inl m_intervals)), ((ad6 13), .inl (cI, 13, .inl m_places)), ((ad6 14), .inl (cJ, 25, .inr (.inl m_whole))), (qo, .inl (cJ, 1, .inr (.inl fo)))]) (w1 := (wX5 cI cJ ad5 n ev ld0 ld1' ld2 tk mb f0 f1' f2 fr fu)) hP hD [0, 1, 2, 3, 4, 5, 6, 7, 8, 9, 10, 11, 12] [13, 14, 15, 16, 17, 18, 19, 20, 21, 22, 23, 24, 25, 26, 27, 28] rfl rfl (by decide) (by decide) hk1 hFc hP1 hD1
  generalize H1 = H at hP hS ⊢
  have hP : va_P (dC, dI) vwCl (wLaw cI cJ ad5 ad6 qo n ev ld0 ld1' ld2 tk mb f0 f1' f2 fr fu m_code m_n m_built m_length m_begin m_many m_leastOf m_sizeOf m_own m_bestRow m_tryRow m_keptRow m_otherRow m_row m_formRow m_allForms m_rowsOf m_intervals m_places m_whole fo) H := hP.sub [16, 17, 18, 19, 20, 21, 22, 23, 24, 25, 26, 27, 28, 0, 1, 2, 3, 4, 5, 6, 7, 8, 9, 10, 11, 12, 13, 14, 15] rfl
  have hD : va_D (fun q : Nat => s.heap.size ≤ q) (wLaw cI cJ ad5 ad6 qo n ev ld0 ld1' ld2 tk mb f0 f1' f2 fr fu m_code m_n m_built m_length m_begin m_many m_leastOf m_sizeOf m_own m_bestRow m_tryRow m_keptRow m_otherRow m_row m_formRow m_allForms m_rowsOf m_intervals m_places m_whole fo) := hD.sub [16, 17, 18, 19, 20, 21, 22, 23, 24, 25, 26, 27, 28, 0, 1, 2, 3, 4, 5, 6, 7, 8, 9, 10, 11, 12, 13, 14, 15] (by decide) rfl
  refine lv_aload_n hx hb dL_law_496 rfl (lv_at hl 2 rfl) ?_
  refine lv_aload_n hx hb dL_law_497 rfl (lv_at hl 0 rfl) ?_
  refine lv_iload hx hb dL_law_498 (lv_at hl 4 rfl) ?_
  refine lv_iconst (v := (1 : Int32)) hx hb dL_law_500 (by decide) ?_
  refine lv_iadd hx hb dL_law_501 ?_
  refine va_sld hx hb hX hbl hbA hS i1 dL_law_502 ?_
  have hPc : va_P (dC, dI) vwCl (wX6 cI cJ ad6 m_code m_n m_built m_length m_begin m_many m_leastOf m_sizeOf m_own m_bestRow m_tryRow m_keptRow m_otherRow m_row m_formRow m_allForms m_rowsOf m_intervals m_places m_whole) H := hP.sub [13, 14, 15, 16, 17, 18, 19, 20, 21, 22, 23, 24, 25, 26, 27] rfl
  have hDc : va_D (fun q : Nat => s.heap.size ≤ q) (wX6 cI cJ ad6 m_code m_n m_built m_length m_begin m_many m_leastOf m_sizeOf m_own m_bestRow m_tryRow m_keptRow m_otherRow m_row m_formRow m_allForms m_rowsOf m_intervals m_places m_whole) := hD.sub [13, 14, 15, 16, 17, 18, 19, 20, 21, 22, 23, 24, 25, 26, 27] (by decide) rfl
  have hFc := va_free (wc := (wX6 cI cJ ad6 m_code m_n m_built m_length m_begin m_many m_leastOf m_sizeOf m_own m_bestRow m_tryRow m_keptRow m_otherRow m_row m_formRow m_allForms m_rowsOf m_intervals m_places m_whole)) hD hS hA [13, 14, 15, 16, 17, 18, 19, 20, 21, 22, 23, 24, 25, 26, 27] rfl
  refine va_calli (va_runV (As := [.int (xs (x4 + (1 : Int32)).toNatClampNeg)]) (rest := [.int r]) hfix (c_X6_differ l dC dI cI cJ ad6 H.size m_code m_n m_built m_length m_begin m_many m_leastOf m_sizeOf m_own m_bestRow m_tryRow m_keptRow m_otherRow m_row m_formRow m_allForms m_rowsOf m_intervals m_places m_whole (xs (x4 + (1 : Int32)).toNatClampNeg) _ _ _ _ _ _ _ _ _ _ _ _ hF6) (cwV 1 hts gv_X6_differ rfl rfl rfl (by decide +kernel) ⟨by decide, by decide⟩) (rwP.preV hK hPc hDc rfl (ci := 6) rfl rfl) rfl rfl hl.1 rfl (lv_room (Nat.le_of_ble_eq_true rfl)) dL_law_503 ⟨hc1, hc2⟩) hS (fun q _ h => hFc q h) hFc (fun y9 u t H1 locs ht hvm hw hB hz1 hk1 hS => ?_)
  obtain ⟨hP1, -, hD1⟩ := hB
  rw [ht] at hP1
  have hw : y9 = r := hw
  rw [hw]
  obtain ⟨hP, hD⟩ := va_join (wr := [((ad5 0), .inr (5, [.ref (ad5 1), .ref (ad5 2), .ref (ad5 3), .ref (ad5 4), .ref (ad5 5), .ref (ad5 6), .ref (ad5 7)])), ((ad5 1), .inr (0, [.int n, .int ev])), ((ad5 2), .inr (2, [.ref (ad5 1)])), ((ad5 3), .inr (1, [.ref (ad5 1), .int 0, .ref (ad5 8), .int ld0])), ((ad5 4), .inr (1, [.ref (ad5 1), .int 1, .ref (ad5 9), .int ld1'])), ((ad5 5), .inr (1, [.ref (ad5 1), .int 2, .ref (ad5 10), .int ld2])), ((ad5 6), .inr (3, [.ref (ad5 1), .ref (ad5 11), .int tk, .int mb])), ((ad5 7), .inr (4, [.ref (ad5 12)])), ((ad5 8), .inl (cI, 352, .inl f0)), ((ad5 9), .inl (cI, 352, .inl f1')), ((ad5 10), .inl (cI, 352, .inl f2)), ((ad5 11), .inl (cI, 12, .inl fr)), ((ad5 12), .inl (cI, 13, .inl fu)), (qo, .inl (cJ, 1, .inr (.inl fo)))]) (w1 := (wX6 cI cJ ad6 m_code' m_n m_built' m_length' m_begin' m_many m_leastOf' m_sizeOf' m_own' m_bestRow' m_tryRow' m_keptRow' m_otherRow' m_row m_formRow m_allForms m_rowsOf m_intervals m_places m_whole)) hP hD [13, 14, 15, 16, 17, 18, 19, 20, 21, 22, 23, 24, 25, 26, 27] [0, 1, 2, 3, 4, 5, 6, 7, 8, 9, 10, 11, 12, 28] rfl rfl (by decide) (by decide) hk1 hFc hP1 hD1
  generalize H1 = H at hP hS ⊢
  have hP : va_P (dC, dI) vwCl (wLaw cI cJ ad5 ad6 qo n ev ld0 ld1' ld2 tk mb f0 f1' f2 fr fu m_code' m_n m_built' m_length' m_begin' m_many m_leastOf' m_sizeOf' m_own' m_bestRow' m_tryRow' m_keptRow' m_otherRow' m_row m_formRow m_allForms m_rowsOf m_intervals m_places m_whole fo) H := hP.sub [0, 1, 2, 3, 4, 5, 6, 7, 8, 9, 10, 11, 12, 14, 15, 16, 17, 18, 19, 20, 21, 22, 23, 24, 25, 26, 27, 28, 13] rfl
  have hD : va_D (fun q : Nat => s.heap.size ≤ q) (wLaw cI cJ ad5 ad6 qo n ev ld0 ld1' ld2 tk mb f0 f1' f2 fr fu m_code' m_n m_built' m_length' m_begin' m_many m_leastOf' m_sizeOf' m_own' m_bestRow' m_tryRow' m_keptRow' m_otherRow' m_row m_formRow m_allForms m_rowsOf m_intervals m_places m_whole fo) := hD.sub [0, 1, 2, 3, 4, 5, 6, 7, 8, 9, 10, 11, 12, 14, 15, 16, 17, 18, 19, 20, 21, 22, 23, 24, 25, 26, 27, 28, 13] (by decide) rfl
  refine lv_icmp_eq (tgt := 1318) hx hb dL_law_506 (by decide) (fun _ => ?_) (fun q9 => absurd rfl q9)
  exact kk _ _ hP hD hS
set_option maxHeartbeats 2000000 in
set_option maxRecDepth 100000 in
theorem law_vector {p : Program} {l : Launch} {e : Env} {s : State} {m : MethodId} {below : List Frame} {meth : Method} {c : Code} {b L : Nat} {xs : Nat → Int32} (C0 : lw_At p s m meth c b L xs) {dC : Nat → ClassId} {dI : Nat → Nat → Nat} {cI cJ : ClassId} (hK : vK (dC, dI) [(cI, .int), (cJ, .long)] s) {cells slots : Nat} (hc1 : cells ≤ 601024) (hc2 : slots ≤ 7293034) {ad5 ad6 : Nat → Nat} {qo : Nat} {n : Int32} {ev : Int32} {ld0 : Int32} {ld1 : Int32} {ld2 : Int32} {tk : Int32} {mb : Int32} {f0 : Nat → Int32} {f1 : Nat → Int32} {f2 : Nat → Int32} {fr : Nat → Int32} {fu : Nat → Int32} {m_code : Int32} {m_n : Int32} {m_built : Int32} {m_length : Int32} {m_begin : Int32} {m_many : Int32} {m_leastOf : Nat → Int32} {m_sizeOf : Nat → Int32} {m_own : Nat → Int32} {m_bestRow : Nat → Int32} {m_tryRow : Nat → Int32} {m_keptRow : Nat → Int32} {m_otherRow : Nat → Int32} {m_row : Nat → Int32} {m_formRow : Nat → Int32} {m_allForms : Nat → Int32} {m_rowsOf : Nat → Int32} {m_intervals : Nat → Int32} {m_places : Nat → Int32} {m_whole : Nat → Int64} {fo : Nat → Int64} {x4 : Int32} (i1 : vp_in (x4 + (1 : Int32)) L) (i2 : vp_in (x4 + (2 : Int32)) L) {r : Int32} {m_code' : Int32} (hF5 : FX5_vector n ev (xs (x4 + (1 : Int32)).toNatClampNeg) (xs (x4 + (2 : Int32)).toNatClampNeg) = some r) (hF6 : FX6_vector m_code m_n (xs (x4 + (1 : Int32)).toNatClampNeg) (xs (x4 + (2 : Int32)).toNatClampNeg) = some (r, m_code')) {H : Heap} {locs : List Loc} {ls : Array Slot} (hP : va_P (dC, dI) vwCl (wLaw cI cJ ad5 ad6 qo n ev ld0 ld1 ld2 tk mb f0 f1 f2 fr fu m_code m_n m_built m_length m_begin m_many m_leastOf m_sizeOf m_own m_bestRow m_tryRow m_keptRow m_otherRow m_row m_formRow m_allForms m_rowsOf m_intervals m_places m_whole fo) H) (hD : va_D (fun q : Nat => s.heap.size ≤ q) (wLaw cI cJ ad5 ad6 qo n ev ld0 ld1 ld2 tk mb f0 f1 f2 fr fu m_code m_n m_built m_length m_begin m_many m_leastOf m_sizeOf m_own m_bestRow m_tryRow m_keptRow m_otherRow m_row m_formRow m_allForms m_rowsOf m_intervals m_places m_whole fo)) (hS : va_S (fun q : Nat => s.heap.size ≤ q) s.heap H locs) (hl : lv_has ls 7 [(0, .ref b), (1, .ref (ad5 0)), (2, .ref (ad6 0)), (3, .ref qo), (4, .int x4)]) (kk : ∀ (H : Heap) (locs : List Loc), va_P (dC, dI) vwCl (wLaw cI cJ ad5 ad6 qo n ev ld0 ld1 ld2 tk mb f0 f1 f2 fr fu m_code' m_n m_built m_length m_begin m_many m_leastOf m_sizeOf m_own m_bestRow m_tryRow m_keptRow m_otherRow m_row m_formRow m_allForms m_rowsOf m_intervals m_places m_whole fo) H → va_D (fun q : Nat => s.heap.size ≤ q) (wLaw cI cJ ad5 ad6 qo n ev ld0 ld1 ld2 tk mb f0 f1 f2 fr fu m_code' m_n m_built m_length m_begin m_many m_leastOf m_sizeOf m_own m_bestRow m_tryRow m_keptRow m_otherRow m_row m_formRow m_allForms m_rowsOf m_intervals m_places m_whole fo) → va_S (fun q : Nat => s.heap.size ≤ q) s.heap H locs → W p l e room_1 s m #[Value.ref b] below meth c H locs cells slots (lw_Z below #[Value.ref b] s) (F0 m 1318 ls [])) : W p l e room_1 s m #[Value.ref b] below meth c H locs cells slots (lw_Z below #[Value.ref b] s) (F0 m 511 ls []) := by
  obtain ⟨hx, hb, hr, hml, hown, hts, hX, hbl, hlocks, hgv⟩ := C0
  have hA : ∀ q : Nat, s.heap.size ≤ q → (fun q : Nat => s.heap.size ≤ q) q := fun _ h => h
  have hbA : ¬ (fun q : Nat => s.heap.size ≤ q) b := Nat.not_le.mpr hbl
  have hfix : CallFix p m c cL_law 7 s #[Value.ref b] lw_tbl RL := ⟨hx, hb, hml, hown, hts⟩
  refine lv_aload_n hx hb dL_law_511 rfl (lv_at hl 1 rfl) ?_
  refine lv_aload_n hx hb dL_law_512 rfl (lv_at hl 0 rfl) ?_
  refine lv_iload hx hb dL_law_513 (lv_at hl 4 rfl) ?_
  refine lv_iconst (v := (1 : Int32)) hx hb dL_law_515 (by decide) ?_
  refine lv_iadd hx hb dL_law_516 ?_
  refine va_sld hx hb hX hbl hbA hS i1 dL_law_517 ?_
  refine lv_aload_n hx hb dL_law_518 rfl (lv_at hl 0 rfl) ?_
  refine lv_iload hx hb dL_law_519 (lv_at hl 4 rfl) ?_
  refine lv_iconst (v := (2 : Int32)) hx hb dL_law_521 (by decide) ?_
  refine lv_iadd hx hb dL_law_522 ?_
  refine va_sld hx hb hX hbl hbA hS i2 dL_law_523 ?_
  have hPc : va_P (dC, dI) vwCl (wX5 cI cJ ad5 n ev ld0 ld1 ld2 tk mb f0 f1 f2 fr fu) H := hP.sub [0, 1, 2, 3, 4, 5, 6, 7, 8, 9, 10, 11, 12] rfl
  refine cs_i (va_runV (As := [.int (xs (x4 + (1 : Int32)).toNatClampNeg), .int (xs (x4 + (2 : Int32)).toNatClampNeg)]) (rest := []) hfix (c_X5_vector l dC dI cI cJ ad5 n ev ld0 ld1 ld2 tk mb f0 f1 f2 fr fu (xs (x4 + (1 : Int32)).toNatClampNeg) (xs (x4 + (2 : Int32)).toNatClampNeg) _ hF5) (cwV 2 hts gv_X5_vector rfl rfl rfl (by decide +kernel) ⟨by decide, by decide⟩) (roP.preV hK hPc (ci := 5) rfl rfl) rfl rfl hl.1 rfl (lv_room (Nat.le_of_ble_eq_true rfl)) dL_law_524 ⟨hc1, hc2⟩) ?_
  refine lv_aload_n hx hb dL_law_527 rfl (lv_at hl 2 rfl) ?_
  refine lv_aload_n hx hb dL_law_528 rfl (lv_at hl 0 rfl) ?_
  refine lv_iload hx hb dL_law_529 (lv_at hl 4 rfl) ?_
  refine lv_iconst (v := (1 : Int32)) hx hb dL_law_531 (by decide) ?_
  refine lv_iadd hx hb dL_law_532 ?_
  refine va_sld hx hb hX hbl hbA hS i1 dL_law_533 ?_
  refine lv_aload_n hx hb dL_law_534 rfl (lv_at hl 0 rfl) ?_
  refine lv_iload hx hb dL_law_535 (lv_at hl 4 rfl) ?_
  refine lv_iconst (v := (2 : Int32)) hx hb dL_law_537 (by decide) ?_
  refine lv_iadd hx hb dL_law_538 ?_
  refine va_sld hx hb hX hbl hbA hS i2 dL_law_539 ?_
  have hPc : va_P (dC, dI) vwCl (wX6 cI cJ ad6 m_code m_n m_built m_length m_begin m_many m_leastOf m_sizeOf m_own m_bestRow m_tryRow m_keptRow m_otherRow m_row m_formRow m_allForms m_rowsOf m_intervals m_places m_whole) H := hP.sub [13, 14, 15, 16, 17, 18, 19, 20, 21, 22, 23, 24, 25, 26, 27] rfl
  have hDc : va_D (fun q : Nat => s.heap.size ≤ q) (wX6 cI cJ ad6 m_code m_n m_built m_length m_begin m_many m_leastOf m_sizeOf m_own m_bestRow m_tryRow m_keptRow m_otherRow m_row m_formRow m_allForms m_rowsOf m_intervals m_places m_whole) := hD.sub [13, 14, 15, 16, 17, 18, 19, 20, 21, 22, 23, 24, 25, 26, 27] (by decide) rfl
  have hFc := va_free (wc := (wX6 cI cJ ad6 m_code m_n m_built m_length m_begin m_many m_leastOf m_sizeOf m_own m_bestRow m_tryRow m_keptRow m_otherRow m_row m_formRow m_allForms m_rowsOf m_intervals m_places m_whole)) hD hS hA [13, 14, 15, 16, 17, 18, 19, 20, 21, 22, 23, 24, 25, 26, 27] rfl
  refine va_calli (va_runV (As := [.int (xs (x4 + (1 : Int32)).toNatClampNeg), .int (xs (x4 + (2 : Int32)).toNatClampNeg)]) (rest := [.int r]) hfix (c_X6_vector l dC dI cI cJ ad6 H.size m_code m_n m_built m_length m_begin m_many m_leastOf m_sizeOf m_own m_bestRow m_tryRow m_keptRow m_otherRow m_row m_formRow m_allForms m_rowsOf m_intervals m_places m_whole (xs (x4 + (1 : Int32)).toNatClampNeg) (xs (x4 + (2 : Int32)).toNatClampNeg) _ _ hF6) (cwV 2 hts gv_X6_vector rfl rfl rfl (by decide +kernel) ⟨by decide, by decide⟩) (rwP.preV hK hPc hDc rfl (ci := 6) rfl rfl) rfl rfl hl.1 rfl (lv_room (Nat.le_of_ble_eq_true rfl)) dL_law_540 ⟨hc1, hc2⟩) hS (fun q _ h => hFc q h) hFc (fun y9 u t H1 locs ht hvm hw hB hz1 hk1 hS => ?_)
  obtain ⟨hP1, -, hD1⟩ := hB
  rw [ht] at hP1
  have hw : y9 = r := hw
  rw [hw]
  obtain ⟨hP, hD⟩ := va_join (wr := [((ad5 0), .inr (5, [.ref (ad5 1), .ref (ad5 2), .ref (ad5 3), .ref (ad5 4), .ref (ad5 5), .ref (ad5 6), .ref (ad5 7)])), ((ad5 1), .inr (0, [.int n, .int ev])), ((ad5 2), .inr (2, [.ref (ad5 1)])), ((ad5 3), .inr (1, [.ref (ad5 1), .int 0, .ref (ad5 8), .int ld0])), ((ad5 4), .inr (1, [.ref (ad5 1), .int 1, .ref (ad5 9), .int ld1])), ((ad5 5), .inr (1, [.ref (ad5 1), .int 2, .ref (ad5 10), .int ld2])), ((ad5 6), .inr (3, [.ref (ad5 1), .ref (ad5 11), .int tk, .int mb])), ((ad5 7), .inr (4, [.ref (ad5 12)])), ((ad5 8), .inl (cI, 352, .inl f0)), ((ad5 9), .inl (cI, 352, .inl f1)), ((ad5 10), .inl (cI, 352, .inl f2)), ((ad5 11), .inl (cI, 12, .inl fr)), ((ad5 12), .inl (cI, 13, .inl fu)), (qo, .inl (cJ, 1, .inr (.inl fo)))]) (w1 := (wX6 cI cJ ad6 m_code' m_n m_built m_length m_begin m_many m_leastOf m_sizeOf m_own m_bestRow m_tryRow m_keptRow m_otherRow m_row m_formRow m_allForms m_rowsOf m_intervals m_places m_whole)) hP hD [13, 14, 15, 16, 17, 18, 19, 20, 21, 22, 23, 24, 25, 26, 27] [0, 1, 2, 3, 4, 5, 6, 7, 8, 9, 10, 11, 12, 28] rfl rfl (by decide) (by decide) hk1 hFc hP1 hD1
  generalize H1 = H at hP hS ⊢
  have hP : va_P (dC, dI) vwCl (wLaw cI cJ ad5 ad6 qo n ev ld0 ld1 ld2 tk mb f0 f1 f2 fr fu m_code' m_n m_built m_length m_begin m_many m_leastOf m_sizeOf m_own m_bestRow m_tryRow m_keptRow m_otherRow m_row m_formRow m_allForms m_rowsOf m_intervals m_places m_whole fo) H := hP.sub [0, 1, 2, 3, 4, 5, 6, 7, 8, 9, 10, 11, 12, 14, 15, 16, 17, 18, 19, 20, 21, 22, 23, 24, 25, 26, 27, 28, 13] rfl
  have hD : va_D (fun q : Nat => s.heap.size ≤ q) (wLaw cI cJ ad5 ad6 qo n ev ld0 ld1 ld2 tk mb f0 f1 f2 fr fu m_code' m_n m_built m_length m_begin m_many m_leastOf m_sizeOf m_own m_bestRow m_tryRow m_keptRow m_otherRow m_row m_formRow m_allForms m_rowsOf m_intervals m_places m_whole fo) := hD.sub [0, 1, 2, 3, 4, 5, 6, 7, 8, 9, 10, 11, 12, 14, 15, 16, 17, 18, 19, 20, 21, 22, 23, 24, 25, 26, 27, 28, 13] (by decide) rfl
  refine lv_icmp_eq (tgt := 1318) hx hb dL_law_543 (by decide) (fun _ => ?_) (fun q9 => absurd rfl q9)
  exact kk _ _ hP hD hS
set_option maxHeartbeats 2000000 in
set_option maxRecDepth 100000 in
theorem law_twin {p : Program} {l : Launch} {e : Env} {s : State} {m : MethodId} {below : List Frame} {meth : Method} {c : Code} {b L : Nat} {xs : Nat → Int32} (C0 : lw_At p s m meth c b L xs) {dC : Nat → ClassId} {dI : Nat → Nat → Nat} {cI cJ : ClassId} (hK : vK (dC, dI) [(cI, .int), (cJ, .long)] s) {cells slots : Nat} (hc1 : cells ≤ 601024) (hc2 : slots ≤ 7293034) {ad5 ad6 : Nat → Nat} {qo : Nat} {n : Int32} {ev : Int32} {ld0 : Int32} {ld1 : Int32} {ld2 : Int32} {tk : Int32} {mb : Int32} {f0 : Nat → Int32} {f1 : Nat → Int32} {f2 : Nat → Int32} {fr : Nat → Int32} {fu : Nat → Int32} {m_code : Int32} {m_n : Int32} {m_built : Int32} {m_length : Int32} {m_begin : Int32} {m_many : Int32} {m_leastOf : Nat → Int32} {m_sizeOf : Nat → Int32} {m_own : Nat → Int32} {m_bestRow : Nat → Int32} {m_tryRow : Nat → Int32} {m_keptRow : Nat → Int32} {m_otherRow : Nat → Int32} {m_row : Nat → Int32} {m_formRow : Nat → Int32} {m_allForms : Nat → Int32} {m_rowsOf : Nat → Int32} {m_intervals : Nat → Int32} {m_places : Nat → Int32} {m_whole : Nat → Int64} {fo : Nat → Int64} {x4 : Int32} (i1 : vp_in (x4 + (1 : Int32)) L) {r : Int32} {ld1' : Int32} {f1' : Nat → Int32} {m_code' : Int32} {m_built' : Int32} {m_leastOf' : Nat → Int32} {m_sizeOf' : Nat → Int32} (hF5 : FX5_twin n ev ld1 f1 (xs (x4 + (1 : Int32)).toNatClampNeg) = some (r, ld1', f1')) (hF6 : FX6_twin m_code m_n m_built m_leastOf m_sizeOf (xs (x4 + (1 : Int32)).toNatClampNeg) = some (r, m_code', m_built', m_leastOf', m_sizeOf')) {H : Heap} {locs : List Loc} {ls : Array Slot} (hP : va_P (dC, dI) vwCl (wLaw cI cJ ad5 ad6 qo n ev ld0 ld1 ld2 tk mb f0 f1 f2 fr fu m_code m_n m_built m_length m_begin m_many m_leastOf m_sizeOf m_own m_bestRow m_tryRow m_keptRow m_otherRow m_row m_formRow m_allForms m_rowsOf m_intervals m_places m_whole fo) H) (hD : va_D (fun q : Nat => s.heap.size ≤ q) (wLaw cI cJ ad5 ad6 qo n ev ld0 ld1 ld2 tk mb f0 f1 f2 fr fu m_code m_n m_built m_length m_begin m_many m_leastOf m_sizeOf m_own m_bestRow m_tryRow m_keptRow m_otherRow m_row m_formRow m_allForms m_rowsOf m_intervals m_places m_whole fo)) (hS : va_S (fun q : Nat => s.heap.size ≤ q) s.heap H locs) (hl : lv_has ls 7 [(0, .ref b), (1, .ref (ad5 0)), (2, .ref (ad6 0)), (3, .ref qo), (4, .int x4)]) (kk : ∀ (H : Heap) (locs : List Loc), va_P (dC, dI) vwCl (wLaw cI cJ ad5 ad6 qo n ev ld0 ld1' ld2 tk mb f0 f1' f2 fr fu m_code' m_n m_built' m_length m_begin m_many m_leastOf' m_sizeOf' m_own m_bestRow m_tryRow m_keptRow m_otherRow m_row m_formRow m_allForms m_rowsOf m_intervals m_places m_whole fo) H → va_D (fun q : Nat => s.heap.size ≤ q) (wLaw cI cJ ad5 ad6 qo n ev ld0 ld1' ld2 tk mb f0 f1' f2 fr fu m_code' m_n m_built' m_length m_begin m_many m_leastOf' m_sizeOf' m_own m_bestRow m_tryRow m_keptRow m_otherRow m_row m_formRow m_allForms m_rowsOf m_intervals m_places m_whole fo) → va_S (fun q : Nat => s.heap.size ≤ q) s.heap H locs → W p l e room_1 s m #[Value.ref b] below meth c H locs cells slots (lw_Z below #[Value.ref b] s) (F0 m 1318 ls [])) : W p l e room_1 s m #[Value.ref b] below meth c H locs cells slots (lw_Z below #[Value.ref b] s) (F0 m 548 ls []) := by
  obtain ⟨hx, hb, hr, hml, hown, hts, hX, hbl, hlocks, hgv⟩ := C0
  have hA : ∀ q : Nat, s.heap.size ≤ q → (fun q : Nat => s.heap.size ≤ q) q := fun _ h => h
  have hbA : ¬ (fun q : Nat => s.heap.size ≤ q) b := Nat.not_le.mpr hbl
  have hfix : CallFix p m c cL_law 7 s #[Value.ref b] lw_tbl RL := ⟨hx, hb, hml, hown, hts⟩
  refine lv_aload_n hx hb dL_law_548 rfl (lv_at hl 1 rfl) ?_
  refine lv_aload_n hx hb dL_law_549 rfl (lv_at hl 0 rfl) ?_
  refine lv_iload hx hb dL_law_550 (lv_at hl 4 rfl) ?_
  refine lv_iconst (v := (1 : Int32)) hx hb dL_law_552 (by decide) ?_
  refine lv_iadd hx hb dL_law_553 ?_
  refine va_sld hx hb hX hbl hbA hS i1 dL_law_554 ?_
  have hPc : va_P (dC, dI) vwCl (wX5 cI cJ ad5 n ev ld0 ld1 ld2 tk mb f0 f1 f2 fr fu) H := hP.sub [0, 1, 2, 3, 4, 5, 6, 7, 8, 9, 10, 11, 12] rfl
  have hDc : va_D (fun q : Nat => s.heap.size ≤ q) (wX5 cI cJ ad5 n ev ld0 ld1 ld2 tk mb f0 f1 f2 fr fu) := hD.sub [0, 1, 2, 3, 4, 5, 6, 7, 8, 9, 10, 11, 12] (by decide) rfl
  have hFc := va_free (wc := (wX5 cI cJ ad5 n ev ld0 ld1 ld2 tk mb f0 f1 f2 fr fu)) hD hS hA [0, 1, 2, 3, 4, 5, 6, 7, 8, 9, 10, 11, 12] rfl
  refine va_calli (va_runV (As := [.int (xs (x4 + (1 : Int32)).toNatClampNeg)]) (rest := []) hfix (c_X5_twin l dC dI cI cJ ad5 H.size n ev ld0 ld1 ld2 tk mb f0 f1 f2 fr fu (xs (x4 + (1 : Int32)).toNatClampNeg) _ _ _ hF5) (cwV 1 hts gv_X5_twin rfl rfl rfl (by decide +kernel) ⟨by decide, by decide⟩) (rwP.preV hK hPc hDc rfl (ci := 5) rfl rfl) rfl rfl hl.1 rfl (lv_room (Nat.le_of_ble_eq_true rfl)) dL_law_555 ⟨hc1, hc2⟩) hS (fun q _ h => hFc q h) hFc (fun y9 u t H1 locs ht hvm hw hB hz1 hk1 hS => ?_)
  obtain ⟨hP1, -, hD1⟩ := hB
  rw [ht] at hP1
  have hw : y9 = r := hw
  rw [hw]
  obtain ⟨hP, hD⟩ := va_join (wr := [((ad6 0), .inr (6, [.int m_code, .int m_n, .int m_built, .ref (ad6 1), .ref (ad6 2), .int m_length, .ref (ad6 3), .ref (ad6 4), .ref (ad6 5), .ref (ad6 6), .ref (ad6 7), .int m_begin, .int m_many, .ref (ad6 8), .ref (ad6 9), .ref (ad6 10), .ref (ad6 11), .ref (ad6 12), .ref (ad6 13), .ref (ad6 14)])), ((ad6 1), .inl (cI, 12288, .inl m_leastOf)), ((ad6 2), .inl (cI, 12288, .inl m_sizeOf)), ((ad6 3), .inl (cI, 12, .inl m_own)), ((ad6 4), .inl (cI, 12, .inl m_bestRow)), ((ad6 5), .inl (cI, 12, .inl m_tryRow)), ((ad6 6), .inl (cI, 12, .inl m_keptRow)), ((ad6 7), .inl (cI, 12, .inl m_otherRow)), ((ad6 8), .inl (cI, 12, .inl m_row)), ((ad6 9), .inl (cI, 12, .inl m_formRow)), ((ad6 10), .inl (cI, 576, .inl m_allForms)), ((ad6 11), .inl (cI, 13, .inl m_rowsOf)), ((ad6 12), .inl (cI, 13, .inl m_intervals)), ((ad6 13), .inl (cI, 13, .inl m_places)), ((ad6 14), .inl (cJ, 25, .inr (.inl m_whole))), (qo, .inl (cJ, 1, .inr (.inl fo)))]) (w1 := (wX5 cI cJ ad5 n ev ld0 ld1' ld2 tk mb f0 f1' f2 fr fu)) hP hD [0, 1, 2, 3, 4, 5, 6, 7, 8, 9, 10, 11, 12] [13, 14, 15, 16, 17, 18, 19, 20, 21, 22, 23, 24, 25, 26, 27, 28] rfl rfl (by decide) (by decide) hk1 hFc hP1 hD1
  generalize H1 = H at hP hS ⊢
  have hP : va_P (dC, dI) vwCl (wLaw cI cJ ad5 ad6 qo n ev ld0 ld1' ld2 tk mb f0 f1' f2 fr fu m_code m_n m_built m_length m_begin m_many m_leastOf m_sizeOf m_own m_bestRow m_tryRow m_keptRow m_otherRow m_row m_formRow m_allForms m_rowsOf m_intervals m_places m_whole fo) H := hP.sub [16, 17, 18, 19, 20, 21, 22, 23, 24, 25, 26, 27, 28, 0, 1, 2, 3, 4, 5, 6, 7, 8, 9, 10, 11, 12, 13, 14, 15] rfl
  have hD : va_D (fun q : Nat => s.heap.size ≤ q) (wLaw cI cJ ad5 ad6 qo n ev ld0 ld1' ld2 tk mb f0 f1' f2 fr fu m_code m_n m_built m_length m_begin m_many m_leastOf m_sizeOf m_own m_bestRow m_tryRow m_keptRow m_otherRow m_row m_formRow m_allForms m_rowsOf m_intervals m_places m_whole fo) := hD.sub [16, 17, 18, 19, 20, 21, 22, 23, 24, 25, 26, 27, 28, 0, 1, 2, 3, 4, 5, 6, 7, 8, 9, 10, 11, 12, 13, 14, 15] (by decide) rfl
  refine lv_aload_n hx hb dL_law_558 rfl (lv_at hl 2 rfl) ?_
  refine lv_aload_n hx hb dL_law_559 rfl (lv_at hl 0 rfl) ?_
  refine lv_iload hx hb dL_law_560 (lv_at hl 4 rfl) ?_
  refine lv_iconst (v := (1 : Int32)) hx hb dL_law_562 (by decide) ?_
  refine lv_iadd hx hb dL_law_563 ?_
  refine va_sld hx hb hX hbl hbA hS i1 dL_law_564 ?_
  have hPc : va_P (dC, dI) vwCl (wX6 cI cJ ad6 m_code m_n m_built m_length m_begin m_many m_leastOf m_sizeOf m_own m_bestRow m_tryRow m_keptRow m_otherRow m_row m_formRow m_allForms m_rowsOf m_intervals m_places m_whole) H := hP.sub [13, 14, 15, 16, 17, 18, 19, 20, 21, 22, 23, 24, 25, 26, 27] rfl
  have hDc : va_D (fun q : Nat => s.heap.size ≤ q) (wX6 cI cJ ad6 m_code m_n m_built m_length m_begin m_many m_leastOf m_sizeOf m_own m_bestRow m_tryRow m_keptRow m_otherRow m_row m_formRow m_allForms m_rowsOf m_intervals m_places m_whole) := hD.sub [13, 14, 15, 16, 17, 18, 19, 20, 21, 22, 23, 24, 25, 26, 27] (by decide) rfl
  have hFc := va_free (wc := (wX6 cI cJ ad6 m_code m_n m_built m_length m_begin m_many m_leastOf m_sizeOf m_own m_bestRow m_tryRow m_keptRow m_otherRow m_row m_formRow m_allForms m_rowsOf m_intervals m_places m_whole)) hD hS hA [13, 14, 15, 16, 17, 18, 19, 20, 21, 22, 23, 24, 25, 26, 27] rfl
  refine va_calli (va_runV (As := [.int (xs (x4 + (1 : Int32)).toNatClampNeg)]) (rest := [.int r]) hfix (c_X6_twin l dC dI cI cJ ad6 H.size m_code m_n m_built m_length m_begin m_many m_leastOf m_sizeOf m_own m_bestRow m_tryRow m_keptRow m_otherRow m_row m_formRow m_allForms m_rowsOf m_intervals m_places m_whole (xs (x4 + (1 : Int32)).toNatClampNeg) _ _ _ _ _ hF6) (cwV 1 hts gv_X6_twin rfl rfl rfl (by decide +kernel) ⟨by decide, by decide⟩) (rwP.preV hK hPc hDc rfl (ci := 6) rfl rfl) rfl rfl hl.1 rfl (lv_room (Nat.le_of_ble_eq_true rfl)) dL_law_565 ⟨hc1, hc2⟩) hS (fun q _ h => hFc q h) hFc (fun y9 u t H1 locs ht hvm hw hB hz1 hk1 hS => ?_)
  obtain ⟨hP1, -, hD1⟩ := hB
  rw [ht] at hP1
  have hw : y9 = r := hw
  rw [hw]
  obtain ⟨hP, hD⟩ := va_join (wr := [((ad5 0), .inr (5, [.ref (ad5 1), .ref (ad5 2), .ref (ad5 3), .ref (ad5 4), .ref (ad5 5), .ref (ad5 6), .ref (ad5 7)])), ((ad5 1), .inr (0, [.int n, .int ev])), ((ad5 2), .inr (2, [.ref (ad5 1)])), ((ad5 3), .inr (1, [.ref (ad5 1), .int 0, .ref (ad5 8), .int ld0])), ((ad5 4), .inr (1, [.ref (ad5 1), .int 1, .ref (ad5 9), .int ld1'])), ((ad5 5), .inr (1, [.ref (ad5 1), .int 2, .ref (ad5 10), .int ld2])), ((ad5 6), .inr (3, [.ref (ad5 1), .ref (ad5 11), .int tk, .int mb])), ((ad5 7), .inr (4, [.ref (ad5 12)])), ((ad5 8), .inl (cI, 352, .inl f0)), ((ad5 9), .inl (cI, 352, .inl f1')), ((ad5 10), .inl (cI, 352, .inl f2)), ((ad5 11), .inl (cI, 12, .inl fr)), ((ad5 12), .inl (cI, 13, .inl fu)), (qo, .inl (cJ, 1, .inr (.inl fo)))]) (w1 := (wX6 cI cJ ad6 m_code' m_n m_built' m_length m_begin m_many m_leastOf' m_sizeOf' m_own m_bestRow m_tryRow m_keptRow m_otherRow m_row m_formRow m_allForms m_rowsOf m_intervals m_places m_whole)) hP hD [13, 14, 15, 16, 17, 18, 19, 20, 21, 22, 23, 24, 25, 26, 27] [0, 1, 2, 3, 4, 5, 6, 7, 8, 9, 10, 11, 12, 28] rfl rfl (by decide) (by decide) hk1 hFc hP1 hD1
  generalize H1 = H at hP hS ⊢
  have hP : va_P (dC, dI) vwCl (wLaw cI cJ ad5 ad6 qo n ev ld0 ld1' ld2 tk mb f0 f1' f2 fr fu m_code' m_n m_built' m_length m_begin m_many m_leastOf' m_sizeOf' m_own m_bestRow m_tryRow m_keptRow m_otherRow m_row m_formRow m_allForms m_rowsOf m_intervals m_places m_whole fo) H := hP.sub [0, 1, 2, 3, 4, 5, 6, 7, 8, 9, 10, 11, 12, 14, 15, 16, 17, 18, 19, 20, 21, 22, 23, 24, 25, 26, 27, 28, 13] rfl
  have hD : va_D (fun q : Nat => s.heap.size ≤ q) (wLaw cI cJ ad5 ad6 qo n ev ld0 ld1' ld2 tk mb f0 f1' f2 fr fu m_code' m_n m_built' m_length m_begin m_many m_leastOf' m_sizeOf' m_own m_bestRow m_tryRow m_keptRow m_otherRow m_row m_formRow m_allForms m_rowsOf m_intervals m_places m_whole fo) := hD.sub [0, 1, 2, 3, 4, 5, 6, 7, 8, 9, 10, 11, 12, 14, 15, 16, 17, 18, 19, 20, 21, 22, 23, 24, 25, 26, 27, 28, 13] (by decide) rfl
  refine lv_icmp_eq (tgt := 1318) hx hb dL_law_568 (by decide) (fun _ => ?_) (fun q9 => absurd rfl q9)
  exact kk _ _ hP hD hS
set_option maxHeartbeats 2000000 in
set_option maxRecDepth 100000 in
theorem law_others {p : Program} {l : Launch} {e : Env} {s : State} {m : MethodId} {below : List Frame} {meth : Method} {c : Code} {b L : Nat} {xs : Nat → Int32} (C0 : lw_At p s m meth c b L xs) {dC : Nat → ClassId} {dI : Nat → Nat → Nat} {cI cJ : ClassId} (hK : vK (dC, dI) [(cI, .int), (cJ, .long)] s) {cells slots : Nat} (hc1 : cells ≤ 601024) (hc2 : slots ≤ 7293034) {ad5 ad6 : Nat → Nat} {qo : Nat} {n : Int32} {ev : Int32} {ld0 : Int32} {ld1 : Int32} {ld2 : Int32} {tk : Int32} {mb : Int32} {f0 : Nat → Int32} {f1 : Nat → Int32} {f2 : Nat → Int32} {fr : Nat → Int32} {fu : Nat → Int32} {m_code : Int32} {m_n : Int32} {m_built : Int32} {m_length : Int32} {m_begin : Int32} {m_many : Int32} {m_leastOf : Nat → Int32} {m_sizeOf : Nat → Int32} {m_own : Nat → Int32} {m_bestRow : Nat → Int32} {m_tryRow : Nat → Int32} {m_keptRow : Nat → Int32} {m_otherRow : Nat → Int32} {m_row : Nat → Int32} {m_formRow : Nat → Int32} {m_allForms : Nat → Int32} {m_rowsOf : Nat → Int32} {m_intervals : Nat → Int32} {m_places : Nat → Int32} {m_whole : Nat → Int64} {fo : Nat → Int64} {x4 : Int32} (i1 : vp_in (x4 + (1 : Int32)) L) {r : Int32} {m_code' : Int32} (hF5 : FX5_others ev (xs (x4 + (1 : Int32)).toNatClampNeg) = some r) (hF6 : FX6_others m_code m_n (xs (x4 + (1 : Int32)).toNatClampNeg) = some (r, m_code')) {H : Heap} {locs : List Loc} {ls : Array Slot} (hP : va_P (dC, dI) vwCl (wLaw cI cJ ad5 ad6 qo n ev ld0 ld1 ld2 tk mb f0 f1 f2 fr fu m_code m_n m_built m_length m_begin m_many m_leastOf m_sizeOf m_own m_bestRow m_tryRow m_keptRow m_otherRow m_row m_formRow m_allForms m_rowsOf m_intervals m_places m_whole fo) H) (hD : va_D (fun q : Nat => s.heap.size ≤ q) (wLaw cI cJ ad5 ad6 qo n ev ld0 ld1 ld2 tk mb f0 f1 f2 fr fu m_code m_n m_built m_length m_begin m_many m_leastOf m_sizeOf m_own m_bestRow m_tryRow m_keptRow m_otherRow m_row m_formRow m_allForms m_rowsOf m_intervals m_places m_whole fo)) (hS : va_S (fun q : Nat => s.heap.size ≤ q) s.heap H locs) (hl : lv_has ls 7 [(0, .ref b), (1, .ref (ad5 0)), (2, .ref (ad6 0)), (3, .ref qo), (4, .int x4)]) (kk : ∀ (H : Heap) (locs : List Loc), va_P (dC, dI) vwCl (wLaw cI cJ ad5 ad6 qo n ev ld0 ld1 ld2 tk mb f0 f1 f2 fr fu m_code' m_n m_built m_length m_begin m_many m_leastOf m_sizeOf m_own m_bestRow m_tryRow m_keptRow m_otherRow m_row m_formRow m_allForms m_rowsOf m_intervals m_places m_whole fo) H → va_D (fun q : Nat => s.heap.size ≤ q) (wLaw cI cJ ad5 ad6 qo n ev ld0 ld1 ld2 tk mb f0 f1 f2 fr fu m_code' m_n m_built m_length m_begin m_many m_leastOf m_sizeOf m_own m_bestRow m_tryRow m_keptRow m_otherRow m_row m_formRow m_allForms m_rowsOf m_intervals m_places m_whole fo) → va_S (fun q : Nat => s.heap.size ≤ q) s.heap H locs → W p l e room_1 s m #[Value.ref b] below meth c H locs cells slots (lw_Z below #[Value.ref b] s) (F0 m 1318 ls [])) : W p l e room_1 s m #[Value.ref b] below meth c H locs cells slots (lw_Z below #[Value.ref b] s) (F0 m 573 ls []) := by
  obtain ⟨hx, hb, hr, hml, hown, hts, hX, hbl, hlocks, hgv⟩ := C0
  have hA : ∀ q : Nat, s.heap.size ≤ q → (fun q : Nat => s.heap.size ≤ q) q := fun _ h => h
  have hbA : ¬ (fun q : Nat => s.heap.size ≤ q) b := Nat.not_le.mpr hbl
  have hfix : CallFix p m c cL_law 7 s #[Value.ref b] lw_tbl RL := ⟨hx, hb, hml, hown, hts⟩
  refine lv_aload_n hx hb dL_law_573 rfl (lv_at hl 1 rfl) ?_
  refine lv_aload_n hx hb dL_law_574 rfl (lv_at hl 0 rfl) ?_
  refine lv_iload hx hb dL_law_575 (lv_at hl 4 rfl) ?_
  refine lv_iconst (v := (1 : Int32)) hx hb dL_law_577 (by decide) ?_
  refine lv_iadd hx hb dL_law_578 ?_
  refine va_sld hx hb hX hbl hbA hS i1 dL_law_579 ?_
  have hPc : va_P (dC, dI) vwCl (wX5 cI cJ ad5 n ev ld0 ld1 ld2 tk mb f0 f1 f2 fr fu) H := hP.sub [0, 1, 2, 3, 4, 5, 6, 7, 8, 9, 10, 11, 12] rfl
  refine cs_i (va_runV (As := [.int (xs (x4 + (1 : Int32)).toNatClampNeg)]) (rest := []) hfix (c_X5_others l dC dI cI cJ ad5 n ev ld0 ld1 ld2 tk mb f0 f1 f2 fr fu (xs (x4 + (1 : Int32)).toNatClampNeg) _ hF5) (cwV 1 hts gv_X5_others rfl rfl rfl (by decide +kernel) ⟨by decide, by decide⟩) (roP.preV hK hPc (ci := 5) rfl rfl) rfl rfl hl.1 rfl (lv_room (Nat.le_of_ble_eq_true rfl)) dL_law_580 ⟨hc1, hc2⟩) ?_
  refine lv_aload_n hx hb dL_law_583 rfl (lv_at hl 2 rfl) ?_
  refine lv_aload_n hx hb dL_law_584 rfl (lv_at hl 0 rfl) ?_
  refine lv_iload hx hb dL_law_585 (lv_at hl 4 rfl) ?_
  refine lv_iconst (v := (1 : Int32)) hx hb dL_law_587 (by decide) ?_
  refine lv_iadd hx hb dL_law_588 ?_
  refine va_sld hx hb hX hbl hbA hS i1 dL_law_589 ?_
  have hPc : va_P (dC, dI) vwCl (wX6 cI cJ ad6 m_code m_n m_built m_length m_begin m_many m_leastOf m_sizeOf m_own m_bestRow m_tryRow m_keptRow m_otherRow m_row m_formRow m_allForms m_rowsOf m_intervals m_places m_whole) H := hP.sub [13, 14, 15, 16, 17, 18, 19, 20, 21, 22, 23, 24, 25, 26, 27] rfl
  have hDc : va_D (fun q : Nat => s.heap.size ≤ q) (wX6 cI cJ ad6 m_code m_n m_built m_length m_begin m_many m_leastOf m_sizeOf m_own m_bestRow m_tryRow m_keptRow m_otherRow m_row m_formRow m_allForms m_rowsOf m_intervals m_places m_whole) := hD.sub [13, 14, 15, 16, 17, 18, 19, 20, 21, 22, 23, 24, 25, 26, 27] (by decide) rfl
  have hFc := va_free (wc := (wX6 cI cJ ad6 m_code m_n m_built m_length m_begin m_many m_leastOf m_sizeOf m_own m_bestRow m_tryRow m_keptRow m_otherRow m_row m_formRow m_allForms m_rowsOf m_intervals m_places m_whole)) hD hS hA [13, 14, 15, 16, 17, 18, 19, 20, 21, 22, 23, 24, 25, 26, 27] rfl
  refine va_calli (va_runV (As := [.int (xs (x4 + (1 : Int32)).toNatClampNeg)]) (rest := [.int r]) hfix (c_X6_others l dC dI cI cJ ad6 H.size m_code m_n m_built m_length m_begin m_many m_leastOf m_sizeOf m_own m_bestRow m_tryRow m_keptRow m_otherRow m_row m_formRow m_allForms m_rowsOf m_intervals m_places m_whole (xs (x4 + (1 : Int32)).toNatClampNeg) _ _ hF6) (cwV 1 hts gv_X6_others rfl rfl rfl (by decide +kernel) ⟨by decide, by decide⟩) (rwP.preV hK hPc hDc rfl (ci := 6) rfl rfl) rfl rfl hl.1 rfl (lv_room (Nat.le_of_ble_eq_true rfl)) dL_law_590 ⟨hc1, hc2⟩) hS (fun q _ h => hFc q h) hFc (fun y9 u t H1 locs ht hvm hw hB hz1 hk1 hS => ?_)
  obtain ⟨hP1, -, hD1⟩ := hB
  rw [ht] at hP1
  have hw : y9 = r := hw
  rw [hw]
  obtain ⟨hP, hD⟩ := va_join (wr := [((ad5 0), .inr (5, [.ref (ad5 1), .ref (ad5 2), .ref (ad5 3), .ref (ad5 4), .ref (ad5 5), .ref (ad5 6), .ref (ad5 7)])), ((ad5 1), .inr (0, [.int n, .int ev])), ((ad5 2), .inr (2, [.ref (ad5 1)])), ((ad5 3), .inr (1, [.ref (ad5 1), .int 0, .ref (ad5 8), .int ld0])), ((ad5 4), .inr (1, [.ref (ad5 1), .int 1, .ref (ad5 9), .int ld1])), ((ad5 5), .inr (1, [.ref (ad5 1), .int 2, .ref (ad5 10), .int ld2])), ((ad5 6), .inr (3, [.ref (ad5 1), .ref (ad5 11), .int tk, .int mb])), ((ad5 7), .inr (4, [.ref (ad5 12)])), ((ad5 8), .inl (cI, 352, .inl f0)), ((ad5 9), .inl (cI, 352, .inl f1)), ((ad5 10), .inl (cI, 352, .inl f2)), ((ad5 11), .inl (cI, 12, .inl fr)), ((ad5 12), .inl (cI, 13, .inl fu)), (qo, .inl (cJ, 1, .inr (.inl fo)))]) (w1 := (wX6 cI cJ ad6 m_code' m_n m_built m_length m_begin m_many m_leastOf m_sizeOf m_own m_bestRow m_tryRow m_keptRow m_otherRow m_row m_formRow m_allForms m_rowsOf m_intervals m_places m_whole)) hP hD [13, 14, 15, 16, 17, 18, 19, 20, 21, 22, 23, 24, 25, 26, 27] [0, 1, 2, 3, 4, 5, 6, 7, 8, 9, 10, 11, 12, 28] rfl rfl (by decide) (by decide) hk1 hFc hP1 hD1
  generalize H1 = H at hP hS ⊢
  have hP : va_P (dC, dI) vwCl (wLaw cI cJ ad5 ad6 qo n ev ld0 ld1 ld2 tk mb f0 f1 f2 fr fu m_code' m_n m_built m_length m_begin m_many m_leastOf m_sizeOf m_own m_bestRow m_tryRow m_keptRow m_otherRow m_row m_formRow m_allForms m_rowsOf m_intervals m_places m_whole fo) H := hP.sub [0, 1, 2, 3, 4, 5, 6, 7, 8, 9, 10, 11, 12, 14, 15, 16, 17, 18, 19, 20, 21, 22, 23, 24, 25, 26, 27, 28, 13] rfl
  have hD : va_D (fun q : Nat => s.heap.size ≤ q) (wLaw cI cJ ad5 ad6 qo n ev ld0 ld1 ld2 tk mb f0 f1 f2 fr fu m_code' m_n m_built m_length m_begin m_many m_leastOf m_sizeOf m_own m_bestRow m_tryRow m_keptRow m_otherRow m_row m_formRow m_allForms m_rowsOf m_intervals m_places m_whole fo) := hD.sub [0, 1, 2, 3, 4, 5, 6, 7, 8, 9, 10, 11, 12, 14, 15, 16, 17, 18, 19, 20, 21, 22, 23, 24, 25, 26, 27, 28, 13] (by decide) rfl
  refine lv_icmp_eq (tgt := 1318) hx hb dL_law_593 (by decide) (fun _ => ?_) (fun q9 => absurd rfl q9)
  exact kk _ _ hP hD hS
set_option maxHeartbeats 2000000 in
set_option maxRecDepth 100000 in
theorem law_multiplied {p : Program} {l : Launch} {e : Env} {s : State} {m : MethodId} {below : List Frame} {meth : Method} {c : Code} {b L : Nat} {xs : Nat → Int32} (C0 : lw_At p s m meth c b L xs) {dC : Nat → ClassId} {dI : Nat → Nat → Nat} {cI cJ : ClassId} (hK : vK (dC, dI) [(cI, .int), (cJ, .long)] s) {cells slots : Nat} (hc1 : cells ≤ 601024) (hc2 : slots ≤ 7293034) {ad5 ad6 : Nat → Nat} {qo : Nat} {n : Int32} {ev : Int32} {ld0 : Int32} {ld1 : Int32} {ld2 : Int32} {tk : Int32} {mb : Int32} {f0 : Nat → Int32} {f1 : Nat → Int32} {f2 : Nat → Int32} {fr : Nat → Int32} {fu : Nat → Int32} {m_code : Int32} {m_n : Int32} {m_built : Int32} {m_length : Int32} {m_begin : Int32} {m_many : Int32} {m_leastOf : Nat → Int32} {m_sizeOf : Nat → Int32} {m_own : Nat → Int32} {m_bestRow : Nat → Int32} {m_tryRow : Nat → Int32} {m_keptRow : Nat → Int32} {m_otherRow : Nat → Int32} {m_row : Nat → Int32} {m_formRow : Nat → Int32} {m_allForms : Nat → Int32} {m_rowsOf : Nat → Int32} {m_intervals : Nat → Int32} {m_places : Nat → Int32} {m_whole : Nat → Int64} {fo : Nat → Int64} {x4 : Int32} (i1 : vp_in (x4 + (1 : Int32)) L) (i2 : vp_in (x4 + (2 : Int32)) L) {r : Int32} {m_code' : Int32} (hF5 : FX5_multiplied n ev (xs (x4 + (1 : Int32)).toNatClampNeg) (xs (x4 + (2 : Int32)).toNatClampNeg) = some r) (hF6 : FX6_multiplied m_code m_n (xs (x4 + (1 : Int32)).toNatClampNeg) (xs (x4 + (2 : Int32)).toNatClampNeg) = some (r, m_code')) {H : Heap} {locs : List Loc} {ls : Array Slot} (hP : va_P (dC, dI) vwCl (wLaw cI cJ ad5 ad6 qo n ev ld0 ld1 ld2 tk mb f0 f1 f2 fr fu m_code m_n m_built m_length m_begin m_many m_leastOf m_sizeOf m_own m_bestRow m_tryRow m_keptRow m_otherRow m_row m_formRow m_allForms m_rowsOf m_intervals m_places m_whole fo) H) (hD : va_D (fun q : Nat => s.heap.size ≤ q) (wLaw cI cJ ad5 ad6 qo n ev ld0 ld1 ld2 tk mb f0 f1 f2 fr fu m_code m_n m_built m_length m_begin m_many m_leastOf m_sizeOf m_own m_bestRow m_tryRow m_keptRow m_otherRow m_row m_formRow m_allForms m_rowsOf m_intervals m_places m_whole fo)) (hS : va_S (fun q : Nat => s.heap.size ≤ q) s.heap H locs) (hl : lv_has ls 7 [(0, .ref b), (1, .ref (ad5 0)), (2, .ref (ad6 0)), (3, .ref qo), (4, .int x4)]) (kk : ∀ (H : Heap) (locs : List Loc), va_P (dC, dI) vwCl (wLaw cI cJ ad5 ad6 qo n ev ld0 ld1 ld2 tk mb f0 f1 f2 fr fu m_code' m_n m_built m_length m_begin m_many m_leastOf m_sizeOf m_own m_bestRow m_tryRow m_keptRow m_otherRow m_row m_formRow m_allForms m_rowsOf m_intervals m_places m_whole fo) H → va_D (fun q : Nat => s.heap.size ≤ q) (wLaw cI cJ ad5 ad6 qo n ev ld0 ld1 ld2 tk mb f0 f1 f2 fr fu m_code' m_n m_built m_length m_begin m_many m_leastOf m_sizeOf m_own m_bestRow m_tryRow m_keptRow m_otherRow m_row m_formRow m_allForms m_rowsOf m_intervals m_places m_whole fo) → va_S (fun q : Nat => s.heap.size ≤ q) s.heap H locs → W p l e room_1 s m #[Value.ref b] below meth c H locs cells slots (lw_Z below #[Value.ref b] s) (F0 m 1318 ls [])) : W p l e room_1 s m #[Value.ref b] below meth c H locs cells slots (lw_Z below #[Value.ref b] s) (F0 m 598 ls []) := by
  obtain ⟨hx, hb, hr, hml, hown, hts, hX, hbl, hlocks, hgv⟩ := C0
  have hA : ∀ q : Nat, s.heap.size ≤ q → (fun q : Nat => s.heap.size ≤ q) q := fun _ h => h
  have hbA : ¬ (fun q : Nat => s.heap.size ≤ q) b := Nat.not_le.mpr hbl
  have hfix : CallFix p m c cL_law 7 s #[Value.ref b] lw_tbl RL := ⟨hx, hb, hml, hown, hts⟩
  refine lv_aload_n hx hb dL_law_598 rfl (lv_at hl 1 rfl) ?_
  refine lv_aload_n hx hb dL_law_599 rfl (lv_at hl 0 rfl) ?_
  refine lv_iload hx hb dL_law_600 (lv_at hl 4 rfl) ?_
  refine lv_iconst (v := (1 : Int32)) hx hb dL_law_602 (by decide) ?_
  refine lv_iadd hx hb dL_law_603 ?_
  refine va_sld hx hb hX hbl hbA hS i1 dL_law_604 ?_
  refine lv_aload_n hx hb dL_law_605 rfl (lv_at hl 0 rfl) ?_
  refine lv_iload hx hb dL_law_606 (lv_at hl 4 rfl) ?_
  refine lv_iconst (v := (2 : Int32)) hx hb dL_law_608 (by decide) ?_
  refine lv_iadd hx hb dL_law_609 ?_
  refine va_sld hx hb hX hbl hbA hS i2 dL_law_610 ?_
  have hPc : va_P (dC, dI) vwCl (wX5 cI cJ ad5 n ev ld0 ld1 ld2 tk mb f0 f1 f2 fr fu) H := hP.sub [0, 1, 2, 3, 4, 5, 6, 7, 8, 9, 10, 11, 12] rfl
  refine cs_i (va_runV (As := [.int (xs (x4 + (1 : Int32)).toNatClampNeg), .int (xs (x4 + (2 : Int32)).toNatClampNeg)]) (rest := []) hfix (c_X5_multiplied l dC dI cI cJ ad5 n ev ld0 ld1 ld2 tk mb f0 f1 f2 fr fu (xs (x4 + (1 : Int32)).toNatClampNeg) (xs (x4 + (2 : Int32)).toNatClampNeg) _ hF5) (cwV 2 hts gv_X5_multiplied rfl rfl rfl (by decide +kernel) ⟨by decide, by decide⟩) (roP.preV hK hPc (ci := 5) rfl rfl) rfl rfl hl.1 rfl (lv_room (Nat.le_of_ble_eq_true rfl)) dL_law_611 ⟨hc1, hc2⟩) ?_
  refine lv_aload_n hx hb dL_law_614 rfl (lv_at hl 2 rfl) ?_
  refine lv_aload_n hx hb dL_law_615 rfl (lv_at hl 0 rfl) ?_
  refine lv_iload hx hb dL_law_616 (lv_at hl 4 rfl) ?_
  refine lv_iconst (v := (1 : Int32)) hx hb dL_law_618 (by decide) ?_
  refine lv_iadd hx hb dL_law_619 ?_
  refine va_sld hx hb hX hbl hbA hS i1 dL_law_620 ?_
  refine lv_aload_n hx hb dL_law_621 rfl (lv_at hl 0 rfl) ?_
  refine lv_iload hx hb dL_law_622 (lv_at hl 4 rfl) ?_
  refine lv_iconst (v := (2 : Int32)) hx hb dL_law_624 (by decide) ?_
  refine lv_iadd hx hb dL_law_625 ?_
  refine va_sld hx hb hX hbl hbA hS i2 dL_law_626 ?_
  have hPc : va_P (dC, dI) vwCl (wX6 cI cJ ad6 m_code m_n m_built m_length m_begin m_many m_leastOf m_sizeOf m_own m_bestRow m_tryRow m_keptRow m_otherRow m_row m_formRow m_allForms m_rowsOf m_intervals m_places m_whole) H := hP.sub [13, 14, 15, 16, 17, 18, 19, 20, 21, 22, 23, 24, 25, 26, 27] rfl
  have hDc : va_D (fun q : Nat => s.heap.size ≤ q) (wX6 cI cJ ad6 m_code m_n m_built m_length m_begin m_many m_leastOf m_sizeOf m_own m_bestRow m_tryRow m_keptRow m_otherRow m_row m_formRow m_allForms m_rowsOf m_intervals m_places m_whole) := hD.sub [13, 14, 15, 16, 17, 18, 19, 20, 21, 22, 23, 24, 25, 26, 27] (by decide) rfl
  have hFc := va_free (wc := (wX6 cI cJ ad6 m_code m_n m_built m_length m_begin m_many m_leastOf m_sizeOf m_own m_bestRow m_tryRow m_keptRow m_otherRow m_row m_formRow m_allForms m_rowsOf m_intervals m_places m_whole)) hD hS hA [13, 14, 15, 16, 17, 18, 19, 20, 21, 22, 23, 24, 25, 26, 27] rfl
  refine va_calli (va_runV (As := [.int (xs (x4 + (1 : Int32)).toNatClampNeg), .int (xs (x4 + (2 : Int32)).toNatClampNeg)]) (rest := [.int r]) hfix (c_X6_multiplied l dC dI cI cJ ad6 H.size m_code m_n m_built m_length m_begin m_many m_leastOf m_sizeOf m_own m_bestRow m_tryRow m_keptRow m_otherRow m_row m_formRow m_allForms m_rowsOf m_intervals m_places m_whole (xs (x4 + (1 : Int32)).toNatClampNeg) (xs (x4 + (2 : Int32)).toNatClampNeg) _ _ hF6) (cwV 2 hts gv_X6_multiplied rfl rfl rfl (by decide +kernel) ⟨by decide, by decide⟩) (rwP.preV hK hPc hDc rfl (ci := 6) rfl rfl) rfl rfl hl.1 rfl (lv_room (Nat.le_of_ble_eq_true rfl)) dL_law_627 ⟨hc1, hc2⟩) hS (fun q _ h => hFc q h) hFc (fun y9 u t H1 locs ht hvm hw hB hz1 hk1 hS => ?_)
  obtain ⟨hP1, -, hD1⟩ := hB
  rw [ht] at hP1
  have hw : y9 = r := hw
  rw [hw]
  obtain ⟨hP, hD⟩ := va_join (wr := [((ad5 0), .inr (5, [.ref (ad5 1), .ref (ad5 2), .ref (ad5 3), .ref (ad5 4), .ref (ad5 5), .ref (ad5 6), .ref (ad5 7)])), ((ad5 1), .inr (0, [.int n, .int ev])), ((ad5 2), .inr (2, [.ref (ad5 1)])), ((ad5 3), .inr (1, [.ref (ad5 1), .int 0, .ref (ad5 8), .int ld0])), ((ad5 4), .inr (1, [.ref (ad5 1), .int 1, .ref (ad5 9), .int ld1])), ((ad5 5), .inr (1, [.ref (ad5 1), .int 2, .ref (ad5 10), .int ld2])), ((ad5 6), .inr (3, [.ref (ad5 1), .ref (ad5 11), .int tk, .int mb])), ((ad5 7), .inr (4, [.ref (ad5 12)])), ((ad5 8), .inl (cI, 352, .inl f0)), ((ad5 9), .inl (cI, 352, .inl f1)), ((ad5 10), .inl (cI, 352, .inl f2)), ((ad5 11), .inl (cI, 12, .inl fr)), ((ad5 12), .inl (cI, 13, .inl fu)), (qo, .inl (cJ, 1, .inr (.inl fo)))]) (w1 := (wX6 cI cJ ad6 m_code' m_n m_built m_length m_begin m_many m_leastOf m_sizeOf m_own m_bestRow m_tryRow m_keptRow m_otherRow m_row m_formRow m_allForms m_rowsOf m_intervals m_places m_whole)) hP hD [13, 14, 15, 16, 17, 18, 19, 20, 21, 22, 23, 24, 25, 26, 27] [0, 1, 2, 3, 4, 5, 6, 7, 8, 9, 10, 11, 12, 28] rfl rfl (by decide) (by decide) hk1 hFc hP1 hD1
  generalize H1 = H at hP hS ⊢
  have hP : va_P (dC, dI) vwCl (wLaw cI cJ ad5 ad6 qo n ev ld0 ld1 ld2 tk mb f0 f1 f2 fr fu m_code' m_n m_built m_length m_begin m_many m_leastOf m_sizeOf m_own m_bestRow m_tryRow m_keptRow m_otherRow m_row m_formRow m_allForms m_rowsOf m_intervals m_places m_whole fo) H := hP.sub [0, 1, 2, 3, 4, 5, 6, 7, 8, 9, 10, 11, 12, 14, 15, 16, 17, 18, 19, 20, 21, 22, 23, 24, 25, 26, 27, 28, 13] rfl
  have hD : va_D (fun q : Nat => s.heap.size ≤ q) (wLaw cI cJ ad5 ad6 qo n ev ld0 ld1 ld2 tk mb f0 f1 f2 fr fu m_code' m_n m_built m_length m_begin m_many m_leastOf m_sizeOf m_own m_bestRow m_tryRow m_keptRow m_otherRow m_row m_formRow m_allForms m_rowsOf m_intervals m_places m_whole fo) := hD.sub [0, 1, 2, 3, 4, 5, 6, 7, 8, 9, 10, 11, 12, 14, 15, 16, 17, 18, 19, 20, 21, 22, 23, 24, 25, 26, 27, 28, 13] (by decide) rfl
  refine lv_icmp_eq (tgt := 1318) hx hb dL_law_630 (by decide) (fun _ => ?_) (fun q9 => absurd rfl q9)
  exact kk _ _ hP hD hS
set_option maxHeartbeats 2000000 in
set_option maxRecDepth 100000 in
theorem law_within {p : Program} {l : Launch} {e : Env} {s : State} {m : MethodId} {below : List Frame} {meth : Method} {c : Code} {b L : Nat} {xs : Nat → Int32} (C0 : lw_At p s m meth c b L xs) {dC : Nat → ClassId} {dI : Nat → Nat → Nat} {cI cJ : ClassId} (hK : vK (dC, dI) [(cI, .int), (cJ, .long)] s) {cells slots : Nat} (hc1 : cells ≤ 601024) (hc2 : slots ≤ 7293034) {ad5 ad6 : Nat → Nat} {qo : Nat} {n : Int32} {ev : Int32} {ld0 : Int32} {ld1 : Int32} {ld2 : Int32} {tk : Int32} {mb : Int32} {f0 : Nat → Int32} {f1 : Nat → Int32} {f2 : Nat → Int32} {fr : Nat → Int32} {fu : Nat → Int32} {m_code : Int32} {m_n : Int32} {m_built : Int32} {m_length : Int32} {m_begin : Int32} {m_many : Int32} {m_leastOf : Nat → Int32} {m_sizeOf : Nat → Int32} {m_own : Nat → Int32} {m_bestRow : Nat → Int32} {m_tryRow : Nat → Int32} {m_keptRow : Nat → Int32} {m_otherRow : Nat → Int32} {m_row : Nat → Int32} {m_formRow : Nat → Int32} {m_allForms : Nat → Int32} {m_rowsOf : Nat → Int32} {m_intervals : Nat → Int32} {m_places : Nat → Int32} {m_whole : Nat → Int64} {fo : Nat → Int64} {x4 : Int32} (i1 : vp_in (x4 + (1 : Int32)) L) (i2 : vp_in (x4 + (2 : Int32)) L) (i3 : vp_in (x4 + (3 : Int32)) L) {r : Int32} {m_code' : Int32} {m_built' : Int32} {m_leastOf' : Nat → Int32} {m_sizeOf' : Nat → Int32} (hF5 : FX5_within n ev (xs (x4 + (1 : Int32)).toNatClampNeg) (xs (x4 + (2 : Int32)).toNatClampNeg) (xs (x4 + (3 : Int32)).toNatClampNeg) = some r) (hF6 : FX6_within m_code m_n m_built m_leastOf m_sizeOf (xs (x4 + (1 : Int32)).toNatClampNeg) (xs (x4 + (2 : Int32)).toNatClampNeg) (xs (x4 + (3 : Int32)).toNatClampNeg) = some (r, m_code', m_built', m_leastOf', m_sizeOf')) {H : Heap} {locs : List Loc} {ls : Array Slot} (hP : va_P (dC, dI) vwCl (wLaw cI cJ ad5 ad6 qo n ev ld0 ld1 ld2 tk mb f0 f1 f2 fr fu m_code m_n m_built m_length m_begin m_many m_leastOf m_sizeOf m_own m_bestRow m_tryRow m_keptRow m_otherRow m_row m_formRow m_allForms m_rowsOf m_intervals m_places m_whole fo) H) (hD : va_D (fun q : Nat => s.heap.size ≤ q) (wLaw cI cJ ad5 ad6 qo n ev ld0 ld1 ld2 tk mb f0 f1 f2 fr fu m_code m_n m_built m_length m_begin m_many m_leastOf m_sizeOf m_own m_bestRow m_tryRow m_keptRow m_otherRow m_row m_formRow m_allForms m_rowsOf m_intervals m_places m_whole fo)) (hS : va_S (fun q : Nat => s.heap.size ≤ q) s.heap H locs) (hl : lv_has ls 7 [(0, .ref b), (1, .ref (ad5 0)), (2, .ref (ad6 0)), (3, .ref qo), (4, .int x4)]) (kk : ∀ (H : Heap) (locs : List Loc), va_P (dC, dI) vwCl (wLaw cI cJ ad5 ad6 qo n ev ld0 ld1 ld2 tk mb f0 f1 f2 fr fu m_code' m_n m_built' m_length m_begin m_many m_leastOf' m_sizeOf' m_own m_bestRow m_tryRow m_keptRow m_otherRow m_row m_formRow m_allForms m_rowsOf m_intervals m_places m_whole fo) H → va_D (fun q : Nat => s.heap.size ≤ q) (wLaw cI cJ ad5 ad6 qo n ev ld0 ld1 ld2 tk mb f0 f1 f2 fr fu m_code' m_n m_built' m_length m_begin m_many m_leastOf' m_sizeOf' m_own m_bestRow m_tryRow m_keptRow m_otherRow m_row m_formRow m_allForms m_rowsOf m_intervals m_places m_whole fo) → va_S (fun q : Nat => s.heap.size ≤ q) s.heap H locs → W p l e room_1 s m #[Value.ref b] below meth c H locs cells slots (lw_Z below #[Value.ref b] s) (F0 m 1318 ls [])) : W p l e room_1 s m #[Value.ref b] below meth c H locs cells slots (lw_Z below #[Value.ref b] s) (F0 m 635 ls []) := by
  obtain ⟨hx, hb, hr, hml, hown, hts, hX, hbl, hlocks, hgv⟩ := C0
  have hA : ∀ q : Nat, s.heap.size ≤ q → (fun q : Nat => s.heap.size ≤ q) q := fun _ h => h
  have hbA : ¬ (fun q : Nat => s.heap.size ≤ q) b := Nat.not_le.mpr hbl
  have hfix : CallFix p m c cL_law 7 s #[Value.ref b] lw_tbl RL := ⟨hx, hb, hml, hown, hts⟩
  refine lv_aload_n hx hb dL_law_635 rfl (lv_at hl 1 rfl) ?_
  refine lv_aload_n hx hb dL_law_636 rfl (lv_at hl 0 rfl) ?_
  refine lv_iload hx hb dL_law_637 (lv_at hl 4 rfl) ?_
  refine lv_iconst (v := (1 : Int32)) hx hb dL_law_639 (by decide) ?_
  refine lv_iadd hx hb dL_law_640 ?_
  refine va_sld hx hb hX hbl hbA hS i1 dL_law_641 ?_
  refine lv_aload_n hx hb dL_law_642 rfl (lv_at hl 0 rfl) ?_
  refine lv_iload hx hb dL_law_643 (lv_at hl 4 rfl) ?_
  refine lv_iconst (v := (2 : Int32)) hx hb dL_law_645 (by decide) ?_
  refine lv_iadd hx hb dL_law_646 ?_
  refine va_sld hx hb hX hbl hbA hS i2 dL_law_647 ?_
  refine lv_aload_n hx hb dL_law_648 rfl (lv_at hl 0 rfl) ?_
  refine lv_iload hx hb dL_law_649 (lv_at hl 4 rfl) ?_
  refine lv_iconst (v := (3 : Int32)) hx hb dL_law_651 (by decide) ?_
  refine lv_iadd hx hb dL_law_652 ?_
  refine va_sld hx hb hX hbl hbA hS i3 dL_law_653 ?_
  have hPc : va_P (dC, dI) vwCl (wX5 cI cJ ad5 n ev ld0 ld1 ld2 tk mb f0 f1 f2 fr fu) H := hP.sub [0, 1, 2, 3, 4, 5, 6, 7, 8, 9, 10, 11, 12] rfl
  refine cs_i (va_runV (As := [.int (xs (x4 + (1 : Int32)).toNatClampNeg), .int (xs (x4 + (2 : Int32)).toNatClampNeg), .int (xs (x4 + (3 : Int32)).toNatClampNeg)]) (rest := []) hfix (c_X5_within l dC dI cI cJ ad5 n ev ld0 ld1 ld2 tk mb f0 f1 f2 fr fu (xs (x4 + (1 : Int32)).toNatClampNeg) (xs (x4 + (2 : Int32)).toNatClampNeg) (xs (x4 + (3 : Int32)).toNatClampNeg) _ hF5) (cwV 3 hts gv_X5_within rfl rfl rfl (by decide +kernel) ⟨by decide, by decide⟩) (roP.preV hK hPc (ci := 5) rfl rfl) rfl rfl hl.1 rfl (lv_room (Nat.le_of_ble_eq_true rfl)) dL_law_654 ⟨hc1, hc2⟩) ?_
  refine lv_aload_n hx hb dL_law_657 rfl (lv_at hl 2 rfl) ?_
  refine lv_aload_n hx hb dL_law_658 rfl (lv_at hl 0 rfl) ?_
  refine lv_iload hx hb dL_law_659 (lv_at hl 4 rfl) ?_
  refine lv_iconst (v := (1 : Int32)) hx hb dL_law_661 (by decide) ?_
  refine lv_iadd hx hb dL_law_662 ?_
  refine va_sld hx hb hX hbl hbA hS i1 dL_law_663 ?_
  refine lv_aload_n hx hb dL_law_664 rfl (lv_at hl 0 rfl) ?_
  refine lv_iload hx hb dL_law_665 (lv_at hl 4 rfl) ?_
  refine lv_iconst (v := (2 : Int32)) hx hb dL_law_667 (by decide) ?_
  refine lv_iadd hx hb dL_law_668 ?_
  refine va_sld hx hb hX hbl hbA hS i2 dL_law_669 ?_
  refine lv_aload_n hx hb dL_law_670 rfl (lv_at hl 0 rfl) ?_
  refine lv_iload hx hb dL_law_671 (lv_at hl 4 rfl) ?_
  refine lv_iconst (v := (3 : Int32)) hx hb dL_law_673 (by decide) ?_
  refine lv_iadd hx hb dL_law_674 ?_
  refine va_sld hx hb hX hbl hbA hS i3 dL_law_675 ?_
  have hPc : va_P (dC, dI) vwCl (wX6 cI cJ ad6 m_code m_n m_built m_length m_begin m_many m_leastOf m_sizeOf m_own m_bestRow m_tryRow m_keptRow m_otherRow m_row m_formRow m_allForms m_rowsOf m_intervals m_places m_whole) H := hP.sub [13, 14, 15, 16, 17, 18, 19, 20, 21, 22, 23, 24, 25, 26, 27] rfl
  have hDc : va_D (fun q : Nat => s.heap.size ≤ q) (wX6 cI cJ ad6 m_code m_n m_built m_length m_begin m_many m_leastOf m_sizeOf m_own m_bestRow m_tryRow m_keptRow m_otherRow m_row m_formRow m_allForms m_rowsOf m_intervals m_places m_whole) := hD.sub [13, 14, 15, 16, 17, 18, 19, 20, 21, 22, 23, 24, 25, 26, 27] (by decide) rfl
  have hFc := va_free (wc := (wX6 cI cJ ad6 m_code m_n m_built m_length m_begin m_many m_leastOf m_sizeOf m_own m_bestRow m_tryRow m_keptRow m_otherRow m_row m_formRow m_allForms m_rowsOf m_intervals m_places m_whole)) hD hS hA [13, 14, 15, 16, 17, 18, 19, 20, 21, 22, 23, 24, 25, 26, 27] rfl
  refine va_calli (va_runV (As := [.int (xs (x4 + (1 : Int32)).toNatClampNeg), .int (xs (x4 + (2 : Int32)).toNatClampNeg), .int (xs (x4 + (3 : Int32)).toNatClampNeg)]) (rest := [.int r]) hfix (c_X6_within l dC dI cI cJ ad6 H.size m_code m_n m_built m_length m_begin m_many m_leastOf m_sizeOf m_own m_bestRow m_tryRow m_keptRow m_otherRow m_row m_formRow m_allForms m_rowsOf m_intervals m_places m_whole (xs (x4 + (1 : Int32)).toNatClampNeg) (xs (x4 + (2 : Int32)).toNatClampNeg) (xs (x4 + (3 : Int32)).toNatClampNeg) _ _ _ _ _ hF6) (cwV 3 hts gv_X6_within rfl rfl rfl (by decide +kernel) ⟨by decide, by decide⟩) (rwP.preV hK hPc hDc rfl (ci := 6) rfl rfl) rfl rfl hl.1 rfl (lv_room (Nat.le_of_ble_eq_true rfl)) dL_law_676 ⟨hc1, hc2⟩) hS (fun q _ h => hFc q h) hFc (fun y9 u t H1 locs ht hvm hw hB hz1 hk1 hS => ?_)
  obtain ⟨hP1, -, hD1⟩ := hB
  rw [ht] at hP1
  have hw : y9 = r := hw
  rw [hw]
  obtain ⟨hP, hD⟩ := va_join (wr := [((ad5 0), .inr (5, [.ref (ad5 1), .ref (ad5 2), .ref (ad5 3), .ref (ad5 4), .ref (ad5 5), .ref (ad5 6), .ref (ad5 7)])), ((ad5 1), .inr (0, [.int n, .int ev])), ((ad5 2), .inr (2, [.ref (ad5 1)])), ((ad5 3), .inr (1, [.ref (ad5 1), .int 0, .ref (ad5 8), .int ld0])), ((ad5 4), .inr (1, [.ref (ad5 1), .int 1, .ref (ad5 9), .int ld1])), ((ad5 5), .inr (1, [.ref (ad5 1), .int 2, .ref (ad5 10), .int ld2])), ((ad5 6), .inr (3, [.ref (ad5 1), .ref (ad5 11), .int tk, .int mb])), ((ad5 7), .inr (4, [.ref (ad5 12)])), ((ad5 8), .inl (cI, 352, .inl f0)), ((ad5 9), .inl (cI, 352, .inl f1)), ((ad5 10), .inl (cI, 352, .inl f2)), ((ad5 11), .inl (cI, 12, .inl fr)), ((ad5 12), .inl (cI, 13, .inl fu)), (qo, .inl (cJ, 1, .inr (.inl fo)))]) (w1 := (wX6 cI cJ ad6 m_code' m_n m_built' m_length m_begin m_many m_leastOf' m_sizeOf' m_own m_bestRow m_tryRow m_keptRow m_otherRow m_row m_formRow m_allForms m_rowsOf m_intervals m_places m_whole)) hP hD [13, 14, 15, 16, 17, 18, 19, 20, 21, 22, 23, 24, 25, 26, 27] [0, 1, 2, 3, 4, 5, 6, 7, 8, 9, 10, 11, 12, 28] rfl rfl (by decide) (by decide) hk1 hFc hP1 hD1
  generalize H1 = H at hP hS ⊢
  have hP : va_P (dC, dI) vwCl (wLaw cI cJ ad5 ad6 qo n ev ld0 ld1 ld2 tk mb f0 f1 f2 fr fu m_code' m_n m_built' m_length m_begin m_many m_leastOf' m_sizeOf' m_own m_bestRow m_tryRow m_keptRow m_otherRow m_row m_formRow m_allForms m_rowsOf m_intervals m_places m_whole fo) H := hP.sub [0, 1, 2, 3, 4, 5, 6, 7, 8, 9, 10, 11, 12, 14, 15, 16, 17, 18, 19, 20, 21, 22, 23, 24, 25, 26, 27, 28, 13] rfl
  have hD : va_D (fun q : Nat => s.heap.size ≤ q) (wLaw cI cJ ad5 ad6 qo n ev ld0 ld1 ld2 tk mb f0 f1 f2 fr fu m_code' m_n m_built' m_length m_begin m_many m_leastOf' m_sizeOf' m_own m_bestRow m_tryRow m_keptRow m_otherRow m_row m_formRow m_allForms m_rowsOf m_intervals m_places m_whole fo) := hD.sub [0, 1, 2, 3, 4, 5, 6, 7, 8, 9, 10, 11, 12, 14, 15, 16, 17, 18, 19, 20, 21, 22, 23, 24, 25, 26, 27, 28, 13] (by decide) rfl
  refine lv_icmp_eq (tgt := 1318) hx hb dL_law_679 (by decide) (fun _ => ?_) (fun q9 => absurd rfl q9)
  exact kk _ _ hP hD hS
set_option maxHeartbeats 2000000 in
set_option maxRecDepth 100000 in
theorem law_common {p : Program} {l : Launch} {e : Env} {s : State} {m : MethodId} {below : List Frame} {meth : Method} {c : Code} {b L : Nat} {xs : Nat → Int32} (C0 : lw_At p s m meth c b L xs) {dC : Nat → ClassId} {dI : Nat → Nat → Nat} {cI cJ : ClassId} (hK : vK (dC, dI) [(cI, .int), (cJ, .long)] s) {cells slots : Nat} (hc1 : cells ≤ 601024) (hc2 : slots ≤ 7293034) {ad5 ad6 : Nat → Nat} {qo : Nat} {n : Int32} {ev : Int32} {ld0 : Int32} {ld1 : Int32} {ld2 : Int32} {tk : Int32} {mb : Int32} {f0 : Nat → Int32} {f1 : Nat → Int32} {f2 : Nat → Int32} {fr : Nat → Int32} {fu : Nat → Int32} {m_code : Int32} {m_n : Int32} {m_built : Int32} {m_length : Int32} {m_begin : Int32} {m_many : Int32} {m_leastOf : Nat → Int32} {m_sizeOf : Nat → Int32} {m_own : Nat → Int32} {m_bestRow : Nat → Int32} {m_tryRow : Nat → Int32} {m_keptRow : Nat → Int32} {m_otherRow : Nat → Int32} {m_row : Nat → Int32} {m_formRow : Nat → Int32} {m_allForms : Nat → Int32} {m_rowsOf : Nat → Int32} {m_intervals : Nat → Int32} {m_places : Nat → Int32} {m_whole : Nat → Int64} {fo : Nat → Int64} {x4 : Int32} (i1 : vp_in (x4 + (1 : Int32)) L) (i2 : vp_in (x4 + (2 : Int32)) L) (i3 : vp_in (x4 + (3 : Int32)) L) (i4 : vp_in (x4 + (4 : Int32)) L) {y4 : Int32} (hy : y4 = if xs (x4 + (4 : Int32)).toNatClampNeg = 0 then 0 else 1) {r : Int32} {m_code' : Int32} (hF5 : FX5_common n ev (xs (x4 + (1 : Int32)).toNatClampNeg) (xs (x4 + (2 : Int32)).toNatClampNeg) (xs (x4 + (3 : Int32)).toNatClampNeg) y4 = some r) (hF6 : FX6_common_ m_code m_n (xs (x4 + (1 : Int32)).toNatClampNeg) (xs (x4 + (2 : Int32)).toNatClampNeg) (xs (x4 + (3 : Int32)).toNatClampNeg) y4 = some (r, m_code')) {H : Heap} {locs : List Loc} {ls : Array Slot} (hP : va_P (dC, dI) vwCl (wLaw cI cJ ad5 ad6 qo n ev ld0 ld1 ld2 tk mb f0 f1 f2 fr fu m_code m_n m_built m_length m_begin m_many m_leastOf m_sizeOf m_own m_bestRow m_tryRow m_keptRow m_otherRow m_row m_formRow m_allForms m_rowsOf m_intervals m_places m_whole fo) H) (hD : va_D (fun q : Nat => s.heap.size ≤ q) (wLaw cI cJ ad5 ad6 qo n ev ld0 ld1 ld2 tk mb f0 f1 f2 fr fu m_code m_n m_built m_length m_begin m_many m_leastOf m_sizeOf m_own m_bestRow m_tryRow m_keptRow m_otherRow m_row m_formRow m_allForms m_rowsOf m_intervals m_places m_whole fo)) (hS : va_S (fun q : Nat => s.heap.size ≤ q) s.heap H locs) (hl : lv_has ls 7 [(0, .ref b), (1, .ref (ad5 0)), (2, .ref (ad6 0)), (3, .ref qo), (4, .int x4)]) (kk : ∀ (H : Heap) (locs : List Loc), va_P (dC, dI) vwCl (wLaw cI cJ ad5 ad6 qo n ev ld0 ld1 ld2 tk mb f0 f1 f2 fr fu m_code' m_n m_built m_length m_begin m_many m_leastOf m_sizeOf m_own m_bestRow m_tryRow m_keptRow m_otherRow m_row m_formRow m_allForms m_rowsOf m_intervals m_places m_whole fo) H → va_D (fun q : Nat => s.heap.size ≤ q) (wLaw cI cJ ad5 ad6 qo n ev ld0 ld1 ld2 tk mb f0 f1 f2 fr fu m_code' m_n m_built m_length m_begin m_many m_leastOf m_sizeOf m_own m_bestRow m_tryRow m_keptRow m_otherRow m_row m_formRow m_allForms m_rowsOf m_intervals m_places m_whole fo) → va_S (fun q : Nat => s.heap.size ≤ q) s.heap H locs → W p l e room_1 s m #[Value.ref b] below meth c H locs cells slots (lw_Z below #[Value.ref b] s) (F0 m 1318 ls [])) : W p l e room_1 s m #[Value.ref b] below meth c H locs cells slots (lw_Z below #[Value.ref b] s) (F0 m 684 ls []) := by
  obtain ⟨hx, hb, hr, hml, hown, hts, hX, hbl, hlocks, hgv⟩ := C0
  have hA : ∀ q : Nat, s.heap.size ≤ q → (fun q : Nat => s.heap.size ≤ q) q := fun _ h => h
  have hbA : ¬ (fun q : Nat => s.heap.size ≤ q) b := Nat.not_le.mpr hbl
  have hfix : CallFix p m c cL_law 7 s #[Value.ref b] lw_tbl RL := ⟨hx, hb, hml, hown, hts⟩
  refine lv_aload_n hx hb dL_law_684 rfl (lv_at hl 1 rfl) ?_
  refine lv_aload_n hx hb dL_law_685 rfl (lv_at hl 0 rfl) ?_
  refine lv_iload hx hb dL_law_686 (lv_at hl 4 rfl) ?_
  refine lv_iconst (v := (1 : Int32)) hx hb dL_law_688 (by decide) ?_
  refine lv_iadd hx hb dL_law_689 ?_
  refine va_sld hx hb hX hbl hbA hS i1 dL_law_690 ?_
  refine lv_aload_n hx hb dL_law_691 rfl (lv_at hl 0 rfl) ?_
  refine lv_iload hx hb dL_law_692 (lv_at hl 4 rfl) ?_
  refine lv_iconst (v := (2 : Int32)) hx hb dL_law_694 (by decide) ?_
  refine lv_iadd hx hb dL_law_695 ?_
  refine va_sld hx hb hX hbl hbA hS i2 dL_law_696 ?_
  refine lv_aload_n hx hb dL_law_697 rfl (lv_at hl 0 rfl) ?_
  refine lv_iload hx hb dL_law_698 (lv_at hl 4 rfl) ?_
  refine lv_iconst (v := (3 : Int32)) hx hb dL_law_700 (by decide) ?_
  refine lv_iadd hx hb dL_law_701 ?_
  refine va_sld hx hb hX hbl hbA hS i3 dL_law_702 ?_
  refine lv_aload_n hx hb dL_law_703 rfl (lv_at hl 0 rfl) ?_
  refine lv_iload hx hb dL_law_704 (lv_at hl 4 rfl) ?_
  refine lv_iconst (v := (4 : Int32)) hx hb dL_law_706 (by decide) ?_
  refine lv_iadd hx hb dL_law_707 ?_
  refine va_sld hx hb hX hbl hbA hS i4 dL_law_708 ?_
  refine lv_if_eq (tgt := 716) hx hb dL_law_709 (by decide) (fun qb => ?_) (fun qb => ?_)
  · have hy0 : y4 = 0 := by rw [hy, if_pos qb]
    subst hy0
    refine lv_iconst (v := (0 : Int32)) hx hb dL_law_716 (by decide) ?_
    have hPc : va_P (dC, dI) vwCl (wX5 cI cJ ad5 n ev ld0 ld1 ld2 tk mb f0 f1 f2 fr fu) H := hP.sub [0, 1, 2, 3, 4, 5, 6, 7, 8, 9, 10, 11, 12] rfl
    refine cs_i (va_runV (As := [.int (xs (x4 + (1 : Int32)).toNatClampNeg), .int (xs (x4 + (2 : Int32)).toNatClampNeg), .int (xs (x4 + (3 : Int32)).toNatClampNeg), .int (0 : Int32)]) (rest := []) hfix (c_X5_common l dC dI cI cJ ad5 n ev ld0 ld1 ld2 tk mb f0 f1 f2 fr fu (xs (x4 + (1 : Int32)).toNatClampNeg) (xs (x4 + (2 : Int32)).toNatClampNeg) (xs (x4 + (3 : Int32)).toNatClampNeg) (0 : Int32) _ hF5) (cwV 4 hts gv_X5_common rfl rfl rfl (by decide +kernel) ⟨by decide, by decide⟩) (roP.preV hK hPc (ci := 5) rfl rfl) rfl rfl hl.1 rfl (lv_room (Nat.le_of_ble_eq_true rfl)) dL_law_717 ⟨hc1, hc2⟩) ?_
    refine lv_aload_n hx hb dL_law_720 rfl (lv_at hl 2 rfl) ?_
    refine lv_aload_n hx hb dL_law_721 rfl (lv_at hl 0 rfl) ?_
    refine lv_iload hx hb dL_law_722 (lv_at hl 4 rfl) ?_
    refine lv_iconst (v := (1 : Int32)) hx hb dL_law_724 (by decide) ?_
    refine lv_iadd hx hb dL_law_725 ?_
    refine va_sld hx hb hX hbl hbA hS i1 dL_law_726 ?_
    refine lv_aload_n hx hb dL_law_727 rfl (lv_at hl 0 rfl) ?_
    refine lv_iload hx hb dL_law_728 (lv_at hl 4 rfl) ?_
    refine lv_iconst (v := (2 : Int32)) hx hb dL_law_730 (by decide) ?_
    refine lv_iadd hx hb dL_law_731 ?_
    refine va_sld hx hb hX hbl hbA hS i2 dL_law_732 ?_
    refine lv_aload_n hx hb dL_law_733 rfl (lv_at hl 0 rfl) ?_
    refine lv_iload hx hb dL_law_734 (lv_at hl 4 rfl) ?_
    refine lv_iconst (v := (3 : Int32)) hx hb dL_law_736 (by decide) ?_
    refine lv_iadd hx hb dL_law_737 ?_
    refine va_sld hx hb hX hbl hbA hS i3 dL_law_738 ?_
    refine lv_aload_n hx hb dL_law_739 rfl (lv_at hl 0 rfl) ?_
    refine lv_iload hx hb dL_law_740 (lv_at hl 4 rfl) ?_
    refine lv_iconst (v := (4 : Int32)) hx hb dL_law_742 (by decide) ?_
    refine lv_iadd hx hb dL_law_743 ?_
    refine va_sld hx hb hX hbl hbA hS i4 dL_law_744 ?_
    refine lv_if_eq (tgt := 752) hx hb dL_law_745 (by decide) (fun _ => ?_) (fun q9 => absurd qb q9)
    refine lv_iconst (v := (0 : Int32)) hx hb dL_law_752 (by decide) ?_
    have hPc : va_P (dC, dI) vwCl (wX6 cI cJ ad6 m_code m_n m_built m_length m_begin m_many m_leastOf m_sizeOf m_own m_bestRow m_tryRow m_keptRow m_otherRow m_row m_formRow m_allForms m_rowsOf m_intervals m_places m_whole) H := hP.sub [13, 14, 15, 16, 17, 18, 19, 20, 21, 22, 23, 24, 25, 26, 27] rfl
    have hDc : va_D (fun q : Nat => s.heap.size ≤ q) (wX6 cI cJ ad6 m_code m_n m_built m_length m_begin m_many m_leastOf m_sizeOf m_own m_bestRow m_tryRow m_keptRow m_otherRow m_row m_formRow m_allForms m_rowsOf m_intervals m_places m_whole) := hD.sub [13, 14, 15, 16, 17, 18, 19, 20, 21, 22, 23, 24, 25, 26, 27] (by decide) rfl
    have hFc := va_free (wc := (wX6 cI cJ ad6 m_code m_n m_built m_length m_begin m_many m_leastOf m_sizeOf m_own m_bestRow m_tryRow m_keptRow m_otherRow m_row m_formRow m_allForms m_rowsOf m_intervals m_places m_whole)) hD hS hA [13, 14, 15, 16, 17, 18, 19, 20, 21, 22, 23, 24, 25, 26, 27] rfl
    refine va_calli (va_runV (As := [.int (xs (x4 + (1 : Int32)).toNatClampNeg), .int (xs (x4 + (2 : Int32)).toNatClampNeg), .int (xs (x4 + (3 : Int32)).toNatClampNeg), .int (0 : Int32)]) (rest := [.int r]) hfix (c_X6_common_ l dC dI cI cJ ad6 H.size m_code m_n m_built m_length m_begin m_many m_leastOf m_sizeOf m_own m_bestRow m_tryRow m_keptRow m_otherRow m_row m_formRow m_allForms m_rowsOf m_intervals m_places m_whole (xs (x4 + (1 : Int32)).toNatClampNeg) (xs (x4 + (2 : Int32)).toNatClampNeg) (xs (x4 + (3 : Int32)).toNatClampNeg) (0 : Int32) _ _ hF6) (cwV 4 hts gv_X6_common_ rfl rfl rfl (by decide +kernel) ⟨by decide, by decide⟩) (rwP.preV hK hPc hDc rfl (ci := 6) rfl rfl) rfl rfl hl.1 rfl (lv_room (Nat.le_of_ble_eq_true rfl)) dL_law_753 ⟨hc1, hc2⟩) hS (fun q _ h => hFc q h) hFc (fun y9 u t H1 locs ht hvm hw hB hz1 hk1 hS => ?_)
    obtain ⟨hP1, -, hD1⟩ := hB
    rw [ht] at hP1
    have hw : y9 = r := hw
    rw [hw]
    obtain ⟨hP, hD⟩ := va_join (wr := [((ad5 0), .inr (5, [.ref (ad5 1), .ref (ad5 2), .ref (ad5 3), .ref (ad5 4), .ref (ad5 5), .ref (ad5 6), .ref (ad5 7)])), ((ad5 1), .inr (0, [.int n, .int ev])), ((ad5 2), .inr (2, [.ref (ad5 1)])), ((ad5 3), .inr (1, [.ref (ad5 1), .int 0, .ref (ad5 8), .int ld0])), ((ad5 4), .inr (1, [.ref (ad5 1), .int 1, .ref (ad5 9), .int ld1])), ((ad5 5), .inr (1, [.ref (ad5 1), .int 2, .ref (ad5 10), .int ld2])), ((ad5 6), .inr (3, [.ref (ad5 1), .ref (ad5 11), .int tk, .int mb])), ((ad5 7), .inr (4, [.ref (ad5 12)])), ((ad5 8), .inl (cI, 352, .inl f0)), ((ad5 9), .inl (cI, 352, .inl f1)), ((ad5 10), .inl (cI, 352, .inl f2)), ((ad5 11), .inl (cI, 12, .inl fr)), ((ad5 12), .inl (cI, 13, .inl fu)), (qo, .inl (cJ, 1, .inr (.inl fo)))]) (w1 := (wX6 cI cJ ad6 m_code' m_n m_built m_length m_begin m_many m_leastOf m_sizeOf m_own m_bestRow m_tryRow m_keptRow m_otherRow m_row m_formRow m_allForms m_rowsOf m_intervals m_places m_whole)) hP hD [13, 14, 15, 16, 17, 18, 19, 20, 21, 22, 23, 24, 25, 26, 27] [0, 1, 2, 3, 4, 5, 6, 7, 8, 9, 10, 11, 12, 28] rfl rfl (by decide) (by decide) hk1 hFc hP1 hD1
    generalize H1 = H at hP hS ⊢
    have hP : va_P (dC, dI) vwCl (wLaw cI cJ ad5 ad6 qo n ev ld0 ld1 ld2 tk mb f0 f1 f2 fr fu m_code' m_n m_built m_length m_begin m_many m_leastOf m_sizeOf m_own m_bestRow m_tryRow m_keptRow m_otherRow m_row m_formRow m_allForms m_rowsOf m_intervals m_places m_whole fo) H := hP.sub [0, 1, 2, 3, 4, 5, 6, 7, 8, 9, 10, 11, 12, 14, 15, 16, 17, 18, 19, 20, 21, 22, 23, 24, 25, 26, 27, 28, 13] rfl
    have hD : va_D (fun q : Nat => s.heap.size ≤ q) (wLaw cI cJ ad5 ad6 qo n ev ld0 ld1 ld2 tk mb f0 f1 f2 fr fu m_code' m_n m_built m_length m_begin m_many m_leastOf m_sizeOf m_own m_bestRow m_tryRow m_keptRow m_otherRow m_row m_formRow m_allForms m_rowsOf m_intervals m_places m_whole fo) := hD.sub [0, 1, 2, 3, 4, 5, 6, 7, 8, 9, 10, 11, 12, 14, 15, 16, 17, 18, 19, 20, 21, 22, 23, 24, 25, 26, 27, 28, 13] (by decide) rfl
    refine lv_icmp_eq (tgt := 1318) hx hb dL_law_756 (by decide) (fun _ => ?_) (fun q9 => absurd rfl q9)
    exact kk _ _ hP hD hS
  · have hy0 : y4 = 1 := by rw [hy, if_neg qb]
    subst hy0
    refine lv_iconst (v := (1 : Int32)) hx hb dL_law_712 (by decide) ?_
    refine lv_goto (tgt := 717) hx hb dL_law_713 (by decide) ?_
    have hPc : va_P (dC, dI) vwCl (wX5 cI cJ ad5 n ev ld0 ld1 ld2 tk mb f0 f1 f2 fr fu) H := hP.sub [0, 1, 2, 3, 4, 5, 6, 7, 8, 9, 10, 11, 12] rfl
    refine cs_i (va_runV (As := [.int (xs (x4 + (1 : Int32)).toNatClampNeg), .int (xs (x4 + (2 : Int32)).toNatClampNeg), .int (xs (x4 + (3 : Int32)).toNatClampNeg), .int (1 : Int32)]) (rest := []) hfix (c_X5_common l dC dI cI cJ ad5 n ev ld0 ld1 ld2 tk mb f0 f1 f2 fr fu (xs (x4 + (1 : Int32)).toNatClampNeg) (xs (x4 + (2 : Int32)).toNatClampNeg) (xs (x4 + (3 : Int32)).toNatClampNeg) (1 : Int32) _ hF5) (cwV 4 hts gv_X5_common rfl rfl rfl (by decide +kernel) ⟨by decide, by decide⟩) (roP.preV hK hPc (ci := 5) rfl rfl) rfl rfl hl.1 rfl (lv_room (Nat.le_of_ble_eq_true rfl)) dL_law_717 ⟨hc1, hc2⟩) ?_
    refine lv_aload_n hx hb dL_law_720 rfl (lv_at hl 2 rfl) ?_
    refine lv_aload_n hx hb dL_law_721 rfl (lv_at hl 0 rfl) ?_
    refine lv_iload hx hb dL_law_722 (lv_at hl 4 rfl) ?_
    refine lv_iconst (v := (1 : Int32)) hx hb dL_law_724 (by decide) ?_
    refine lv_iadd hx hb dL_law_725 ?_
    refine va_sld hx hb hX hbl hbA hS i1 dL_law_726 ?_
    refine lv_aload_n hx hb dL_law_727 rfl (lv_at hl 0 rfl) ?_
    refine lv_iload hx hb dL_law_728 (lv_at hl 4 rfl) ?_
    refine lv_iconst (v := (2 : Int32)) hx hb dL_law_730 (by decide) ?_
    refine lv_iadd hx hb dL_law_731 ?_
    refine va_sld hx hb hX hbl hbA hS i2 dL_law_732 ?_
    refine lv_aload_n hx hb dL_law_733 rfl (lv_at hl 0 rfl) ?_
    refine lv_iload hx hb dL_law_734 (lv_at hl 4 rfl) ?_
    refine lv_iconst (v := (3 : Int32)) hx hb dL_law_736 (by decide) ?_
    refine lv_iadd hx hb dL_law_737 ?_
    refine va_sld hx hb hX hbl hbA hS i3 dL_law_738 ?_
    refine lv_aload_n hx hb dL_law_739 rfl (lv_at hl 0 rfl) ?_
    refine lv_iload hx hb dL_law_740 (lv_at hl 4 rfl) ?_
    refine lv_iconst (v := (4 : Int32)) hx hb dL_law_742 (by decide) ?_
    refine lv_iadd hx hb dL_law_743 ?_
    refine va_sld hx hb hX hbl hbA hS i4 dL_law_744 ?_
    refine lv_if_eq (tgt := 752) hx hb dL_law_745 (by decide) (fun q9 => absurd q9 qb) (fun _ => ?_)
    refine lv_iconst (v := (1 : Int32)) hx hb dL_law_748 (by decide) ?_
    refine lv_goto (tgt := 753) hx hb dL_law_749 (by decide) ?_
    have hPc : va_P (dC, dI) vwCl (wX6 cI cJ ad6 m_code m_n m_built m_length m_begin m_many m_leastOf m_sizeOf m_own m_bestRow m_tryRow m_keptRow m_otherRow m_row m_formRow m_allForms m_rowsOf m_intervals m_places m_whole) H := hP.sub [13, 14, 15, 16, 17, 18, 19, 20, 21, 22, 23, 24, 25, 26, 27] rfl
    have hDc : va_D (fun q : Nat => s.heap.size ≤ q) (wX6 cI cJ ad6 m_code m_n m_built m_length m_begin m_many m_leastOf m_sizeOf m_own m_bestRow m_tryRow m_keptRow m_otherRow m_row m_formRow m_allForms m_rowsOf m_intervals m_places m_whole) := hD.sub [13, 14, 15, 16, 17, 18, 19, 20, 21, 22, 23, 24, 25, 26, 27] (by decide) rfl
    have hFc := va_free (wc := (wX6 cI cJ ad6 m_code m_n m_built m_length m_begin m_many m_leastOf m_sizeOf m_own m_bestRow m_tryRow m_keptRow m_otherRow m_row m_formRow m_allForms m_rowsOf m_intervals m_places m_whole)) hD hS hA [13, 14, 15, 16, 17, 18, 19, 20, 21, 22, 23, 24, 25, 26, 27] rfl
    refine va_calli (va_runV (As := [.int (xs (x4 + (1 : Int32)).toNatClampNeg), .int (xs (x4 + (2 : Int32)).toNatClampNeg), .int (xs (x4 + (3 : Int32)).toNatClampNeg), .int (1 : Int32)]) (rest := [.int r]) hfix (c_X6_common_ l dC dI cI cJ ad6 H.size m_code m_n m_built m_length m_begin m_many m_leastOf m_sizeOf m_own m_bestRow m_tryRow m_keptRow m_otherRow m_row m_formRow m_allForms m_rowsOf m_intervals m_places m_whole (xs (x4 + (1 : Int32)).toNatClampNeg) (xs (x4 + (2 : Int32)).toNatClampNeg) (xs (x4 + (3 : Int32)).toNatClampNeg) (1 : Int32) _ _ hF6) (cwV 4 hts gv_X6_common_ rfl rfl rfl (by decide +kernel) ⟨by decide, by decide⟩) (rwP.preV hK hPc hDc rfl (ci := 6) rfl rfl) rfl rfl hl.1 rfl (lv_room (Nat.le_of_ble_eq_true rfl)) dL_law_753 ⟨hc1, hc2⟩) hS (fun q _ h => hFc q h) hFc (fun y9 u t H1 locs ht hvm hw hB hz1 hk1 hS => ?_)
    obtain ⟨hP1, -, hD1⟩ := hB
    rw [ht] at hP1
    have hw : y9 = r := hw
    rw [hw]
    obtain ⟨hP, hD⟩ := va_join (wr := [((ad5 0), .inr (5, [.ref (ad5 1), .ref (ad5 2), .ref (ad5 3), .ref (ad5 4), .ref (ad5 5), .ref (ad5 6), .ref (ad5 7)])), ((ad5 1), .inr (0, [.int n, .int ev])), ((ad5 2), .inr (2, [.ref (ad5 1)])), ((ad5 3), .inr (1, [.ref (ad5 1), .int 0, .ref (ad5 8), .int ld0])), ((ad5 4), .inr (1, [.ref (ad5 1), .int 1, .ref (ad5 9), .int ld1])), ((ad5 5), .inr (1, [.ref (ad5 1), .int 2, .ref (ad5 10), .int ld2])), ((ad5 6), .inr (3, [.ref (ad5 1), .ref (ad5 11), .int tk, .int mb])), ((ad5 7), .inr (4, [.ref (ad5 12)])), ((ad5 8), .inl (cI, 352, .inl f0)), ((ad5 9), .inl (cI, 352, .inl f1)), ((ad5 10), .inl (cI, 352, .inl f2)), ((ad5 11), .inl (cI, 12, .inl fr)), ((ad5 12), .inl (cI, 13, .inl fu)), (qo, .inl (cJ, 1, .inr (.inl fo)))]) (w1 := (wX6 cI cJ ad6 m_code' m_n m_built m_length m_begin m_many m_leastOf m_sizeOf m_own m_bestRow m_tryRow m_keptRow m_otherRow m_row m_formRow m_allForms m_rowsOf m_intervals m_places m_whole)) hP hD [13, 14, 15, 16, 17, 18, 19, 20, 21, 22, 23, 24, 25, 26, 27] [0, 1, 2, 3, 4, 5, 6, 7, 8, 9, 10, 11, 12, 28] rfl rfl (by decide) (by decide) hk1 hFc hP1 hD1
    generalize H1 = H at hP hS ⊢
    have hP : va_P (dC, dI) vwCl (wLaw cI cJ ad5 ad6 qo n ev ld0 ld1 ld2 tk mb f0 f1 f2 fr fu m_code' m_n m_built m_length m_begin m_many m_leastOf m_sizeOf m_own m_bestRow m_tryRow m_keptRow m_otherRow m_row m_formRow m_allForms m_rowsOf m_intervals m_places m_whole fo) H := hP.sub [0, 1, 2, 3, 4, 5, 6, 7, 8, 9, 10, 11, 12, 14, 15, 16, 17, 18, 19, 20, 21, 22, 23, 24, 25, 26, 27, 28, 13] rfl
    have hD : va_D (fun q : Nat => s.heap.size ≤ q) (wLaw cI cJ ad5 ad6 qo n ev ld0 ld1 ld2 tk mb f0 f1 f2 fr fu m_code' m_n m_built m_length m_begin m_many m_leastOf m_sizeOf m_own m_bestRow m_tryRow m_keptRow m_otherRow m_row m_formRow m_allForms m_rowsOf m_intervals m_places m_whole fo) := hD.sub [0, 1, 2, 3, 4, 5, 6, 7, 8, 9, 10, 11, 12, 14, 15, 16, 17, 18, 19, 20, 21, 22, 23, 24, 25, 26, 27, 28, 13] (by decide) rfl
    refine lv_icmp_eq (tgt := 1318) hx hb dL_law_756 (by decide) (fun _ => ?_) (fun q9 => absurd rfl q9)
    exact kk _ _ hP hD hS
