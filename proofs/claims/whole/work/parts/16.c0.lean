set_option maxHeartbeats 2000000 in
set_option maxRecDepth 100000 in
theorem law_least {p : Program} {l : Launch} {e : Env} {s : State} {m : MethodId} {below : List Frame} {meth : Method} {c : Code} {b L : Nat} {xs : Nat → Int32} (C0 : lw_At p s m meth c b L xs) {dC : Nat → ClassId} {dI : Nat → Nat → Nat} {cI cJ : ClassId} (hK : vK (dC, dI) [(cI, .int), (cJ, .long)] s) {cells slots : Nat} (hc1 : cells ≤ 601024) (hc2 : slots ≤ 7293034) {ad5 ad6 : Nat → Nat} {qo : Nat} {n : Int32} {ev : Int32} {ld0 : Int32} {ld1 : Int32} {ld2 : Int32} {tk : Int32} {mb : Int32} {f0 : Nat → Int32} {f1 : Nat → Int32} {f2 : Nat → Int32} {fr : Nat → Int32} {fu : Nat → Int32} {m_code : Int32} {m_n : Int32} {m_built : Int32} {m_length : Int32} {m_begin : Int32} {m_many : Int32} {m_leastOf : Nat → Int32} {m_sizeOf : Nat → Int32} {m_own : Nat → Int32} {m_bestRow : Nat → Int32} {m_tryRow : Nat → Int32} {m_keptRow : Nat → Int32} {m_otherRow : Nat → Int32} {m_row : Nat → Int32} {m_formRow : Nat → Int32} {m_allForms : Nat → Int32} {m_rowsOf : Nat → Int32} {m_intervals : Nat → Int32} {m_places : Nat → Int32} {m_whole : Nat → Int64} {fo : Nat → Int64} {x4 : Int32} (i1 : vp_in (x4 + (1 : Int32)) L) (i2 : vp_in (x4 + (2 : Int32)) L) {r : Int32} {m_code' : Int32} {m_built' : Int32} {m_leastOf' : Nat → Int32} {m_sizeOf' : Nat → Int32} (hF5 : FX5_least n ev (xs (x4 + (1 : Int32)).toNatClampNeg) (xs (x4 + (2 : Int32)).toNatClampNeg) = some r) (hF6 : FX6_least m_code m_n m_built m_leastOf m_sizeOf (xs (x4 + (1 : Int32)).toNatClampNeg) (xs (x4 + (2 : Int32)).toNatClampNeg) = some (r, m_code', m_built', m_leastOf', m_sizeOf')) {H : Heap} {locs : List Loc} {ls : Array Slot} (hP : va_P (dC, dI) vwCl (wLaw cI cJ ad5 ad6 qo n ev ld0 ld1 ld2 tk mb f0 f1 f2 fr fu m_code m_n m_built m_length m_begin m_many m_leastOf m_sizeOf m_own m_bestRow m_tryRow m_keptRow m_otherRow m_row m_formRow m_allForms m_rowsOf m_intervals m_places m_whole fo) H) (hD : va_D (fun q : Nat => s.heap.size ≤ q) (wLaw cI cJ ad5 ad6 qo n ev ld0 ld1 ld2 tk mb f0 f1 f2 fr fu m_code m_n m_built m_length m_begin m_many m_leastOf m_sizeOf m_own m_bestRow m_tryRow m_keptRow m_otherRow m_row m_formRow m_allForms m_rowsOf m_intervals m_places m_whole fo)) (hS : va_S (fun q : Nat => s.heap.size ≤ q) s.heap H locs) (hl : lv_has ls 7 [(0, .ref b), (1, .ref (ad5 0)), (2, .ref (ad6 0)), (3, .ref qo), (4, .int x4)]) (kk : ∀ (H : Heap) (locs : List Loc), va_P (dC, dI) vwCl (wLaw cI cJ ad5 ad6 qo n ev ld0 ld1 ld2 tk mb f0 f1 f2 fr fu m_code' m_n m_built' m_length m_begin m_many m_leastOf' m_sizeOf' m_own m_bestRow m_tryRow m_keptRow m_otherRow m_row m_formRow m_allForms m_rowsOf m_intervals m_places m_whole fo) H → va_D (fun q : Nat => s.heap.size ≤ q) (wLaw cI cJ ad5 ad6 qo n ev ld0 ld1 ld2 tk mb f0 f1 f2 fr fu m_code' m_n m_built' m_length m_begin m_many m_leastOf' m_sizeOf' m_own m_bestRow m_tryRow m_keptRow m_otherRow m_row m_formRow m_allForms m_rowsOf m_intervals m_places m_whole fo) → va_S (fun q : Nat => s.heap.size ≤ q) s.heap H locs → W p l e room_1 s m #[Value.ref b] below meth c H locs cells slots (lw_Z below #[Value.ref b] s) (F0 m 1318 ls [])) : W p l e room_1 s m #[Value.ref b] below meth c H locs cells slots (lw_Z below #[Value.ref b] s) (F0 m 228 ls []) := by
  obtain ⟨hx, hb, hr, hml, hown, hts, hX, hbl, hlocks, hgv⟩ := C0
  have hA : ∀ q : Nat, s.heap.size ≤ q → (fun q : Nat => s.heap.size ≤ q) q := fun _ h => h
  have hbA : ¬ (fun q : Nat => s.heap.size ≤ q) b := Nat.not_le.mpr hbl
  have hfix : CallFix p m c cL_law 7 s #[Value.ref b] lw_tbl RL := ⟨hx, hb, hml, hown, hts⟩
  refine lv_aload_n hx hb dL_law_228 rfl (lv_at hl 1 rfl) ?_
  refine lv_aload_n hx hb dL_law_229 rfl (lv_at hl 0 rfl) ?_
  refine lv_iload hx hb dL_law_230 (lv_at hl 4 rfl) ?_
  refine lv_iconst (v := (1 : Int32)) hx hb dL_law_232 (by decide) ?_
  refine lv_iadd hx hb dL_law_233 ?_
  refine va_sld hx hb hX hbl hbA hS i1 dL_law_234 ?_
  refine lv_aload_n hx hb dL_law_235 rfl (lv_at hl 0 rfl) ?_
  refine lv_iload hx hb dL_law_236 (lv_at hl 4 rfl) ?_
  refine lv_iconst (v := (2 : Int32)) hx hb dL_law_238 (by decide) ?_
  refine lv_iadd hx hb dL_law_239 ?_
  refine va_sld hx hb hX hbl hbA hS i2 dL_law_240 ?_
  have hPc : va_P (dC, dI) vwCl (wX5 cI cJ ad5 n ev ld0 ld1 ld2 tk mb f0 f1 f2 fr fu) H := hP.sub [0, 1, 2, 3, 4, 5, 6, 7, 8, 9, 10, 11, 12] rfl
  refine cs_i (va_runV (As := [.int (xs (x4 + (1 : Int32)).toNatClampNeg), .int (xs (x4 + (2 : Int32)).toNatClampNeg)]) (rest := []) hfix (c_X5_least l dC dI cI cJ ad5 n ev ld0 ld1 ld2 tk mb f0 f1 f2 fr fu (xs (x4 + (1 : Int32)).toNatClampNeg) (xs (x4 + (2 : Int32)).toNatClampNeg) _ hF5) (cwV 2 hts gv_X5_least rfl rfl rfl (by decide +kernel) ⟨by decide, by decide⟩) (roP.preV hK hPc (ci := 5) rfl rfl) rfl rfl hl.1 rfl (lv_room (Nat.le_of_ble_eq_true rfl)) dL_law_241 ⟨hc1, hc2⟩) ?_
  refine lv_aload_n hx hb dL_law_244 rfl (lv_at hl 2 rfl) ?_
  refine lv_aload_n hx hb dL_law_245 rfl (lv_at hl 0 rfl) ?_
  refine lv_iload hx hb dL_law_246 (lv_at hl 4 rfl) ?_
  refine lv_iconst (v := (1 : Int32)) hx hb dL_law_248 (by decide) ?_
  refine lv_iadd hx hb dL_law_249 ?_
  refine va_sld hx hb hX hbl hbA hS i1 dL_law_250 ?_
  refine lv_aload_n hx hb dL_law_251 rfl (lv_at hl 0 rfl) ?_
  refine lv_iload hx hb dL_law_252 (lv_at hl 4 rfl) ?_
  refine lv_iconst (v := (2 : Int32)) hx hb dL_law_254 (by decide) ?_
  refine lv_iadd hx hb dL_law_255 ?_
  refine va_sld hx hb hX hbl hbA hS i2 dL_law_256 ?_
  have hPc : va_P (dC, dI) vwCl (wX6 cI cJ ad6 m_code m_n m_built m_length m_begin m_many m_leastOf m_sizeOf m_own m_bestRow m_tryRow m_keptRow m_otherRow m_row m_formRow m_allForms m_rowsOf m_intervals m_places m_whole) H := hP.sub [13, 14, 15, 16, 17, 18, 19, 20, 21, 22, 23, 24, 25, 26, 27] rfl
  have hDc : va_D (fun q : Nat => s.heap.size ≤ q) (wX6 cI cJ ad6 m_code m_n m_built m_length m_begin m_many m_leastOf m_sizeOf m_own m_bestRow m_tryRow m_keptRow m_otherRow m_row m_formRow m_allForms m_rowsOf m_intervals m_places m_whole) := hD.sub [13, 14, 15, 16, 17, 18, 19, 20, 21, 22, 23, 24, 25, 26, 27] (by decide) rfl
  have hFc := va_free (wc := (wX6 cI cJ ad6 m_code m_n m_built m_length m_begin m_many m_leastOf m_sizeOf m_own m_bestRow m_tryRow m_keptRow m_otherRow m_row m_formRow m_allForms m_rowsOf m_intervals m_places m_whole)) hD hS hA [13, 14, 15, 16, 17, 18, 19, 20, 21, 22, 23, 24, 25, 26, 27] rfl
  refine va_calli (va_runV (As := [.int (xs (x4 + (1 : Int32)).toNatClampNeg), .int (xs (x4 + (2 : Int32)).toNatClampNeg)]) (rest := [.int r]) hfix (c_X6_least l dC dI cI cJ ad6 H.size m_code m_n m_built m_length m_begin m_many m_leastOf m_sizeOf m_own m_bestRow m_tryRow m_keptRow m_otherRow m_row m_formRow m_allForms m_rowsOf m_intervals m_places m_whole (xs (x4 + (1 : Int32)).toNatClampNeg) (xs (x4 + (2 : Int32)).toNatClampNeg) _ _ _ _ _ hF6) (cwV 2 hts gv_X6_least rfl rfl rfl (by decide +kernel) ⟨by decide, by decide⟩) (rwP.preV hK hPc hDc rfl (ci := 6) rfl rfl) rfl rfl hl.1 rfl (lv_room (Nat.le_of_ble_eq_true rfl)) dL_law_257 ⟨hc1, hc2⟩) hS (fun q _ h => hFc q h) hFc (fun y9 u t H1 locs ht hvm hw hB hz1 hk1 hS => ?_)
  obtain ⟨hP1, -, hD1⟩ := hB
  rw [ht] at hP1
  have hw : y9 = r := hw
  rw [hw]
  obtain ⟨hP, hD⟩ := va_join (wr := [((ad5 0), .inr (5, [.ref (ad5 1), .ref (ad5 2), .ref (ad5 3), .ref (ad5 4), .ref (ad5 5), .ref (ad5 6), .ref (ad5 7)])), ((ad5 1), .inr (0, [.int n, .int ev])), ((ad5 2), .inr (2, [.ref (ad5 1)])), ((ad5 3), .inr (1, [.ref (ad5 1), .int 0, .ref (ad5 8), .int ld0])), ((ad5 4), .inr (1, [.ref (ad5 1), .int 1, .ref (ad5 9), .int ld1])), ((ad5 5), .inr (1, [.ref (ad5 1), .int 2, .ref (ad5 10), .int ld2])), ((ad5 6), .inr (3, [.ref (ad5 1), .ref (ad5 11), .int tk, .int mb])), ((ad5 7), .inr (4, [.ref (ad5 12)])), ((ad5 8), .inl (cI, 352, .inl f0)), ((ad5 9), .inl (cI, 352, .inl f1)), ((ad5 10), .inl (cI, 352, .inl f2)), ((ad5 11), .inl (cI, 12, .inl fr)), ((ad5 12), .inl (cI, 13, .inl fu)), (qo, .inl (cJ, 1, .inr (.inl fo)))]) (w1 := (wX6 cI cJ ad6 m_code' m_n m_built' m_length m_begin m_many m_leastOf' m_sizeOf' m_own m_bestRow m_tryRow m_keptRow m_otherRow m_row m_formRow m_allForms m_rowsOf m_intervals m_places m_whole)) hP hD [13, 14, 15, 16, 17, 18, 19, 20, 21, 22, 23, 24, 25, 26, 27] [0, 1, 2, 3, 4, 5, 6, 7, 8, 9, 10, 11, 12, 28] rfl rfl (by decide) (by decide) hk1 hFc hP1 hD1
  generalize H1 = H at hP hS ⊢
  have hP : va_P (dC, dI) vwCl (wLaw cI cJ ad5 ad6 qo n ev ld0 ld1 ld2 tk mb f0 f1 f2 fr fu m_code' m_n m_built' m_length m_begin m_many m_leastOf' m_sizeOf' m_own m_bestRow m_tryRow m_keptRow m_otherRow m_row m_formRow m_allForms m_rowsOf m_intervals m_places m_whole fo) H := hP.sub [0, 1, 2, 3, 4, 5, 6, 7, 8, 9, 10, 11, 12, 14, 15, 16, 17, 18, 19, 20, 21, 22, 23, 24, 25, 26, 27, 28, 13] rfl
  have hD : va_D (fun q : Nat => s.heap.size ≤ q) (wLaw cI cJ ad5 ad6 qo n ev ld0 ld1 ld2 tk mb f0 f1 f2 fr fu m_code' m_n m_built' m_length m_begin m_many m_leastOf' m_sizeOf' m_own m_bestRow m_tryRow m_keptRow m_otherRow m_row m_formRow m_allForms m_rowsOf m_intervals m_places m_whole fo) := hD.sub [0, 1, 2, 3, 4, 5, 6, 7, 8, 9, 10, 11, 12, 14, 15, 16, 17, 18, 19, 20, 21, 22, 23, 24, 25, 26, 27, 28, 13] (by decide) rfl
  refine lv_icmp_eq (tgt := 1318) hx hb dL_law_260 (by decide) (fun _ => ?_) (fun q9 => absurd rfl q9)
  exact kk _ _ hP hD hS
set_option maxHeartbeats 2000000 in
set_option maxRecDepth 100000 in
theorem law_size {p : Program} {l : Launch} {e : Env} {s : State} {m : MethodId} {below : List Frame} {meth : Method} {c : Code} {b L : Nat} {xs : Nat → Int32} (C0 : lw_At p s m meth c b L xs) {dC : Nat → ClassId} {dI : Nat → Nat → Nat} {cI cJ : ClassId} (hK : vK (dC, dI) [(cI, .int), (cJ, .long)] s) {cells slots : Nat} (hc1 : cells ≤ 601024) (hc2 : slots ≤ 7293034) {ad5 ad6 : Nat → Nat} {qo : Nat} {n : Int32} {ev : Int32} {ld0 : Int32} {ld1 : Int32} {ld2 : Int32} {tk : Int32} {mb : Int32} {f0 : Nat → Int32} {f1 : Nat → Int32} {f2 : Nat → Int32} {fr : Nat → Int32} {fu : Nat → Int32} {m_code : Int32} {m_n : Int32} {m_built : Int32} {m_length : Int32} {m_begin : Int32} {m_many : Int32} {m_leastOf : Nat → Int32} {m_sizeOf : Nat → Int32} {m_own : Nat → Int32} {m_bestRow : Nat → Int32} {m_tryRow : Nat → Int32} {m_keptRow : Nat → Int32} {m_otherRow : Nat → Int32} {m_row : Nat → Int32} {m_formRow : Nat → Int32} {m_allForms : Nat → Int32} {m_rowsOf : Nat → Int32} {m_intervals : Nat → Int32} {m_places : Nat → Int32} {m_whole : Nat → Int64} {fo : Nat → Int64} {x4 : Int32} (i1 : vp_in (x4 + (1 : Int32)) L) (i2 : vp_in (x4 + (2 : Int32)) L) {r : Int32} {m_code' : Int32} {m_built' : Int32} {m_leastOf' : Nat → Int32} {m_sizeOf' : Nat → Int32} (hF5 : FX5_size n ev (xs (x4 + (1 : Int32)).toNatClampNeg) (xs (x4 + (2 : Int32)).toNatClampNeg) = some r) (hF6 : FX6_size m_code m_n m_built m_leastOf m_sizeOf (xs (x4 + (1 : Int32)).toNatClampNeg) (xs (x4 + (2 : Int32)).toNatClampNeg) = some (r, m_code', m_built', m_leastOf', m_sizeOf')) {H : Heap} {locs : List Loc} {ls : Array Slot} (hP : va_P (dC, dI) vwCl (wLaw cI cJ ad5 ad6 qo n ev ld0 ld1 ld2 tk mb f0 f1 f2 fr fu m_code m_n m_built m_length m_begin m_many m_leastOf m_sizeOf m_own m_bestRow m_tryRow m_keptRow m_otherRow m_row m_formRow m_allForms m_rowsOf m_intervals m_places m_whole fo) H) (hD : va_D (fun q : Nat => s.heap.size ≤ q) (wLaw cI cJ ad5 ad6 qo n ev ld0 ld1 ld2 tk mb f0 f1 f2 fr fu m_code m_n m_built m_length m_begin m_many m_leastOf m_sizeOf m_own m_bestRow m_tryRow m_keptRow m_otherRow m_row m_formRow m_allForms m_rowsOf m_intervals m_places m_whole fo)) (hS : va_S (fun q : Nat => s.heap.size ≤ q) s.heap H locs) (hl : lv_has ls 7 [(0, .ref b), (1, .ref (ad5 0)), (2, .ref (ad6 0)), (3, .ref qo), (4, .int x4)]) (kk : ∀ (H : Heap) (locs : List Loc), va_P (dC, dI) vwCl (wLaw cI cJ ad5 ad6 qo n ev ld0 ld1 ld2 tk mb f0 f1 f2 fr fu m_code' m_n m_built' m_length m_begin m_many m_leastOf' m_sizeOf' m_own m_bestRow m_tryRow m_keptRow m_otherRow m_row m_formRow m_allForms m_rowsOf m_intervals m_places m_whole fo) H → va_D (fun q : Nat => s.heap.size ≤ q) (wLaw cI cJ ad5 ad6 qo n ev ld0 ld1 ld2 tk mb f0 f1 f2 fr fu m_code' m_n m_built' m_length m_begin m_many m_leastOf' m_sizeOf' m_own m_bestRow m_tryRow m_keptRow m_otherRow m_row m_formRow m_allForms m_rowsOf m_intervals m_places m_whole fo) → va_S (fun q : Nat => s.heap.size ≤ q) s.heap H locs → W p l e room_1 s m #[Value.ref b] below meth c H locs cells slots (lw_Z below #[Value.ref b] s) (F0 m 1318 ls [])) : W p l e room_1 s m #[Value.ref b] below meth c H locs cells slots (lw_Z below #[Value.ref b] s) (F0 m 265 ls []) := by
  obtain ⟨hx, hb, hr, hml, hown, hts, hX, hbl, hlocks, hgv⟩ := C0
  have hA : ∀ q : Nat, s.heap.size ≤ q → (fun q : Nat => s.heap.size ≤ q) q := fun _ h => h
  have hbA : ¬ (fun q : Nat => s.heap.size ≤ q) b := Nat.not_le.mpr hbl
  have hfix : CallFix p m c cL_law 7 s #[Value.ref b] lw_tbl RL := ⟨hx, hb, hml, hown, hts⟩
  refine lv_aload_n hx hb dL_law_265 rfl (lv_at hl 1 rfl) ?_
  refine lv_aload_n hx hb dL_law_266 rfl (lv_at hl 0 rfl) ?_
  refine lv_iload hx hb dL_law_267 (lv_at hl 4 rfl) ?_
  refine lv_iconst (v := (1 : Int32)) hx hb dL_law_269 (by decide) ?_
  refine lv_iadd hx hb dL_law_270 ?_
  refine va_sld hx hb hX hbl hbA hS i1 dL_law_271 ?_
  refine lv_aload_n hx hb dL_law_272 rfl (lv_at hl 0 rfl) ?_
  refine lv_iload hx hb dL_law_273 (lv_at hl 4 rfl) ?_
  refine lv_iconst (v := (2 : Int32)) hx hb dL_law_275 (by decide) ?_
  refine lv_iadd hx hb dL_law_276 ?_
  refine va_sld hx hb hX hbl hbA hS i2 dL_law_277 ?_
  have hPc : va_P (dC, dI) vwCl (wX5 cI cJ ad5 n ev ld0 ld1 ld2 tk mb f0 f1 f2 fr fu) H := hP.sub [0, 1, 2, 3, 4, 5, 6, 7, 8, 9, 10, 11, 12] rfl
  refine cs_i (va_runV (As := [.int (xs (x4 + (1 : Int32)).toNatClampNeg), .int (xs (x4 + (2 : Int32)).toNatClampNeg)]) (rest := []) hfix (c_X5_size l dC dI cI cJ ad5 n ev ld0 ld1 ld2 tk mb f0 f1 f2 fr fu (xs (x4 + (1 : Int32)).toNatClampNeg) (xs (x4 + (2 : Int32)).toNatClampNeg) _ hF5) (cwV 2 hts gv_X5_size rfl rfl rfl (by decide +kernel) ⟨by decide, by decide⟩) (roP.preV hK hPc (ci := 5) rfl rfl) rfl rfl hl.1 rfl (lv_room (Nat.le_of_ble_eq_true rfl)) dL_law_278 ⟨hc1, hc2⟩) ?_
  refine lv_aload_n hx hb dL_law_281 rfl (lv_at hl 2 rfl) ?_
  refine lv_aload_n hx hb dL_law_282 rfl (lv_at hl 0 rfl) ?_
  refine lv_iload hx hb dL_law_283 (lv_at hl 4 rfl) ?_
  refine lv_iconst (v := (1 : Int32)) hx hb dL_law_285 (by decide) ?_
  refine lv_iadd hx hb dL_law_286 ?_
  refine va_sld hx hb hX hbl hbA hS i1 dL_law_287 ?_
  refine lv_aload_n hx hb dL_law_288 rfl (lv_at hl 0 rfl) ?_
  refine lv_iload hx hb dL_law_289 (lv_at hl 4 rfl) ?_
  refine lv_iconst (v := (2 : Int32)) hx hb dL_law_291 (by decide) ?_
  refine lv_iadd hx hb dL_law_292 ?_
  refine va_sld hx hb hX hbl hbA hS i2 dL_law_293 ?_
  have hPc : va_P (dC, dI) vwCl (wX6 cI cJ ad6 m_code m_n m_built m_length m_begin m_many m_leastOf m_sizeOf m_own m_bestRow m_tryRow m_keptRow m_otherRow m_row m_formRow m_allForms m_rowsOf m_intervals m_places m_whole) H := hP.sub [13, 14, 15, 16, 17, 18, 19, 20, 21, 22, 23, 24, 25, 26, 27] rfl
  have hDc : va_D (fun q : Nat => s.heap.size ≤ q) (wX6 cI cJ ad6 m_code m_n m_built m_length m_begin m_many m_leastOf m_sizeOf m_own m_bestRow m_tryRow m_keptRow m_otherRow m_row m_formRow m_allForms m_rowsOf m_intervals m_places m_whole) := hD.sub [13, 14, 15, 16, 17, 18, 19, 20, 21, 22, 23, 24, 25, 26, 27] (by decide) rfl
  have hFc := va_free (wc := (wX6 cI cJ ad6 m_code m_n m_built m_length m_begin m_many m_leastOf m_sizeOf m_own m_bestRow m_tryRow m_keptRow m_otherRow m_row m_formRow m_allForms m_rowsOf m_intervals m_places m_whole)) hD hS hA [13, 14, 15, 16, 17, 18, 19, 20, 21, 22, 23, 24, 25, 26, 27] rfl
  refine va_calli (va_runV (As := [.int (xs (x4 + (1 : Int32)).toNatClampNeg), .int (xs (x4 + (2 : Int32)).toNatClampNeg)]) (rest := [.int r]) hfix (c_X6_size l dC dI cI cJ ad6 H.size m_code m_n m_built m_length m_begin m_many m_leastOf m_sizeOf m_own m_bestRow m_tryRow m_keptRow m_otherRow m_row m_formRow m_allForms m_rowsOf m_intervals m_places m_whole (xs (x4 + (1 : Int32)).toNatClampNeg) (xs (x4 + (2 : Int32)).toNatClampNeg) _ _ _ _ _ hF6) (cwV 2 hts gv_X6_size rfl rfl rfl (by decide +kernel) ⟨by decide, by decide⟩) (rwP.preV hK hPc hDc rfl (ci := 6) rfl rfl) rfl rfl hl.1 rfl (lv_room (Nat.le_of_ble_eq_true rfl)) dL_law_294 ⟨hc1, hc2⟩) hS (fun q _ h => hFc q h) hFc (fun y9 u t H1 locs ht hvm hw hB hz1 hk1 hS => ?_)
  obtain ⟨hP1, -, hD1⟩ := hB
  rw [ht] at hP1
  have hw : y9 = r := hw
  rw [hw]
  obtain ⟨hP, hD⟩ := va_join (wr := [((ad5 0), .inr (5, [.ref (ad5 1), .ref (ad5 2), .ref (ad5 3), .ref (ad5 4), .ref (ad5 5), .ref (ad5 6), .ref (ad5 7)])), ((ad5 1), .inr (0, [.int n, .int ev])), ((ad5 2), .inr (2, [.ref (ad5 1)])), ((ad5 3), .inr (1, [.ref (ad5 1), .int 0, .ref (ad5 8), .int ld0])), ((ad5 4), .inr (1, [.ref (ad5 1), .int 1, .ref (ad5 9), .int ld1])), ((ad5 5), .inr (1, [.ref (ad5 1), .int 2, .ref (ad5 10), .int ld2])), ((ad5 6), .inr (3, [.ref (ad5 1), .ref (ad5 11), .int tk, .int mb])), ((ad5 7), .inr (4, [.ref (ad5 12)])), ((ad5 8), .inl (cI, 352, .inl f0)), ((ad5 9), .inl (cI, 352, .inl f1)), ((ad5 10), .inl (cI, 352, .inl f2)), ((ad5 11), .inl (cI, 12, .inl fr)), ((ad5 12), .inl (cI, 13, .inl fu)), (qo, .inl (cJ, 1, .inr (.inl fo)))]) (w1 := (wX6 cI cJ ad6 m_code' m_n m_built' m_length m_begin m_many m_leastOf' m_sizeOf' m_own m_bestRow m_tryRow m_keptRow m_otherRow m_row m_formRow m_allForms m_rowsOf m_intervals m_places m_whole)) hP hD [13, 14, 15, 16, 17, 18, 19, 20, 21, 22, 23, 24, 25, 26, 27] [0, 1, 2, 3, 4, 5, 6, 7, 8, 9, 10, 11, 12, 28] rfl rfl (by decide) (by decide) hk1 hFc hP1 hD1
  generalize H1 = H at hP hS ⊢
  have hP : va_P (dC, dI) vwCl (wLaw cI cJ ad5 ad6 qo n ev ld0 ld1 ld2 tk mb f0 f1 f2 fr fu m_code' m_n m_built' m_length m_begin m_many m_leastOf' m_sizeOf' m_own m_bestRow m_tryRow m_keptRow m_otherRow m_row m_formRow m_allForms m_rowsOf m_intervals m_places m_whole fo) H := hP.sub [0, 1, 2, 3, 4, 5, 6, 7, 8, 9, 10, 11, 12, 14, 15, 16, 17, 18, 19, 20, 21, 22, 23, 24, 25, 26, 27, 28, 13] rfl
  have hD : va_D (fun q : Nat => s.heap.size ≤ q) (wLaw cI cJ ad5 ad6 qo n ev ld0 ld1 ld2 tk mb f0 f1 f2 fr fu m_code' m_n m_built' m_length m_begin m_many m_leastOf' m_sizeOf' m_own m_bestRow m_tryRow m_keptRow m_otherRow m_row m_formRow m_allForms m_rowsOf m_intervals m_places m_whole fo) := hD.sub [0, 1, 2, 3, 4, 5, 6, 7, 8, 9, 10, 11, 12, 14, 15, 16, 17, 18, 19, 20, 21, 22, 23, 24, 25, 26, 27, 28, 13] (by decide) rfl
  refine lv_icmp_eq (tgt := 1318) hx hb dL_law_297 (by decide) (fun _ => ?_) (fun q9 => absurd rfl q9)
  exact kk _ _ hP hD hS
set_option maxHeartbeats 2000000 in
set_option maxRecDepth 100000 in
theorem law_classes {p : Program} {l : Launch} {e : Env} {s : State} {m : MethodId} {below : List Frame} {meth : Method} {c : Code} {b L : Nat} {xs : Nat → Int32} (C0 : lw_At p s m meth c b L xs) {dC : Nat → ClassId} {dI : Nat → Nat → Nat} {cI cJ : ClassId} (hK : vK (dC, dI) [(cI, .int), (cJ, .long)] s) {cells slots : Nat} (hc1 : cells ≤ 601024) (hc2 : slots ≤ 7293034) {ad5 ad6 : Nat → Nat} {qo : Nat} {n : Int32} {ev : Int32} {ld0 : Int32} {ld1 : Int32} {ld2 : Int32} {tk : Int32} {mb : Int32} {f0 : Nat → Int32} {f1 : Nat → Int32} {f2 : Nat → Int32} {fr : Nat → Int32} {fu : Nat → Int32} {m_code : Int32} {m_n : Int32} {m_built : Int32} {m_length : Int32} {m_begin : Int32} {m_many : Int32} {m_leastOf : Nat → Int32} {m_sizeOf : Nat → Int32} {m_own : Nat → Int32} {m_bestRow : Nat → Int32} {m_tryRow : Nat → Int32} {m_keptRow : Nat → Int32} {m_otherRow : Nat → Int32} {m_row : Nat → Int32} {m_formRow : Nat → Int32} {m_allForms : Nat → Int32} {m_rowsOf : Nat → Int32} {m_intervals : Nat → Int32} {m_places : Nat → Int32} {m_whole : Nat → Int64} {fo : Nat → Int64} {x4 : Int32} (i1 : vp_in (x4 + (1 : Int32)) L) (i2 : vp_in (x4 + (2 : Int32)) L) {r : Int32} {ld0' : Int32} {ld1' : Int32} {ld2' : Int32} {f0' : Nat → Int32} {f1' : Nat → Int32} {f2' : Nat → Int32} {m_code' : Int32} {m_built' : Int32} {m_leastOf' : Nat → Int32} {m_sizeOf' : Nat → Int32} (hF5 : FX5_classes n ev ld0 ld1 ld2 f0 f1 f2 (xs (x4 + (1 : Int32)).toNatClampNeg) (xs (x4 + (2 : Int32)).toNatClampNeg) = some (r, ld0', ld1', ld2', f0', f1', f2')) (hF6 : FX6_classes m_code m_n m_built m_leastOf m_sizeOf (xs (x4 + (1 : Int32)).toNatClampNeg) (xs (x4 + (2 : Int32)).toNatClampNeg) = some (r, m_code', m_built', m_leastOf', m_sizeOf')) {H : Heap} {locs : List Loc} {ls : Array Slot} (hP : va_P (dC, dI) vwCl (wLaw cI cJ ad5 ad6 qo n ev ld0 ld1 ld2 tk mb f0 f1 f2 fr fu m_code m_n m_built m_length m_begin m_many m_leastOf m_sizeOf m_own m_bestRow m_tryRow m_keptRow m_otherRow m_row m_formRow m_allForms m_rowsOf m_intervals m_places m_whole fo) H) (hD : va_D (fun q : Nat => s.heap.size ≤ q) (wLaw cI cJ ad5 ad6 qo n ev ld0 ld1 ld2 tk mb f0 f1 f2 fr fu m_code m_n m_built m_length m_begin m_many m_leastOf m_sizeOf m_own m_bestRow m_tryRow m_keptRow m_otherRow m_row m_formRow m_allForms m_rowsOf m_intervals m_places m_whole fo)) (hS : va_S (fun q : Nat => s.heap.size ≤ q) s.heap H locs) (hl : lv_has ls 7 [(0, .ref b), (1, .ref (ad5 0)), (2, .ref (ad6 0)), (3, .ref qo), (4, .int x4)]) (kk : ∀ (H : Heap) (locs : List Loc), va_P (dC, dI) vwCl (wLaw cI cJ ad5 ad6 qo n ev ld0' ld1' ld2' tk mb f0' f1' f2' fr fu m_code' m_n m_built' m_length m_begin m_many m_leastOf' m_sizeOf' m_own m_bestRow m_tryRow m_keptRow m_otherRow m_row m_formRow m_allForms m_rowsOf m_intervals m_places m_whole fo) H → va_D (fun q : Nat => s.heap.size ≤ q) (wLaw cI cJ ad5 ad6 qo n ev ld0' ld1' ld2' tk mb f0' f1' f2' fr fu m_code' m_n m_built' m_length m_begin m_many m_leastOf' m_sizeOf' m_own m_bestRow m_tryRow m_keptRow m_otherRow m_row m_formRow m_allForms m_rowsOf m_intervals m_places m_whole fo) → va_S (fun q : Nat => s.heap.size ≤ q) s.heap H locs → W p l e room_1 s m #[Value.ref b] below meth c H locs cells slots (lw_Z below #[Value.ref b] s) (F0 m 1318 ls [])) : W p l e room_1 s m #[Value.ref b] below meth c H locs cells slots (lw_Z below #[Value.ref b] s) (F0 m 302 ls []) := by
  obtain ⟨hx, hb, hr, hml, hown, hts, hX, hbl, hlocks, hgv⟩ := C0
  have hA : ∀ q : Nat, s.heap.size ≤ q → (fun q : Nat => s.heap.size ≤ q) q := fun _ h => h
  have hbA : ¬ (fun q : Nat => s.heap.size ≤ q) b := Nat.not_le.mpr hbl
  have hfix : CallFix p m c cL_law 7 s #[Value.ref b] lw_tbl RL := ⟨hx, hb, hml, hown, hts⟩
  refine lv_aload_n hx hb dL_law_302 rfl (lv_at hl 1 rfl) ?_
  refine lv_aload_n hx hb dL_law_303 rfl (lv_at hl 0 rfl) ?_
  refine lv_iload hx hb dL_law_304 (lv_at hl 4 rfl) ?_
  refine lv_iconst (v := (1 : Int32)) hx hb dL_law_306 (by decide) ?_
  refine lv_iadd hx hb dL_law_307 ?_
  refine va_sld hx hb hX hbl hbA hS i1 dL_law_308 ?_
  refine lv_aload_n hx hb dL_law_309 rfl (lv_at hl 0 rfl) ?_
  refine lv_iload hx hb dL_law_310 (lv_at hl 4 rfl) ?_
  refine lv_iconst (v := (2 : Int32)) hx hb dL_law_312 (by decide) ?_
  refine lv_iadd hx hb dL_law_313 ?_
  refine va_sld hx hb hX hbl hbA hS i2 dL_law_314 ?_
  have hPc : va_P (dC, dI) vwCl (wX5 cI cJ ad5 n ev ld0 ld1 ld2 tk mb f0 f1 f2 fr fu) H := hP.sub [0, 1, 2, 3, 4, 5, 6, 7, 8, 9, 10, 11, 12] rfl
  have hDc : va_D (fun q : Nat => s.heap.size ≤ q) (wX5 cI cJ ad5 n ev ld0 ld1 ld2 tk mb f0 f1 f2 fr fu) := hD.sub [0, 1, 2, 3, 4, 5, 6, 7, 8, 9, 10, 11, 12] (by decide) rfl
  have hFc := va_free (wc := (wX5 cI cJ ad5 n ev ld0 ld1 ld2 tk mb f0 f1 f2 fr fu)) hD hS hA [0, 1, 2, 3, 4, 5, 6, 7, 8, 9, 10, 11, 12] rfl
  refine va_calli (va_runV (As := [.int (xs (x4 + (1 : Int32)).toNatClampNeg), .int (xs (x4 + (2 : Int32)).toNatClampNeg)]) (rest := []) hfix (c_X5_classes l dC dI cI cJ ad5 H.size n ev ld0 ld1 ld2 tk mb f0 f1 f2 fr fu (xs (x4 + (1 : Int32)).toNatClampNeg) (xs (x4 + (2 : Int32)).toNatClampNeg) _ _ _ _ _ _ _ hF5) (cwV 2 hts gv_X5_classes rfl rfl rfl (by decide +kernel) ⟨by decide, by decide⟩) (rwP.preV hK hPc hDc rfl (ci := 5) rfl rfl) rfl rfl hl.1 rfl (lv_room (Nat.le_of_ble_eq_true rfl)) dL_law_315 ⟨hc1, hc2⟩) hS (fun q _ h => hFc q h) hFc (fun y9 u t H1 locs ht hvm hw hB hz1 hk1 hS => ?_)
  obtain ⟨hP1, -, hD1⟩ := hB
  rw [ht] at hP1
  have hw : y9 = r := hw
  rw [hw]
  obtain ⟨hP, hD⟩ := va_join (wr := [((ad6 0), .inr (6, [.int m_code, .int m_n, .int m_built, .ref (ad6 1), .ref (ad6 2), .int m_length, .ref (ad6 3), .ref (ad6 4), .ref (ad6 5), .ref (ad6 6), .ref (ad6 7), .int m_begin, .int m_many, .ref (ad6 8), .ref (ad6 9), .ref (ad6 10), .ref (ad6 11), .ref (ad6 12), .ref (ad6 13), .ref (ad6 14)])), ((ad6 1), .inl (cI, 12288, .inl m_leastOf)), ((ad6 2), .inl (cI, 12288, .inl m_sizeOf)), ((ad6 3), .inl (cI, 12, .inl m_own)), ((ad6 4), .inl (cI, 12, .inl m_bestRow)), ((ad6 5), .inl (cI, 12, .inl m_tryRow)), ((ad6 6), .inl (cI, 12, .inl m_keptRow)), ((ad6 7), .inl (cI, 12, .inl m_otherRow)), ((ad6 8), .inl (cI, 12, .inl m_row)), ((ad6 9), .inl (cI, 12, .inl m_formRow)), ((ad6 10), .inl (cI, 576, .inl m_allForms)), ((ad6 11), .inl (cI, 13, .inl m_rowsOf)), ((ad6 12), .inl (cI, 13, .inl m_intervals)), ((ad6 13), .inl (cI, 13, .inl m_places)), ((ad6 14), .inl (cJ, 25, .inr (.inl m_whole))), (qo, .inl (cJ, 1, .inr (.inl fo)))]) (w1 := (wX5 cI cJ ad5 n ev ld0' ld1' ld2' tk mb f0' f1' f2' fr fu)) hP hD [0, 1, 2, 3, 4, 5, 6, 7, 8, 9, 10, 11, 12] [13, 14, 15, 16, 17, 18, 19, 20, 21, 22, 23, 24, 25, 26, 27, 28] rfl rfl (by decide) (by decide) hk1 hFc hP1 hD1
  generalize H1 = H at hP hS ⊢
  have hP : va_P (dC, dI) vwCl (wLaw cI cJ ad5 ad6 qo n ev ld0' ld1' ld2' tk mb f0' f1' f2' fr fu m_code m_n m_built m_length m_begin m_many m_leastOf m_sizeOf m_own m_bestRow m_tryRow m_keptRow m_otherRow m_row m_formRow m_allForms m_rowsOf m_intervals m_places m_whole fo) H := hP.sub [16, 17, 18, 19, 20, 21, 22, 23, 24, 25, 26, 27, 28, 0, 1, 2, 3, 4, 5, 6, 7, 8, 9, 10, 11, 12, 13, 14, 15] rfl
  have hD : va_D (fun q : Nat => s.heap.size ≤ q) (wLaw cI cJ ad5 ad6 qo n ev ld0' ld1' ld2' tk mb f0' f1' f2' fr fu m_code m_n m_built m_length m_begin m_many m_leastOf m_sizeOf m_own m_bestRow m_tryRow m_keptRow m_otherRow m_row m_formRow m_allForms m_rowsOf m_intervals m_places m_whole fo) := hD.sub [16, 17, 18, 19, 20, 21, 22, 23, 24, 25, 26, 27, 28, 0, 1, 2, 3, 4, 5, 6, 7, 8, 9, 10, 11, 12, 13, 14, 15] (by decide) rfl
  refine lv_aload_n hx hb dL_law_318 rfl (lv_at hl 2 rfl) ?_
  refine lv_aload_n hx hb dL_law_319 rfl (lv_at hl 0 rfl) ?_
  refine lv_iload hx hb dL_law_320 (lv_at hl 4 rfl) ?_
  refine lv_iconst (v := (1 : Int32)) hx hb dL_law_322 (by decide) ?_
  refine lv_iadd hx hb dL_law_323 ?_
  refine va_sld hx hb hX hbl hbA hS i1 dL_law_324 ?_
  refine lv_aload_n hx hb dL_law_325 rfl (lv_at hl 0 rfl) ?_
  refine lv_iload hx hb dL_law_326 (lv_at hl 4 rfl) ?_
  refine lv_iconst (v := (2 : Int32)) hx hb dL_law_328 (by decide) ?_
  refine lv_iadd hx hb dL_law_329 ?_
  refine va_sld hx hb hX hbl hbA hS i2 dL_law_330 ?_
  have hPc : va_P (dC, dI) vwCl (wX6 cI cJ ad6 m_code m_n m_built m_length m_begin m_many m_leastOf m_sizeOf m_own m_bestRow m_tryRow m_keptRow m_otherRow m_row m_formRow m_allForms m_rowsOf m_intervals m_places m_whole) H := hP.sub [13, 14, 15, 16, 17, 18, 19, 20, 21, 22, 23, 24, 25, 26, 27] rfl
  have hDc : va_D (fun q : Nat => s.heap.size ≤ q) (wX6 cI cJ ad6 m_code m_n m_built m_length m_begin m_many m_leastOf m_sizeOf m_own m_bestRow m_tryRow m_keptRow m_otherRow m_row m_formRow m_allForms m_rowsOf m_intervals m_places m_whole) := hD.sub [13, 14, 15, 16, 17, 18, 19, 20, 21, 22, 23, 24, 25, 26, 27] (by decide) rfl
  have hFc := va_free (wc := (wX6 cI cJ ad6 m_code m_n m_built m_length m_begin m_many m_leastOf m_sizeOf m_own m_bestRow m_tryRow m_keptRow m_otherRow m_row m_formRow m_allForms m_rowsOf m_intervals m_places m_whole)) hD hS hA [13, 14, 15, 16, 17, 18, 19, 20, 21, 22, 23, 24, 25, 26, 27] rfl
  refine va_calli (va_runV (As := [.int (xs (x4 + (1 : Int32)).toNatClampNeg), .int (xs (x4 + (2 : Int32)).toNatClampNeg)]) (rest := [.int r]) hfix (c_X6_classes l dC dI cI cJ ad6 H.size m_code m_n m_built m_length m_begin m_many m_leastOf m_sizeOf m_own m_bestRow m_tryRow m_keptRow m_otherRow m_row m_formRow m_allForms m_rowsOf m_intervals m_places m_whole (xs (x4 + (1 : Int32)).toNatClampNeg) (xs (x4 + (2 : Int32)).toNatClampNeg) _ _ _ _ _ hF6) (cwV 2 hts gv_X6_classes rfl rfl rfl (by decide +kernel) ⟨by decide, by decide⟩) (rwP.preV hK hPc hDc rfl (ci := 6) rfl rfl) rfl rfl hl.1 rfl (lv_room (Nat.le_of_ble_eq_true rfl)) dL_law_331 ⟨hc1, hc2⟩) hS (fun q _ h => hFc q h) hFc (fun y9 u t H1 locs ht hvm hw hB hz1 hk1 hS => ?_)
  obtain ⟨hP1, -, hD1⟩ := hB
  rw [ht] at hP1
  have hw : y9 = r := hw
  rw [hw]
  obtain ⟨hP, hD⟩ := va_join (wr := [((ad5 0), .inr (5, [.ref (ad5 1), .ref (ad5 2), .ref (ad5 3), .ref (ad5 4), .ref (ad5 5), .ref (ad5 6), .ref (ad5 7)])), ((ad5 1), .inr (0, [.int n, .int ev])), ((ad5 2), .inr (2, [.ref (ad5 1)])), ((ad5 3), .inr (1, [.ref (ad5 1), .int 0, .ref (ad5 8), .int ld0'])), ((ad5 4), .inr (1, [.ref (ad5 1), .int 1, .ref (ad5 9), .int ld1'])), ((ad5 5), .inr (1, [.ref (ad5 1), .int 2, .ref (ad5 10), .int ld2'])), ((ad5 6), .inr (3, [.ref (ad5 1), .ref (ad5 11), .int tk, .int mb])), ((ad5 7), .inr (4, [.ref (ad5 12)])), ((ad5 8), .inl (cI, 352, .inl f0')), ((ad5 9), .inl (cI, 352, .inl f1')), ((ad5 10), .inl (cI, 352, .inl f2')), ((ad5 11), .inl (cI, 12, .inl fr)), ((ad5 12), .inl (cI, 13, .inl fu)), (qo, .inl (cJ, 1, .inr (.inl fo)))]) (w1 := (wX6 cI cJ ad6 m_code' m_n m_built' m_length m_begin m_many m_leastOf' m_sizeOf' m_own m_bestRow m_tryRow m_keptRow m_otherRow m_row m_formRow m_allForms m_rowsOf m_intervals m_places m_whole)) hP hD [13, 14, 15, 16, 17, 18, 19, 20, 21, 22, 23, 24, 25, 26, 27] [0, 1, 2, 3, 4, 5, 6, 7, 8, 9, 10, 11, 12, 28] rfl rfl (by decide) (by decide) hk1 hFc hP1 hD1
  generalize H1 = H at hP hS ⊢
  have hP : va_P (dC, dI) vwCl (wLaw cI cJ ad5 ad6 qo n ev ld0' ld1' ld2' tk mb f0' f1' f2' fr fu m_code' m_n m_built' m_length m_begin m_many m_leastOf' m_sizeOf' m_own m_bestRow m_tryRow m_keptRow m_otherRow m_row m_formRow m_allForms m_rowsOf m_intervals m_places m_whole fo) H := hP.sub [0, 1, 2, 3, 4, 5, 6, 7, 8, 9, 10, 11, 12, 14, 15, 16, 17, 18, 19, 20, 21, 22, 23, 24, 25, 26, 27, 28, 13] rfl
  have hD : va_D (fun q : Nat => s.heap.size ≤ q) (wLaw cI cJ ad5 ad6 qo n ev ld0' ld1' ld2' tk mb f0' f1' f2' fr fu m_code' m_n m_built' m_length m_begin m_many m_leastOf' m_sizeOf' m_own m_bestRow m_tryRow m_keptRow m_otherRow m_row m_formRow m_allForms m_rowsOf m_intervals m_places m_whole fo) := hD.sub [0, 1, 2, 3, 4, 5, 6, 7, 8, 9, 10, 11, 12, 14, 15, 16, 17, 18, 19, 20, 21, 22, 23, 24, 25, 26, 27, 28, 13] (by decide) rfl
  refine lv_icmp_eq (tgt := 1318) hx hb dL_law_334 (by decide) (fun _ => ?_) (fun q9 => absurd rfl q9)
  exact kk _ _ hP hD hS
set_option maxHeartbeats 2000000 in
set_option maxRecDepth 100000 in
theorem law_nth {p : Program} {l : Launch} {e : Env} {s : State} {m : MethodId} {below : List Frame} {meth : Method} {c : Code} {b L : Nat} {xs : Nat → Int32} (C0 : lw_At p s m meth c b L xs) {dC : Nat → ClassId} {dI : Nat → Nat → Nat} {cI cJ : ClassId} (hK : vK (dC, dI) [(cI, .int), (cJ, .long)] s) {cells slots : Nat} (hc1 : cells ≤ 601024) (hc2 : slots ≤ 7293034) {ad5 ad6 : Nat → Nat} {qo : Nat} {n : Int32} {ev : Int32} {ld0 : Int32} {ld1 : Int32} {ld2 : Int32} {tk : Int32} {mb : Int32} {f0 : Nat → Int32} {f1 : Nat → Int32} {f2 : Nat → Int32} {fr : Nat → Int32} {fu : Nat → Int32} {m_code : Int32} {m_n : Int32} {m_built : Int32} {m_length : Int32} {m_begin : Int32} {m_many : Int32} {m_leastOf : Nat → Int32} {m_sizeOf : Nat → Int32} {m_own : Nat → Int32} {m_bestRow : Nat → Int32} {m_tryRow : Nat → Int32} {m_keptRow : Nat → Int32} {m_otherRow : Nat → Int32} {m_row : Nat → Int32} {m_formRow : Nat → Int32} {m_allForms : Nat → Int32} {m_rowsOf : Nat → Int32} {m_intervals : Nat → Int32} {m_places : Nat → Int32} {m_whole : Nat → Int64} {fo : Nat → Int64} {x4 : Int32} (i1 : vp_in (x4 + (1 : Int32)) L) (i2 : vp_in (x4 + (2 : Int32)) L) (i3 : vp_in (x4 + (3 : Int32)) L) {r : Int32} {ld0' : Int32} {ld1' : Int32} {ld2' : Int32} {f0' : Nat → Int32} {f1' : Nat → Int32} {f2' : Nat → Int32} {m_code' : Int32} {m_built' : Int32} {m_leastOf' : Nat → Int32} {m_sizeOf' : Nat → Int32} (hF5 : FX5_nth n ev ld0 ld1 ld2 f0 f1 f2 (xs (x4 + (1 : Int32)).toNatClampNeg) (xs (x4 + (2 : Int32)).toNatClampNeg) (xs (x4 + (3 : Int32)).toNatClampNeg) = some (r, ld0', ld1', ld2', f0', f1', f2')) (hF6 : FX6_nth m_code m_n m_built m_leastOf m_sizeOf (xs (x4 + (1 : Int32)).toNatClampNeg) (xs (x4 + (2 : Int32)).toNatClampNeg) (xs (x4 + (3 : Int32)).toNatClampNeg) = some (r, m_code', m_built', m_leastOf', m_sizeOf')) {H : Heap} {locs : List Loc} {ls : Array Slot} (hP : va_P (dC, dI) vwCl (wLaw cI cJ ad5 ad6 qo n ev ld0 ld1 ld2 tk mb f0 f1 f2 fr fu m_code m_n m_built m_length m_begin m_many m_leastOf m_sizeOf m_own m_bestRow m_tryRow m_keptRow m_otherRow m_row m_formRow m_allForms m_rowsOf m_intervals m_places m_whole fo) H) (hD : va_D (fun q : Nat => s.heap.size ≤ q) (wLaw cI cJ ad5 ad6 qo n ev ld0 ld1 ld2 tk mb f0 f1 f2 fr fu m_code m_n m_built m_length m_begin m_many m_leastOf m_sizeOf m_own m_bestRow m_tryRow m_keptRow m_otherRow m_row m_formRow m_allForms m_rowsOf m_intervals m_places m_whole fo)) (hS : va_S (fun q : Nat => s.heap.size ≤ q) s.heap H locs) (hl : lv_has ls 7 [(0, .ref b), (1, .ref (ad5 0)), (2, .ref (ad6 0)), (3, .ref qo), (4, .int x4)]) (kk : ∀ (H : Heap) (locs : List Loc), va_P (dC, dI) vwCl (wLaw cI cJ ad5 ad6 qo n ev ld0' ld1' ld2' tk mb f0' f1' f2' fr fu m_code' m_n m_built' m_length m_begin m_many m_leastOf' m_sizeOf' m_own m_bestRow m_tryRow m_keptRow m_otherRow m_row m_formRow m_allForms m_rowsOf m_intervals m_places m_whole fo) H → va_D (fun q : Nat => s.heap.size ≤ q) (wLaw cI cJ ad5 ad6 qo n ev ld0' ld1' ld2' tk mb f0' f1' f2' fr fu m_code' m_n m_built' m_length m_begin m_many m_leastOf' m_sizeOf' m_own m_bestRow m_tryRow m_keptRow m_otherRow m_row m_formRow m_allForms m_rowsOf m_intervals m_places m_whole fo) → va_S (fun q : Nat => s.heap.size ≤ q) s.heap H locs → W p l e room_1 s m #[Value.ref b] below meth c H locs cells slots (lw_Z below #[Value.ref b] s) (F0 m 1318 ls [])) : W p l e room_1 s m #[Value.ref b] below meth c H locs cells slots (lw_Z below #[Value.ref b] s) (F0 m 339 ls []) := by
  obtain ⟨hx, hb, hr, hml, hown, hts, hX, hbl, hlocks, hgv⟩ := C0
  have hA : ∀ q : Nat, s.heap.size ≤ q → (fun q : Nat => s.heap.size ≤ q) q := fun _ h => h
  have hbA : ¬ (fun q : Nat => s.heap.size ≤ q) b := Nat.not_le.mpr hbl
  have hfix : CallFix p m c cL_law 7 s #[Value.ref b] lw_tbl RL := ⟨hx, hb, hml, hown, hts⟩
  refine lv_aload_n hx hb dL_law_339 rfl (lv_at hl 1 rfl) ?_
  refine lv_aload_n hx hb dL_law_340 rfl (lv_at hl 0 rfl) ?_
  refine lv_iload hx hb dL_law_341 (lv_at hl 4 rfl) ?_
  refine lv_iconst (v := (1 : Int32)) hx hb dL_law_343 (by decide) ?_
  refine lv_iadd hx hb dL_law_344 ?_
  refine va_sld hx hb hX hbl hbA hS i1 dL_law_345 ?_
  refine lv_aload_n hx hb dL_law_346 rfl (lv_at hl 0 rfl) ?_
  refine lv_iload hx hb dL_law_347 (lv_at hl 4 rfl) ?_
  refine lv_iconst (v := (2 : Int32)) hx hb dL_law_349 (by decide) ?_
  refine lv_iadd hx hb dL_law_350 ?_
  refine va_sld hx hb hX hbl hbA hS i2 dL_law_351 ?_
  refine lv_aload_n hx hb dL_law_352 rfl (lv_at hl 0 rfl) ?_
  refine lv_iload hx hb dL_law_353 (lv_at hl 4 rfl) ?_
  refine lv_iconst (v := (3 : Int32)) hx hb dL_law_355 (by decide) ?_
  refine lv_iadd hx hb dL_law_356 ?_
  refine va_sld hx hb hX hbl hbA hS i3 dL_law_357 ?_
  have hPc : va_P (dC, dI) vwCl (wX5 cI cJ ad5 n ev ld0 ld1 ld2 tk mb f0 f1 f2 fr fu) H := hP.sub [0, 1, 2, 3, 4, 5, 6, 7, 8, 9, 10, 11, 12] rfl
  have hDc : va_D (fun q : Nat => s.heap.size ≤ q) (wX5 cI cJ ad5 n ev ld0 ld1 ld2 tk mb f0 f1 f2 fr fu) := hD.sub [0, 1, 2, 3, 4, 5, 6, 7, 8, 9, 10, 11, 12] (by decide) rfl
  have hFc := va_free (wc := (wX5 cI cJ ad5 n ev ld0 ld1 ld2 tk mb f0 f1 f2 fr fu)) hD hS hA [0, 1, 2, 3, 4, 5, 6, 7, 8, 9, 10, 11, 12] rfl
  refine va_calli (va_runV (As := [.int (xs (x4 + (1 : Int32)).toNatClampNeg), .int (xs (x4 + (2 : Int32)).toNatClampNeg), .int (xs (x4 + (3 : Int32)).toNatClampNeg)]) (rest := []) hfix (c_X5_nth l dC dI cI cJ ad5 H.size n ev ld0 ld1 ld2 tk mb f0 f1 f2 fr fu (xs (x4 + (1 : Int32)).toNatClampNeg) (xs (x4 + (2 : Int32)).toNatClampNeg) (xs (x4 + (3 : Int32)).toNatClampNeg) _ _ _ _ _ _ _ hF5) (cwV 3 hts gv_X5_nth rfl rfl rfl (by decide +kernel) ⟨by decide, by decide⟩) (rwP.preV hK hPc hDc rfl (ci := 5) rfl rfl) rfl rfl hl.1 rfl (lv_room (Nat.le_of_ble_eq_true rfl)) dL_law_358 ⟨hc1, hc2⟩) hS (fun q _ h => hFc q h) hFc (fun y9 u t H1 locs ht hvm hw hB hz1 hk1 hS => ?_)
  obtain ⟨hP1, -, hD1⟩ := hB
  rw [ht] at hP1
  have hw : y9 = r := hw
  rw [hw]
  obtain ⟨hP, hD⟩ := va_join (wr := [((ad6 0), .inr (6, [.int m_code, .int m_n, .int m_built, .ref (ad6 1), .ref (ad6 2), .int m_length, .ref (ad6 3), .ref (ad6 4), .ref (ad6 5), .ref (ad6 6), .ref (ad6 7), .int m_begin, .int m_many, .ref (ad6 8), .ref (ad6 9), .ref (ad6 10), .ref (ad6 11), .ref (ad6 12), .ref (ad6 13), .ref (ad6 14)])), ((ad6 1), .inl (cI, 12288, .inl m_leastOf)), ((ad6 2), .inl (cI, 12288, .inl m_sizeOf)), ((ad6 3), .inl (cI, 12, .inl m_own)), ((ad6 4), .inl (cI, 12, .inl m_bestRow)), ((ad6 5), .inl (cI, 12, .inl m_tryRow)), ((ad6 6), .inl (cI, 12, .inl m_keptRow)), ((ad6 7), .inl (cI, 12, .inl m_otherRow)), ((ad6 8), .inl (cI, 12, .inl m_row)), ((ad6 9), .inl (cI, 12, .inl m_formRow)), ((ad6 10), .inl (cI, 576, .inl m_allForms)), ((ad6 11), .inl (cI, 13, .inl m_rowsOf)), ((ad6 12), .inl (cI, 13, .inl m_intervals)), ((ad6 13), .inl (cI, 13, .inl m_places)), ((ad6 14), .inl (cJ, 25, .inr (.inl m_whole))), (qo, .inl (cJ, 1, .inr (.inl fo)))]) (w1 := (wX5 cI cJ ad5 n ev ld0' ld1' ld2' tk mb f0' f1' f2' fr fu)) hP hD [0, 1, 2, 3, 4, 5, 6, 7, 8, 9, 10, 11, 12] [13, 14, 15, 16, 17, 18, 19, 20, 21, 22, 23, 24, 25, 26, 27, 28] rfl rfl (by decide) (by decide) hk1 hFc hP1 hD1
  generalize H1 = H at hP hS ⊢
  have hP : va_P (dC, dI) vwCl (wLaw cI cJ ad5 ad6 qo n ev ld0' ld1' ld2' tk mb f0' f1' f2' fr fu m_code m_n m_built m_length m_begin m_many m_leastOf m_sizeOf m_own m_bestRow m_tryRow m_keptRow m_otherRow m_row m_formRow m_allForms m_rowsOf m_intervals m_places m_whole fo) H := hP.sub [16, 17, 18, 19, 20, 21, 22, 23, 24, 25, 26, 27, 28, 0, 1, 2, 3, 4, 5, 6, 7, 8, 9, 10, 11, 12, 13, 14, 15] rfl
  have hD : va_D (fun q : Nat => s.heap.size ≤ q) (wLaw cI cJ ad5 ad6 qo n ev ld0' ld1' ld2' tk mb f0' f1' f2' fr fu m_code m_n m_built m_length m_begin m_many m_leastOf m_sizeOf m_own m_bestRow m_tryRow m_keptRow m_otherRow m_row m_formRow m_allForms m_rowsOf m_intervals m_places m_whole fo) := hD.sub [16, 17, 18, 19, 20, 21, 22, 23, 24, 25, 26, 27, 28, 0, 1, 2, 3, 4, 5, 6, 7, 8, 9, 10, 11, 12, 13, 14, 15] (by decide) rfl
  refine lv_aload_n hx hb dL_law_361 rfl (lv_at hl 2 rfl) ?_
  refine lv_aload_n hx hb dL_law_362 rfl (lv_at hl 0 rfl) ?_
  refine lv_iload hx hb dL_law_363 (lv_at hl 4 rfl) ?_
  refine lv_iconst (v := (1 : Int32)) hx hb dL_law_365 (by decide) ?_
  refine lv_iadd hx hb dL_law_366 ?_
  refine va_sld hx hb hX hbl hbA hS i1 dL_law_367 ?_
  refine lv_aload_n hx hb dL_law_368 rfl (lv_at hl 0 rfl) ?_
  refine lv_iload hx hb dL_law_369 (lv_at hl 4 rfl) ?_
  refine lv_iconst (v := (2 : Int32)) hx hb dL_law_371 (by decide) ?_
  refine lv_iadd hx hb dL_law_372 ?_
  refine va_sld hx hb hX hbl hbA hS i2 dL_law_373 ?_
  refine lv_aload_n hx hb dL_law_374 rfl (lv_at hl 0 rfl) ?_
  refine lv_iload hx hb dL_law_375 (lv_at hl 4 rfl) ?_
  refine lv_iconst (v := (3 : Int32)) hx hb dL_law_377 (by decide) ?_
  refine lv_iadd hx hb dL_law_378 ?_
  refine va_sld hx hb hX hbl hbA hS i3 dL_law_379 ?_
  have hPc : va_P (dC, dI) vwCl (wX6 cI cJ ad6 m_code m_n m_built m_length m_begin m_many m_leastOf m_sizeOf m_own m_bestRow m_tryRow m_keptRow m_otherRow m_row m_formRow m_allForms m_rowsOf m_intervals m_places m_whole) H := hP.sub [13, 14, 15, 16, 17, 18, 19, 20, 21, 22, 23, 24, 25, 26, 27] rfl
  have hDc : va_D (fun q : Nat => s.heap.size ≤ q) (wX6 cI cJ ad6 m_code m_n m_built m_length m_begin m_many m_leastOf m_sizeOf m_own m_bestRow m_tryRow m_keptRow m_otherRow m_row m_formRow m_allForms m_rowsOf m_intervals m_places m_whole) := hD.sub [13, 14, 15, 16, 17, 18, 19, 20, 21, 22, 23, 24, 25, 26, 27] (by decide) rfl
  have hFc := va_free (wc := (wX6 cI cJ ad6 m_code m_n m_built m_length m_begin m_many m_leastOf m_sizeOf m_own m_bestRow m_tryRow m_keptRow m_otherRow m_row m_formRow m_allForms m_rowsOf m_intervals m_places m_whole)) hD hS hA [13, 14, 15, 16, 17, 18, 19, 20, 21, 22, 23, 24, 25, 26, 27] rfl
  refine va_calli (va_runV (As := [.int (xs (x4 + (1 : Int32)).toNatClampNeg), .int (xs (x4 + (2 : Int32)).toNatClampNeg), .int (xs (x4 + (3 : Int32)).toNatClampNeg)]) (rest := [.int r]) hfix (c_X6_nth l dC dI cI cJ ad6 H.size m_code m_n m_built m_length m_begin m_many m_leastOf m_sizeOf m_own m_bestRow m_tryRow m_keptRow m_otherRow m_row m_formRow m_allForms m_rowsOf m_intervals m_places m_whole (xs (x4 + (1 : Int32)).toNatClampNeg) (xs (x4 + (2 : Int32)).toNatClampNeg) (xs (x4 + (3 : Int32)).toNatClampNeg) _ _ _ _ _ hF6) (cwV 3 hts gv_X6_nth rfl rfl rfl (by decide +kernel) ⟨by decide, by decide⟩) (rwP.preV hK hPc hDc rfl (ci := 6) rfl rfl) rfl rfl hl.1 rfl (lv_room (Nat.le_of_ble_eq_true rfl)) dL_law_380 ⟨hc1, hc2⟩) hS (fun q _ h => hFc q h) hFc (fun y9 u t H1 locs ht hvm hw hB hz1 hk1 hS => ?_)
  obtain ⟨hP1, -, hD1⟩ := hB
  rw [ht] at hP1
  have hw : y9 = r := hw
  rw [hw]
  obtain ⟨hP, hD⟩ := va_join (wr := [((ad5 0), .inr (5, [.ref (ad5 1), .ref (ad5 2), .ref (ad5 3), .ref (ad5 4), .ref (ad5 5), .ref (ad5 6), .ref (ad5 7)])), ((ad5 1), .inr (0, [.int n, .int ev])), ((ad5 2), .inr (2, [.ref (ad5 1)])), ((ad5 3), .inr (1, [.ref (ad5 1), .int 0, .ref (ad5 8), .int ld0'])), ((ad5 4), .inr (1, [.ref (ad5 1), .int 1, .ref (ad5 9), .int ld1'])), ((ad5 5), .inr (1, [.ref (ad5 1), .int 2, .ref (ad5 10), .int ld2'])), ((ad5 6), .inr (3, [.ref (ad5 1), .ref (ad5 11), .int tk, .int mb])), ((ad5 7), .inr (4, [.ref (ad5 12)])), ((ad5 8), .inl (cI, 352, .inl f0')), ((ad5 9), .inl (cI, 352, .inl f1')), ((ad5 10), .inl (cI, 352, .inl f2')), ((ad5 11), .inl (cI, 12, .inl fr)), ((ad5 12), .inl (cI, 13, .inl fu)), (qo, .inl (cJ, 1, .inr (.inl fo)))]) (w1 := (wX6 cI cJ ad6 m_code' m_n m_built' m_length m_begin m_many m_leastOf' m_sizeOf' m_own m_bestRow m_tryRow m_keptRow m_otherRow m_row m_formRow m_allForms m_rowsOf m_intervals m_places m_whole)) hP hD [13, 14, 15, 16, 17, 18, 19, 20, 21, 22, 23, 24, 25, 26, 27] [0, 1, 2, 3, 4, 5, 6, 7, 8, 9, 10, 11, 12, 28] rfl rfl (by decide) (by decide) hk1 hFc hP1 hD1
  generalize H1 = H at hP hS ⊢
  have hP : va_P (dC, dI) vwCl (wLaw cI cJ ad5 ad6 qo n ev ld0' ld1' ld2' tk mb f0' f1' f2' fr fu m_code' m_n m_built' m_length m_begin m_many m_leastOf' m_sizeOf' m_own m_bestRow m_tryRow m_keptRow m_otherRow m_row m_formRow m_allForms m_rowsOf m_intervals m_places m_whole fo) H := hP.sub [0, 1, 2, 3, 4, 5, 6, 7, 8, 9, 10, 11, 12, 14, 15, 16, 17, 18, 19, 20, 21, 22, 23, 24, 25, 26, 27, 28, 13] rfl
  have hD : va_D (fun q : Nat => s.heap.size ≤ q) (wLaw cI cJ ad5 ad6 qo n ev ld0' ld1' ld2' tk mb f0' f1' f2' fr fu m_code' m_n m_built' m_length m_begin m_many m_leastOf' m_sizeOf' m_own m_bestRow m_tryRow m_keptRow m_otherRow m_row m_formRow m_allForms m_rowsOf m_intervals m_places m_whole fo) := hD.sub [0, 1, 2, 3, 4, 5, 6, 7, 8, 9, 10, 11, 12, 14, 15, 16, 17, 18, 19, 20, 21, 22, 23, 24, 25, 26, 27, 28, 13] (by decide) rfl
  refine lv_icmp_eq (tgt := 1318) hx hb dL_law_383 (by decide) (fun _ => ?_) (fun q9 => absurd rfl q9)
  exact kk _ _ hP hD hS
set_option maxHeartbeats 2000000 in
set_option maxRecDepth 100000 in
theorem law_normal {p : Program} {l : Launch} {e : Env} {s : State} {m : MethodId} {below : List Frame} {meth : Method} {c : Code} {b L : Nat} {xs : Nat → Int32} (C0 : lw_At p s m meth c b L xs) {dC : Nat → ClassId} {dI : Nat → Nat → Nat} {cI cJ : ClassId} (hK : vK (dC, dI) [(cI, .int), (cJ, .long)] s) {cells slots : Nat} (hc1 : cells ≤ 601024) (hc2 : slots ≤ 7293034) {ad5 ad6 : Nat → Nat} {qo : Nat} {n : Int32} {ev : Int32} {ld0 : Int32} {ld1 : Int32} {ld2 : Int32} {tk : Int32} {mb : Int32} {f0 : Nat → Int32} {f1 : Nat → Int32} {f2 : Nat → Int32} {fr : Nat → Int32} {fu : Nat → Int32} {m_code : Int32} {m_n : Int32} {m_built : Int32} {m_length : Int32} {m_begin : Int32} {m_many : Int32} {m_leastOf : Nat → Int32} {m_sizeOf : Nat → Int32} {m_own : Nat → Int32} {m_bestRow : Nat → Int32} {m_tryRow : Nat → Int32} {m_keptRow : Nat → Int32} {m_otherRow : Nat → Int32} {m_row : Nat → Int32} {m_formRow : Nat → Int32} {m_allForms : Nat → Int32} {m_rowsOf : Nat → Int32} {m_intervals : Nat → Int32} {m_places : Nat → Int32} {m_whole : Nat → Int64} {fo : Nat → Int64} {x4 : Int32} (i1 : vp_in (x4 + (1 : Int32)) L) (i2 : vp_in (x4 + (2 : Int32)) L) (i3 : vp_in (x4 + (3 : Int32)) L) {r : Int32} {m_code' : Int32} {m_length' : Int32} {m_begin' : Int32} {m_own' : Nat → Int32} {m_bestRow' : Nat → Int32} {m_tryRow' : Nat → Int32} (hF5 : FX5_normal n ev (xs (x4 + (1 : Int32)).toNatClampNeg) (xs (x4 + (2 : Int32)).toNatClampNeg) (xs (x4 + (3 : Int32)).toNatClampNeg) = some r) (hF6 : FX6_normal m_code m_n m_length m_begin m_own m_bestRow m_tryRow (xs (x4 + (1 : Int32)).toNatClampNeg) (xs (x4 + (2 : Int32)).toNatClampNeg) (xs (x4 + (3 : Int32)).toNatClampNeg) = some (r, m_code', m_length', m_begin', m_own', m_bestRow', m_tryRow')) {H : Heap} {locs : List Loc} {ls : Array Slot} (hP : va_P (dC, dI) vwCl (wLaw cI cJ ad5 ad6 qo n ev ld0 ld1 ld2 tk mb f0 f1 f2 fr fu m_code m_n m_built m_length m_begin m_many m_leastOf m_sizeOf m_own m_bestRow m_tryRow m_keptRow m_otherRow m_row m_formRow m_allForms m_rowsOf m_intervals m_places m_whole fo) H) (hD : va_D (fun q : Nat => s.heap.size ≤ q) (wLaw cI cJ ad5 ad6 qo n ev ld0 ld1 ld2 tk mb f0 f1 f2 fr fu m_code m_n m_built m_length m_begin m_many m_leastOf m_sizeOf m_own m_bestRow m_tryRow m_keptRow m_otherRow m_row m_formRow m_allForms m_rowsOf m_intervals m_places m_whole fo)) (hS : va_S (fun q : Nat => s.heap.size ≤ q) s.heap H locs) (hl : lv_has ls 7 [(0, .ref b), (1, .ref (ad5 0)), (2, .ref (ad6 0)), (3, .ref qo), (4, .int x4)]) (kk : ∀ (H : Heap) (locs : List Loc), va_P (dC, dI) vwCl (wLaw cI cJ ad5 ad6 qo n ev ld0 ld1 ld2 tk mb f0 f1 f2 fr fu m_code' m_n m_built m_length' m_begin' m_many m_leastOf m_sizeOf m_own' m_bestRow' m_tryRow' m_keptRow m_otherRow m_row m_formRow m_allForms m_rowsOf m_intervals m_places m_whole fo) H → va_D (fun q : Nat => s.heap.size ≤ q) (wLaw cI cJ ad5 ad6 qo n ev ld0 ld1 ld2 tk mb f0 f1 f2 fr fu m_code' m_n m_built m_length' m_begin' m_many m_leastOf m_sizeOf m_own' m_bestRow' m_tryRow' m_keptRow m_otherRow m_row m_formRow m_allForms m_rowsOf m_intervals m_places m_whole fo) → va_S (fun q : Nat => s.heap.size ≤ q) s.heap H locs → W p l e room_1 s m #[Value.ref b] below meth c H locs cells slots (lw_Z below #[Value.ref b] s) (F0 m 1318 ls [])) : W p l e room_1 s m #[Value.ref b] below meth c H locs cells slots (lw_Z below #[Value.ref b] s) (F0 m 388 ls []) := by
  obtain ⟨hx, hb, hr, hml, hown, hts, hX, hbl, hlocks, hgv⟩ := C0
  have hA : ∀ q : Nat, s.heap.size ≤ q → (fun q : Nat => s.heap.size ≤ q) q := fun _ h => h
  have hbA : ¬ (fun q : Nat => s.heap.size ≤ q) b := Nat.not_le.mpr hbl
  have hfix : CallFix p m c cL_law 7 s #[Value.ref b] lw_tbl RL := ⟨hx, hb, hml, hown, hts⟩
  refine lv_aload_n hx hb dL_law_388 rfl (lv_at hl 1 rfl) ?_
  refine lv_aload_n hx hb dL_law_389 rfl (lv_at hl 0 rfl) ?_
  refine lv_iload hx hb dL_law_390 (lv_at hl 4 rfl) ?_
  refine lv_iconst (v := (1 : Int32)) hx hb dL_law_392 (by decide) ?_
  refine lv_iadd hx hb dL_law_393 ?_
  refine va_sld hx hb hX hbl hbA hS i1 dL_law_394 ?_
  refine lv_aload_n hx hb dL_law_395 rfl (lv_at hl 0 rfl) ?_
  refine lv_iload hx hb dL_law_396 (lv_at hl 4 rfl) ?_
  refine lv_iconst (v := (2 : Int32)) hx hb dL_law_398 (by decide) ?_
  refine lv_iadd hx hb dL_law_399 ?_
  refine va_sld hx hb hX hbl hbA hS i2 dL_law_400 ?_
  refine lv_aload_n hx hb dL_law_401 rfl (lv_at hl 0 rfl) ?_
  refine lv_iload hx hb dL_law_402 (lv_at hl 4 rfl) ?_
  refine lv_iconst (v := (3 : Int32)) hx hb dL_law_404 (by decide) ?_
  refine lv_iadd hx hb dL_law_405 ?_
  refine va_sld hx hb hX hbl hbA hS i3 dL_law_406 ?_
  have hPc : va_P (dC, dI) vwCl (wX5 cI cJ ad5 n ev ld0 ld1 ld2 tk mb f0 f1 f2 fr fu) H := hP.sub [0, 1, 2, 3, 4, 5, 6, 7, 8, 9, 10, 11, 12] rfl
  refine cs_i (va_runV (As := [.int (xs (x4 + (1 : Int32)).toNatClampNeg), .int (xs (x4 + (2 : Int32)).toNatClampNeg), .int (xs (x4 + (3 : Int32)).toNatClampNeg)]) (rest := []) hfix (c_X5_normal l dC dI cI cJ ad5 n ev ld0 ld1 ld2 tk mb f0 f1 f2 fr fu (xs (x4 + (1 : Int32)).toNatClampNeg) (xs (x4 + (2 : Int32)).toNatClampNeg) (xs (x4 + (3 : Int32)).toNatClampNeg) _ hF5) (cwV 3 hts gv_X5_normal rfl rfl rfl (by decide +kernel) ⟨by decide, by decide⟩) (roP.preV hK hPc (ci := 5) rfl rfl) rfl rfl hl.1 rfl (lv_room (Nat.le_of_ble_eq_true rfl)) dL_law_407 ⟨hc1, hc2⟩) ?_
  refine lv_aload_n hx hb dL_law_410 rfl (lv_at hl 2 rfl) ?_
  refine lv_aload_n hx hb dL_law_411 rfl (lv_at hl 0 rfl) ?_
  refine lv_iload hx hb dL_law_412 (lv_at hl 4 rfl) ?_
  refine lv_iconst (v := (1 : Int32)) hx hb dL_law_414 (by decide) ?_
  refine lv_iadd hx hb dL_law_415 ?_
  refine va_sld hx hb hX hbl hbA hS i1 dL_law_416 ?_
  refine lv_aload_n hx hb dL_law_417 rfl (lv_at hl 0 rfl) ?_
  refine lv_iload hx hb dL_law_418 (lv_at hl 4 rfl) ?_
  refine lv_iconst (v := (2 : Int32)) hx hb dL_law_420 (by decide) ?_
  refine lv_iadd hx hb dL_law_421 ?_
  refine va_sld hx hb hX hbl hbA hS i2 dL_law_422 ?_
  refine lv_aload_n hx hb dL_law_423 rfl (lv_at hl 0 rfl) ?_
  refine lv_iload hx hb dL_law_424 (lv_at hl 4 rfl) ?_
  refine lv_iconst (v := (3 : Int32)) hx hb dL_law_426 (by decide) ?_
  refine lv_iadd hx hb dL_law_427 ?_
  refine va_sld hx hb hX hbl hbA hS i3 dL_law_428 ?_
  have hPc : va_P (dC, dI) vwCl (wX6 cI cJ ad6 m_code m_n m_built m_length m_begin m_many m_leastOf m_sizeOf m_own m_bestRow m_tryRow m_keptRow m_otherRow m_row m_formRow m_allForms m_rowsOf m_intervals m_places m_whole) H := hP.sub [13, 14, 15, 16, 17, 18, 19, 20, 21, 22, 23, 24, 25, 26, 27] rfl
  have hDc : va_D (fun q : Nat => s.heap.size ≤ q) (wX6 cI cJ ad6 m_code m_n m_built m_length m_begin m_many m_leastOf m_sizeOf m_own m_bestRow m_tryRow m_keptRow m_otherRow m_row m_formRow m_allForms m_rowsOf m_intervals m_places m_whole) := hD.sub [13, 14, 15, 16, 17, 18, 19, 20, 21, 22, 23, 24, 25, 26, 27] (by decide) rfl
  have hFc := va_free (wc := (wX6 cI cJ ad6 m_code m_n m_built m_length m_begin m_many m_leastOf m_sizeOf m_own m_bestRow m_tryRow m_keptRow m_otherRow m_row m_formRow m_allForms m_rowsOf m_intervals m_places m_whole)) hD hS hA [13, 14, 15, 16, 17, 18, 19, 20, 21, 22, 23, 24, 25, 26, 27] rfl
  refine va_calli (va_runV (As := [.int (xs (x4 + (1 : Int32)).toNatClampNeg), .int (xs (x4 + (2 : Int32)).toNatClampNeg), .int (xs (x4 + (3 : Int32)).toNatClampNeg)]) (rest := [.int r]) hfix (c_X6_normal l dC dI cI cJ ad6 H.size m_code m_n m_built m_length m_begin m_many m_leastOf m_sizeOf m_own m_bestRow m_tryRow m_keptRow m_otherRow m_row m_formRow m_allForms m_rowsOf m_intervals m_places m_whole (xs (x4 + (1 : Int32)).toNatClampNeg) (xs (x4 + (2 : Int32)).toNatClampNeg) (xs (x4 + (3 : Int32)).toNatClampNeg) _ _ _ _ _ _ _ hF6) (cwV 3 hts gv_X6_normal rfl rfl rfl (by decide +kernel) ⟨by decide, by decide⟩) (rwP.preV hK hPc hDc rfl (ci := 6) rfl rfl) rfl rfl hl.1 rfl (lv_room (Nat.le_of_ble_eq_true rfl)) dL_law_429 ⟨hc1, hc2⟩) hS (fun q _ h => hFc q h) hFc (fun y9 u t H1 locs ht hvm hw hB hz1 hk1 hS => ?_)
  obtain ⟨hP1, -, hD1⟩ := hB
  rw [ht] at hP1
  have hw : y9 = r := hw
  rw [hw]
  obtain ⟨hP, hD⟩ := va_join (wr := [((ad5 0), .inr (5, [.ref (ad5 1), .ref (ad5 2), .ref (ad5 3), .ref (ad5 4), .ref (ad5 5), .ref (ad5 6), .ref (ad5 7)])), ((ad5 1), .inr (0, [.int n, .int ev])), ((ad5 2), .inr (2, [.ref (ad5 1)])), ((ad5 3), .inr (1, [.ref (ad5 1), .int 0, .ref (ad5 8), .int ld0])), ((ad5 4), .inr (1, [.ref (ad5 1), .int 1, .ref (ad5 9), .int ld1])), ((ad5 5), .inr (1, [.ref (ad5 1), .int 2, .ref (ad5 10), .int ld2])), ((ad5 6), .inr (3, [.ref (ad5 1), .ref (ad5 11), .int tk, .int mb])), ((ad5 7), .inr (4, [.ref (ad5 12)])), ((ad5 8), .inl (cI, 352, .inl f0)), ((ad5 9), .inl (cI, 352, .inl f1)), ((ad5 10), .inl (cI, 352, .inl f2)), ((ad5 11), .inl (cI, 12, .inl fr)), ((ad5 12), .inl (cI, 13, .inl fu)), (qo, .inl (cJ, 1, .inr (.inl fo)))]) (w1 := (wX6 cI cJ ad6 m_code' m_n m_built m_length' m_begin' m_many m_leastOf m_sizeOf m_own' m_bestRow' m_tryRow' m_keptRow m_otherRow m_row m_formRow m_allForms m_rowsOf m_intervals m_places m_whole)) hP hD [13, 14, 15, 16, 17, 18, 19, 20, 21, 22, 23, 24, 25, 26, 27] [0, 1, 2, 3, 4, 5, 6, 7, 8, 9, 10, 11, 12, 28] rfl rfl (by decide) (by decide) hk1 hFc hP1 hD1
  generalize H1 = H at hP hS ⊢
  have hP : va_P (dC, dI) vwCl (wLaw cI cJ ad5 ad6 qo n ev ld0 ld1 ld2 tk mb f0 f1 f2 fr fu m_code' m_n m_built m_length' m_begin' m_many m_leastOf m_sizeOf m_own' m_bestRow' m_tryRow' m_keptRow m_otherRow m_row m_formRow m_allForms m_rowsOf m_intervals m_places m_whole fo) H := hP.sub [0, 1, 2, 3, 4, 5, 6, 7, 8, 9, 10, 11, 12, 14, 15, 16, 17, 18, 19, 20, 21, 22, 23, 24, 25, 26, 27, 28, 13] rfl
  have hD : va_D (fun q : Nat => s.heap.size ≤ q) (wLaw cI cJ ad5 ad6 qo n ev ld0 ld1 ld2 tk mb f0 f1 f2 fr fu m_code' m_n m_built m_length' m_begin' m_many m_leastOf m_sizeOf m_own' m_bestRow' m_tryRow' m_keptRow m_otherRow m_row m_formRow m_allForms m_rowsOf m_intervals m_places m_whole fo) := hD.sub [0, 1, 2, 3, 4, 5, 6, 7, 8, 9, 10, 11, 12, 14, 15, 16, 17, 18, 19, 20, 21, 22, 23, 24, 25, 26, 27, 28, 13] (by decide) rfl
  refine lv_icmp_eq (tgt := 1318) hx hb dL_law_432 (by decide) (fun _ => ?_) (fun q9 => absurd rfl q9)
  exact kk _ _ hP hD hS
set_option maxHeartbeats 2000000 in
set_option maxRecDepth 100000 in
theorem law_prime {p : Program} {l : Launch} {e : Env} {s : State} {m : MethodId} {below : List Frame} {meth : Method} {c : Code} {b L : Nat} {xs : Nat → Int32} (C0 : lw_At p s m meth c b L xs) {dC : Nat → ClassId} {dI : Nat → Nat → Nat} {cI cJ : ClassId} (hK : vK (dC, dI) [(cI, .int), (cJ, .long)] s) {cells slots : Nat} (hc1 : cells ≤ 601024) (hc2 : slots ≤ 7293034) {ad5 ad6 : Nat → Nat} {qo : Nat} {n : Int32} {ev : Int32} {ld0 : Int32} {ld1 : Int32} {ld2 : Int32} {tk : Int32} {mb : Int32} {f0 : Nat → Int32} {f1 : Nat → Int32} {f2 : Nat → Int32} {fr : Nat → Int32} {fu : Nat → Int32} {m_code : Int32} {m_n : Int32} {m_built : Int32} {m_length : Int32} {m_begin : Int32} {m_many : Int32} {m_leastOf : Nat → Int32} {m_sizeOf : Nat → Int32} {m_own : Nat → Int32} {m_bestRow : Nat → Int32} {m_tryRow : Nat → Int32} {m_keptRow : Nat → Int32} {m_otherRow : Nat → Int32} {m_row : Nat → Int32} {m_formRow : Nat → Int32} {m_allForms : Nat → Int32} {m_rowsOf : Nat → Int32} {m_intervals : Nat → Int32} {m_places : Nat → Int32} {m_whole : Nat → Int64} {fo : Nat → Int64} {x4 : Int32} (i1 : vp_in (x4 + (1 : Int32)) L) (i2 : vp_in (x4 + (2 : Int32)) L) (i3 : vp_in (x4 + (3 : Int32)) L) {r : Int32} {m_code' : Int32} {m_length' : Int32} {m_begin' : Int32} {m_own' : Nat → Int32} {m_bestRow' : Nat → Int32} {m_tryRow' : Nat → Int32} {m_keptRow' : Nat → Int32} (hF5 : FX5_prime n ev (xs (x4 + (1 : Int32)).toNatClampNeg) (xs (x4 + (2 : Int32)).toNatClampNeg) (xs (x4 + (3 : Int32)).toNatClampNeg) = some r) (hF6 : FX6_prime m_code m_n m_length m_begin m_own m_bestRow m_tryRow m_keptRow (xs (x4 + (1 : Int32)).toNatClampNeg) (xs (x4 + (2 : Int32)).toNatClampNeg) (xs (x4 + (3 : Int32)).toNatClampNeg) = some (r, m_code', m_length', m_begin', m_own', m_bestRow', m_tryRow', m_keptRow')) {H : Heap} {locs : List Loc} {ls : Array Slot} (hP : va_P (dC, dI) vwCl (wLaw cI cJ ad5 ad6 qo n ev ld0 ld1 ld2 tk mb f0 f1 f2 fr fu m_code m_n m_built m_length m_begin m_many m_leastOf m_sizeOf m_own m_bestRow m_tryRow m_keptRow m_otherRow m_row m_formRow m_allForms m_rowsOf m_intervals m_places m_whole fo) H) (hD : va_D (fun q : Nat => s.heap.size ≤ q) (wLaw cI cJ ad5 ad6 qo n ev ld0 ld1 ld2 tk mb f0 f1 f2 fr fu m_code m_n m_built m_length m_begin m_many m_leastOf m_sizeOf m_own m_bestRow m_tryRow m_keptRow m_otherRow m_row m_formRow m_allForms m_rowsOf m_intervals m_places m_whole fo)) (hS : va_S (fun q : Nat => s.heap.size ≤ q) s.heap H locs) (hl : lv_has ls 7 [(0, .ref b), (1, .ref (ad5 0)), (2, .ref (ad6 0)), (3, .ref qo), (4, .int x4)]) (kk : ∀ (H : Heap) (locs : List Loc), va_P (dC, dI) vwCl (wLaw cI cJ ad5 ad6 qo n ev ld0 ld1 ld2 tk mb f0 f1 f2 fr fu m_code' m_n m_built m_length' m_begin' m_many m_leastOf m_sizeOf m_own' m_bestRow' m_tryRow' m_keptRow' m_otherRow m_row m_formRow m_allForms m_rowsOf m_intervals m_places m_whole fo) H → va_D (fun q : Nat => s.heap.size ≤ q) (wLaw cI cJ ad5 ad6 qo n ev ld0 ld1 ld2 tk mb f0 f1 f2 fr fu m_code' m_n m_built m_length' m_begin' m_many m_leastOf m_sizeOf m_own' m_bestRow' m_tryRow' m_keptRow' m_otherRow m_row m_formRow m_allForms m_rowsOf m_intervals m_places m_whole fo) → va_S (fun q : Nat => s.heap.size ≤ q) s.heap H locs → W p l e room_1 s m #[Value.ref b] below meth c H locs cells slots (lw_Z below #[Value.ref b] s) (F0 m 1318 ls [])) : W p l e room_1 s m #[Value.ref b] below meth c H locs cells slots (lw_Z below #[Value.ref b] s) (F0 m 437 ls []) := by
  obtain ⟨hx, hb, hr, hml, hown, hts, hX, hbl, hlocks, hgv⟩ := C0
  have hA : ∀ q : Nat, s.heap.size ≤ q → (fun q : Nat => s.heap.size ≤ q) q := fun _ h => h
  have hbA : ¬ (fun q : Nat => s.heap.size ≤ q) b := Nat.not_le.mpr hbl
  have hfix : CallFix p m c cL_law 7 s #[Value.ref b] lw_tbl RL := ⟨hx, hb, hml, hown, hts⟩
  refine lv_aload_n hx hb dL_law_437 rfl (lv_at hl 1 rfl) ?_
  refine lv_aload_n hx hb dL_law_438 rfl (lv_at hl 0 rfl) ?_
  refine lv_iload hx hb dL_law_439 (lv_at hl 4 rfl) ?_
  refine lv_iconst (v := (1 : Int32)) hx hb dL_law_441 (by decide) ?_
  refine lv_iadd hx hb dL_law_442 ?_
  refine va_sld hx hb hX hbl hbA hS i1 dL_law_443 ?_
  refine lv_aload_n hx hb dL_law_444 rfl (lv_at hl 0 rfl) ?_
  refine lv_iload hx hb dL_law_445 (lv_at hl 4 rfl) ?_
  refine lv_iconst (v := (2 : Int32)) hx hb dL_law_447 (by decide) ?_
  refine lv_iadd hx hb dL_law_448 ?_
  refine va_sld hx hb hX hbl hbA hS i2 dL_law_449 ?_
  refine lv_aload_n hx hb dL_law_450 rfl (lv_at hl 0 rfl) ?_
  refine lv_iload hx hb dL_law_451 (lv_at hl 4 rfl) ?_
  refine lv_iconst (v := (3 : Int32)) hx hb dL_law_453 (by decide) ?_
  refine lv_iadd hx hb dL_law_454 ?_
  refine va_sld hx hb hX hbl hbA hS i3 dL_law_455 ?_
  have hPc : va_P (dC, dI) vwCl (wX5 cI cJ ad5 n ev ld0 ld1 ld2 tk mb f0 f1 f2 fr fu) H := hP.sub [0, 1, 2, 3, 4, 5, 6, 7, 8, 9, 10, 11, 12] rfl
  refine cs_i (va_runV (As := [.int (xs (x4 + (1 : Int32)).toNatClampNeg), .int (xs (x4 + (2 : Int32)).toNatClampNeg), .int (xs (x4 + (3 : Int32)).toNatClampNeg)]) (rest := []) hfix (c_X5_prime l dC dI cI cJ ad5 n ev ld0 ld1 ld2 tk mb f0 f1 f2 fr fu (xs (x4 + (1 : Int32)).toNatClampNeg) (xs (x4 + (2 : Int32)).toNatClampNeg) (xs (x4 + (3 : Int32)).toNatClampNeg) _ hF5) (cwV 3 hts gv_X5_prime rfl rfl rfl (by decide +kernel) ⟨by decide, by decide⟩) (roP.preV hK hPc (ci := 5) rfl rfl) rfl rfl hl.1 rfl (lv_room (Nat.le_of_ble_eq_true rfl)) dL_law_456 ⟨hc1, hc2⟩) ?_
  refine lv_aload_n hx hb dL_law_459 rfl (lv_at hl 2 rfl) ?_
  refine lv_aload_n hx hb dL_law_460 rfl (lv_at hl 0 rfl) ?_
  refine lv_iload hx hb dL_law_461 (lv_at hl 4 rfl) ?_
  refine lv_iconst (v := (1 : Int32)) hx hb dL_law_463 (by decide) ?_
  refine lv_iadd hx hb dL_law_464 ?_
  refine va_sld hx hb hX hbl hbA hS i1 dL_law_465 ?_
  refine lv_aload_n hx hb dL_law_466 rfl (lv_at hl 0 rfl) ?_
  refine lv_iload hx hb dL_law_467 (lv_at hl 4 rfl) ?_
  refine lv_iconst (v := (2 : Int32)) hx hb dL_law_469 (by decide) ?_
  refine lv_iadd hx hb dL_law_470 ?_
  refine va_sld hx hb hX hbl hbA hS i2 dL_law_471 ?_
  refine lv_aload_n hx hb dL_law_472 rfl (lv_at hl 0 rfl) ?_
  refine lv_iload hx hb dL_law_473 (lv_at hl 4 rfl) ?_
  refine lv_iconst (v := (3 : Int32)) hx hb dL_law_475 (by decide) ?_
  refine lv_iadd hx hb dL_law_476 ?_
  refine va_sld hx hb hX hbl hbA hS i3 dL_law_477 ?_
  have hPc : va_P (dC, dI) vwCl (wX6 cI cJ ad6 m_code m_n m_built m_length m_begin m_many m_leastOf m_sizeOf m_own m_bestRow m_tryRow m_keptRow m_otherRow m_row m_formRow m_allForms m_rowsOf m_intervals m_places m_whole) H := hP.sub [13, 14, 15, 16, 17, 18, 19, 20, 21, 22, 23, 24, 25, 26, 27] rfl
  have hDc : va_D (fun q : Nat => s.heap.size ≤ q) (wX6 cI cJ ad6 m_code m_n m_built m_length m_begin m_many m_leastOf m_sizeOf m_own m_bestRow m_tryRow m_keptRow m_otherRow m_row m_formRow m_allForms m_rowsOf m_intervals m_places m_whole) := hD.sub [13, 14, 15, 16, 17, 18, 19, 20, 21, 22, 23, 24, 25, 26, 27] (by decide) rfl
  have hFc := va_free (wc := (wX6 cI cJ ad6 m_code m_n m_built m_length m_begin m_many m_leastOf m_sizeOf m_own m_bestRow m_tryRow m_keptRow m_otherRow m_row m_formRow m_allForms m_rowsOf m_intervals m_places m_whole)) hD hS hA [13, 14, 15, 16, 17, 18, 19, 20, 21, 22, 23, 24, 25, 26, 27] rfl
  refine va_calli (va_runV (As := [.int (xs (x4 + (1 : Int32)).toNatClampNeg), .int (xs (x4 + (2 : Int32)).toNatClampNeg), .int (xs (x4 + (3 : Int32)).toNatClampNeg)]) (rest := [.int r]) hfix (c_X6_prime l dC dI cI cJ ad6 H.size m_code m_n m_built m_length m_begin m_many m_leastOf m_sizeOf m_own m_bestRow m_tryRow m_keptRow m_otherRow m_row m_formRow m_allForms m_rowsOf m_intervals m_places m_whole (xs (x4 + (1 : Int32)).toNatClampNeg) (xs (x4 + (2 : Int32)).toNatClampNeg) (xs (x4 + (3 : Int32)).toNatClampNeg) _ _ _ _ _ _ _ _ hF6) (cwV 3 hts gv_X6_prime rfl rfl rfl (by decide +kernel) ⟨by decide, by decide⟩) (rwP.preV hK hPc hDc rfl (ci := 6) rfl rfl) rfl rfl hl.1 rfl (lv_room (Nat.le_of_ble_eq_true rfl)) dL_law_478 ⟨hc1, hc2⟩) hS (fun q _ h => hFc q h) hFc (fun y9 u t H1 locs ht hvm hw hB hz1 hk1 hS => ?_)
  obtain ⟨hP1, -, hD1⟩ := hB
  rw [ht] at hP1
  have hw : y9 = r := hw
  rw [hw]
  obtain ⟨hP, hD⟩ := va_join (wr := [((ad5 0), .inr (5, [.ref (ad5 1), .ref (ad5 2), .ref (ad5 3), .ref (ad5 4), .ref (ad5 5), .ref (ad5 6), .ref (ad5 7)])), ((ad5 1), .inr (0, [.int n, .int ev])), ((ad5 2), .inr (2, [.ref (ad5 1)])), ((ad5 3), .inr (1, [.ref (ad5 1), .int 0, .ref (ad5 8), .int ld0])), ((ad5 4), .inr (1, [.ref (ad5 1), .int 1, .ref (ad5 9), .int ld1])), ((ad5 5), .inr (1, [.ref (ad5 1), .int 2, .ref (ad5 10), .int ld2])), ((ad5 6), .inr (3, [.ref (ad5 1), .ref (ad5 11), .int tk, .int mb])), ((ad5 7), .inr (4, [.ref (ad5 12)])), ((ad5 8), .inl (cI, 352, .inl f0)), ((ad5 9), .inl (cI, 352, .inl f1)), ((ad5 10), .inl (cI, 352, .inl f2)), ((ad5 11), .inl (cI, 12, .inl fr)), ((ad5 12), .inl (cI, 13, .inl fu)), (qo, .inl (cJ, 1, .inr (.inl fo)))]) (w1 := (wX6 cI cJ ad6 m_code' m_n m_built m_length' m_begin' m_many m_leastOf m_sizeOf m_own' m_bestRow' m_tryRow' m_keptRow' m_otherRow m_row m_formRow m_allForms m_rowsOf m_intervals m_places m_whole)) hP hD [13, 14, 15, 16, 17, 18, 19, 20, 21, 22, 23, 24, 25, 26, 27] [0, 1, 2, 3, 4, 5, 6, 7, 8, 9, 10, 11, 12, 28] rfl rfl (by decide) (by decide) hk1 hFc hP1 hD1
  generalize H1 = H at hP hS ⊢
  have hP : va_P (dC, dI) vwCl (wLaw cI cJ ad5 ad6 qo n ev ld0 ld1 ld2 tk mb f0 f1 f2 fr fu m_code' m_n m_built m_length' m_begin' m_many m_leastOf m_sizeOf m_own' m_bestRow' m_tryRow' m_keptRow' m_otherRow m_row m_formRow m_allForms m_rowsOf m_intervals m_places m_whole fo) H := hP.sub [0, 1, 2, 3, 4, 5, 6, 7, 8, 9, 10, 11, 12, 14, 15, 16, 17, 18, 19, 20, 21, 22, 23, 24, 25, 26, 27, 28, 13] rfl
  have hD : va_D (fun q : Nat => s.heap.size ≤ q) (wLaw cI cJ ad5 ad6 qo n ev ld0 ld1 ld2 tk mb f0 f1 f2 fr fu m_code' m_n m_built m_length' m_begin' m_many m_leastOf m_sizeOf m_own' m_bestRow' m_tryRow' m_keptRow' m_otherRow m_row m_formRow m_allForms m_rowsOf m_intervals m_places m_whole fo) := hD.sub [0, 1, 2, 3, 4, 5, 6, 7, 8, 9, 10, 11, 12, 14, 15, 16, 17, 18, 19, 20, 21, 22, 23, 24, 25, 26, 27, 28, 13] (by decide) rfl
  refine lv_icmp_eq (tgt := 1318) hx hb dL_law_481 (by decide) (fun _ => ?_) (fun q9 => absurd rfl q9)
  exact kk _ _ hP hD hS
