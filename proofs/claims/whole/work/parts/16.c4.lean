set_option maxHeartbeats 2000000 in
set_option maxRecDepth 100000 in
theorem law_derived {p : Program} {l : Launch} {e : Env} {s : State} {m : MethodId} {below : List Frame} {meth : Method} {c : Code} {b L : Nat} {xs : Nat → Int32} (C0 : lw_At p s m meth c b L xs) {dC : Nat → ClassId} {dI : Nat → Nat → Nat} {cI cJ : ClassId} (hK : vK (dC, dI) [(cI, .int), (cJ, .long)] s) {cells slots : Nat} (hc1 : cells ≤ 601024) (hc2 : slots ≤ 7293034) {ad5 ad6 : Nat → Nat} {qo : Nat} {n : Int32} {ev : Int32} {ld0 : Int32} {ld1 : Int32} {ld2 : Int32} {tk : Int32} {mb : Int32} {f0 : Nat → Int32} {f1 : Nat → Int32} {f2 : Nat → Int32} {fr : Nat → Int32} {fu : Nat → Int32} {m_code : Int32} {m_n : Int32} {m_built : Int32} {m_length : Int32} {m_begin : Int32} {m_many : Int32} {m_leastOf : Nat → Int32} {m_sizeOf : Nat → Int32} {m_own : Nat → Int32} {m_bestRow : Nat → Int32} {m_tryRow : Nat → Int32} {m_keptRow : Nat → Int32} {m_otherRow : Nat → Int32} {m_row : Nat → Int32} {m_formRow : Nat → Int32} {m_allForms : Nat → Int32} {m_rowsOf : Nat → Int32} {m_intervals : Nat → Int32} {m_places : Nat → Int32} {m_whole : Nat → Int64} {fo : Nat → Int64} {x4 : Int32} (i1 : vp_in (x4 + (1 : Int32)) L) (i2 : vp_in (x4 + (2 : Int32)) L) {r : Int32} {m_code' : Int32} {m_built' : Int32} {m_leastOf' : Nat → Int32} {m_sizeOf' : Nat → Int32} (hF5 : FX5_derived n ev tk fr (xs (x4 + (1 : Int32)).toNatClampNeg) (xs (x4 + (2 : Int32)).toNatClampNeg) = some r) (hF6 : FX6_derived m_code m_n m_built m_many m_leastOf m_sizeOf m_row (xs (x4 + (1 : Int32)).toNatClampNeg) (xs (x4 + (2 : Int32)).toNatClampNeg) = some (r, m_code', m_built', m_leastOf', m_sizeOf')) {H : Heap} {locs : List Loc} {ls : Array Slot} (hP : va_P (dC, dI) vwCl (wLaw cI cJ ad5 ad6 qo n ev ld0 ld1 ld2 tk mb f0 f1 f2 fr fu m_code m_n m_built m_length m_begin m_many m_leastOf m_sizeOf m_own m_bestRow m_tryRow m_keptRow m_otherRow m_row m_formRow m_allForms m_rowsOf m_intervals m_places m_whole fo) H) (hD : va_D (fun q : Nat => s.heap.size ≤ q) (wLaw cI cJ ad5 ad6 qo n ev ld0 ld1 ld2 tk mb f0 f1 f2 fr fu m_code m_n m_built m_length m_begin m_many m_leastOf m_sizeOf m_own m_bestRow m_tryRow m_keptRow m_otherRow m_row m_formRow m_allForms m_rowsOf m_intervals m_places m_whole fo)) (hS : va_S (fun q : Nat => s.heap.size ≤ q) s.heap H locs) (hl : lv_has ls 7 [(0, .ref b), (1, .ref (ad5 0)), (2, .ref (ad6 0)), (3, .ref qo), (4, .int x4)]) (kk : ∀ (H : Heap) (locs : List Loc), va_P (dC, dI) vwCl (wLaw cI cJ ad5 ad6 qo n ev ld0 ld1 ld2 tk mb f0 f1 f2 fr fu m_code' m_n m_built' m_length m_begin m_many m_leastOf' m_sizeOf' m_own m_bestRow m_tryRow m_keptRow m_otherRow m_row m_formRow m_allForms m_rowsOf m_intervals m_places m_whole fo) H → va_D (fun q : Nat => s.heap.size ≤ q) (wLaw cI cJ ad5 ad6 qo n ev ld0 ld1 ld2 tk mb f0 f1 f2 fr fu m_code' m_n m_built' m_length m_begin m_many m_leastOf' m_sizeOf' m_own m_bestRow m_tryRow m_keptRow m_otherRow m_row m_formRow m_allForms m_rowsOf m_intervals m_places m_whole fo) → va_S (fun q : Nat => s.heap.size ≤ q) s.heap H locs → W p l e room_1 s m #[Value.ref b] below meth c H locs cells slots (lw_Z below #[Value.ref b] s) (F0 m 1318 ls [])) : W p l e room_1 s m #[Value.ref b] below meth c H locs cells slots (lw_Z below #[Value.ref b] s) (F0 m 1166 ls []) := by
  obtain ⟨hx, hb, hr, hml, hown, hts, hX, hbl, hlocks, hgv⟩ := C0
  have hA : ∀ q : Nat, s.heap.size ≤ q → (fun q : Nat => s.heap.size ≤ q) q := fun _ h => h
  have hbA : ¬ (fun q : Nat => s.heap.size ≤ q) b := Nat.not_le.mpr hbl
  have hfix : CallFix p m c cL_law 7 s #[Value.ref b] lw_tbl RL := ⟨hx, hb, hml, hown, hts⟩
  refine lv_aload_n hx hb dL_law_1166 rfl (lv_at hl 1 rfl) ?_
  refine lv_aload_n hx hb dL_law_1167 rfl (lv_at hl 0 rfl) ?_
  refine lv_iload hx hb dL_law_1168 (lv_at hl 4 rfl) ?_
  refine lv_iconst (v := (1 : Int32)) hx hb dL_law_1170 (by decide) ?_
  refine lv_iadd hx hb dL_law_1171 ?_
  refine va_sld hx hb hX hbl hbA hS i1 dL_law_1172 ?_
  refine lv_aload_n hx hb dL_law_1173 rfl (lv_at hl 0 rfl) ?_
  refine lv_iload hx hb dL_law_1174 (lv_at hl 4 rfl) ?_
  refine lv_iconst (v := (2 : Int32)) hx hb dL_law_1176 (by decide) ?_
  refine lv_iadd hx hb dL_law_1177 ?_
  refine va_sld hx hb hX hbl hbA hS i2 dL_law_1178 ?_
  have hPc : va_P (dC, dI) vwCl (wX5 cI cJ ad5 n ev ld0 ld1 ld2 tk mb f0 f1 f2 fr fu) H := hP.sub [0, 1, 2, 3, 4, 5, 6, 7, 8, 9, 10, 11, 12] rfl
  refine cs_i (va_runV (As := [.int (xs (x4 + (1 : Int32)).toNatClampNeg), .int (xs (x4 + (2 : Int32)).toNatClampNeg)]) (rest := []) hfix (c_X5_derived l dC dI cI cJ ad5 n ev ld0 ld1 ld2 tk mb f0 f1 f2 fr fu (xs (x4 + (1 : Int32)).toNatClampNeg) (xs (x4 + (2 : Int32)).toNatClampNeg) _ hF5) (cwV 2 hts gv_X5_derived rfl rfl rfl (by decide +kernel) ⟨by decide, by decide⟩) (roP.preV hK hPc (ci := 5) rfl rfl) rfl rfl hl.1 rfl (lv_room (Nat.le_of_ble_eq_true rfl)) dL_law_1179 ⟨hc1, hc2⟩) ?_
  refine lv_aload_n hx hb dL_law_1182 rfl (lv_at hl 2 rfl) ?_
  refine lv_aload_n hx hb dL_law_1183 rfl (lv_at hl 0 rfl) ?_
  refine lv_iload hx hb dL_law_1184 (lv_at hl 4 rfl) ?_
  refine lv_iconst (v := (1 : Int32)) hx hb dL_law_1186 (by decide) ?_
  refine lv_iadd hx hb dL_law_1187 ?_
  refine va_sld hx hb hX hbl hbA hS i1 dL_law_1188 ?_
  refine lv_aload_n hx hb dL_law_1189 rfl (lv_at hl 0 rfl) ?_
  refine lv_iload hx hb dL_law_1190 (lv_at hl 4 rfl) ?_
  refine lv_iconst (v := (2 : Int32)) hx hb dL_law_1192 (by decide) ?_
  refine lv_iadd hx hb dL_law_1193 ?_
  refine va_sld hx hb hX hbl hbA hS i2 dL_law_1194 ?_
  have hPc : va_P (dC, dI) vwCl (wX6 cI cJ ad6 m_code m_n m_built m_length m_begin m_many m_leastOf m_sizeOf m_own m_bestRow m_tryRow m_keptRow m_otherRow m_row m_formRow m_allForms m_rowsOf m_intervals m_places m_whole) H := hP.sub [13, 14, 15, 16, 17, 18, 19, 20, 21, 22, 23, 24, 25, 26, 27] rfl
  have hDc : va_D (fun q : Nat => s.heap.size ≤ q) (wX6 cI cJ ad6 m_code m_n m_built m_length m_begin m_many m_leastOf m_sizeOf m_own m_bestRow m_tryRow m_keptRow m_otherRow m_row m_formRow m_allForms m_rowsOf m_intervals m_places m_whole) := hD.sub [13, 14, 15, 16, 17, 18, 19, 20, 21, 22, 23, 24, 25, 26, 27] (by decide) rfl
  have hFc := va_free (wc := (wX6 cI cJ ad6 m_code m_n m_built m_length m_begin m_many m_leastOf m_sizeOf m_own m_bestRow m_tryRow m_keptRow m_otherRow m_row m_formRow m_allForms m_rowsOf m_intervals m_places m_whole)) hD hS hA [13, 14, 15, 16, 17, 18, 19, 20, 21, 22, 23, 24, 25, 26, 27] rfl
  refine va_calli (va_runV (As := [.int (xs (x4 + (1 : Int32)).toNatClampNeg), .int (xs (x4 + (2 : Int32)).toNatClampNeg)]) (rest := [.int r]) hfix (c_X6_derived l dC dI cI cJ ad6 H.size m_code m_n m_built m_length m_begin m_many m_leastOf m_sizeOf m_own m_bestRow m_tryRow m_keptRow m_otherRow m_row m_formRow m_allForms m_rowsOf m_intervals m_places m_whole (xs (x4 + (1 : Int32)).toNatClampNeg) (xs (x4 + (2 : Int32)).toNatClampNeg) _ _ _ _ _ hF6) (cwV 2 hts gv_X6_derived rfl rfl rfl (by decide +kernel) ⟨by decide, by decide⟩) (rwP.preV hK hPc hDc rfl (ci := 6) rfl rfl) rfl rfl hl.1 rfl (lv_room (Nat.le_of_ble_eq_true rfl)) dL_law_1195 ⟨hc1, hc2⟩) hS (fun q _ h => hFc q h) hFc (fun y9 u t H1 locs ht hvm hw hB hz1 hk1 hS => ?_)
  obtain ⟨hP1, -, hD1⟩ := hB
  rw [ht] at hP1
  have hw : y9 = r := hw
  rw [hw]
  obtain ⟨hP, hD⟩ := va_join (wr := [((ad5 0), .inr (5, [.ref (ad5 1), .ref (ad5 2), .ref (ad5 3), .ref (ad5 4), .ref (ad5 5), .ref (ad5 6), .ref (ad5 7)])), ((ad5 1), .inr (0, [.int n, .int ev])), ((ad5 2), .inr (2, [.ref (ad5 1)])), ((ad5 3), .inr (1, [.ref (ad5 1), .int 0, .ref (ad5 8), .int ld0])), ((ad5 4), .inr (1, [.ref (ad5 1), .int 1, .ref (ad5 9), .int ld1])), ((ad5 5), .inr (1, [.ref (ad5 1), .int 2, .ref (ad5 10), .int ld2])), ((ad5 6), .inr (3, [.ref (ad5 1), .ref (ad5 11), .int tk, .int mb])), ((ad5 7), .inr (4, [.ref (ad5 12)])), ((ad5 8), .inl (cI, 352, .inl f0)), ((ad5 9), .inl (cI, 352, .inl f1)), ((ad5 10), .inl (cI, 352, .inl f2)), ((ad5 11), .inl (cI, 12, .inl fr)), ((ad5 12), .inl (cI, 13, .inl fu)), (qo, .inl (cJ, 1, .inr (.inl fo)))]) (w1 := (wX6 cI cJ ad6 m_code' m_n m_built' m_length m_begin m_many m_leastOf' m_sizeOf' m_own m_bestRow m_tryRow m_keptRow m_otherRow m_row m_formRow m_allForms m_rowsOf m_intervals m_places m_whole)) hP hD [13, 14, 15, 16, 17, 18, 19, 20, 21, 22, 23, 24, 25, 26, 27] [0, 1, 2, 3, 4, 5, 6, 7, 8, 9, 10, 11, 12, 28] rfl rfl (by decide) (by decide) hk1 hFc hP1 hD1
  generalize H1 = H at hP hS ⊢
  have hP : va_P (dC, dI) vwCl (wLaw cI cJ ad5 ad6 qo n ev ld0 ld1 ld2 tk mb f0 f1 f2 fr fu m_code' m_n m_built' m_length m_begin m_many m_leastOf' m_sizeOf' m_own m_bestRow m_tryRow m_keptRow m_otherRow m_row m_formRow m_allForms m_rowsOf m_intervals m_places m_whole fo) H := hP.sub [0, 1, 2, 3, 4, 5, 6, 7, 8, 9, 10, 11, 12, 14, 15, 16, 17, 18, 19, 20, 21, 22, 23, 24, 25, 26, 27, 28, 13] rfl
  have hD : va_D (fun q : Nat => s.heap.size ≤ q) (wLaw cI cJ ad5 ad6 qo n ev ld0 ld1 ld2 tk mb f0 f1 f2 fr fu m_code' m_n m_built' m_length m_begin m_many m_leastOf' m_sizeOf' m_own m_bestRow m_tryRow m_keptRow m_otherRow m_row m_formRow m_allForms m_rowsOf m_intervals m_places m_whole fo) := hD.sub [0, 1, 2, 3, 4, 5, 6, 7, 8, 9, 10, 11, 12, 14, 15, 16, 17, 18, 19, 20, 21, 22, 23, 24, 25, 26, 27, 28, 13] (by decide) rfl
  refine lv_icmp_eq (tgt := 1318) hx hb dL_law_1198 (by decide) (fun _ => ?_) (fun q9 => absurd rfl q9)
  exact kk _ _ hP hD hS
set_option maxHeartbeats 2000000 in
set_option maxRecDepth 100000 in
theorem law_kept {p : Program} {l : Launch} {e : Env} {s : State} {m : MethodId} {below : List Frame} {meth : Method} {c : Code} {b L : Nat} {xs : Nat → Int32} (C0 : lw_At p s m meth c b L xs) {dC : Nat → ClassId} {dI : Nat → Nat → Nat} {cI cJ : ClassId} (hK : vK (dC, dI) [(cI, .int), (cJ, .long)] s) {cells slots : Nat} (hc1 : cells ≤ 601024) (hc2 : slots ≤ 7293034) {ad5 ad6 : Nat → Nat} {qo : Nat} {n : Int32} {ev : Int32} {ld0 : Int32} {ld1 : Int32} {ld2 : Int32} {tk : Int32} {mb : Int32} {f0 : Nat → Int32} {f1 : Nat → Int32} {f2 : Nat → Int32} {fr : Nat → Int32} {fu : Nat → Int32} {m_code : Int32} {m_n : Int32} {m_built : Int32} {m_length : Int32} {m_begin : Int32} {m_many : Int32} {m_leastOf : Nat → Int32} {m_sizeOf : Nat → Int32} {m_own : Nat → Int32} {m_bestRow : Nat → Int32} {m_tryRow : Nat → Int32} {m_keptRow : Nat → Int32} {m_otherRow : Nat → Int32} {m_row : Nat → Int32} {m_formRow : Nat → Int32} {m_allForms : Nat → Int32} {m_rowsOf : Nat → Int32} {m_intervals : Nat → Int32} {m_places : Nat → Int32} {m_whole : Nat → Int64} {fo : Nat → Int64} {x4 : Int32} (i1 : vp_in (x4 + (1 : Int32)) L) (i2 : vp_in (x4 + (2 : Int32)) L) (i3 : vp_in (x4 + (3 : Int32)) L) {r : Int32} {m_code' : Int32} {m_formRow' : Nat → Int32} (hF5 : FX5_kept n tk fr (xs (x4 + (1 : Int32)).toNatClampNeg) (xs (x4 + (2 : Int32)).toNatClampNeg) (xs (x4 + (3 : Int32)).toNatClampNeg) = some r) (hF6 : FX6_kept m_code m_n m_many m_row m_formRow (xs (x4 + (1 : Int32)).toNatClampNeg) (xs (x4 + (2 : Int32)).toNatClampNeg) (xs (x4 + (3 : Int32)).toNatClampNeg) = some (r, m_code', m_formRow')) {H : Heap} {locs : List Loc} {ls : Array Slot} (hP : va_P (dC, dI) vwCl (wLaw cI cJ ad5 ad6 qo n ev ld0 ld1 ld2 tk mb f0 f1 f2 fr fu m_code m_n m_built m_length m_begin m_many m_leastOf m_sizeOf m_own m_bestRow m_tryRow m_keptRow m_otherRow m_row m_formRow m_allForms m_rowsOf m_intervals m_places m_whole fo) H) (hD : va_D (fun q : Nat => s.heap.size ≤ q) (wLaw cI cJ ad5 ad6 qo n ev ld0 ld1 ld2 tk mb f0 f1 f2 fr fu m_code m_n m_built m_length m_begin m_many m_leastOf m_sizeOf m_own m_bestRow m_tryRow m_keptRow m_otherRow m_row m_formRow m_allForms m_rowsOf m_intervals m_places m_whole fo)) (hS : va_S (fun q : Nat => s.heap.size ≤ q) s.heap H locs) (hl : lv_has ls 7 [(0, .ref b), (1, .ref (ad5 0)), (2, .ref (ad6 0)), (3, .ref qo), (4, .int x4)]) (kk : ∀ (H : Heap) (locs : List Loc), va_P (dC, dI) vwCl (wLaw cI cJ ad5 ad6 qo n ev ld0 ld1 ld2 tk mb f0 f1 f2 fr fu m_code' m_n m_built m_length m_begin m_many m_leastOf m_sizeOf m_own m_bestRow m_tryRow m_keptRow m_otherRow m_row m_formRow' m_allForms m_rowsOf m_intervals m_places m_whole fo) H → va_D (fun q : Nat => s.heap.size ≤ q) (wLaw cI cJ ad5 ad6 qo n ev ld0 ld1 ld2 tk mb f0 f1 f2 fr fu m_code' m_n m_built m_length m_begin m_many m_leastOf m_sizeOf m_own m_bestRow m_tryRow m_keptRow m_otherRow m_row m_formRow' m_allForms m_rowsOf m_intervals m_places m_whole fo) → va_S (fun q : Nat => s.heap.size ≤ q) s.heap H locs → W p l e room_1 s m #[Value.ref b] below meth c H locs cells slots (lw_Z below #[Value.ref b] s) (F0 m 1318 ls [])) : W p l e room_1 s m #[Value.ref b] below meth c H locs cells slots (lw_Z below #[Value.ref b] s) (F0 m 1203 ls []) := by
  obtain ⟨hx, hb, hr, hml, hown, hts, hX, hbl, hlocks, hgv⟩ := C0
  have hA : ∀ q : Nat, s.heap.size ≤ q → (fun q : Nat => s.heap.size ≤ q) q := fun _ h => h
  have hbA : ¬ (fun q : Nat => s.heap.size ≤ q) b := Nat.not_le.mpr hbl
  have hfix : CallFix p m c cL_law 7 s #[Value.ref b] lw_tbl RL := ⟨hx, hb, hml, hown, hts⟩
  refine lv_aload_n hx hb dL_law_1203 rfl (lv_at hl 1 rfl) ?_
  refine lv_aload_n hx hb dL_law_1204 rfl (lv_at hl 0 rfl) ?_
  refine lv_iload hx hb dL_law_1205 (lv_at hl 4 rfl) ?_
  refine lv_iconst (v := (1 : Int32)) hx hb dL_law_1207 (by decide) ?_
  refine lv_iadd hx hb dL_law_1208 ?_
  refine va_sld hx hb hX hbl hbA hS i1 dL_law_1209 ?_
  refine lv_aload_n hx hb dL_law_1210 rfl (lv_at hl 0 rfl) ?_
  refine lv_iload hx hb dL_law_1211 (lv_at hl 4 rfl) ?_
  refine lv_iconst (v := (2 : Int32)) hx hb dL_law_1213 (by decide) ?_
  refine lv_iadd hx hb dL_law_1214 ?_
  refine va_sld hx hb hX hbl hbA hS i2 dL_law_1215 ?_
  refine lv_aload_n hx hb dL_law_1216 rfl (lv_at hl 0 rfl) ?_
  refine lv_iload hx hb dL_law_1217 (lv_at hl 4 rfl) ?_
  refine lv_iconst (v := (3 : Int32)) hx hb dL_law_1219 (by decide) ?_
  refine lv_iadd hx hb dL_law_1220 ?_
  refine va_sld hx hb hX hbl hbA hS i3 dL_law_1221 ?_
  have hPc : va_P (dC, dI) vwCl (wX5 cI cJ ad5 n ev ld0 ld1 ld2 tk mb f0 f1 f2 fr fu) H := hP.sub [0, 1, 2, 3, 4, 5, 6, 7, 8, 9, 10, 11, 12] rfl
  refine cs_i (va_runV (As := [.int (xs (x4 + (1 : Int32)).toNatClampNeg), .int (xs (x4 + (2 : Int32)).toNatClampNeg), .int (xs (x4 + (3 : Int32)).toNatClampNeg)]) (rest := []) hfix (c_X5_kept l dC dI cI cJ ad5 n ev ld0 ld1 ld2 tk mb f0 f1 f2 fr fu (xs (x4 + (1 : Int32)).toNatClampNeg) (xs (x4 + (2 : Int32)).toNatClampNeg) (xs (x4 + (3 : Int32)).toNatClampNeg) _ hF5) (cwV 3 hts gv_X5_kept rfl rfl rfl (by decide +kernel) ⟨by decide, by decide⟩) (roP.preV hK hPc (ci := 5) rfl rfl) rfl rfl hl.1 rfl (lv_room (Nat.le_of_ble_eq_true rfl)) dL_law_1222 ⟨hc1, hc2⟩) ?_
  refine lv_aload_n hx hb dL_law_1225 rfl (lv_at hl 2 rfl) ?_
  refine lv_aload_n hx hb dL_law_1226 rfl (lv_at hl 0 rfl) ?_
  refine lv_iload hx hb dL_law_1227 (lv_at hl 4 rfl) ?_
  refine lv_iconst (v := (1 : Int32)) hx hb dL_law_1229 (by decide) ?_
  refine lv_iadd hx hb dL_law_1230 ?_
  refine va_sld hx hb hX hbl hbA hS i1 dL_law_1231 ?_
  refine lv_aload_n hx hb dL_law_1232 rfl (lv_at hl 0 rfl) ?_
  refine lv_iload hx hb dL_law_1233 (lv_at hl 4 rfl) ?_
  refine lv_iconst (v := (2 : Int32)) hx hb dL_law_1235 (by decide) ?_
  refine lv_iadd hx hb dL_law_1236 ?_
  refine va_sld hx hb hX hbl hbA hS i2 dL_law_1237 ?_
  refine lv_aload_n hx hb dL_law_1238 rfl (lv_at hl 0 rfl) ?_
  refine lv_iload hx hb dL_law_1239 (lv_at hl 4 rfl) ?_
  refine lv_iconst (v := (3 : Int32)) hx hb dL_law_1241 (by decide) ?_
  refine lv_iadd hx hb dL_law_1242 ?_
  refine va_sld hx hb hX hbl hbA hS i3 dL_law_1243 ?_
  have hPc : va_P (dC, dI) vwCl (wX6 cI cJ ad6 m_code m_n m_built m_length m_begin m_many m_leastOf m_sizeOf m_own m_bestRow m_tryRow m_keptRow m_otherRow m_row m_formRow m_allForms m_rowsOf m_intervals m_places m_whole) H := hP.sub [13, 14, 15, 16, 17, 18, 19, 20, 21, 22, 23, 24, 25, 26, 27] rfl
  have hDc : va_D (fun q : Nat => s.heap.size ≤ q) (wX6 cI cJ ad6 m_code m_n m_built m_length m_begin m_many m_leastOf m_sizeOf m_own m_bestRow m_tryRow m_keptRow m_otherRow m_row m_formRow m_allForms m_rowsOf m_intervals m_places m_whole) := hD.sub [13, 14, 15, 16, 17, 18, 19, 20, 21, 22, 23, 24, 25, 26, 27] (by decide) rfl
  have hFc := va_free (wc := (wX6 cI cJ ad6 m_code m_n m_built m_length m_begin m_many m_leastOf m_sizeOf m_own m_bestRow m_tryRow m_keptRow m_otherRow m_row m_formRow m_allForms m_rowsOf m_intervals m_places m_whole)) hD hS hA [13, 14, 15, 16, 17, 18, 19, 20, 21, 22, 23, 24, 25, 26, 27] rfl
  refine va_calli (va_runV (As := [.int (xs (x4 + (1 : Int32)).toNatClampNeg), .int (xs (x4 + (2 : Int32)).toNatClampNeg), .int (xs (x4 + (3 : Int32)).toNatClampNeg)]) (rest := [.int r]) hfix (c_X6_kept l dC dI cI cJ ad6 H.size m_code m_n m_built m_length m_begin m_many m_leastOf m_sizeOf m_own m_bestRow m_tryRow m_keptRow m_otherRow m_row m_formRow m_allForms m_rowsOf m_intervals m_places m_whole (xs (x4 + (1 : Int32)).toNatClampNeg) (xs (x4 + (2 : Int32)).toNatClampNeg) (xs (x4 + (3 : Int32)).toNatClampNeg) _ _ _ hF6) (cwV 3 hts gv_X6_kept rfl rfl rfl (by decide +kernel) ⟨by decide, by decide⟩) (rwP.preV hK hPc hDc rfl (ci := 6) rfl rfl) rfl rfl hl.1 rfl (lv_room (Nat.le_of_ble_eq_true rfl)) dL_law_1244 ⟨hc1, hc2⟩) hS (fun q _ h => hFc q h) hFc (fun y9 u t H1 locs ht hvm hw hB hz1 hk1 hS => ?_)
  obtain ⟨hP1, -, hD1⟩ := hB
  rw [ht] at hP1
  have hw : y9 = r := hw
  rw [hw]
  obtain ⟨hP, hD⟩ := va_join (wr := [((ad5 0), .inr (5, [.ref (ad5 1), .ref (ad5 2), .ref (ad5 3), .ref (ad5 4), .ref (ad5 5), .ref (ad5 6), .ref (ad5 7)])), ((ad5 1), .inr (0, [.int n, .int ev])), ((ad5 2), .inr (2, [.ref (ad5 1)])), ((ad5 3), .inr (1, [.ref (ad5 1), .int 0, .ref (ad5 8), .int ld0])), ((ad5 4), .inr (1, [.ref (ad5 1), .int 1, .ref (ad5 9), .int ld1])), ((ad5 5), .inr (1, [.ref (ad5 1), .int 2, .ref (ad5 10), .int ld2])), ((ad5 6), .inr (3, [.ref (ad5 1), .ref (ad5 11), .int tk, .int mb])), ((ad5 7), .inr (4, [.ref (ad5 12)])), ((ad5 8), .inl (cI, 352, .inl f0)), ((ad5 9), .inl (cI, 352, .inl f1)), ((ad5 10), .inl (cI, 352, .inl f2)), ((ad5 11), .inl (cI, 12, .inl fr)), ((ad5 12), .inl (cI, 13, .inl fu)), (qo, .inl (cJ, 1, .inr (.inl fo)))]) (w1 := (wX6 cI cJ ad6 m_code' m_n m_built m_length m_begin m_many m_leastOf m_sizeOf m_own m_bestRow m_tryRow m_keptRow m_otherRow m_row m_formRow' m_allForms m_rowsOf m_intervals m_places m_whole)) hP hD [13, 14, 15, 16, 17, 18, 19, 20, 21, 22, 23, 24, 25, 26, 27] [0, 1, 2, 3, 4, 5, 6, 7, 8, 9, 10, 11, 12, 28] rfl rfl (by decide) (by decide) hk1 hFc hP1 hD1
  generalize H1 = H at hP hS ⊢
  have hP : va_P (dC, dI) vwCl (wLaw cI cJ ad5 ad6 qo n ev ld0 ld1 ld2 tk mb f0 f1 f2 fr fu m_code' m_n m_built m_length m_begin m_many m_leastOf m_sizeOf m_own m_bestRow m_tryRow m_keptRow m_otherRow m_row m_formRow' m_allForms m_rowsOf m_intervals m_places m_whole fo) H := hP.sub [0, 1, 2, 3, 4, 5, 6, 7, 8, 9, 10, 11, 12, 14, 15, 16, 17, 18, 19, 20, 21, 22, 23, 24, 25, 26, 27, 28, 13] rfl
  have hD : va_D (fun q : Nat => s.heap.size ≤ q) (wLaw cI cJ ad5 ad6 qo n ev ld0 ld1 ld2 tk mb f0 f1 f2 fr fu m_code' m_n m_built m_length m_begin m_many m_leastOf m_sizeOf m_own m_bestRow m_tryRow m_keptRow m_otherRow m_row m_formRow' m_allForms m_rowsOf m_intervals m_places m_whole fo) := hD.sub [0, 1, 2, 3, 4, 5, 6, 7, 8, 9, 10, 11, 12, 14, 15, 16, 17, 18, 19, 20, 21, 22, 23, 24, 25, 26, 27, 28, 13] (by decide) rfl
  refine lv_icmp_eq (tgt := 1318) hx hb dL_law_1247 (by decide) (fun _ => ?_) (fun q9 => absurd rfl q9)
  exact kk _ _ hP hD hS
set_option maxHeartbeats 2000000 in
set_option maxRecDepth 100000 in
theorem law_rounds {p : Program} {l : Launch} {e : Env} {s : State} {m : MethodId} {below : List Frame} {meth : Method} {c : Code} {b L : Nat} {xs : Nat → Int32} (C0 : lw_At p s m meth c b L xs) {dC : Nat → ClassId} {dI : Nat → Nat → Nat} {cI cJ : ClassId} (hK : vK (dC, dI) [(cI, .int), (cJ, .long)] s) {cells slots : Nat} (hc1 : cells ≤ 601024) (hc2 : slots ≤ 7293034) {ad5 ad6 : Nat → Nat} {qo : Nat} {n : Int32} {ev : Int32} {ld0 : Int32} {ld1 : Int32} {ld2 : Int32} {tk : Int32} {mb : Int32} {f0 : Nat → Int32} {f1 : Nat → Int32} {f2 : Nat → Int32} {fr : Nat → Int32} {fu : Nat → Int32} {m_code : Int32} {m_n : Int32} {m_built : Int32} {m_length : Int32} {m_begin : Int32} {m_many : Int32} {m_leastOf : Nat → Int32} {m_sizeOf : Nat → Int32} {m_own : Nat → Int32} {m_bestRow : Nat → Int32} {m_tryRow : Nat → Int32} {m_keptRow : Nat → Int32} {m_otherRow : Nat → Int32} {m_row : Nat → Int32} {m_formRow : Nat → Int32} {m_allForms : Nat → Int32} {m_rowsOf : Nat → Int32} {m_intervals : Nat → Int32} {m_places : Nat → Int32} {m_whole : Nat → Int64} {fo : Nat → Int64} {x4 : Int32} (i1 : vp_in (x4 + (1 : Int32)) L) (i2 : vp_in (x4 + (2 : Int32)) L) (i3 : vp_in (x4 + (3 : Int32)) L) {y3 : Int32} (hy : y3 = if xs (x4 + (3 : Int32)).toNatClampNeg = 0 then 0 else 1) {r : Int64} {m_code' : Int32} {m_whole' : Nat → Int64} (hF5 : FX5_rounds (xs (x4 + (1 : Int32)).toNatClampNeg) (xs (x4 + (2 : Int32)).toNatClampNeg) y3 = some r) (hF6 : FX6_rounds m_code m_whole (xs (x4 + (1 : Int32)).toNatClampNeg) (xs (x4 + (2 : Int32)).toNatClampNeg) y3 = some (r, m_code', m_whole')) {H : Heap} {locs : List Loc} {ls : Array Slot} (hP : va_P (dC, dI) vwCl (wLaw cI cJ ad5 ad6 qo n ev ld0 ld1 ld2 tk mb f0 f1 f2 fr fu m_code m_n m_built m_length m_begin m_many m_leastOf m_sizeOf m_own m_bestRow m_tryRow m_keptRow m_otherRow m_row m_formRow m_allForms m_rowsOf m_intervals m_places m_whole fo) H) (hD : va_D (fun q : Nat => s.heap.size ≤ q) (wLaw cI cJ ad5 ad6 qo n ev ld0 ld1 ld2 tk mb f0 f1 f2 fr fu m_code m_n m_built m_length m_begin m_many m_leastOf m_sizeOf m_own m_bestRow m_tryRow m_keptRow m_otherRow m_row m_formRow m_allForms m_rowsOf m_intervals m_places m_whole fo)) (hS : va_S (fun q : Nat => s.heap.size ≤ q) s.heap H locs) (hl : lv_has ls 7 [(0, .ref b), (1, .ref (ad5 0)), (2, .ref (ad6 0)), (3, .ref qo), (4, .int x4)]) (kk : ∀ (H : Heap) (locs : List Loc), va_P (dC, dI) vwCl (wLaw cI cJ ad5 ad6 qo n ev ld0 ld1 ld2 tk mb f0 f1 f2 fr fu m_code' m_n m_built m_length m_begin m_many m_leastOf m_sizeOf m_own m_bestRow m_tryRow m_keptRow m_otherRow m_row m_formRow m_allForms m_rowsOf m_intervals m_places m_whole' fo) H → va_D (fun q : Nat => s.heap.size ≤ q) (wLaw cI cJ ad5 ad6 qo n ev ld0 ld1 ld2 tk mb f0 f1 f2 fr fu m_code' m_n m_built m_length m_begin m_many m_leastOf m_sizeOf m_own m_bestRow m_tryRow m_keptRow m_otherRow m_row m_formRow m_allForms m_rowsOf m_intervals m_places m_whole' fo) → va_S (fun q : Nat => s.heap.size ≤ q) s.heap H locs → W p l e room_1 s m #[Value.ref b] below meth c H locs cells slots (lw_Z below #[Value.ref b] s) (F0 m 1318 ls [])) : W p l e room_1 s m #[Value.ref b] below meth c H locs cells slots (lw_Z below #[Value.ref b] s) (F0 m 1252 ls []) := by
  obtain ⟨hx, hb, hr, hml, hown, hts, hX, hbl, hlocks, hgv⟩ := C0
  have hA : ∀ q : Nat, s.heap.size ≤ q → (fun q : Nat => s.heap.size ≤ q) q := fun _ h => h
  have hbA : ¬ (fun q : Nat => s.heap.size ≤ q) b := Nat.not_le.mpr hbl
  have hfix : CallFix p m c cL_law 7 s #[Value.ref b] lw_tbl RL := ⟨hx, hb, hml, hown, hts⟩
  refine lv_aload_n hx hb dL_law_1252 rfl (lv_at hl 1 rfl) ?_
  refine lv_aload_n hx hb dL_law_1253 rfl (lv_at hl 0 rfl) ?_
  refine lv_iload hx hb dL_law_1254 (lv_at hl 4 rfl) ?_
  refine lv_iconst (v := (1 : Int32)) hx hb dL_law_1256 (by decide) ?_
  refine lv_iadd hx hb dL_law_1257 ?_
  refine va_sld hx hb hX hbl hbA hS i1 dL_law_1258 ?_
  refine lv_aload_n hx hb dL_law_1259 rfl (lv_at hl 0 rfl) ?_
  refine lv_iload hx hb dL_law_1260 (lv_at hl 4 rfl) ?_
  refine lv_iconst (v := (2 : Int32)) hx hb dL_law_1262 (by decide) ?_
  refine lv_iadd hx hb dL_law_1263 ?_
  refine va_sld hx hb hX hbl hbA hS i2 dL_law_1264 ?_
  refine lv_aload_n hx hb dL_law_1265 rfl (lv_at hl 0 rfl) ?_
  refine lv_iload hx hb dL_law_1266 (lv_at hl 4 rfl) ?_
  refine lv_iconst (v := (3 : Int32)) hx hb dL_law_1268 (by decide) ?_
  refine lv_iadd hx hb dL_law_1269 ?_
  refine va_sld hx hb hX hbl hbA hS i3 dL_law_1270 ?_
  refine lv_if_eq (tgt := 1278) hx hb dL_law_1271 (by decide) (fun qb => ?_) (fun qb => ?_)
  · have hy0 : y3 = 0 := by rw [hy, if_pos qb]
    subst hy0
    refine lv_iconst (v := (0 : Int32)) hx hb dL_law_1278 (by decide) ?_
    have hPc : va_P (dC, dI) vwCl (wX5 cI cJ ad5 n ev ld0 ld1 ld2 tk mb f0 f1 f2 fr fu) H := hP.sub [0, 1, 2, 3, 4, 5, 6, 7, 8, 9, 10, 11, 12] rfl
    refine cs_l (va_runV (As := [.int (xs (x4 + (1 : Int32)).toNatClampNeg), .int (xs (x4 + (2 : Int32)).toNatClampNeg), .int (0 : Int32)]) (rest := []) hfix (c_X5_rounds l dC dI cI cJ ad5 n ev ld0 ld1 ld2 tk mb f0 f1 f2 fr fu (xs (x4 + (1 : Int32)).toNatClampNeg) (xs (x4 + (2 : Int32)).toNatClampNeg) (0 : Int32) _ hF5) (cwV 3 hts gv_X5_rounds rfl rfl rfl (by decide +kernel) ⟨by decide, by decide⟩) (roP.preV hK hPc (ci := 5) rfl rfl) rfl rfl hl.1 rfl (lv_room (Nat.le_of_ble_eq_true rfl)) dL_law_1279 ⟨hc1, hc2⟩) ?_
    refine lv_aload_n hx hb dL_law_1282 rfl (lv_at hl 2 rfl) ?_
    refine lv_aload_n hx hb dL_law_1283 rfl (lv_at hl 0 rfl) ?_
    refine lv_iload hx hb dL_law_1284 (lv_at hl 4 rfl) ?_
    refine lv_iconst (v := (1 : Int32)) hx hb dL_law_1286 (by decide) ?_
    refine lv_iadd hx hb dL_law_1287 ?_
    refine va_sld hx hb hX hbl hbA hS i1 dL_law_1288 ?_
    refine lv_aload_n hx hb dL_law_1289 rfl (lv_at hl 0 rfl) ?_
    refine lv_iload hx hb dL_law_1290 (lv_at hl 4 rfl) ?_
    refine lv_iconst (v := (2 : Int32)) hx hb dL_law_1292 (by decide) ?_
    refine lv_iadd hx hb dL_law_1293 ?_
    refine va_sld hx hb hX hbl hbA hS i2 dL_law_1294 ?_
    refine lv_aload_n hx hb dL_law_1295 rfl (lv_at hl 0 rfl) ?_
    refine lv_iload hx hb dL_law_1296 (lv_at hl 4 rfl) ?_
    refine lv_iconst (v := (3 : Int32)) hx hb dL_law_1298 (by decide) ?_
    refine lv_iadd hx hb dL_law_1299 ?_
    refine va_sld hx hb hX hbl hbA hS i3 dL_law_1300 ?_
    refine lv_if_eq (tgt := 1308) hx hb dL_law_1301 (by decide) (fun _ => ?_) (fun q9 => absurd qb q9)
    refine lv_iconst (v := (0 : Int32)) hx hb dL_law_1308 (by decide) ?_
    have hPc : va_P (dC, dI) vwCl (wX6 cI cJ ad6 m_code m_n m_built m_length m_begin m_many m_leastOf m_sizeOf m_own m_bestRow m_tryRow m_keptRow m_otherRow m_row m_formRow m_allForms m_rowsOf m_intervals m_places m_whole) H := hP.sub [13, 14, 15, 16, 17, 18, 19, 20, 21, 22, 23, 24, 25, 26, 27] rfl
    have hDc : va_D (fun q : Nat => s.heap.size ≤ q) (wX6 cI cJ ad6 m_code m_n m_built m_length m_begin m_many m_leastOf m_sizeOf m_own m_bestRow m_tryRow m_keptRow m_otherRow m_row m_formRow m_allForms m_rowsOf m_intervals m_places m_whole) := hD.sub [13, 14, 15, 16, 17, 18, 19, 20, 21, 22, 23, 24, 25, 26, 27] (by decide) rfl
    have hFc := va_free (wc := (wX6 cI cJ ad6 m_code m_n m_built m_length m_begin m_many m_leastOf m_sizeOf m_own m_bestRow m_tryRow m_keptRow m_otherRow m_row m_formRow m_allForms m_rowsOf m_intervals m_places m_whole)) hD hS hA [13, 14, 15, 16, 17, 18, 19, 20, 21, 22, 23, 24, 25, 26, 27] rfl
    refine va_calll (va_runV (As := [.int (xs (x4 + (1 : Int32)).toNatClampNeg), .int (xs (x4 + (2 : Int32)).toNatClampNeg), .int (0 : Int32)]) (rest := [.long r]) hfix (c_X6_rounds l dC dI cI cJ ad6 H.size m_code m_n m_built m_length m_begin m_many m_leastOf m_sizeOf m_own m_bestRow m_tryRow m_keptRow m_otherRow m_row m_formRow m_allForms m_rowsOf m_intervals m_places m_whole (xs (x4 + (1 : Int32)).toNatClampNeg) (xs (x4 + (2 : Int32)).toNatClampNeg) (0 : Int32) _ _ _ hF6) (cwV 3 hts gv_X6_rounds rfl rfl rfl (by decide +kernel) ⟨by decide, by decide⟩) (rwP.preV hK hPc hDc rfl (ci := 6) rfl rfl) rfl rfl hl.1 rfl (lv_room (Nat.le_of_ble_eq_true rfl)) dL_law_1309 ⟨hc1, hc2⟩) hS (fun q _ h => hFc q h) hFc (fun y9 u t H1 locs ht hvm hw hB hz1 hk1 hS => ?_)
    obtain ⟨hP1, -, hD1⟩ := hB
    rw [ht] at hP1
    have hw : y9 = r := hw
    rw [hw]
    obtain ⟨hP, hD⟩ := va_join (wr := [((ad5 0), .inr (5, [.ref (ad5 1), .ref (ad5 2), .ref (ad5 3), .ref (ad5 4), .ref (ad5 5), .ref (ad5 6), .ref (ad5 7)])), ((ad5 1), .inr (0, [.int n, .int ev])), ((ad5 2), .inr (2, [.ref (ad5 1)])), ((ad5 3), .inr (1, [.ref (ad5 1), .int 0, .ref (ad5 8), .int ld0])), ((ad5 4), .inr (1, [.ref (ad5 1), .int 1, .ref (ad5 9), .int ld1])), ((ad5 5), .inr (1, [.ref (ad5 1), .int 2, .ref (ad5 10), .int ld2])), ((ad5 6), .inr (3, [.ref (ad5 1), .ref (ad5 11), .int tk, .int mb])), ((ad5 7), .inr (4, [.ref (ad5 12)])), ((ad5 8), .inl (cI, 352, .inl f0)), ((ad5 9), .inl (cI, 352, .inl f1)), ((ad5 10), .inl (cI, 352, .inl f2)), ((ad5 11), .inl (cI, 12, .inl fr)), ((ad5 12), .inl (cI, 13, .inl fu)), (qo, .inl (cJ, 1, .inr (.inl fo)))]) (w1 := (wX6 cI cJ ad6 m_code' m_n m_built m_length m_begin m_many m_leastOf m_sizeOf m_own m_bestRow m_tryRow m_keptRow m_otherRow m_row m_formRow m_allForms m_rowsOf m_intervals m_places m_whole')) hP hD [13, 14, 15, 16, 17, 18, 19, 20, 21, 22, 23, 24, 25, 26, 27] [0, 1, 2, 3, 4, 5, 6, 7, 8, 9, 10, 11, 12, 28] rfl rfl (by decide) (by decide) hk1 hFc hP1 hD1
    generalize H1 = H at hP hS ⊢
    have hP : va_P (dC, dI) vwCl (wLaw cI cJ ad5 ad6 qo n ev ld0 ld1 ld2 tk mb f0 f1 f2 fr fu m_code' m_n m_built m_length m_begin m_many m_leastOf m_sizeOf m_own m_bestRow m_tryRow m_keptRow m_otherRow m_row m_formRow m_allForms m_rowsOf m_intervals m_places m_whole' fo) H := hP.sub [0, 1, 2, 3, 4, 5, 6, 7, 8, 9, 10, 11, 12, 14, 15, 16, 17, 18, 19, 20, 21, 22, 23, 24, 25, 26, 27, 28, 13] rfl
    have hD : va_D (fun q : Nat => s.heap.size ≤ q) (wLaw cI cJ ad5 ad6 qo n ev ld0 ld1 ld2 tk mb f0 f1 f2 fr fu m_code' m_n m_built m_length m_begin m_many m_leastOf m_sizeOf m_own m_bestRow m_tryRow m_keptRow m_otherRow m_row m_formRow m_allForms m_rowsOf m_intervals m_places m_whole' fo) := hD.sub [0, 1, 2, 3, 4, 5, 6, 7, 8, 9, 10, 11, 12, 14, 15, 16, 17, 18, 19, 20, 21, 22, 23, 24, 25, 26, 27, 28, 13] (by decide) rfl
    refine W.lcmp hx hb dL_law_1312 ?_
    refine lv_if_eq (tgt := 1318) hx hb dL_law_1313 (by decide) (fun _ => ?_) (fun q9 => absurd (lg_cmp_self r) q9)
    exact kk _ _ hP hD hS
  · have hy0 : y3 = 1 := by rw [hy, if_neg qb]
    subst hy0
    refine lv_iconst (v := (1 : Int32)) hx hb dL_law_1274 (by decide) ?_
    refine lv_goto (tgt := 1279) hx hb dL_law_1275 (by decide) ?_
    have hPc : va_P (dC, dI) vwCl (wX5 cI cJ ad5 n ev ld0 ld1 ld2 tk mb f0 f1 f2 fr fu) H := hP.sub [0, 1, 2, 3, 4, 5, 6, 7, 8, 9, 10, 11, 12] rfl
    refine cs_l (va_runV (As := [.int (xs (x4 + (1 : Int32)).toNatClampNeg), .int (xs (x4 + (2 : Int32)).toNatClampNeg), .int (1 : Int32)]) (rest := []) hfix (c_X5_rounds l dC dI cI cJ ad5 n ev ld0 ld1 ld2 tk mb f0 f1 f2 fr fu (xs (x4 + (1 : Int32)).toNatClampNeg) (xs (x4 + (2 : Int32)).toNatClampNeg) (1 : Int32) _ hF5) (cwV 3 hts gv_X5_rounds rfl rfl rfl (by decide +kernel) ⟨by decide, by decide⟩) (roP.preV hK hPc (ci := 5) rfl rfl) rfl rfl hl.1 rfl (lv_room (Nat.le_of_ble_eq_true rfl)) dL_law_1279 ⟨hc1, hc2⟩) ?_
    refine lv_aload_n hx hb dL_law_1282 rfl (lv_at hl 2 rfl) ?_
    refine lv_aload_n hx hb dL_law_1283 rfl (lv_at hl 0 rfl) ?_
    refine lv_iload hx hb dL_law_1284 (lv_at hl 4 rfl) ?_
    refine lv_iconst (v := (1 : Int32)) hx hb dL_law_1286 (by decide) ?_
    refine lv_iadd hx hb dL_law_1287 ?_
    refine va_sld hx hb hX hbl hbA hS i1 dL_law_1288 ?_
    refine lv_aload_n hx hb dL_law_1289 rfl (lv_at hl 0 rfl) ?_
    refine lv_iload hx hb dL_law_1290 (lv_at hl 4 rfl) ?_
    refine lv_iconst (v := (2 : Int32)) hx hb dL_law_1292 (by decide) ?_
    refine lv_iadd hx hb dL_law_1293 ?_
    refine va_sld hx hb hX hbl hbA hS i2 dL_law_1294 ?_
    refine lv_aload_n hx hb dL_law_1295 rfl (lv_at hl 0 rfl) ?_
    refine lv_iload hx hb dL_law_1296 (lv_at hl 4 rfl) ?_
    refine lv_iconst (v := (3 : Int32)) hx hb dL_law_1298 (by decide) ?_
    refine lv_iadd hx hb dL_law_1299 ?_
    refine va_sld hx hb hX hbl hbA hS i3 dL_law_1300 ?_
    refine lv_if_eq (tgt := 1308) hx hb dL_law_1301 (by decide) (fun q9 => absurd q9 qb) (fun _ => ?_)
    refine lv_iconst (v := (1 : Int32)) hx hb dL_law_1304 (by decide) ?_
    refine lv_goto (tgt := 1309) hx hb dL_law_1305 (by decide) ?_
    have hPc : va_P (dC, dI) vwCl (wX6 cI cJ ad6 m_code m_n m_built m_length m_begin m_many m_leastOf m_sizeOf m_own m_bestRow m_tryRow m_keptRow m_otherRow m_row m_formRow m_allForms m_rowsOf m_intervals m_places m_whole) H := hP.sub [13, 14, 15, 16, 17, 18, 19, 20, 21, 22, 23, 24, 25, 26, 27] rfl
    have hDc : va_D (fun q : Nat => s.heap.size ≤ q) (wX6 cI cJ ad6 m_code m_n m_built m_length m_begin m_many m_leastOf m_sizeOf m_own m_bestRow m_tryRow m_keptRow m_otherRow m_row m_formRow m_allForms m_rowsOf m_intervals m_places m_whole) := hD.sub [13, 14, 15, 16, 17, 18, 19, 20, 21, 22, 23, 24, 25, 26, 27] (by decide) rfl
    have hFc := va_free (wc := (wX6 cI cJ ad6 m_code m_n m_built m_length m_begin m_many m_leastOf m_sizeOf m_own m_bestRow m_tryRow m_keptRow m_otherRow m_row m_formRow m_allForms m_rowsOf m_intervals m_places m_whole)) hD hS hA [13, 14, 15, 16, 17, 18, 19, 20, 21, 22, 23, 24, 25, 26, 27] rfl
    refine va_calll (va_runV (As := [.int (xs (x4 + (1 : Int32)).toNatClampNeg), .int (xs (x4 + (2 : Int32)).toNatClampNeg), .int (1 : Int32)]) (rest := [.long r]) hfix (c_X6_rounds l dC dI cI cJ ad6 H.size m_code m_n m_built m_length m_begin m_many m_leastOf m_sizeOf m_own m_bestRow m_tryRow m_keptRow m_otherRow m_row m_formRow m_allForms m_rowsOf m_intervals m_places m_whole (xs (x4 + (1 : Int32)).toNatClampNeg) (xs (x4 + (2 : Int32)).toNatClampNeg) (1 : Int32) _ _ _ hF6) (cwV 3 hts gv_X6_rounds rfl rfl rfl (by decide +kernel) ⟨by decide, by decide⟩) (rwP.preV hK hPc hDc rfl (ci := 6) rfl rfl) rfl rfl hl.1 rfl (lv_room (Nat.le_of_ble_eq_true rfl)) dL_law_1309 ⟨hc1, hc2⟩) hS (fun q _ h => hFc q h) hFc (fun y9 u t H1 locs ht hvm hw hB hz1 hk1 hS => ?_)
    obtain ⟨hP1, -, hD1⟩ := hB
    rw [ht] at hP1
    have hw : y9 = r := hw
    rw [hw]
    obtain ⟨hP, hD⟩ := va_join (wr := [((ad5 0), .inr (5, [.ref (ad5 1), .ref (ad5 2), .ref (ad5 3), .ref (ad5 4), .ref (ad5 5), .ref (ad5 6), .ref (ad5 7)])), ((ad5 1), .inr (0, [.int n, .int ev])), ((ad5 2), .inr (2, [.ref (ad5 1)])), ((ad5 3), .inr (1, [.ref (ad5 1), .int 0, .ref (ad5 8), .int ld0])), ((ad5 4), .inr (1, [.ref (ad5 1), .int 1, .ref (ad5 9), .int ld1])), ((ad5 5), .inr (1, [.ref (ad5 1), .int 2, .ref (ad5 10), .int ld2])), ((ad5 6), .inr (3, [.ref (ad5 1), .ref (ad5 11), .int tk, .int mb])), ((ad5 7), .inr (4, [.ref (ad5 12)])), ((ad5 8), .inl (cI, 352, .inl f0)), ((ad5 9), .inl (cI, 352, .inl f1)), ((ad5 10), .inl (cI, 352, .inl f2)), ((ad5 11), .inl (cI, 12, .inl fr)), ((ad5 12), .inl (cI, 13, .inl fu)), (qo, .inl (cJ, 1, .inr (.inl fo)))]) (w1 := (wX6 cI cJ ad6 m_code' m_n m_built m_length m_begin m_many m_leastOf m_sizeOf m_own m_bestRow m_tryRow m_keptRow m_otherRow m_row m_formRow m_allForms m_rowsOf m_intervals m_places m_whole')) hP hD [13, 14, 15, 16, 17, 18, 19, 20, 21, 22, 23, 24, 25, 26, 27] [0, 1, 2, 3, 4, 5, 6, 7, 8, 9, 10, 11, 12, 28] rfl rfl (by decide) (by decide) hk1 hFc hP1 hD1
    generalize H1 = H at hP hS ⊢
    have hP : va_P (dC, dI) vwCl (wLaw cI cJ ad5 ad6 qo n ev ld0 ld1 ld2 tk mb f0 f1 f2 fr fu m_code' m_n m_built m_length m_begin m_many m_leastOf m_sizeOf m_own m_bestRow m_tryRow m_keptRow m_otherRow m_row m_formRow m_allForms m_rowsOf m_intervals m_places m_whole' fo) H := hP.sub [0, 1, 2, 3, 4, 5, 6, 7, 8, 9, 10, 11, 12, 14, 15, 16, 17, 18, 19, 20, 21, 22, 23, 24, 25, 26, 27, 28, 13] rfl
    have hD : va_D (fun q : Nat => s.heap.size ≤ q) (wLaw cI cJ ad5 ad6 qo n ev ld0 ld1 ld2 tk mb f0 f1 f2 fr fu m_code' m_n m_built m_length m_begin m_many m_leastOf m_sizeOf m_own m_bestRow m_tryRow m_keptRow m_otherRow m_row m_formRow m_allForms m_rowsOf m_intervals m_places m_whole' fo) := hD.sub [0, 1, 2, 3, 4, 5, 6, 7, 8, 9, 10, 11, 12, 14, 15, 16, 17, 18, 19, 20, 21, 22, 23, 24, 25, 26, 27, 28, 13] (by decide) rfl
    refine W.lcmp hx hb dL_law_1312 ?_
    refine lv_if_eq (tgt := 1318) hx hb dL_law_1313 (by decide) (fun _ => ?_) (fun q9 => absurd (lg_cmp_self r) q9)
    exact kk _ _ hP hD hS
