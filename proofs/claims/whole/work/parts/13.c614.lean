abbrev rmX6_piece : Room := { frames := 0, cells := 0, slots := 0, locals := 0 }
set_option maxHeartbeats 4000000 in
set_option maxRecDepth 100000 in
theorem c_X6_piece (l : Launch) (dC : Nat → ClassId) (dI : Nat → Nat → Nat) (cI cJ : ClassId) (ad : Nat → Nat) (m_code : Int32) (m_n : Int32) (m_built : Int32) (m_length : Int32) (m_begin : Int32) (m_many : Int32) (m_leastOf : Nat → Int32) (m_sizeOf : Nat → Int32) (m_own : Nat → Int32) (m_bestRow : Nat → Int32) (m_tryRow : Nat → Int32) (m_keptRow : Nat → Int32) (m_otherRow : Nat → Int32) (m_row : Nat → Int32) (m_formRow : Nat → Int32) (m_allForms : Nat → Int32) (m_rowsOf : Nat → Int32) (m_intervals : Nat → Int32) (m_places : Nat → Int32) (m_whole : Nat → Int64) (x1 : Int32) (x2 : Int32) (r : Int32) (hF : FX6_piece m_row x1 x2 = some r) : Met l yX6_piece wsX6_piece rmX6_piece (roP (dC, dI) [(cI, .int), (cJ, .long)] (wX6 cI cJ ad m_code m_n m_built m_length m_begin m_many m_leastOf m_sizeOf m_own m_bestRow m_tryRow m_keptRow m_otherRow m_row m_formRow m_allForms m_rowsOf m_intervals m_places m_whole) [.ref (ad 0), .int x1, .int x2]) (vp_Si (fun x => x = r)) 0 0 (fun _ => False) := by
  refine ro_start (cc := cX6_piece) (maxL := 5) (ret := (some .int)) (by decide) rfl (Nat.le_of_ble_eq_true rfl) ?_
  intro p e s m args below meth c ls hx hb hml hr hlk hown hts hP hK hl
  have hown : s.vm.findClass RX6 = some m.cls := hown
  have hl : lv_has ls 5 [(0, .ref (ad 0)), (1, .int x1), (2, .int x2)] := hl
  have h : Ho (FX6_piece m_row x1 x2) (fun x => x = r) := ⟨r, hF, rfl⟩
  unfold FX6_piece at h
  have hfix : CallFix p m c cX6_piece 5 s args wsX6_piece RX6 := ⟨hx, hb, hml, hown, hts⟩
  have hiX6 : ∀ w ∈ u_ws RX6 TX6 20, w ∈ wsX6_piece := by decide +kernel
  have hf35 := hts (.fieldLink RX6 35 "RowClassesModel" "row" "[I") (by decide +kernel)
  have J31 : ∀ (v3 : Int32) (ls : Array Slot), lv_has ls 5 [(3, .int v3)] → Ho (X6_piece_31 v3) (fun x => x = r) → W p l e rmX6_piece s m args below meth c s.heap [] 0 0 (MQ below (vp_Si (fun x => x = r)) args s 0 0 (fun _ => False)) (F0 m 31 ls []) := by
    intro v3 ls hl h
    unfold X6_piece_31 at h
    refine lv_iload_n hx hb dX6_piece_31 rfl (lv_at hl 0 rfl) ?_
    exact W.iret hx hb hr (fun t ht _ => ro_Si (Ho_e h) ht) ro_nil dX6_piece_32 hlk
  have J5 : ∀ (v3 : Int32) (v4 : Int32) (ls : Array Slot), lv_has ls 5 [(0, .ref (ad 0)), (1, .int x1), (2, .int x2), (3, .int v3), (4, .int v4)] → Ho ((X6_piece_5_l m_row x1 x2 v3 v4).bind (fun ex => X6_piece_31 ex)) (fun x => x = r) → W p l e rmX6_piece s m args below meth c s.heap [] 0 0 (MQ below (vp_Si (fun x => x = r)) args s 0 0 (fun _ => False)) (F0 m 5 ls []) := by
    intro v3 v4 ls hl h
    refine loop_use2 (fun z : Int32 × Int32 => ∀ (ls : Array Slot), lv_has ls 5 [(0, .ref (ad 0)), (1, .int x1), (2, .int x2), (3, .int z.1), (4, .int z.2)] → W p l e rmX6_piece s m args below meth c s.heap [] 0 0 (MQ below (vp_Si (fun x => x = r)) args s 0 0 (fun _ => False)) (F0 m 5 ls [])) ?_ FU _ h ls hl
    intro Q5 hi5 ho5 z h ls hl
    obtain ⟨v3, v4⟩ := z
    have h : Ho (X6_piece_5_s m_row x1 x2 v3 v4) Q5 := h
    unfold X6_piece_5_s at h
    have hl : lv_has ls 5 [(0, .ref (ad 0)), (1, .int x1), (2, .int x2), (3, .int v3), (4, .int v4)] := hl
    refine lv_iload hx hb dX6_piece_5 (lv_at hl 4 rfl) ?_
    refine lv_iload_n hx hb dX6_piece_7 rfl (lv_at hl 2 rfl) ?_
    refine lv_icmp_ge (tgt := 31) hx hb dX6_piece_8 (by decide) (fun q8 => ?_) (fun q8 => ?_)
    · have h := Ho_t h q8
      have h := ho5 _ (Ho_s h)
      exact J31 v3 ls (lv_sub hl [3] rfl) h
    · have h := Ho_f h q8
      refine lv_iload_n hx hb dX6_piece_11 rfl (lv_at hl 3 rfl) ?_
      refine lv_iconst (v := (1 : Int32)) hx hb dX6_piece_12 (by decide) ?_
      refine lv_aload_n hx hb dX6_piece_13 rfl (lv_at hl 0 rfl) ?_
      refine va_get (D := (dC, dI)) (ci := 6) (v := .ref (ad 8)) (C := RX6) (T := TX6) (N := 20) hx hb hts hiX6 hown hK.1 hP 0 rfl rfl 13 (by decide) hf35 (fun _ h9 => h9) rfl dX6_piece_14 ?_
      refine lv_iload_n hx hb dX6_piece_17 rfl (lv_at hl 1 rfl) ?_
      refine lv_iload hx hb dX6_piece_18 (lv_at hl 4 rfl) ?_
      refine lv_iadd hx hb dX6_piece_20 ?_
      obtain ⟨hz21, h⟩ := Ho_ix h
      refine va_iald hx hb hK.1 hP 8 0 rfl rfl hz21 dX6_piece_21 ?_
      refine lv_ishl hx hb dX6_piece_22 ?_
      refine lv_ior hx hb dX6_piece_23 ?_
      refine lv_istore_n (lv' := [(3, .int (v3 ||| ((1 : Int32) <<< ((m_row (x1 + v4).toNatClampNeg) &&& 31)))), (0, .ref (ad 0)), (1, .int x1), (2, .int x2), (4, .int v4)]) hx hb dX6_piece_24 rfl hl (by decide) rfl (fun ls hl => ?_)
      refine lv_iinc (v := v4 + 1) (lv' := [(4, .int (v4 + 1)), (3, .int (v3 ||| ((1 : Int32) <<< ((m_row (x1 + v4).toNatClampNeg) &&& 31)))), (0, .ref (ad 0)), (1, .int x1), (2, .int x2)]) hx hb dX6_piece_25 hl (k := 4) rfl rfl (by decide) rfl (fun ls hl => ?_)
      refine lv_goto (tgt := 5) hx hb dX6_piece_28 (by decide) ?_
      exact hi5 _ (Ho_s h) ls (lv_sub hl [2, 3, 4, 1, 0] rfl)
  refine lv_iconst (v := (0 : Int32)) hx hb dX6_piece_0 (by decide) ?_
  refine lv_istore_n (lv' := [(3, .int (0 : Int32)), (0, .ref (ad 0)), (1, .int x1), (2, .int x2)]) hx hb dX6_piece_1 rfl hl (by decide) rfl (fun ls hl => ?_)
  refine lv_iconst (v := (0 : Int32)) hx hb dX6_piece_2 (by decide) ?_
  refine lv_istore (lv' := [(4, .int (0 : Int32)), (3, .int (0 : Int32)), (0, .ref (ad 0)), (1, .int x1), (2, .int x2)]) hx hb dX6_piece_3 hl (by decide) rfl (fun ls hl => ?_)
  exact J5 (0 : Int32) (0 : Int32) ls (lv_sub hl [2, 3, 4, 1, 0] rfl) h
abbrev rmX6_derived : Room := { frames := 5, cells := 0, slots := 0, locals := 115 }
set_option maxHeartbeats 4000000 in
set_option maxRecDepth 100000 in
theorem c_X6_derived (l : Launch) (dC : Nat → ClassId) (dI : Nat → Nat → Nat) (cI cJ : ClassId) (ad : Nat → Nat) (sz : Nat) (m_code : Int32) (m_n : Int32) (m_built : Int32) (m_length : Int32) (m_begin : Int32) (m_many : Int32) (m_leastOf : Nat → Int32) (m_sizeOf : Nat → Int32) (m_own : Nat → Int32) (m_bestRow : Nat → Int32) (m_tryRow : Nat → Int32) (m_keptRow : Nat → Int32) (m_otherRow : Nat → Int32) (m_row : Nat → Int32) (m_formRow : Nat → Int32) (m_allForms : Nat → Int32) (m_rowsOf : Nat → Int32) (m_intervals : Nat → Int32) (m_places : Nat → Int32) (m_whole : Nat → Int64) (x1 : Int32) (x2 : Int32) (r : Int32) (m_code' : Int32) (m_built' : Int32) (m_leastOf' : Nat → Int32) (m_sizeOf' : Nat → Int32) (hF : FX6_derived m_code m_n m_built m_many m_leastOf m_sizeOf m_row x1 x2 = some (r, m_code', m_built', m_leastOf', m_sizeOf')) : Met l yX6_derived wsX6_derived rmX6_derived (rwP (dC, dI) [(cI, .int), (cJ, .long)] sz (wX6 cI cJ ad m_code m_n m_built m_length m_begin m_many m_leastOf m_sizeOf m_own m_bestRow m_tryRow m_keptRow m_otherRow m_row m_formRow m_allForms m_rowsOf m_intervals m_places m_whole) [.ref (ad 0), .int x1, .int x2]) (va_Qi (fun (x : Int32) (_ : Unit) => x = r) (fun _ t => va_P (dC, dI) vwCl (wX6 cI cJ ad m_code' m_n m_built' m_length m_begin m_many m_leastOf' m_sizeOf' m_own m_bestRow m_tryRow m_keptRow m_otherRow m_row m_formRow m_allForms m_rowsOf m_intervals m_places m_whole) t.heap ∧ vK (dC, dI) [(cI, .int), (cJ, .long)] t ∧ va_D (va_A (wX6 cI cJ ad m_code m_n m_built m_length m_begin m_many m_leastOf m_sizeOf m_own m_bestRow m_tryRow m_keptRow m_otherRow m_row m_formRow m_allForms m_rowsOf m_intervals m_places m_whole) sz) (wX6 cI cJ ad m_code' m_n m_built' m_length m_begin m_many m_leastOf' m_sizeOf' m_own m_bestRow m_tryRow m_keptRow m_otherRow m_row m_formRow m_allForms m_rowsOf m_intervals m_places m_whole)) (va_A (wX6 cI cJ ad m_code m_n m_built m_length m_begin m_many m_leastOf m_sizeOf m_own m_bestRow m_tryRow m_keptRow m_otherRow m_row m_formRow m_allForms m_rowsOf m_intervals m_places m_whole) sz)) 0 0 (va_A (wX6 cI cJ ad m_code m_n m_built m_length m_begin m_many m_leastOf m_sizeOf m_own m_bestRow m_tryRow m_keptRow m_otherRow m_row m_formRow m_allForms m_rowsOf m_intervals m_places m_whole) sz) := by
  refine rw_start (cc := cX6_derived) (maxL := 5) (ret := (some .int)) (by decide) rfl (Nat.le_of_ble_eq_true rfl) ?_
  intro p e s m args below meth c ls A H locs hx hb hml hr hlk hown hts hsz hP hK hD hA hS hAe hl
  have hown : s.vm.findClass RX6 = some m.cls := hown
  have hl : lv_has ls 5 [(0, .ref (ad 0)), (1, .int x1), (2, .int x2)] := hl
  have h : Ho (FX6_derived m_code m_n m_built m_many m_leastOf m_sizeOf m_row x1 x2) (fun x => x = (r, m_code', m_built', m_leastOf', m_sizeOf')) := ⟨_, hF, rfl⟩
  unfold FX6_derived at h
  have QI : ∀ {v0 : Int32} {m_code9 : Int32} {m_built9 : Int32} {m_leastOf9 : Nat → Int32} {m_sizeOf9 : Nat → Int32} {t : State}, (v0, m_code9, m_built9, m_leastOf9, m_sizeOf9) = (r, m_code', m_built', m_leastOf', m_sizeOf') → va_P (dC, dI) vwCl (wX6 cI cJ ad m_code9 m_n m_built9 m_length m_begin m_many m_leastOf9 m_sizeOf9 m_own m_bestRow m_tryRow m_keptRow m_otherRow m_row m_formRow m_allForms m_rowsOf m_intervals m_places m_whole) t.heap → vK (dC, dI) [(cI, .int), (cJ, .long)] t → va_D A (wX6 cI cJ ad m_code9 m_n m_built9 m_length m_begin m_many m_leastOf9 m_sizeOf9 m_own m_bestRow m_tryRow m_keptRow m_otherRow m_row m_formRow m_allForms m_rowsOf m_intervals m_places m_whole) → va_F A s t → (va_Qi (fun (x : Int32) (_ : Unit) => x = r) (fun _ t => va_P (dC, dI) vwCl (wX6 cI cJ ad m_code' m_n m_built' m_length m_begin m_many m_leastOf' m_sizeOf' m_own m_bestRow m_tryRow m_keptRow m_otherRow m_row m_formRow m_allForms m_rowsOf m_intervals m_places m_whole) t.heap ∧ vK (dC, dI) [(cI, .int), (cJ, .long)] t ∧ va_D (va_A (wX6 cI cJ ad m_code m_n m_built m_length m_begin m_many m_leastOf m_sizeOf m_own m_bestRow m_tryRow m_keptRow m_otherRow m_row m_formRow m_allForms m_rowsOf m_intervals m_places m_whole) sz) (wX6 cI cJ ad m_code' m_n m_built' m_length m_begin m_many m_leastOf' m_sizeOf' m_own m_bestRow m_tryRow m_keptRow m_otherRow m_row m_formRow m_allForms m_rowsOf m_intervals m_places m_whole)) (va_A (wX6 cI cJ ad m_code m_n m_built m_length m_begin m_many m_leastOf m_sizeOf m_own m_bestRow m_tryRow m_keptRow m_otherRow m_row m_formRow m_allForms m_rowsOf m_intervals m_places m_whole) sz)) args s (.returned (some (.int v0))) t := by
    intro v0 m_code9 m_built9 m_leastOf9 m_sizeOf9 t e9 q1 q2 q3 q4
    cases e9
    subst hAe
    exact ⟨⟨_, (), rfl, rfl, q1, q2, q3⟩, q4⟩
  have hfix : CallFix p m c cX6_derived 5 s args wsX6_derived RX6 := ⟨hx, hb, hml, hown, hts⟩
  have hiX6 : ∀ w ∈ u_ws RX6 TX6 20, w ∈ wsX6_derived := by decide +kernel
  have hf7 := hts (.fieldLink RX6 7 "RowClassesModel" "n" "I") (by decide +kernel)
  have hf57 := hts (.fieldLink RX6 57 "RowClassesModel" "code" "I") (by decide +kernel)
  have hf60 := hts (.fieldLink RX6 60 "RowClassesModel" "many" "I") (by decide +kernel)
  have J111 : ∀ (m_codek : Int32) (m_builtk : Int32) (m_leastOfk : Nat → Int32) (m_sizeOfk : Nat → Int32) (v3 : Int32) (H : Heap) (locs : List Loc) (ls : Array Slot), va_P (dC, dI) vwCl (wX6 cI cJ ad m_codek m_n m_builtk m_length m_begin m_many m_leastOfk m_sizeOfk m_own m_bestRow m_tryRow m_keptRow m_otherRow m_row m_formRow m_allForms m_rowsOf m_intervals m_places m_whole) H → va_D A (wX6 cI cJ ad m_codek m_n m_builtk m_length m_begin m_many m_leastOfk m_sizeOfk m_own m_bestRow m_tryRow m_keptRow m_otherRow m_row m_formRow m_allForms m_rowsOf m_intervals m_places m_whole) → va_S A s.heap H locs → lv_has ls 5 [(3, .int v3)] → Ho (X6_derived_111 m_codek m_builtk m_leastOfk m_sizeOfk v3) (fun x => x = (r, m_code', m_built', m_leastOf', m_sizeOf')) → W p l e rmX6_derived s m args below meth c H locs 0 0 (MQ below (va_Qi (fun (x : Int32) (_ : Unit) => x = r) (fun _ t => va_P (dC, dI) vwCl (wX6 cI cJ ad m_code' m_n m_built' m_length m_begin m_many m_leastOf' m_sizeOf' m_own m_bestRow m_tryRow m_keptRow m_otherRow m_row m_formRow m_allForms m_rowsOf m_intervals m_places m_whole) t.heap ∧ vK (dC, dI) [(cI, .int), (cJ, .long)] t ∧ va_D (va_A (wX6 cI cJ ad m_code m_n m_built m_length m_begin m_many m_leastOf m_sizeOf m_own m_bestRow m_tryRow m_keptRow m_otherRow m_row m_formRow m_allForms m_rowsOf m_intervals m_places m_whole) sz) (wX6 cI cJ ad m_code' m_n m_built' m_length m_begin m_many m_leastOf' m_sizeOf' m_own m_bestRow m_tryRow m_keptRow m_otherRow m_row m_formRow m_allForms m_rowsOf m_intervals m_places m_whole)) (va_A (wX6 cI cJ ad m_code m_n m_built m_length m_begin m_many m_leastOf m_sizeOf m_own m_bestRow m_tryRow m_keptRow m_otherRow m_row m_formRow m_allForms m_rowsOf m_intervals m_places m_whole) sz)) args s 0 0 A) (F0 m 111 ls []) := by
    intro m_codek m_builtk m_leastOfk m_sizeOfk v3 H locs ls hP hD hS hl h
    unfold X6_derived_111 at h
    refine lv_iload_n hx hb dX6_derived_111 rfl (lv_at hl 0 rfl) ?_
    refine lv_if_eq (tgt := 119) hx hb dX6_derived_112 (by decide) (fun q112 => ?_) (fun q112 => ?_)
    · have h := Ho_t h q112
      refine lv_iconst (v := (0 : Int32)) hx hb dX6_derived_119 (by decide) ?_
      exact W.iret hx hb hr (fun t ht hW => QI (Ho_e h) (by rw [ht]; exact hP) (hK.warm hW) hD (hS.F ht)) hS.2.2 dX6_derived_120 hlk
    · have h := Ho_f h q112
      refine lv_iconst (v := (1 : Int32)) hx hb dX6_derived_115 (by decide) ?_
      refine lv_goto (tgt := 120) hx hb dX6_derived_116 (by decide) ?_
      exact W.iret hx hb hr (fun t ht hW => QI (Ho_e h) (by rw [ht]; exact hP) (hK.warm hW) hD (hS.F ht)) hS.2.2 dX6_derived_120 hlk
  have J57 : ∀ (m_codek : Int32) (m_builtk : Int32) (m_leastOfk : Nat → Int32) (m_sizeOfk : Nat → Int32) (v3 : Int32) (v4 : Int32) (H : Heap) (locs : List Loc) (ls : Array Slot), va_P (dC, dI) vwCl (wX6 cI cJ ad m_codek m_n m_builtk m_length m_begin m_many m_leastOfk m_sizeOfk m_own m_bestRow m_tryRow m_keptRow m_otherRow m_row m_formRow m_allForms m_rowsOf m_intervals m_places m_whole) H → va_D A (wX6 cI cJ ad m_codek m_n m_builtk m_length m_begin m_many m_leastOfk m_sizeOfk m_own m_bestRow m_tryRow m_keptRow m_otherRow m_row m_formRow m_allForms m_rowsOf m_intervals m_places m_whole) → va_S A s.heap H locs → lv_has ls 5 [(0, .ref (ad 0)), (1, .int x1), (2, .int x2), (3, .int v3), (4, .int v4)] → Ho ((X6_derived_57_l m_n m_row x1 x2 m_codek m_builtk m_leastOfk m_sizeOfk v3 v4).bind (fun ex => X6_derived_111 m_codek ex.1 ex.2.1 ex.2.2.1 ex.2.2.2)) (fun x => x = (r, m_code', m_built', m_leastOf', m_sizeOf')) → W p l e rmX6_derived s m args below meth c H locs 0 0 (MQ below (va_Qi (fun (x : Int32) (_ : Unit) => x = r) (fun _ t => va_P (dC, dI) vwCl (wX6 cI cJ ad m_code' m_n m_built' m_length m_begin m_many m_leastOf' m_sizeOf' m_own m_bestRow m_tryRow m_keptRow m_otherRow m_row m_formRow m_allForms m_rowsOf m_intervals m_places m_whole) t.heap ∧ vK (dC, dI) [(cI, .int), (cJ, .long)] t ∧ va_D (va_A (wX6 cI cJ ad m_code m_n m_built m_length m_begin m_many m_leastOf m_sizeOf m_own m_bestRow m_tryRow m_keptRow m_otherRow m_row m_formRow m_allForms m_rowsOf m_intervals m_places m_whole) sz) (wX6 cI cJ ad m_code' m_n m_built' m_length m_begin m_many m_leastOf' m_sizeOf' m_own m_bestRow m_tryRow m_keptRow m_otherRow m_row m_formRow m_allForms m_rowsOf m_intervals m_places m_whole)) (va_A (wX6 cI cJ ad m_code m_n m_built m_length m_begin m_many m_leastOf m_sizeOf m_own m_bestRow m_tryRow m_keptRow m_otherRow m_row m_formRow m_allForms m_rowsOf m_intervals m_places m_whole) sz)) args s 0 0 A) (F0 m 57 ls []) := by
    intro m_codek m_builtk m_leastOfk m_sizeOfk v3 v4 H locs ls hP hD hS hl h
    refine loop_use2 (fun z : Int32 × (Nat → Int32) × (Nat → Int32) × Int32 × Int32 => ∀ (H : Heap) (locs : List Loc) (ls : Array Slot), va_P (dC, dI) vwCl (wX6 cI cJ ad m_codek m_n z.1 m_length m_begin m_many z.2.1 z.2.2.1 m_own m_bestRow m_tryRow m_keptRow m_otherRow m_row m_formRow m_allForms m_rowsOf m_intervals m_places m_whole) H → va_D A (wX6 cI cJ ad m_codek m_n z.1 m_length m_begin m_many z.2.1 z.2.2.1 m_own m_bestRow m_tryRow m_keptRow m_otherRow m_row m_formRow m_allForms m_rowsOf m_intervals m_places m_whole) → va_S A s.heap H locs → lv_has ls 5 [(0, .ref (ad 0)), (1, .int x1), (2, .int x2), (3, .int z.2.2.2.1), (4, .int z.2.2.2.2)] → W p l e rmX6_derived s m args below meth c H locs 0 0 (MQ below (va_Qi (fun (x : Int32) (_ : Unit) => x = r) (fun _ t => va_P (dC, dI) vwCl (wX6 cI cJ ad m_code' m_n m_built' m_length m_begin m_many m_leastOf' m_sizeOf' m_own m_bestRow m_tryRow m_keptRow m_otherRow m_row m_formRow m_allForms m_rowsOf m_intervals m_places m_whole) t.heap ∧ vK (dC, dI) [(cI, .int), (cJ, .long)] t ∧ va_D (va_A (wX6 cI cJ ad m_code m_n m_built m_length m_begin m_many m_leastOf m_sizeOf m_own m_bestRow m_tryRow m_keptRow m_otherRow m_row m_formRow m_allForms m_rowsOf m_intervals m_places m_whole) sz) (wX6 cI cJ ad m_code' m_n m_built' m_length m_begin m_many m_leastOf' m_sizeOf' m_own m_bestRow m_tryRow m_keptRow m_otherRow m_row m_formRow m_allForms m_rowsOf m_intervals m_places m_whole)) (va_A (wX6 cI cJ ad m_code m_n m_built m_length m_begin m_many m_leastOf m_sizeOf m_own m_bestRow m_tryRow m_keptRow m_otherRow m_row m_formRow m_allForms m_rowsOf m_intervals m_places m_whole) sz)) args s 0 0 A) (F0 m 57 ls [])) ?_ FU _ h H locs ls hP hD hS hl
    intro Q57 hi57 ho57 z h H locs ls hP hD hS hl
    obtain ⟨m_builtk, m_leastOfk, m_sizeOfk, v3, v4⟩ := z
    have h : Ho (X6_derived_57_s m_n m_row x1 x2 m_codek m_builtk m_leastOfk m_sizeOfk v3 v4) Q57 := h
    unfold X6_derived_57_s at h
    have hl : lv_has ls 5 [(0, .ref (ad 0)), (1, .int x1), (2, .int x2), (3, .int v3), (4, .int v4)] := hl
    have hP : va_P (dC, dI) vwCl (wX6 cI cJ ad m_codek m_n m_builtk m_length m_begin m_many m_leastOfk m_sizeOfk m_own m_bestRow m_tryRow m_keptRow m_otherRow m_row m_formRow m_allForms m_rowsOf m_intervals m_places m_whole) H := hP
    have hD : va_D A (wX6 cI cJ ad m_codek m_n m_builtk m_length m_begin m_many m_leastOfk m_sizeOfk m_own m_bestRow m_tryRow m_keptRow m_otherRow m_row m_formRow m_allForms m_rowsOf m_intervals m_places m_whole) := hD
    refine lv_iload hx hb dX6_derived_57 (lv_at hl 4 rfl) ?_
    refine lv_aload_n hx hb dX6_derived_59 rfl (lv_at hl 0 rfl) ?_
    refine va_get (D := (dC, dI)) (ci := 6) (v := .int m_n) (C := RX6) (T := TX6) (N := 20) hx hb hts hiX6 hown hK.1 hP 0 rfl rfl 1 (by decide) hf7 (fun _ h9 => h9) rfl dX6_derived_60 ?_
    refine lv_icmp_ge (tgt := 111) hx hb dX6_derived_63 (by decide) (fun q63 => ?_) (fun q63 => ?_)
    · have h := Ho_t h q63
      have h := ho57 _ (Ho_s h)
      exact J111 m_codek m_builtk m_leastOfk m_sizeOfk v3 _ _ ls hP hD hS (lv_sub hl [3] rfl) h
    · have h := Ho_f h q63
      refine lv_iload_n hx hb dX6_derived_66 rfl (lv_at hl 3 rfl) ?_
      refine lv_if_eq (tgt := 100) hx hb dX6_derived_67 (by decide) (fun q67 => ?_) (fun q67 => ?_)
      · have h := Ho_t h q67
        refine lv_iconst (v := (0 : Int32)) hx hb dX6_derived_100 (by decide) ?_
        refine lv_istore_n (lv' := [(3, .int (0 : Int32)), (0, .ref (ad 0)), (1, .int x1), (2, .int x2), (4, .int v4)]) hx hb dX6_derived_101 rfl hl (by decide) rfl (fun ls hl => ?_)
        refine lv_iload hx hb dX6_derived_102 (lv_at hl 4 rfl) ?_
        refine lv_iload_n hx hb dX6_derived_104 rfl (lv_at hl 2 rfl) ?_
        refine lv_iadd hx hb dX6_derived_105 ?_
        refine lv_istore (lv' := [(4, .int (v4 + x1)), (3, .int (0 : Int32)), (0, .ref (ad 0)), (1, .int x1), (2, .int x2)]) hx hb dX6_derived_106 hl (by decide) rfl (fun ls hl => ?_)
        refine lv_goto (tgt := 57) hx hb dX6_derived_108 (by decide) ?_
        exact hi57 _ (Ho_s h) _ _ ls hP hD hS (lv_sub hl [2, 3, 4, 1, 0] rfl)
      · have h := Ho_f h q67
        refine lv_aload_n hx hb dX6_derived_70 rfl (lv_at hl 0 rfl) ?_
        refine lv_iload_n hx hb dX6_derived_71 rfl (lv_at hl 2 rfl) ?_
        refine lv_aload_n hx hb dX6_derived_72 rfl (lv_at hl 0 rfl) ?_
        refine lv_iload hx hb dX6_derived_73 (lv_at hl 4 rfl) ?_
        refine lv_iload_n hx hb dX6_derived_75 rfl (lv_at hl 1 rfl) ?_
        obtain ⟨r76, hc76, h⟩ := Ho_b h
        have hPc : va_P (dC, dI) vwCl (wX6 cI cJ ad m_codek m_n m_builtk m_length m_begin m_many m_leastOfk m_sizeOfk m_own m_bestRow m_tryRow m_keptRow m_otherRow m_row m_formRow m_allForms m_rowsOf m_intervals m_places m_whole) H := hP.sub [0, 1, 2, 3, 4, 5, 6, 7, 8, 9, 10, 11, 12, 13, 14] rfl
        refine cs_i (va_runV (As := [.int v4, .int x1]) (rest := [.int x2, .ref (ad 0)]) hfix (c_X6_piece l dC dI cI cJ ad m_codek m_n m_builtk m_length m_begin m_many m_leastOfk m_sizeOfk m_own m_bestRow m_tryRow m_keptRow m_otherRow m_row m_formRow m_allForms m_rowsOf m_intervals m_places m_whole v4 x1 _ hc76) (cwV 2 hts gX6_derived_X6_piece rfl rfl rfl (by decide +kernel) ⟨by decide, by decide⟩) (roP.preV hK hPc (ci := 6) rfl rfl) rfl rfl hl.1 rfl (lv_room (Nat.le_of_ble_eq_true rfl)) dX6_derived_76 ⟨Nat.zero_le _, Nat.zero_le _⟩) ?_
        obtain ⟨r79, m_built_79, m_leastOf_79, m_sizeOf_79, hc79, h⟩ := Ho_b4 h
        have hPc : va_P (dC, dI) vwCl (wX6 cI cJ ad m_codek m_n m_builtk m_length m_begin m_many m_leastOfk m_sizeOfk m_own m_bestRow m_tryRow m_keptRow m_otherRow m_row m_formRow m_allForms m_rowsOf m_intervals m_places m_whole) H := hP.sub [0, 1, 2, 3, 4, 5, 6, 7, 8, 9, 10, 11, 12, 13, 14] rfl
        have hDc : va_D A (wX6 cI cJ ad m_codek m_n m_builtk m_length m_begin m_many m_leastOfk m_sizeOfk m_own m_bestRow m_tryRow m_keptRow m_otherRow m_row m_formRow m_allForms m_rowsOf m_intervals m_places m_whole) := hD.sub [0, 1, 2, 3, 4, 5, 6, 7, 8, 9, 10, 11, 12, 13, 14] (by decide) rfl
        have hFc := va_free (wc := (wX6 cI cJ ad m_codek m_n m_builtk m_length m_begin m_many m_leastOfk m_sizeOfk m_own m_bestRow m_tryRow m_keptRow m_otherRow m_row m_formRow m_allForms m_rowsOf m_intervals m_places m_whole)) hD hS hA [0, 1, 2, 3, 4, 5, 6, 7, 8, 9, 10, 11, 12, 13, 14] rfl
        refine va_calli (va_runV (As := [.int x2, .int r76]) (rest := []) hfix (c_X6_leastIn l dC dI cI cJ ad H.size m_codek m_n m_builtk m_length m_begin m_many m_leastOfk m_sizeOfk m_own m_bestRow m_tryRow m_keptRow m_otherRow m_row m_formRow m_allForms m_rowsOf m_intervals m_places m_whole x2 r76 _ _ _ _ hc79) (cwV 2 hts gX6_derived_X6_leastIn rfl rfl rfl (by decide +kernel) ⟨by decide, by decide⟩) (rwP.preV hK hPc hDc rfl (ci := 6) rfl rfl) rfl rfl hl.1 rfl (lv_room (Nat.le_of_ble_eq_true rfl)) dX6_derived_79 ⟨Nat.zero_le _, Nat.zero_le _⟩) hS (fun q _ h => hFc q h) hFc (fun y79 u t H1 locs ht hvm hw hB hz1 hk1 hS => ?_)
        obtain ⟨hP1, -, hD1⟩ := hB
        rw [ht] at hP1
        have hw : y79 = r79 := hw
        rw [hw]
        obtain ⟨hP, hD⟩ := va_join (wr := []) (w1 := (wX6 cI cJ ad m_codek m_n m_built_79 m_length m_begin m_many m_leastOf_79 m_sizeOf_79 m_own m_bestRow m_tryRow m_keptRow m_otherRow m_row m_formRow m_allForms m_rowsOf m_intervals m_places m_whole)) hP hD [0, 1, 2, 3, 4, 5, 6, 7, 8, 9, 10, 11, 12, 13, 14] [] rfl rfl (by decide) (by decide) hk1 hFc hP1 hD1
        generalize H1 = H at hP hS ⊢
        have hP : va_P (dC, dI) vwCl (wX6 cI cJ ad m_codek m_n m_built_79 m_length m_begin m_many m_leastOf_79 m_sizeOf_79 m_own m_bestRow m_tryRow m_keptRow m_otherRow m_row m_formRow m_allForms m_rowsOf m_intervals m_places m_whole) H := hP.sub [0, 1, 2, 3, 4, 5, 6, 7, 8, 9, 10, 11, 12, 13, 14] rfl
        have hD : va_D A (wX6 cI cJ ad m_codek m_n m_built_79 m_length m_begin m_many m_leastOf_79 m_sizeOf_79 m_own m_bestRow m_tryRow m_keptRow m_otherRow m_row m_formRow m_allForms m_rowsOf m_intervals m_places m_whole) := hD.sub [0, 1, 2, 3, 4, 5, 6, 7, 8, 9, 10, 11, 12, 13, 14] (by decide) rfl
        refine lv_aload_n hx hb dX6_derived_82 rfl (lv_at hl 0 rfl) ?_
        refine lv_iload_n hx hb dX6_derived_83 rfl (lv_at hl 2 rfl) ?_
        refine lv_aload_n hx hb dX6_derived_84 rfl (lv_at hl 0 rfl) ?_
        refine lv_iconst (v := (0 : Int32)) hx hb dX6_derived_85 (by decide) ?_
        refine lv_iload_n hx hb dX6_derived_86 rfl (lv_at hl 1 rfl) ?_
        obtain ⟨r87, hc87, h⟩ := Ho_b h
        have hPc : va_P (dC, dI) vwCl (wX6 cI cJ ad m_codek m_n m_built_79 m_length m_begin m_many m_leastOf_79 m_sizeOf_79 m_own m_bestRow m_tryRow m_keptRow m_otherRow m_row m_formRow m_allForms m_rowsOf m_intervals m_places m_whole) H := hP.sub [0, 1, 2, 3, 4, 5, 6, 7, 8, 9, 10, 11, 12, 13, 14] rfl
        refine cs_i (va_runV (As := [.int (0 : Int32), .int x1]) (rest := [.int x2, .ref (ad 0), .int r79]) hfix (c_X6_piece l dC dI cI cJ ad m_codek m_n m_built_79 m_length m_begin m_many m_leastOf_79 m_sizeOf_79 m_own m_bestRow m_tryRow m_keptRow m_otherRow m_row m_formRow m_allForms m_rowsOf m_intervals m_places m_whole (0 : Int32) x1 _ hc87) (cwV 2 hts gX6_derived_X6_piece rfl rfl rfl (by decide +kernel) ⟨by decide, by decide⟩) (roP.preV hK hPc (ci := 6) rfl rfl) rfl rfl hl.1 rfl (lv_room (Nat.le_of_ble_eq_true rfl)) dX6_derived_87 ⟨Nat.zero_le _, Nat.zero_le _⟩) ?_
        obtain ⟨r90, m_built_90, m_leastOf_90, m_sizeOf_90, hc90, h⟩ := Ho_b4 h
        have hPc : va_P (dC, dI) vwCl (wX6 cI cJ ad m_codek m_n m_built_79 m_length m_begin m_many m_leastOf_79 m_sizeOf_79 m_own m_bestRow m_tryRow m_keptRow m_otherRow m_row m_formRow m_allForms m_rowsOf m_intervals m_places m_whole) H := hP.sub [0, 1, 2, 3, 4, 5, 6, 7, 8, 9, 10, 11, 12, 13, 14] rfl
        have hDc : va_D A (wX6 cI cJ ad m_codek m_n m_built_79 m_length m_begin m_many m_leastOf_79 m_sizeOf_79 m_own m_bestRow m_tryRow m_keptRow m_otherRow m_row m_formRow m_allForms m_rowsOf m_intervals m_places m_whole) := hD.sub [0, 1, 2, 3, 4, 5, 6, 7, 8, 9, 10, 11, 12, 13, 14] (by decide) rfl
        have hFc := va_free (wc := (wX6 cI cJ ad m_codek m_n m_built_79 m_length m_begin m_many m_leastOf_79 m_sizeOf_79 m_own m_bestRow m_tryRow m_keptRow m_otherRow m_row m_formRow m_allForms m_rowsOf m_intervals m_places m_whole)) hD hS hA [0, 1, 2, 3, 4, 5, 6, 7, 8, 9, 10, 11, 12, 13, 14] rfl
        refine va_calli (va_runV (As := [.int x2, .int r87]) (rest := [.int r79]) hfix (c_X6_leastIn l dC dI cI cJ ad H.size m_codek m_n m_built_79 m_length m_begin m_many m_leastOf_79 m_sizeOf_79 m_own m_bestRow m_tryRow m_keptRow m_otherRow m_row m_formRow m_allForms m_rowsOf m_intervals m_places m_whole x2 r87 _ _ _ _ hc90) (cwV 2 hts gX6_derived_X6_leastIn rfl rfl rfl (by decide +kernel) ⟨by decide, by decide⟩) (rwP.preV hK hPc hDc rfl (ci := 6) rfl rfl) rfl rfl hl.1 rfl (lv_room (Nat.le_of_ble_eq_true rfl)) dX6_derived_90 ⟨Nat.zero_le _, Nat.zero_le _⟩) hS (fun q _ h => hFc q h) hFc (fun y90 u t H1 locs ht hvm hw hB hz1 hk1 hS => ?_)
        obtain ⟨hP1, -, hD1⟩ := hB
        rw [ht] at hP1
        have hw : y90 = r90 := hw
        rw [hw]
        obtain ⟨hP, hD⟩ := va_join (wr := []) (w1 := (wX6 cI cJ ad m_codek m_n m_built_90 m_length m_begin m_many m_leastOf_90 m_sizeOf_90 m_own m_bestRow m_tryRow m_keptRow m_otherRow m_row m_formRow m_allForms m_rowsOf m_intervals m_places m_whole)) hP hD [0, 1, 2, 3, 4, 5, 6, 7, 8, 9, 10, 11, 12, 13, 14] [] rfl rfl (by decide) (by decide) hk1 hFc hP1 hD1
        generalize H1 = H at hP hS ⊢
        have hP : va_P (dC, dI) vwCl (wX6 cI cJ ad m_codek m_n m_built_90 m_length m_begin m_many m_leastOf_90 m_sizeOf_90 m_own m_bestRow m_tryRow m_keptRow m_otherRow m_row m_formRow m_allForms m_rowsOf m_intervals m_places m_whole) H := hP.sub [0, 1, 2, 3, 4, 5, 6, 7, 8, 9, 10, 11, 12, 13, 14] rfl
        have hD : va_D A (wX6 cI cJ ad m_codek m_n m_built_90 m_length m_begin m_many m_leastOf_90 m_sizeOf_90 m_own m_bestRow m_tryRow m_keptRow m_otherRow m_row m_formRow m_allForms m_rowsOf m_intervals m_places m_whole) := hD.sub [0, 1, 2, 3, 4, 5, 6, 7, 8, 9, 10, 11, 12, 13, 14] (by decide) rfl
        refine lv_icmp_ne (tgt := 100) hx hb dX6_derived_93 (by decide) (fun q93 => ?_) (fun q93 => ?_)
        · have h := Ho_f h q93
          refine lv_iconst (v := (0 : Int32)) hx hb dX6_derived_100 (by decide) ?_
          refine lv_istore_n (lv' := [(3, .int (0 : Int32)), (0, .ref (ad 0)), (1, .int x1), (2, .int x2), (4, .int v4)]) hx hb dX6_derived_101 rfl hl (by decide) rfl (fun ls hl => ?_)
          refine lv_iload hx hb dX6_derived_102 (lv_at hl 4 rfl) ?_
          refine lv_iload_n hx hb dX6_derived_104 rfl (lv_at hl 2 rfl) ?_
          refine lv_iadd hx hb dX6_derived_105 ?_
          refine lv_istore (lv' := [(4, .int (v4 + x1)), (3, .int (0 : Int32)), (0, .ref (ad 0)), (1, .int x1), (2, .int x2)]) hx hb dX6_derived_106 hl (by decide) rfl (fun ls hl => ?_)
          refine lv_goto (tgt := 57) hx hb dX6_derived_108 (by decide) ?_
          exact hi57 _ (Ho_s h) _ _ ls hP hD hS (lv_sub hl [2, 3, 4, 1, 0] rfl)
        · have h := Ho_t h q93
          refine lv_iconst (v := (1 : Int32)) hx hb dX6_derived_96 (by decide) ?_
          refine lv_goto (tgt := 101) hx hb dX6_derived_97 (by decide) ?_
          refine lv_istore_n (lv' := [(3, .int (1 : Int32)), (0, .ref (ad 0)), (1, .int x1), (2, .int x2), (4, .int v4)]) hx hb dX6_derived_101 rfl hl (by decide) rfl (fun ls hl => ?_)
          refine lv_iload hx hb dX6_derived_102 (lv_at hl 4 rfl) ?_
          refine lv_iload_n hx hb dX6_derived_104 rfl (lv_at hl 2 rfl) ?_
          refine lv_iadd hx hb dX6_derived_105 ?_
          refine lv_istore (lv' := [(4, .int (v4 + x1)), (3, .int (1 : Int32)), (0, .ref (ad 0)), (1, .int x1), (2, .int x2)]) hx hb dX6_derived_106 hl (by decide) rfl (fun ls hl => ?_)
          refine lv_goto (tgt := 57) hx hb dX6_derived_108 (by decide) ?_
          exact hi57 _ (Ho_s h) _ _ ls hP hD hS (lv_sub hl [2, 3, 4, 1, 0] rfl)
  refine lv_aload_n hx hb dX6_derived_0 rfl (lv_at hl 0 rfl) ?_
  refine lv_iconst (v := (0 : Int32)) hx hb dX6_derived_1 (by decide) ?_
  refine va_put (D := (dC, dI)) (ci := 6) (v := .int (0 : Int32)) (ty := .int) (C := RX6) (T := TX6) (N := 20) hx hb hts hiX6 tyX6 tyX6_ok nmX6 hown hK.1 hP hD hS 0 rfl rfl 0 (by decide) hf57 (fun _ h9 => h9) rfl (by decide +kernel) rfl rfl (Nat.le_of_ble_eq_true rfl) dX6_derived_2 (fun H locs hP hD hS => ?_)
  have hP : va_P (dC, dI) vwCl (wX6 cI cJ ad (0 : Int32) m_n m_built m_length m_begin m_many m_leastOf m_sizeOf m_own m_bestRow m_tryRow m_keptRow m_otherRow m_row m_formRow m_allForms m_rowsOf m_intervals m_places m_whole) H := hP
  have hD : va_D A (wX6 cI cJ ad (0 : Int32) m_n m_built m_length m_begin m_many m_leastOf m_sizeOf m_own m_bestRow m_tryRow m_keptRow m_otherRow m_row m_formRow m_allForms m_rowsOf m_intervals m_places m_whole) := hD
  refine lv_iload_n hx hb dX6_derived_5 rfl (lv_at hl 2 rfl) ?_
  refine lv_iconst (v := (0 : Int32)) hx hb dX6_derived_6 (by decide) ?_
  refine lv_iconst (v := (2 : Int32)) hx hb dX6_derived_7 (by decide) ?_
  obtain ⟨r8, hc8, h⟩ := Ho_b h
  refine cs_i (va_runS (As := [.int x2, .int (0 : Int32), .int (2 : Int32)]) (rest := []) hfix (c_X6_isIn l dC dI cI cJ  x2 (0 : Int32) (2 : Int32) _ hc8) (va_cwS 3 hts gX6_derived_X6_isIn rfl rfl rfl (by decide +kernel) ⟨by decide, by decide⟩) (roP.preS hK va_Pnil) rfl rfl hl.1 rfl (lv_room (Nat.le_of_ble_eq_true rfl)) dX6_derived_8 ⟨Nat.zero_le _, Nat.zero_le _⟩) ?_
  refine lv_if_eq (tgt := 35) hx hb dX6_derived_11 (by decide) (fun q11 => ?_) (fun q11 => ?_)
  · have h := Ho_t h q11
    refine lv_bipush (v := (-2 : Int32)) hx hb dX6_derived_35 (by decide) ?_
    exact W.iret hx hb hr (fun t ht hW => QI (Ho_e h) (by rw [ht]; exact hP) (hK.warm hW) hD (hS.F ht)) hS.2.2 dX6_derived_37 hlk
  · have h := Ho_f h q11
    refine lv_iload_n hx hb dX6_derived_14 rfl (lv_at hl 1 rfl) ?_
    refine lv_iconst (v := (1 : Int32)) hx hb dX6_derived_15 (by decide) ?_
    refine lv_aload_n hx hb dX6_derived_16 rfl (lv_at hl 0 rfl) ?_
    refine va_get (D := (dC, dI)) (ci := 6) (v := .int m_n) (C := RX6) (T := TX6) (N := 20) hx hb hts hiX6 hown hK.1 hP 0 rfl rfl 1 (by decide) hf7 (fun _ h9 => h9) rfl dX6_derived_17 ?_
    obtain ⟨r20, hc20, h⟩ := Ho_b h
    refine cs_i (va_runS (As := [.int x1, .int (1 : Int32), .int m_n]) (rest := []) hfix (c_X6_isIn l dC dI cI cJ  x1 (1 : Int32) m_n _ hc20) (va_cwS 3 hts gX6_derived_X6_isIn rfl rfl rfl (by decide +kernel) ⟨by decide, by decide⟩) (roP.preS hK va_Pnil) rfl rfl hl.1 rfl (lv_room (Nat.le_of_ble_eq_true rfl)) dX6_derived_20 ⟨Nat.zero_le _, Nat.zero_le _⟩) ?_
    refine lv_if_eq (tgt := 35) hx hb dX6_derived_23 (by decide) (fun q23 => ?_) (fun q23 => ?_)
    · have h := Ho_t h q23
      refine lv_bipush (v := (-2 : Int32)) hx hb dX6_derived_35 (by decide) ?_
      exact W.iret hx hb hr (fun t ht hW => QI (Ho_e h) (by rw [ht]; exact hP) (hK.warm hW) hD (hS.F ht)) hS.2.2 dX6_derived_37 hlk
    · have h := Ho_f h q23
      refine lv_aload_n hx hb dX6_derived_26 rfl (lv_at hl 0 rfl) ?_
      refine va_get (D := (dC, dI)) (ci := 6) (v := .int m_n) (C := RX6) (T := TX6) (N := 20) hx hb hts hiX6 hown hK.1 hP 0 rfl rfl 1 (by decide) hf7 (fun _ h9 => h9) rfl dX6_derived_27 ?_
      refine lv_iload_n hx hb dX6_derived_30 rfl (lv_at hl 1 rfl) ?_
      obtain ⟨hz31, h⟩ := Ho_nz h
      refine lv_irem hx hb dX6_derived_31 hz31 ?_
      refine lv_if_eq (tgt := 38) hx hb dX6_derived_32 (by decide) (fun q32 => ?_) (fun q32 => ?_)
      · have h := Ho_t h q32
        refine lv_aload_n hx hb dX6_derived_38 rfl (lv_at hl 0 rfl) ?_
        refine va_get (D := (dC, dI)) (ci := 6) (v := .int m_many) (C := RX6) (T := TX6) (N := 20) hx hb hts hiX6 hown hK.1 hP 0 rfl rfl 12 (by decide) hf60 (fun _ h9 => h9) rfl dX6_derived_39 ?_
        refine lv_aload_n hx hb dX6_derived_42 rfl (lv_at hl 0 rfl) ?_
        refine va_get (D := (dC, dI)) (ci := 6) (v := .int m_n) (C := RX6) (T := TX6) (N := 20) hx hb hts hiX6 hown hK.1 hP 0 rfl rfl 1 (by decide) hf7 (fun _ h9 => h9) rfl dX6_derived_43 ?_
        refine lv_icmp_ge (tgt := 52) hx hb dX6_derived_46 (by decide) (fun q46 => ?_) (fun q46 => ?_)
        · have h := Ho_t h q46
          refine lv_iconst (v := (1 : Int32)) hx hb dX6_derived_52 (by decide) ?_
          refine lv_istore_n (lv' := [(3, .int (1 : Int32)), (0, .ref (ad 0)), (1, .int x1), (2, .int x2)]) hx hb dX6_derived_53 rfl hl (by decide) rfl (fun ls hl => ?_)
          refine lv_iconst (v := (0 : Int32)) hx hb dX6_derived_54 (by decide) ?_
          refine lv_istore (lv' := [(4, .int (0 : Int32)), (3, .int (1 : Int32)), (0, .ref (ad 0)), (1, .int x1), (2, .int x2)]) hx hb dX6_derived_55 hl (by decide) rfl (fun ls hl => ?_)
          exact J57 (0 : Int32) m_built m_leastOf m_sizeOf (1 : Int32) (0 : Int32) _ _ ls hP hD hS (lv_sub hl [2, 3, 4, 1, 0] rfl) h
        · have h := Ho_f h q46
          refine lv_bipush (v := (-3 : Int32)) hx hb dX6_derived_49 (by decide) ?_
          exact W.iret hx hb hr (fun t ht hW => QI (Ho_e h) (by rw [ht]; exact hP) (hK.warm hW) hD (hS.F ht)) hS.2.2 dX6_derived_51 hlk
      · have h := Ho_f h q32
        refine lv_bipush (v := (-2 : Int32)) hx hb dX6_derived_35 (by decide) ?_
        exact W.iret hx hb hr (fun t ht hW => QI (Ho_e h) (by rw [ht]; exact hP) (hK.warm hW) hD (hS.F ht)) hS.2.2 dX6_derived_37 hlk
abbrev rmX6_kept : Room := { frames := 1, cells := 0, slots := 0, locals := 25 }
set_option maxHeartbeats 4000000 in
set_option maxRecDepth 100000 in
theorem c_X6_kept (l : Launch) (dC : Nat → ClassId) (dI : Nat → Nat → Nat) (cI cJ : ClassId) (ad : Nat → Nat) (sz : Nat) (m_code : Int32) (m_n : Int32) (m_built : Int32) (m_length : Int32) (m_begin : Int32) (m_many : Int32) (m_leastOf : Nat → Int32) (m_sizeOf : Nat → Int32) (m_own : Nat → Int32) (m_bestRow : Nat → Int32) (m_tryRow : Nat → Int32) (m_keptRow : Nat → Int32) (m_otherRow : Nat → Int32) (m_row : Nat → Int32) (m_formRow : Nat → Int32) (m_allForms : Nat → Int32) (m_rowsOf : Nat → Int32) (m_intervals : Nat → Int32) (m_places : Nat → Int32) (m_whole : Nat → Int64) (x1 : Int32) (x2 : Int32) (x3 : Int32) (r : Int32) (m_code' : Int32) (m_formRow' : Nat → Int32) (hF : FX6_kept m_code m_n m_many m_row m_formRow x1 x2 x3 = some (r, m_code', m_formRow')) : Met l yX6_kept wsX6_kept rmX6_kept (rwP (dC, dI) [(cI, .int), (cJ, .long)] sz (wX6 cI cJ ad m_code m_n m_built m_length m_begin m_many m_leastOf m_sizeOf m_own m_bestRow m_tryRow m_keptRow m_otherRow m_row m_formRow m_allForms m_rowsOf m_intervals m_places m_whole) [.ref (ad 0), .int x1, .int x2, .int x3]) (va_Qi (fun (x : Int32) (_ : Unit) => x = r) (fun _ t => va_P (dC, dI) vwCl (wX6 cI cJ ad m_code' m_n m_built m_length m_begin m_many m_leastOf m_sizeOf m_own m_bestRow m_tryRow m_keptRow m_otherRow m_row m_formRow' m_allForms m_rowsOf m_intervals m_places m_whole) t.heap ∧ vK (dC, dI) [(cI, .int), (cJ, .long)] t ∧ va_D (va_A (wX6 cI cJ ad m_code m_n m_built m_length m_begin m_many m_leastOf m_sizeOf m_own m_bestRow m_tryRow m_keptRow m_otherRow m_row m_formRow m_allForms m_rowsOf m_intervals m_places m_whole) sz) (wX6 cI cJ ad m_code' m_n m_built m_length m_begin m_many m_leastOf m_sizeOf m_own m_bestRow m_tryRow m_keptRow m_otherRow m_row m_formRow' m_allForms m_rowsOf m_intervals m_places m_whole)) (va_A (wX6 cI cJ ad m_code m_n m_built m_length m_begin m_many m_leastOf m_sizeOf m_own m_bestRow m_tryRow m_keptRow m_otherRow m_row m_formRow m_allForms m_rowsOf m_intervals m_places m_whole) sz)) 0 0 (va_A (wX6 cI cJ ad m_code m_n m_built m_length m_begin m_many m_leastOf m_sizeOf m_own m_bestRow m_tryRow m_keptRow m_otherRow m_row m_formRow m_allForms m_rowsOf m_intervals m_places m_whole) sz) := by
  refine rw_start (cc := cX6_kept) (maxL := 10) (ret := (some .int)) (by decide) rfl (Nat.le_of_ble_eq_true rfl) ?_
  intro p e s m args below meth c ls A H locs hx hb hml hr hlk hown hts hsz hP hK hD hA hS hAe hl
  have hown : s.vm.findClass RX6 = some m.cls := hown
  have hl : lv_has ls 10 [(0, .ref (ad 0)), (1, .int x1), (2, .int x2), (3, .int x3)] := hl
  have h : Ho (FX6_kept m_code m_n m_many m_row m_formRow x1 x2 x3) (fun x => x = (r, m_code', m_formRow')) := ⟨_, hF, rfl⟩
  unfold FX6_kept at h
  have QI : ∀ {v0 : Int32} {m_code9 : Int32} {m_formRow9 : Nat → Int32} {t : State}, (v0, m_code9, m_formRow9) = (r, m_code', m_formRow') → va_P (dC, dI) vwCl (wX6 cI cJ ad m_code9 m_n m_built m_length m_begin m_many m_leastOf m_sizeOf m_own m_bestRow m_tryRow m_keptRow m_otherRow m_row m_formRow9 m_allForms m_rowsOf m_intervals m_places m_whole) t.heap → vK (dC, dI) [(cI, .int), (cJ, .long)] t → va_D A (wX6 cI cJ ad m_code9 m_n m_built m_length m_begin m_many m_leastOf m_sizeOf m_own m_bestRow m_tryRow m_keptRow m_otherRow m_row m_formRow9 m_allForms m_rowsOf m_intervals m_places m_whole) → va_F A s t → (va_Qi (fun (x : Int32) (_ : Unit) => x = r) (fun _ t => va_P (dC, dI) vwCl (wX6 cI cJ ad m_code' m_n m_built m_length m_begin m_many m_leastOf m_sizeOf m_own m_bestRow m_tryRow m_keptRow m_otherRow m_row m_formRow' m_allForms m_rowsOf m_intervals m_places m_whole) t.heap ∧ vK (dC, dI) [(cI, .int), (cJ, .long)] t ∧ va_D (va_A (wX6 cI cJ ad m_code m_n m_built m_length m_begin m_many m_leastOf m_sizeOf m_own m_bestRow m_tryRow m_keptRow m_otherRow m_row m_formRow m_allForms m_rowsOf m_intervals m_places m_whole) sz) (wX6 cI cJ ad m_code' m_n m_built m_length m_begin m_many m_leastOf m_sizeOf m_own m_bestRow m_tryRow m_keptRow m_otherRow m_row m_formRow' m_allForms m_rowsOf m_intervals m_places m_whole)) (va_A (wX6 cI cJ ad m_code m_n m_built m_length m_begin m_many m_leastOf m_sizeOf m_own m_bestRow m_tryRow m_keptRow m_otherRow m_row m_formRow m_allForms m_rowsOf m_intervals m_places m_whole) sz)) args s (.returned (some (.int v0))) t := by
    intro v0 m_code9 m_formRow9 t e9 q1 q2 q3 q4
    cases e9
    subst hAe
    exact ⟨⟨_, (), rfl, rfl, q1, q2, q3⟩, q4⟩
  have hfix : CallFix p m c cX6_kept 10 s args wsX6_kept RX6 := ⟨hx, hb, hml, hown, hts⟩
  have hiX6 : ∀ w ∈ u_ws RX6 TX6 20, w ∈ wsX6_kept := by decide +kernel
  have hf7 := hts (.fieldLink RX6 7 "RowClassesModel" "n" "I") (by decide +kernel)
  have hf38 := hts (.fieldLink RX6 38 "RowClassesModel" "formRow" "[I") (by decide +kernel)
  have hf57 := hts (.fieldLink RX6 57 "RowClassesModel" "code" "I") (by decide +kernel)
  have hf60 := hts (.fieldLink RX6 60 "RowClassesModel" "many" "I") (by decide +kernel)
  have J177 : ∀ (m_codek : Int32) (m_formRowk : Nat → Int32) (v4 : Int32) (H : Heap) (locs : List Loc) (ls : Array Slot), va_P (dC, dI) vwCl (wX6 cI cJ ad m_codek m_n m_built m_length m_begin m_many m_leastOf m_sizeOf m_own m_bestRow m_tryRow m_keptRow m_otherRow m_row m_formRowk m_allForms m_rowsOf m_intervals m_places m_whole) H → va_D A (wX6 cI cJ ad m_codek m_n m_built m_length m_begin m_many m_leastOf m_sizeOf m_own m_bestRow m_tryRow m_keptRow m_otherRow m_row m_formRowk m_allForms m_rowsOf m_intervals m_places m_whole) → va_S A s.heap H locs → lv_has ls 10 [(4, .int v4)] → Ho (X6_kept_177 m_codek m_formRowk v4) (fun x => x = (r, m_code', m_formRow')) → W p l e rmX6_kept s m args below meth c H locs 0 0 (MQ below (va_Qi (fun (x : Int32) (_ : Unit) => x = r) (fun _ t => va_P (dC, dI) vwCl (wX6 cI cJ ad m_code' m_n m_built m_length m_begin m_many m_leastOf m_sizeOf m_own m_bestRow m_tryRow m_keptRow m_otherRow m_row m_formRow' m_allForms m_rowsOf m_intervals m_places m_whole) t.heap ∧ vK (dC, dI) [(cI, .int), (cJ, .long)] t ∧ va_D (va_A (wX6 cI cJ ad m_code m_n m_built m_length m_begin m_many m_leastOf m_sizeOf m_own m_bestRow m_tryRow m_keptRow m_otherRow m_row m_formRow m_allForms m_rowsOf m_intervals m_places m_whole) sz) (wX6 cI cJ ad m_code' m_n m_built m_length m_begin m_many m_leastOf m_sizeOf m_own m_bestRow m_tryRow m_keptRow m_otherRow m_row m_formRow' m_allForms m_rowsOf m_intervals m_places m_whole)) (va_A (wX6 cI cJ ad m_code m_n m_built m_length m_begin m_many m_leastOf m_sizeOf m_own m_bestRow m_tryRow m_keptRow m_otherRow m_row m_formRow m_allForms m_rowsOf m_intervals m_places m_whole) sz)) args s 0 0 A) (F0 m 177 ls []) := by
    intro m_codek m_formRowk v4 H locs ls hP hD hS hl h
    unfold X6_kept_177 at h
    refine lv_iload hx hb dX6_kept_177 (lv_at hl 0 rfl) ?_
    exact W.iret hx hb hr (fun t ht hW => QI (Ho_e h) (by rw [ht]; exact hP) (hK.warm hW) hD (hS.F ht)) hS.2.2 dX6_kept_179 hlk
  have J63 : ∀ (m_codek : Int32) (m_formRowk : Nat → Int32) (v4 : Int32) (v5 : Int32) (H : Heap) (locs : List Loc) (ls : Array Slot), va_P (dC, dI) vwCl (wX6 cI cJ ad m_codek m_n m_built m_length m_begin m_many m_leastOf m_sizeOf m_own m_bestRow m_tryRow m_keptRow m_otherRow m_row m_formRowk m_allForms m_rowsOf m_intervals m_places m_whole) H → va_D A (wX6 cI cJ ad m_codek m_n m_built m_length m_begin m_many m_leastOf m_sizeOf m_own m_bestRow m_tryRow m_keptRow m_otherRow m_row m_formRowk m_allForms m_rowsOf m_intervals m_places m_whole) → va_S A s.heap H locs → lv_has ls 10 [(0, .ref (ad 0)), (3, .int x3), (4, .int v4), (5, .int v5)] → Ho ((X6_kept_63_l m_n m_row x3 m_codek m_formRowk v4 v5).bind (fun ex => X6_kept_177 m_codek m_formRowk ex)) (fun x => x = (r, m_code', m_formRow')) → W p l e rmX6_kept s m args below meth c H locs 0 0 (MQ below (va_Qi (fun (x : Int32) (_ : Unit) => x = r) (fun _ t => va_P (dC, dI) vwCl (wX6 cI cJ ad m_code' m_n m_built m_length m_begin m_many m_leastOf m_sizeOf m_own m_bestRow m_tryRow m_keptRow m_otherRow m_row m_formRow' m_allForms m_rowsOf m_intervals m_places m_whole) t.heap ∧ vK (dC, dI) [(cI, .int), (cJ, .long)] t ∧ va_D (va_A (wX6 cI cJ ad m_code m_n m_built m_length m_begin m_many m_leastOf m_sizeOf m_own m_bestRow m_tryRow m_keptRow m_otherRow m_row m_formRow m_allForms m_rowsOf m_intervals m_places m_whole) sz) (wX6 cI cJ ad m_code' m_n m_built m_length m_begin m_many m_leastOf m_sizeOf m_own m_bestRow m_tryRow m_keptRow m_otherRow m_row m_formRow' m_allForms m_rowsOf m_intervals m_places m_whole)) (va_A (wX6 cI cJ ad m_code m_n m_built m_length m_begin m_many m_leastOf m_sizeOf m_own m_bestRow m_tryRow m_keptRow m_otherRow m_row m_formRow m_allForms m_rowsOf m_intervals m_places m_whole) sz)) args s 0 0 A) (F0 m 63 ls []) := by
    intro m_codek m_formRowk v4 v5 H locs ls hP hD hS hl h
    refine loop_use2 (fun z : Int32 × Int32 => ∀ (H : Heap) (locs : List Loc) (ls : Array Slot), va_P (dC, dI) vwCl (wX6 cI cJ ad m_codek m_n m_built m_length m_begin m_many m_leastOf m_sizeOf m_own m_bestRow m_tryRow m_keptRow m_otherRow m_row m_formRowk m_allForms m_rowsOf m_intervals m_places m_whole) H → va_D A (wX6 cI cJ ad m_codek m_n m_built m_length m_begin m_many m_leastOf m_sizeOf m_own m_bestRow m_tryRow m_keptRow m_otherRow m_row m_formRowk m_allForms m_rowsOf m_intervals m_places m_whole) → va_S A s.heap H locs → lv_has ls 10 [(0, .ref (ad 0)), (3, .int x3), (4, .int z.1), (5, .int z.2)] → W p l e rmX6_kept s m args below meth c H locs 0 0 (MQ below (va_Qi (fun (x : Int32) (_ : Unit) => x = r) (fun _ t => va_P (dC, dI) vwCl (wX6 cI cJ ad m_code' m_n m_built m_length m_begin m_many m_leastOf m_sizeOf m_own m_bestRow m_tryRow m_keptRow m_otherRow m_row m_formRow' m_allForms m_rowsOf m_intervals m_places m_whole) t.heap ∧ vK (dC, dI) [(cI, .int), (cJ, .long)] t ∧ va_D (va_A (wX6 cI cJ ad m_code m_n m_built m_length m_begin m_many m_leastOf m_sizeOf m_own m_bestRow m_tryRow m_keptRow m_otherRow m_row m_formRow m_allForms m_rowsOf m_intervals m_places m_whole) sz) (wX6 cI cJ ad m_code' m_n m_built m_length m_begin m_many m_leastOf m_sizeOf m_own m_bestRow m_tryRow m_keptRow m_otherRow m_row m_formRow' m_allForms m_rowsOf m_intervals m_places m_whole)) (va_A (wX6 cI cJ ad m_code m_n m_built m_length m_begin m_many m_leastOf m_sizeOf m_own m_bestRow m_tryRow m_keptRow m_otherRow m_row m_formRow m_allForms m_rowsOf m_intervals m_places m_whole) sz)) args s 0 0 A) (F0 m 63 ls [])) ?_ FU _ h H locs ls hP hD hS hl
    intro Q63 hi63 ho63 z h H locs ls hP hD hS hl
    obtain ⟨v4, v5⟩ := z
    have h : Ho (X6_kept_63_s m_n m_row x3 m_codek m_formRowk v4 v5) Q63 := h
    unfold X6_kept_63_s at h
    have hl : lv_has ls 10 [(0, .ref (ad 0)), (3, .int x3), (4, .int v4), (5, .int v5)] := hl
    have hP : va_P (dC, dI) vwCl (wX6 cI cJ ad m_codek m_n m_built m_length m_begin m_many m_leastOf m_sizeOf m_own m_bestRow m_tryRow m_keptRow m_otherRow m_row m_formRowk m_allForms m_rowsOf m_intervals m_places m_whole) H := hP
    have hD : va_D A (wX6 cI cJ ad m_codek m_n m_built m_length m_begin m_many m_leastOf m_sizeOf m_own m_bestRow m_tryRow m_keptRow m_otherRow m_row m_formRowk m_allForms m_rowsOf m_intervals m_places m_whole) := hD
    have J156 : ∀ (v4 : Int32) (v5 : Int32) (v6 : Int32) (H : Heap) (locs : List Loc) (ls : Array Slot), va_P (dC, dI) vwCl (wX6 cI cJ ad m_codek m_n m_built m_length m_begin m_many m_leastOf m_sizeOf m_own m_bestRow m_tryRow m_keptRow m_otherRow m_row m_formRowk m_allForms m_rowsOf m_intervals m_places m_whole) H → va_D A (wX6 cI cJ ad m_codek m_n m_built m_length m_begin m_many m_leastOf m_sizeOf m_own m_bestRow m_tryRow m_keptRow m_otherRow m_row m_formRowk m_allForms m_rowsOf m_intervals m_places m_whole) → va_S A s.heap H locs → lv_has ls 10 [(0, .ref (ad 0)), (3, .int x3), (4, .int v4), (5, .int v5), (6, .int v6)] → Ho (X6_kept_156 m_codek m_formRowk v4 v5 v6) Q63 → W p l e rmX6_kept s m args below meth c H locs 0 0 (MQ below (va_Qi (fun (x : Int32) (_ : Unit) => x = r) (fun _ t => va_P (dC, dI) vwCl (wX6 cI cJ ad m_code' m_n m_built m_length m_begin m_many m_leastOf m_sizeOf m_own m_bestRow m_tryRow m_keptRow m_otherRow m_row m_formRow' m_allForms m_rowsOf m_intervals m_places m_whole) t.heap ∧ vK (dC, dI) [(cI, .int), (cJ, .long)] t ∧ va_D (va_A (wX6 cI cJ ad m_code m_n m_built m_length m_begin m_many m_leastOf m_sizeOf m_own m_bestRow m_tryRow m_keptRow m_otherRow m_row m_formRow m_allForms m_rowsOf m_intervals m_places m_whole) sz) (wX6 cI cJ ad m_code' m_n m_built m_length m_begin m_many m_leastOf m_sizeOf m_own m_bestRow m_tryRow m_keptRow m_otherRow m_row m_formRow' m_allForms m_rowsOf m_intervals m_places m_whole)) (va_A (wX6 cI cJ ad m_code m_n m_built m_length m_begin m_many m_leastOf m_sizeOf m_own m_bestRow m_tryRow m_keptRow m_otherRow m_row m_formRow m_allForms m_rowsOf m_intervals m_places m_whole) sz)) args s 0 0 A) (F0 m 156 ls []) := by
      intro v4 v5 v6 H locs ls hP hD hS hl h
      unfold X6_kept_156 at h
      refine lv_iload hx hb dX6_kept_156 (lv_at hl 2 rfl) ?_
      refine lv_iload hx hb dX6_kept_158 (lv_at hl 4 rfl) ?_
      refine lv_if_eq (tgt := 167) hx hb dX6_kept_160 (by decide) (fun q160 => ?_) (fun q160 => ?_)
      · have h := Ho_t h q160
        refine lv_iconst (v := (0 : Int32)) hx hb dX6_kept_167 (by decide) ?_
        refine lv_iadd hx hb dX6_kept_168 ?_
        refine lv_istore (lv' := [(4, .int (v4 + (0 : Int32))), (0, .ref (ad 0)), (3, .int x3), (5, .int v5), (6, .int v6)]) hx hb dX6_kept_169 hl (by decide) rfl (fun ls hl => ?_)
        refine lv_iinc (v := v5 + 1) (lv' := [(5, .int (v5 + 1)), (4, .int (v4 + (0 : Int32))), (0, .ref (ad 0)), (3, .int x3), (6, .int v6)]) hx hb dX6_kept_171 hl (k := 3) rfl rfl (by decide) rfl (fun ls hl => ?_)
        refine lv_goto (tgt := 63) hx hb dX6_kept_174 (by decide) ?_
        exact hi63 _ (Ho_s h) _ _ ls hP hD hS (lv_sub hl [2, 3, 1, 0] rfl)
      · have h := Ho_f h q160
        refine lv_iconst (v := (1 : Int32)) hx hb dX6_kept_163 (by decide) ?_
        refine lv_goto (tgt := 168) hx hb dX6_kept_164 (by decide) ?_
        refine lv_iadd hx hb dX6_kept_168 ?_
        refine lv_istore (lv' := [(4, .int (v4 + (1 : Int32))), (0, .ref (ad 0)), (3, .int x3), (5, .int v5), (6, .int v6)]) hx hb dX6_kept_169 hl (by decide) rfl (fun ls hl => ?_)
        refine lv_iinc (v := v5 + 1) (lv' := [(5, .int (v5 + 1)), (4, .int (v4 + (1 : Int32))), (0, .ref (ad 0)), (3, .int x3), (6, .int v6)]) hx hb dX6_kept_171 hl (k := 3) rfl rfl (by decide) rfl (fun ls hl => ?_)
        refine lv_goto (tgt := 63) hx hb dX6_kept_174 (by decide) ?_
        exact hi63 _ (Ho_s h) _ _ ls hP hD hS (lv_sub hl [2, 3, 1, 0] rfl)
    have J80 : ∀ (v4 : Int32) (v5 : Int32) (v6 : Int32) (v7 : Int32) (H : Heap) (locs : List Loc) (ls : Array Slot), va_P (dC, dI) vwCl (wX6 cI cJ ad m_codek m_n m_built m_length m_begin m_many m_leastOf m_sizeOf m_own m_bestRow m_tryRow m_keptRow m_otherRow m_row m_formRowk m_allForms m_rowsOf m_intervals m_places m_whole) H → va_D A (wX6 cI cJ ad m_codek m_n m_built m_length m_begin m_many m_leastOf m_sizeOf m_own m_bestRow m_tryRow m_keptRow m_otherRow m_row m_formRowk m_allForms m_rowsOf m_intervals m_places m_whole) → va_S A s.heap H locs → lv_has ls 10 [(0, .ref (ad 0)), (3, .int x3), (4, .int v4), (5, .int v5), (6, .int v6), (7, .int v7)] → Ho ((X6_kept_80_l m_n m_row x3 m_codek m_formRowk v4 v5 v6 v7).bind (fun ex => X6_kept_156 m_codek m_formRowk v4 v5 ex)) Q63 → W p l e rmX6_kept s m args below meth c H locs 0 0 (MQ below (va_Qi (fun (x : Int32) (_ : Unit) => x = r) (fun _ t => va_P (dC, dI) vwCl (wX6 cI cJ ad m_code' m_n m_built m_length m_begin m_many m_leastOf m_sizeOf m_own m_bestRow m_tryRow m_keptRow m_otherRow m_row m_formRow' m_allForms m_rowsOf m_intervals m_places m_whole) t.heap ∧ vK (dC, dI) [(cI, .int), (cJ, .long)] t ∧ va_D (va_A (wX6 cI cJ ad m_code m_n m_built m_length m_begin m_many m_leastOf m_sizeOf m_own m_bestRow m_tryRow m_keptRow m_otherRow m_row m_formRow m_allForms m_rowsOf m_intervals m_places m_whole) sz) (wX6 cI cJ ad m_code' m_n m_built m_length m_begin m_many m_leastOf m_sizeOf m_own m_bestRow m_tryRow m_keptRow m_otherRow m_row m_formRow' m_allForms m_rowsOf m_intervals m_places m_whole)) (va_A (wX6 cI cJ ad m_code m_n m_built m_length m_begin m_many m_leastOf m_sizeOf m_own m_bestRow m_tryRow m_keptRow m_otherRow m_row m_formRow m_allForms m_rowsOf m_intervals m_places m_whole) sz)) args s 0 0 A) (F0 m 80 ls []) := by
      intro v4 v5 v6 v7 H locs ls hP hD hS hl h
      refine loop_use2 (fun z : Int32 × Int32 => ∀ (H : Heap) (locs : List Loc) (ls : Array Slot), va_P (dC, dI) vwCl (wX6 cI cJ ad m_codek m_n m_built m_length m_begin m_many m_leastOf m_sizeOf m_own m_bestRow m_tryRow m_keptRow m_otherRow m_row m_formRowk m_allForms m_rowsOf m_intervals m_places m_whole) H → va_D A (wX6 cI cJ ad m_codek m_n m_built m_length m_begin m_many m_leastOf m_sizeOf m_own m_bestRow m_tryRow m_keptRow m_otherRow m_row m_formRowk m_allForms m_rowsOf m_intervals m_places m_whole) → va_S A s.heap H locs → lv_has ls 10 [(0, .ref (ad 0)), (3, .int x3), (4, .int v4), (5, .int v5), (6, .int z.1), (7, .int z.2)] → W p l e rmX6_kept s m args below meth c H locs 0 0 (MQ below (va_Qi (fun (x : Int32) (_ : Unit) => x = r) (fun _ t => va_P (dC, dI) vwCl (wX6 cI cJ ad m_code' m_n m_built m_length m_begin m_many m_leastOf m_sizeOf m_own m_bestRow m_tryRow m_keptRow m_otherRow m_row m_formRow' m_allForms m_rowsOf m_intervals m_places m_whole) t.heap ∧ vK (dC, dI) [(cI, .int), (cJ, .long)] t ∧ va_D (va_A (wX6 cI cJ ad m_code m_n m_built m_length m_begin m_many m_leastOf m_sizeOf m_own m_bestRow m_tryRow m_keptRow m_otherRow m_row m_formRow m_allForms m_rowsOf m_intervals m_places m_whole) sz) (wX6 cI cJ ad m_code' m_n m_built m_length m_begin m_many m_leastOf m_sizeOf m_own m_bestRow m_tryRow m_keptRow m_otherRow m_row m_formRow' m_allForms m_rowsOf m_intervals m_places m_whole)) (va_A (wX6 cI cJ ad m_code m_n m_built m_length m_begin m_many m_leastOf m_sizeOf m_own m_bestRow m_tryRow m_keptRow m_otherRow m_row m_formRow m_allForms m_rowsOf m_intervals m_places m_whole) sz)) args s 0 0 A) (F0 m 80 ls [])) ?_ FU _ h H locs ls hP hD hS hl
      intro Q80 hi80 ho80 z h H locs ls hP hD hS hl
      obtain ⟨v6, v7⟩ := z
      have h : Ho (X6_kept_80_s m_n m_row x3 m_codek m_formRowk v4 v5 v6 v7) Q80 := h
      unfold X6_kept_80_s at h
      have hl : lv_has ls 10 [(0, .ref (ad 0)), (3, .int x3), (4, .int v4), (5, .int v5), (6, .int v6), (7, .int v7)] := hl
      have hP : va_P (dC, dI) vwCl (wX6 cI cJ ad m_codek m_n m_built m_length m_begin m_many m_leastOf m_sizeOf m_own m_bestRow m_tryRow m_keptRow m_otherRow m_row m_formRowk m_allForms m_rowsOf m_intervals m_places m_whole) H := hP
      have hD : va_D A (wX6 cI cJ ad m_codek m_n m_built m_length m_begin m_many m_leastOf m_sizeOf m_own m_bestRow m_tryRow m_keptRow m_otherRow m_row m_formRowk m_allForms m_rowsOf m_intervals m_places m_whole) := hD
      have J126 : ∀ (v6 : Int32) (v7 : Int32) (v8 : Int32) (H : Heap) (locs : List Loc) (ls : Array Slot), va_P (dC, dI) vwCl (wX6 cI cJ ad m_codek m_n m_built m_length m_begin m_many m_leastOf m_sizeOf m_own m_bestRow m_tryRow m_keptRow m_otherRow m_row m_formRowk m_allForms m_rowsOf m_intervals m_places m_whole) H → va_D A (wX6 cI cJ ad m_codek m_n m_built m_length m_begin m_many m_leastOf m_sizeOf m_own m_bestRow m_tryRow m_keptRow m_otherRow m_row m_formRowk m_allForms m_rowsOf m_intervals m_places m_whole) → va_S A s.heap H locs → lv_has ls 10 [(0, .ref (ad 0)), (3, .int x3), (4, .int v4), (5, .int v5), (6, .int v6), (7, .int v7), (8, .int v8)] → Ho (X6_kept_126 m_row x3 m_codek m_formRowk v4 v5 v6 v7 v8) Q80 → W p l e rmX6_kept s m args below meth c H locs 0 0 (MQ below (va_Qi (fun (x : Int32) (_ : Unit) => x = r) (fun _ t => va_P (dC, dI) vwCl (wX6 cI cJ ad m_code' m_n m_built m_length m_begin m_many m_leastOf m_sizeOf m_own m_bestRow m_tryRow m_keptRow m_otherRow m_row m_formRow' m_allForms m_rowsOf m_intervals m_places m_whole) t.heap ∧ vK (dC, dI) [(cI, .int), (cJ, .long)] t ∧ va_D (va_A (wX6 cI cJ ad m_code m_n m_built m_length m_begin m_many m_leastOf m_sizeOf m_own m_bestRow m_tryRow m_keptRow m_otherRow m_row m_formRow m_allForms m_rowsOf m_intervals m_places m_whole) sz) (wX6 cI cJ ad m_code' m_n m_built m_length m_begin m_many m_leastOf m_sizeOf m_own m_bestRow m_tryRow m_keptRow m_otherRow m_row m_formRow' m_allForms m_rowsOf m_intervals m_places m_whole)) (va_A (wX6 cI cJ ad m_code m_n m_built m_length m_begin m_many m_leastOf m_sizeOf m_own m_bestRow m_tryRow m_keptRow m_otherRow m_row m_formRow m_allForms m_rowsOf m_intervals m_places m_whole) sz)) args s 0 0 A) (F0 m 126 ls []) := by
        intro v6 v7 v8 H locs ls hP hD hS hl h
        unfold X6_kept_126 at h
        refine lv_iload hx hb dX6_kept_126 (lv_at hl 4 rfl) ?_
        refine lv_if_ne (tgt := 143) hx hb dX6_kept_128 (by decide) (fun q128 => ?_) (fun q128 => ?_)
        · have h := Ho_f h q128
          refine lv_iconst (v := (1 : Int32)) hx hb dX6_kept_143 (by decide) ?_
          refine lv_goto (tgt := 148) hx hb dX6_kept_144 (by decide) ?_
          refine lv_istore (lv' := [(6, .int (1 : Int32)), (0, .ref (ad 0)), (3, .int x3), (4, .int v4), (5, .int v5), (7, .int v7), (8, .int v8)]) hx hb dX6_kept_148 hl (by decide) rfl (fun ls hl => ?_)
          refine lv_iinc (v := v7 + 1) (lv' := [(7, .int (v7 + 1)), (6, .int (1 : Int32)), (0, .ref (ad 0)), (3, .int x3), (4, .int v4), (5, .int v5), (8, .int v8)]) hx hb dX6_kept_150 hl (k := 5) rfl rfl (by decide) rfl (fun ls hl => ?_)
          refine lv_goto (tgt := 80) hx hb dX6_kept_153 (by decide) ?_
          exact hi80 _ (Ho_s h) _ _ ls hP hD hS (lv_sub hl [2, 3, 4, 5, 1, 0] rfl)
        · have h := Ho_t h q128
          refine lv_iload hx hb dX6_kept_131 (lv_at hl 6 rfl) ?_
          refine lv_aload_n hx hb dX6_kept_133 rfl (lv_at hl 0 rfl) ?_
          refine lv_iload hx hb dX6_kept_134 (lv_at hl 3 rfl) ?_
          refine lv_iload_n hx hb dX6_kept_136 rfl (lv_at hl 1 rfl) ?_
          obtain ⟨r137, hc137, h⟩ := Ho_b h
          have hPc : va_P (dC, dI) vwCl (wX6 cI cJ ad m_codek m_n m_built m_length m_begin m_many m_leastOf m_sizeOf m_own m_bestRow m_tryRow m_keptRow m_otherRow m_row m_formRowk m_allForms m_rowsOf m_intervals m_places m_whole) H := hP.sub [0, 1, 2, 3, 4, 5, 6, 7, 8, 9, 10, 11, 12, 13, 14] rfl
          refine cs_i (va_runV (As := [.int v5, .int x3]) (rest := [.int v8]) hfix (c_X6_piece l dC dI cI cJ ad m_codek m_n m_built m_length m_begin m_many m_leastOf m_sizeOf m_own m_bestRow m_tryRow m_keptRow m_otherRow m_row m_formRowk m_allForms m_rowsOf m_intervals m_places m_whole v5 x3 _ hc137) (cwV 2 hts gX6_kept_X6_piece rfl rfl rfl (by decide +kernel) ⟨by decide, by decide⟩) (roP.preV hK hPc (ci := 6) rfl rfl) rfl rfl hl.1 rfl (lv_room (Nat.le_of_ble_eq_true rfl)) dX6_kept_137 ⟨Nat.zero_le _, Nat.zero_le _⟩) ?_
          refine lv_icmp_ne (tgt := 147) hx hb dX6_kept_140 (by decide) (fun q140 => ?_) (fun q140 => ?_)
          · have h := Ho_f h q140
            refine lv_iconst (v := (0 : Int32)) hx hb dX6_kept_147 (by decide) ?_
            refine lv_istore (lv' := [(6, .int (0 : Int32)), (0, .ref (ad 0)), (3, .int x3), (4, .int v4), (5, .int v5), (7, .int v7), (8, .int v8)]) hx hb dX6_kept_148 hl (by decide) rfl (fun ls hl => ?_)
            refine lv_iinc (v := v7 + 1) (lv' := [(7, .int (v7 + 1)), (6, .int (0 : Int32)), (0, .ref (ad 0)), (3, .int x3), (4, .int v4), (5, .int v5), (8, .int v8)]) hx hb dX6_kept_150 hl (k := 5) rfl rfl (by decide) rfl (fun ls hl => ?_)
            refine lv_goto (tgt := 80) hx hb dX6_kept_153 (by decide) ?_
            exact hi80 _ (Ho_s h) _ _ ls hP hD hS (lv_sub hl [2, 3, 4, 5, 1, 0] rfl)
          · have h := Ho_t h q140
            refine lv_iconst (v := (1 : Int32)) hx hb dX6_kept_143 (by decide) ?_
            refine lv_goto (tgt := 148) hx hb dX6_kept_144 (by decide) ?_
            refine lv_istore (lv' := [(6, .int (1 : Int32)), (0, .ref (ad 0)), (3, .int x3), (4, .int v4), (5, .int v5), (7, .int v7), (8, .int v8)]) hx hb dX6_kept_148 hl (by decide) rfl (fun ls hl => ?_)
            refine lv_iinc (v := v7 + 1) (lv' := [(7, .int (v7 + 1)), (6, .int (1 : Int32)), (0, .ref (ad 0)), (3, .int x3), (4, .int v4), (5, .int v5), (8, .int v8)]) hx hb dX6_kept_150 hl (k := 5) rfl rfl (by decide) rfl (fun ls hl => ?_)
            refine lv_goto (tgt := 80) hx hb dX6_kept_153 (by decide) ?_
            exact hi80 _ (Ho_s h) _ _ ls hP hD hS (lv_sub hl [2, 3, 4, 5, 1, 0] rfl)
      have J97 : ∀ (v6 : Int32) (v7 : Int32) (v8 : Int32) (v9 : Int32) (H : Heap) (locs : List Loc) (ls : Array Slot), va_P (dC, dI) vwCl (wX6 cI cJ ad m_codek m_n m_built m_length m_begin m_many m_leastOf m_sizeOf m_own m_bestRow m_tryRow m_keptRow m_otherRow m_row m_formRowk m_allForms m_rowsOf m_intervals m_places m_whole) H → va_D A (wX6 cI cJ ad m_codek m_n m_built m_length m_begin m_many m_leastOf m_sizeOf m_own m_bestRow m_tryRow m_keptRow m_otherRow m_row m_formRowk m_allForms m_rowsOf m_intervals m_places m_whole) → va_S A s.heap H locs → lv_has ls 10 [(0, .ref (ad 0)), (3, .int x3), (4, .int v4), (5, .int v5), (6, .int v6), (7, .int v7), (8, .int v8), (9, .int v9)] → Ho ((X6_kept_97_l x3 m_codek m_formRowk v4 v5 v6 v7 v8 v9).bind (fun ex => X6_kept_126 m_row x3 m_codek m_formRowk v4 v5 v6 v7 ex)) Q80 → W p l e rmX6_kept s m args below meth c H locs 0 0 (MQ below (va_Qi (fun (x : Int32) (_ : Unit) => x = r) (fun _ t => va_P (dC, dI) vwCl (wX6 cI cJ ad m_code' m_n m_built m_length m_begin m_many m_leastOf m_sizeOf m_own m_bestRow m_tryRow m_keptRow m_otherRow m_row m_formRow' m_allForms m_rowsOf m_intervals m_places m_whole) t.heap ∧ vK (dC, dI) [(cI, .int), (cJ, .long)] t ∧ va_D (va_A (wX6 cI cJ ad m_code m_n m_built m_length m_begin m_many m_leastOf m_sizeOf m_own m_bestRow m_tryRow m_keptRow m_otherRow m_row m_formRow m_allForms m_rowsOf m_intervals m_places m_whole) sz) (wX6 cI cJ ad m_code' m_n m_built m_length m_begin m_many m_leastOf m_sizeOf m_own m_bestRow m_tryRow m_keptRow m_otherRow m_row m_formRow' m_allForms m_rowsOf m_intervals m_places m_whole)) (va_A (wX6 cI cJ ad m_code m_n m_built m_length m_begin m_many m_leastOf m_sizeOf m_own m_bestRow m_tryRow m_keptRow m_otherRow m_row m_formRow m_allForms m_rowsOf m_intervals m_places m_whole) sz)) args s 0 0 A) (F0 m 97 ls []) := by
        intro v6 v7 v8 v9 H locs ls hP hD hS hl h
        refine loop_use2 (fun z : Int32 × Int32 => ∀ (H : Heap) (locs : List Loc) (ls : Array Slot), va_P (dC, dI) vwCl (wX6 cI cJ ad m_codek m_n m_built m_length m_begin m_many m_leastOf m_sizeOf m_own m_bestRow m_tryRow m_keptRow m_otherRow m_row m_formRowk m_allForms m_rowsOf m_intervals m_places m_whole) H → va_D A (wX6 cI cJ ad m_codek m_n m_built m_length m_begin m_many m_leastOf m_sizeOf m_own m_bestRow m_tryRow m_keptRow m_otherRow m_row m_formRowk m_allForms m_rowsOf m_intervals m_places m_whole) → va_S A s.heap H locs → lv_has ls 10 [(0, .ref (ad 0)), (3, .int x3), (4, .int v4), (5, .int v5), (6, .int v6), (7, .int v7), (8, .int z.1), (9, .int z.2)] → W p l e rmX6_kept s m args below meth c H locs 0 0 (MQ below (va_Qi (fun (x : Int32) (_ : Unit) => x = r) (fun _ t => va_P (dC, dI) vwCl (wX6 cI cJ ad m_code' m_n m_built m_length m_begin m_many m_leastOf m_sizeOf m_own m_bestRow m_tryRow m_keptRow m_otherRow m_row m_formRow' m_allForms m_rowsOf m_intervals m_places m_whole) t.heap ∧ vK (dC, dI) [(cI, .int), (cJ, .long)] t ∧ va_D (va_A (wX6 cI cJ ad m_code m_n m_built m_length m_begin m_many m_leastOf m_sizeOf m_own m_bestRow m_tryRow m_keptRow m_otherRow m_row m_formRow m_allForms m_rowsOf m_intervals m_places m_whole) sz) (wX6 cI cJ ad m_code' m_n m_built m_length m_begin m_many m_leastOf m_sizeOf m_own m_bestRow m_tryRow m_keptRow m_otherRow m_row m_formRow' m_allForms m_rowsOf m_intervals m_places m_whole)) (va_A (wX6 cI cJ ad m_code m_n m_built m_length m_begin m_many m_leastOf m_sizeOf m_own m_bestRow m_tryRow m_keptRow m_otherRow m_row m_formRow m_allForms m_rowsOf m_intervals m_places m_whole) sz)) args s 0 0 A) (F0 m 97 ls [])) ?_ FU _ h H locs ls hP hD hS hl
        intro Q97 hi97 ho97 z h H locs ls hP hD hS hl
        obtain ⟨v8, v9⟩ := z
        have h : Ho (X6_kept_97_s x3 m_codek m_formRowk v4 v5 v6 v7 v8 v9) Q97 := h
        unfold X6_kept_97_s at h
        have hl : lv_has ls 10 [(0, .ref (ad 0)), (3, .int x3), (4, .int v4), (5, .int v5), (6, .int v6), (7, .int v7), (8, .int v8), (9, .int v9)] := hl
        have hP : va_P (dC, dI) vwCl (wX6 cI cJ ad m_codek m_n m_built m_length m_begin m_many m_leastOf m_sizeOf m_own m_bestRow m_tryRow m_keptRow m_otherRow m_row m_formRowk m_allForms m_rowsOf m_intervals m_places m_whole) H := hP
        have hD : va_D A (wX6 cI cJ ad m_codek m_n m_built m_length m_begin m_many m_leastOf m_sizeOf m_own m_bestRow m_tryRow m_keptRow m_otherRow m_row m_formRowk m_allForms m_rowsOf m_intervals m_places m_whole) := hD
        refine lv_iload hx hb dX6_kept_97 (lv_at hl 7 rfl) ?_
        refine lv_iload_n hx hb dX6_kept_99 rfl (lv_at hl 1 rfl) ?_
        refine lv_icmp_ge (tgt := 126) hx hb dX6_kept_100 (by decide) (fun q100 => ?_) (fun q100 => ?_)
        · have h := Ho_t h q100
          have h := ho97 _ (Ho_s h)
          exact J126 v6 v7 v8 _ _ ls hP hD hS (lv_sub hl [0, 1, 2, 3, 4, 5, 6] rfl) h
        · have h := Ho_f h q100
          refine lv_iload hx hb dX6_kept_103 (lv_at hl 6 rfl) ?_
          refine lv_iconst (v := (1 : Int32)) hx hb dX6_kept_105 (by decide) ?_
          refine lv_aload_n hx hb dX6_kept_106 rfl (lv_at hl 0 rfl) ?_
          refine va_get (D := (dC, dI)) (ci := 6) (v := .ref (ad 9)) (C := RX6) (T := TX6) (N := 20) hx hb hts hiX6 hown hK.1 hP 0 rfl rfl 14 (by decide) hf38 (fun _ h9 => h9) rfl dX6_kept_107 ?_
          refine lv_iload hx hb dX6_kept_110 (lv_at hl 5 rfl) ?_
          refine lv_iload hx hb dX6_kept_112 (lv_at hl 7 rfl) ?_
          refine lv_iadd hx hb dX6_kept_114 ?_
          obtain ⟨hz115, h⟩ := Ho_ix h
          refine va_iald hx hb hK.1 hP 9 0 rfl rfl hz115 dX6_kept_115 ?_
          refine lv_ishl hx hb dX6_kept_116 ?_
          refine lv_ior hx hb dX6_kept_117 ?_
          refine lv_istore (lv' := [(8, .int (v8 ||| ((1 : Int32) <<< ((m_formRowk (v7 + v9).toNatClampNeg) &&& 31)))), (0, .ref (ad 0)), (3, .int x3), (4, .int v4), (5, .int v5), (6, .int v6), (7, .int v7), (9, .int v9)]) hx hb dX6_kept_118 hl (by decide) rfl (fun ls hl => ?_)
          refine lv_iinc (v := v9 + 1) (lv' := [(9, .int (v9 + 1)), (8, .int (v8 ||| ((1 : Int32) <<< ((m_formRowk (v7 + v9).toNatClampNeg) &&& 31)))), (0, .ref (ad 0)), (3, .int x3), (4, .int v4), (5, .int v5), (6, .int v6), (7, .int v7)]) hx hb dX6_kept_120 hl (k := 7) rfl rfl (by decide) rfl (fun ls hl => ?_)
          refine lv_goto (tgt := 97) hx hb dX6_kept_123 (by decide) ?_
          exact hi97 _ (Ho_s h) _ _ ls hP hD hS (lv_sub hl [2, 3, 4, 5, 6, 7, 1, 0] rfl)
      refine lv_iload hx hb dX6_kept_80 (lv_at hl 5 rfl) ?_
      refine lv_iload_n hx hb dX6_kept_82 rfl (lv_at hl 1 rfl) ?_
      refine lv_iadd hx hb dX6_kept_83 ?_
      refine lv_aload_n hx hb dX6_kept_84 rfl (lv_at hl 0 rfl) ?_
      refine va_get (D := (dC, dI)) (ci := 6) (v := .int m_n) (C := RX6) (T := TX6) (N := 20) hx hb hts hiX6 hown hK.1 hP 0 rfl rfl 1 (by decide) hf7 (fun _ h9 => h9) rfl dX6_kept_85 ?_
      refine lv_icmp_gt (tgt := 156) hx hb dX6_kept_88 (by decide) (fun q88 => ?_) (fun q88 => ?_)
      · have h := Ho_t h q88
        have h := ho80 _ (Ho_s h)
        exact J156 v4 v5 v6 _ _ ls hP hD hS (lv_sub hl [0, 1, 2, 3, 4] rfl) h
      · have h := Ho_f h q88
        refine lv_iconst (v := (0 : Int32)) hx hb dX6_kept_91 (by decide) ?_
        refine lv_istore (lv' := [(8, .int (0 : Int32)), (0, .ref (ad 0)), (3, .int x3), (4, .int v4), (5, .int v5), (6, .int v6), (7, .int v7)]) hx hb dX6_kept_92 hl (by decide) rfl (fun ls hl => ?_)
        refine lv_iconst (v := (0 : Int32)) hx hb dX6_kept_94 (by decide) ?_
        refine lv_istore (lv' := [(9, .int (0 : Int32)), (8, .int (0 : Int32)), (0, .ref (ad 0)), (3, .int x3), (4, .int v4), (5, .int v5), (6, .int v6), (7, .int v7)]) hx hb dX6_kept_95 hl (by decide) rfl (fun ls hl => ?_)
        exact J97 v6 v7 (0 : Int32) (0 : Int32) _ _ ls hP hD hS (lv_sub hl [2, 3, 4, 5, 6, 7, 1, 0] rfl) h
    refine lv_iload hx hb dX6_kept_63 (lv_at hl 3 rfl) ?_
    refine lv_iload_n hx hb dX6_kept_65 rfl (lv_at hl 1 rfl) ?_
    refine lv_iadd hx hb dX6_kept_66 ?_
    refine lv_aload_n hx hb dX6_kept_67 rfl (lv_at hl 0 rfl) ?_
    refine va_get (D := (dC, dI)) (ci := 6) (v := .int m_n) (C := RX6) (T := TX6) (N := 20) hx hb hts hiX6 hown hK.1 hP 0 rfl rfl 1 (by decide) hf7 (fun _ h9 => h9) rfl dX6_kept_68 ?_
    refine lv_icmp_gt (tgt := 177) hx hb dX6_kept_71 (by decide) (fun q71 => ?_) (fun q71 => ?_)
    · have h := Ho_t h q71
      have h := ho63 _ (Ho_s h)
      exact J177 m_codek m_formRowk v4 _ _ ls hP hD hS (lv_sub hl [2] rfl) h
    · have h := Ho_f h q71
      refine lv_iconst (v := (0 : Int32)) hx hb dX6_kept_74 (by decide) ?_
      refine lv_istore (lv' := [(6, .int (0 : Int32)), (0, .ref (ad 0)), (3, .int x3), (4, .int v4), (5, .int v5)]) hx hb dX6_kept_75 hl (by decide) rfl (fun ls hl => ?_)
      refine lv_iconst (v := (0 : Int32)) hx hb dX6_kept_77 (by decide) ?_
      refine lv_istore (lv' := [(7, .int (0 : Int32)), (6, .int (0 : Int32)), (0, .ref (ad 0)), (3, .int x3), (4, .int v4), (5, .int v5)]) hx hb dX6_kept_78 hl (by decide) rfl (fun ls hl => ?_)
      exact J80 v4 v5 (0 : Int32) (0 : Int32) _ _ ls hP hD hS (lv_sub hl [2, 3, 4, 5, 1, 0] rfl) h
  refine lv_aload_n hx hb dX6_kept_0 rfl (lv_at hl 0 rfl) ?_
  refine lv_iconst (v := (0 : Int32)) hx hb dX6_kept_1 (by decide) ?_
  refine va_put (D := (dC, dI)) (ci := 6) (v := .int (0 : Int32)) (ty := .int) (C := RX6) (T := TX6) (N := 20) hx hb hts hiX6 tyX6 tyX6_ok nmX6 hown hK.1 hP hD hS 0 rfl rfl 0 (by decide) hf57 (fun _ h9 => h9) rfl (by decide +kernel) rfl rfl (Nat.le_of_ble_eq_true rfl) dX6_kept_2 (fun H locs hP hD hS => ?_)
  have hP : va_P (dC, dI) vwCl (wX6 cI cJ ad (0 : Int32) m_n m_built m_length m_begin m_many m_leastOf m_sizeOf m_own m_bestRow m_tryRow m_keptRow m_otherRow m_row m_formRow m_allForms m_rowsOf m_intervals m_places m_whole) H := hP
  have hD : va_D A (wX6 cI cJ ad (0 : Int32) m_n m_built m_length m_begin m_many m_leastOf m_sizeOf m_own m_bestRow m_tryRow m_keptRow m_otherRow m_row m_formRow m_allForms m_rowsOf m_intervals m_places m_whole) := hD
  refine lv_iload_n hx hb dX6_kept_5 rfl (lv_at hl 1 rfl) ?_
  refine lv_iconst (v := (0 : Int32)) hx hb dX6_kept_6 (by decide) ?_
  refine lv_iconst (v := (3 : Int32)) hx hb dX6_kept_7 (by decide) ?_
  obtain ⟨r8, hc8, h⟩ := Ho_b h
  refine cs_i (va_runS (As := [.int x1, .int (0 : Int32), .int (3 : Int32)]) (rest := []) hfix (c_X6_isIn l dC dI cI cJ  x1 (0 : Int32) (3 : Int32) _ hc8) (va_cwS 3 hts gX6_kept_X6_isIn rfl rfl rfl (by decide +kernel) ⟨by decide, by decide⟩) (roP.preS hK va_Pnil) rfl rfl hl.1 rfl (lv_room (Nat.le_of_ble_eq_true rfl)) dX6_kept_8 ⟨Nat.zero_le _, Nat.zero_le _⟩) ?_
  refine lv_if_eq (tgt := 34) hx hb dX6_kept_11 (by decide) (fun q11 => ?_) (fun q11 => ?_)
  · have h := Ho_t h q11
    refine lv_bipush (v := (-2 : Int32)) hx hb dX6_kept_34 (by decide) ?_
    exact W.iret hx hb hr (fun t ht hW => QI (Ho_e h) (by rw [ht]; exact hP) (hK.warm hW) hD (hS.F ht)) hS.2.2 dX6_kept_36 hlk
  · have h := Ho_f h q11
    refine lv_aload_n hx hb dX6_kept_14 rfl (lv_at hl 0 rfl) ?_
    refine lv_iload_n hx hb dX6_kept_15 rfl (lv_at hl 2 rfl) ?_
    obtain ⟨r16, hc16, h⟩ := Ho_b h
    have hPc : va_P (dC, dI) vwCl (wX6 cI cJ ad (0 : Int32) m_n m_built m_length m_begin m_many m_leastOf m_sizeOf m_own m_bestRow m_tryRow m_keptRow m_otherRow m_row m_formRow m_allForms m_rowsOf m_intervals m_places m_whole) H := hP.sub [0, 1, 2, 3, 4, 5, 6, 7, 8, 9, 10, 11, 12, 13, 14] rfl
    refine cs_i (va_runV (As := [.int x2]) (rest := []) hfix (c_X6_isStep l dC dI cI cJ ad (0 : Int32) m_n m_built m_length m_begin m_many m_leastOf m_sizeOf m_own m_bestRow m_tryRow m_keptRow m_otherRow m_row m_formRow m_allForms m_rowsOf m_intervals m_places m_whole x2 _ hc16) (cwV 1 hts gX6_kept_X6_isStep rfl rfl rfl (by decide +kernel) ⟨by decide, by decide⟩) (roP.preV hK hPc (ci := 6) rfl rfl) rfl rfl hl.1 rfl (lv_room (Nat.le_of_ble_eq_true rfl)) dX6_kept_16 ⟨Nat.zero_le _, Nat.zero_le _⟩) ?_
    refine lv_if_eq (tgt := 34) hx hb dX6_kept_19 (by decide) (fun q19 => ?_) (fun q19 => ?_)
    · have h := Ho_t h q19
      refine lv_bipush (v := (-2 : Int32)) hx hb dX6_kept_34 (by decide) ?_
      exact W.iret hx hb hr (fun t ht hW => QI (Ho_e h) (by rw [ht]; exact hP) (hK.warm hW) hD (hS.F ht)) hS.2.2 dX6_kept_36 hlk
    · have h := Ho_f h q19
      refine lv_iload_n hx hb dX6_kept_22 rfl (lv_at hl 3 rfl) ?_
      refine lv_iconst (v := (1 : Int32)) hx hb dX6_kept_23 (by decide) ?_
      refine lv_aload_n hx hb dX6_kept_24 rfl (lv_at hl 0 rfl) ?_
      refine va_get (D := (dC, dI)) (ci := 6) (v := .int m_n) (C := RX6) (T := TX6) (N := 20) hx hb hts hiX6 hown hK.1 hP 0 rfl rfl 1 (by decide) hf7 (fun _ h9 => h9) rfl dX6_kept_25 ?_
      obtain ⟨r28, hc28, h⟩ := Ho_b h
      refine cs_i (va_runS (As := [.int x3, .int (1 : Int32), .int m_n]) (rest := []) hfix (c_X6_isIn l dC dI cI cJ  x3 (1 : Int32) m_n _ hc28) (va_cwS 3 hts gX6_kept_X6_isIn rfl rfl rfl (by decide +kernel) ⟨by decide, by decide⟩) (roP.preS hK va_Pnil) rfl rfl hl.1 rfl (lv_room (Nat.le_of_ble_eq_true rfl)) dX6_kept_28 ⟨Nat.zero_le _, Nat.zero_le _⟩) ?_
      refine lv_if_ne (tgt := 37) hx hb dX6_kept_31 (by decide) (fun q31 => ?_) (fun q31 => ?_)
      · have h := Ho_f h q31
        refine lv_aload_n hx hb dX6_kept_37 rfl (lv_at hl 0 rfl) ?_
        refine va_get (D := (dC, dI)) (ci := 6) (v := .int m_many) (C := RX6) (T := TX6) (N := 20) hx hb hts hiX6 hown hK.1 hP 0 rfl rfl 12 (by decide) hf60 (fun _ h9 => h9) rfl dX6_kept_38 ?_
        refine lv_aload_n hx hb dX6_kept_41 rfl (lv_at hl 0 rfl) ?_
        refine va_get (D := (dC, dI)) (ci := 6) (v := .int m_n) (C := RX6) (T := TX6) (N := 20) hx hb hts hiX6 hown hK.1 hP 0 rfl rfl 1 (by decide) hf7 (fun _ h9 => h9) rfl dX6_kept_42 ?_
        refine lv_icmp_ge (tgt := 51) hx hb dX6_kept_45 (by decide) (fun q45 => ?_) (fun q45 => ?_)
        · have h := Ho_t h q45
          refine lv_aload_n hx hb dX6_kept_51 rfl (lv_at hl 0 rfl) ?_
          refine lv_iload_n hx hb dX6_kept_52 rfl (lv_at hl 1 rfl) ?_
          refine lv_iload_n hx hb dX6_kept_53 rfl (lv_at hl 2 rfl) ?_
          obtain ⟨m_formRow_54, hc54, h⟩ := Ho_b h
          have hPc : va_P (dC, dI) vwCl (wX6 cI cJ ad (0 : Int32) m_n m_built m_length m_begin m_many m_leastOf m_sizeOf m_own m_bestRow m_tryRow m_keptRow m_otherRow m_row m_formRow m_allForms m_rowsOf m_intervals m_places m_whole) H := hP.sub [0, 1, 2, 3, 4, 5, 6, 7, 8, 9, 10, 11, 12, 13, 14] rfl
          have hDc : va_D A (wX6 cI cJ ad (0 : Int32) m_n m_built m_length m_begin m_many m_leastOf m_sizeOf m_own m_bestRow m_tryRow m_keptRow m_otherRow m_row m_formRow m_allForms m_rowsOf m_intervals m_places m_whole) := hD.sub [0, 1, 2, 3, 4, 5, 6, 7, 8, 9, 10, 11, 12, 13, 14] (by decide) rfl
          have hFc := va_free (wc := (wX6 cI cJ ad (0 : Int32) m_n m_built m_length m_begin m_many m_leastOf m_sizeOf m_own m_bestRow m_tryRow m_keptRow m_otherRow m_row m_formRow m_allForms m_rowsOf m_intervals m_places m_whole)) hD hS hA [0, 1, 2, 3, 4, 5, 6, 7, 8, 9, 10, 11, 12, 13, 14] rfl
          refine va_callv (va_runV (As := [.int x1, .int x2]) (rest := []) hfix (c_X6_layForm l dC dI cI cJ ad H.size (0 : Int32) m_n m_built m_length m_begin m_many m_leastOf m_sizeOf m_own m_bestRow m_tryRow m_keptRow m_otherRow m_row m_formRow m_allForms m_rowsOf m_intervals m_places m_whole x1 x2 _ hc54) (cwV 2 hts gX6_kept_X6_layForm rfl rfl rfl (by decide +kernel) ⟨by decide, by decide⟩) (rwP.preV hK hPc hDc rfl (ci := 6) rfl rfl) rfl rfl hl.1 rfl (lv_room (Nat.le_of_ble_eq_true rfl)) dX6_kept_54 ⟨Nat.zero_le _, Nat.zero_le _⟩) hS (fun q _ h => hFc q h) hFc (fun u t H1 locs ht hvm hw hB hz1 hk1 hS => ?_)
          obtain ⟨hP1, -, hD1⟩ := hB
          rw [ht] at hP1
          obtain ⟨hP, hD⟩ := va_join (wr := []) (w1 := (wX6 cI cJ ad (0 : Int32) m_n m_built m_length m_begin m_many m_leastOf m_sizeOf m_own m_bestRow m_tryRow m_keptRow m_otherRow m_row m_formRow_54 m_allForms m_rowsOf m_intervals m_places m_whole)) hP hD [0, 1, 2, 3, 4, 5, 6, 7, 8, 9, 10, 11, 12, 13, 14] [] rfl rfl (by decide) (by decide) hk1 hFc hP1 hD1
          generalize H1 = H at hP hS ⊢
          have hP : va_P (dC, dI) vwCl (wX6 cI cJ ad (0 : Int32) m_n m_built m_length m_begin m_many m_leastOf m_sizeOf m_own m_bestRow m_tryRow m_keptRow m_otherRow m_row m_formRow_54 m_allForms m_rowsOf m_intervals m_places m_whole) H := hP.sub [0, 1, 2, 3, 4, 5, 6, 7, 8, 9, 10, 11, 12, 13, 14] rfl
          have hD : va_D A (wX6 cI cJ ad (0 : Int32) m_n m_built m_length m_begin m_many m_leastOf m_sizeOf m_own m_bestRow m_tryRow m_keptRow m_otherRow m_row m_formRow_54 m_allForms m_rowsOf m_intervals m_places m_whole) := hD.sub [0, 1, 2, 3, 4, 5, 6, 7, 8, 9, 10, 11, 12, 13, 14] (by decide) rfl
          refine lv_iconst (v := (0 : Int32)) hx hb dX6_kept_57 (by decide) ?_
          refine lv_istore (lv' := [(4, .int (0 : Int32)), (0, .ref (ad 0)), (1, .int x1), (2, .int x2), (3, .int x3)]) hx hb dX6_kept_58 hl (by decide) rfl (fun ls hl => ?_)
          refine lv_iconst (v := (0 : Int32)) hx hb dX6_kept_60 (by decide) ?_
          refine lv_istore (lv' := [(5, .int (0 : Int32)), (4, .int (0 : Int32)), (0, .ref (ad 0)), (1, .int x1), (2, .int x2), (3, .int x3)]) hx hb dX6_kept_61 hl (by decide) rfl (fun ls hl => ?_)
          exact J63 (0 : Int32) m_formRow_54 (0 : Int32) (0 : Int32) _ _ ls hP hD hS (lv_sub hl [2, 5, 1, 0] rfl) h
        · have h := Ho_f h q45
          refine lv_bipush (v := (-3 : Int32)) hx hb dX6_kept_48 (by decide) ?_
          exact W.iret hx hb hr (fun t ht hW => QI (Ho_e h) (by rw [ht]; exact hP) (hK.warm hW) hD (hS.F ht)) hS.2.2 dX6_kept_50 hlk
      · have h := Ho_t h q31
        refine lv_bipush (v := (-2 : Int32)) hx hb dX6_kept_34 (by decide) ?_
        exact W.iret hx hb hr (fun t ht hW => QI (Ho_e h) (by rw [ht]; exact hP) (hK.warm hW) hD (hS.F ht)) hS.2.2 dX6_kept_36 hlk
