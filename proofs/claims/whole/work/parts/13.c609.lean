abbrev rmX6_even : Room := { frames := 1, cells := 0, slots := 0, locals := 21 }
set_option maxHeartbeats 4000000 in
set_option maxRecDepth 100000 in
theorem c_X6_even (l : Launch) (dC : Nat → ClassId) (dI : Nat → Nat → Nat) (cI cJ : ClassId) (ad : Nat → Nat) (sz : Nat) (m_code : Int32) (m_n : Int32) (m_built : Int32) (m_length : Int32) (m_begin : Int32) (m_many : Int32) (m_leastOf : Nat → Int32) (m_sizeOf : Nat → Int32) (m_own : Nat → Int32) (m_bestRow : Nat → Int32) (m_tryRow : Nat → Int32) (m_keptRow : Nat → Int32) (m_otherRow : Nat → Int32) (m_row : Nat → Int32) (m_formRow : Nat → Int32) (m_allForms : Nat → Int32) (m_rowsOf : Nat → Int32) (m_intervals : Nat → Int32) (m_places : Nat → Int32) (m_whole : Nat → Int64) (x1 : Int32) (r : Int32) (m_code' : Int32) (m_length' : Int32) (m_own' : Nat → Int32) (hF : FX6_even m_code m_n m_length m_own x1 = some (r, m_code', m_length', m_own')) : Met l yX6_even wsX6_even rmX6_even (rwP (dC, dI) [(cI, .int), (cJ, .long)] sz (wX6 cI cJ ad m_code m_n m_built m_length m_begin m_many m_leastOf m_sizeOf m_own m_bestRow m_tryRow m_keptRow m_otherRow m_row m_formRow m_allForms m_rowsOf m_intervals m_places m_whole) [.ref (ad 0), .int x1]) (va_Qi (fun (x : Int32) (_ : Unit) => x = r) (fun _ t => va_P (dC, dI) vwCl (wX6 cI cJ ad m_code' m_n m_built m_length' m_begin m_many m_leastOf m_sizeOf m_own' m_bestRow m_tryRow m_keptRow m_otherRow m_row m_formRow m_allForms m_rowsOf m_intervals m_places m_whole) t.heap ∧ vK (dC, dI) [(cI, .int), (cJ, .long)] t ∧ va_D (va_A (wX6 cI cJ ad m_code m_n m_built m_length m_begin m_many m_leastOf m_sizeOf m_own m_bestRow m_tryRow m_keptRow m_otherRow m_row m_formRow m_allForms m_rowsOf m_intervals m_places m_whole) sz) (wX6 cI cJ ad m_code' m_n m_built m_length' m_begin m_many m_leastOf m_sizeOf m_own' m_bestRow m_tryRow m_keptRow m_otherRow m_row m_formRow m_allForms m_rowsOf m_intervals m_places m_whole)) (va_A (wX6 cI cJ ad m_code m_n m_built m_length m_begin m_many m_leastOf m_sizeOf m_own m_bestRow m_tryRow m_keptRow m_otherRow m_row m_formRow m_allForms m_rowsOf m_intervals m_places m_whole) sz)) 0 0 (va_A (wX6 cI cJ ad m_code m_n m_built m_length m_begin m_many m_leastOf m_sizeOf m_own m_bestRow m_tryRow m_keptRow m_otherRow m_row m_formRow m_allForms m_rowsOf m_intervals m_places m_whole) sz) := by
  refine rw_start (cc := cX6_even) (maxL := 7) (ret := (some .int)) (by decide) rfl (Nat.le_of_ble_eq_true rfl) ?_
  intro p e s m args below meth c ls A H locs hx hb hml hr hlk hown hts hsz hP hK hD hA hS hAe hl
  have hown : s.vm.findClass RX6 = some m.cls := hown
  have hl : lv_has ls 7 [(0, .ref (ad 0)), (1, .int x1)] := hl
  have h : Ho (FX6_even m_code m_n m_length m_own x1) (fun x => x = (r, m_code', m_length', m_own')) := ⟨_, hF, rfl⟩
  unfold FX6_even at h
  have QI : ∀ {v0 : Int32} {m_code9 : Int32} {m_length9 : Int32} {m_own9 : Nat → Int32} {t : State}, (v0, m_code9, m_length9, m_own9) = (r, m_code', m_length', m_own') → va_P (dC, dI) vwCl (wX6 cI cJ ad m_code9 m_n m_built m_length9 m_begin m_many m_leastOf m_sizeOf m_own9 m_bestRow m_tryRow m_keptRow m_otherRow m_row m_formRow m_allForms m_rowsOf m_intervals m_places m_whole) t.heap → vK (dC, dI) [(cI, .int), (cJ, .long)] t → va_D A (wX6 cI cJ ad m_code9 m_n m_built m_length9 m_begin m_many m_leastOf m_sizeOf m_own9 m_bestRow m_tryRow m_keptRow m_otherRow m_row m_formRow m_allForms m_rowsOf m_intervals m_places m_whole) → va_F A s t → (va_Qi (fun (x : Int32) (_ : Unit) => x = r) (fun _ t => va_P (dC, dI) vwCl (wX6 cI cJ ad m_code' m_n m_built m_length' m_begin m_many m_leastOf m_sizeOf m_own' m_bestRow m_tryRow m_keptRow m_otherRow m_row m_formRow m_allForms m_rowsOf m_intervals m_places m_whole) t.heap ∧ vK (dC, dI) [(cI, .int), (cJ, .long)] t ∧ va_D (va_A (wX6 cI cJ ad m_code m_n m_built m_length m_begin m_many m_leastOf m_sizeOf m_own m_bestRow m_tryRow m_keptRow m_otherRow m_row m_formRow m_allForms m_rowsOf m_intervals m_places m_whole) sz) (wX6 cI cJ ad m_code' m_n m_built m_length' m_begin m_many m_leastOf m_sizeOf m_own' m_bestRow m_tryRow m_keptRow m_otherRow m_row m_formRow m_allForms m_rowsOf m_intervals m_places m_whole)) (va_A (wX6 cI cJ ad m_code m_n m_built m_length m_begin m_many m_leastOf m_sizeOf m_own m_bestRow m_tryRow m_keptRow m_otherRow m_row m_formRow m_allForms m_rowsOf m_intervals m_places m_whole) sz)) args s (.returned (some (.int v0))) t := by
    intro v0 m_code9 m_length9 m_own9 t e9 q1 q2 q3 q4
    cases e9
    subst hAe
    exact ⟨⟨_, (), rfl, rfl, q1, q2, q3⟩, q4⟩
  have hfix : CallFix p m c cX6_even 7 s args wsX6_even RX6 := ⟨hx, hb, hml, hown, hts⟩
  have hiX6 : ∀ w ∈ u_ws RX6 TX6 20, w ∈ wsX6_even := by decide +kernel
  have hf7 := hts (.fieldLink RX6 7 "RowClassesModel" "n" "I") (by decide +kernel)
  have hf20 := hts (.fieldLink RX6 20 "RowClassesModel" "own" "[I") (by decide +kernel)
  have hf57 := hts (.fieldLink RX6 57 "RowClassesModel" "code" "I") (by decide +kernel)
  have hf104 := hts (.fieldLink RX6 104 "RowClassesModel" "length" "I") (by decide +kernel)
  have J181 : ∀ (m_codek : Int32) (m_lengthk : Int32) (m_ownk : Nat → Int32) (H : Heap) (locs : List Loc) (ls : Array Slot), va_P (dC, dI) vwCl (wX6 cI cJ ad m_codek m_n m_built m_lengthk m_begin m_many m_leastOf m_sizeOf m_ownk m_bestRow m_tryRow m_keptRow m_otherRow m_row m_formRow m_allForms m_rowsOf m_intervals m_places m_whole) H → va_D A (wX6 cI cJ ad m_codek m_n m_built m_lengthk m_begin m_many m_leastOf m_sizeOf m_ownk m_bestRow m_tryRow m_keptRow m_otherRow m_row m_formRow m_allForms m_rowsOf m_intervals m_places m_whole) → va_S A s.heap H locs → lv_has ls 7 [(0, .ref (ad 0))] → Ho (X6_even_181 m_codek m_lengthk m_ownk) (fun x => x = (r, m_code', m_length', m_own')) → W p l e rmX6_even s m args below meth c H locs 0 0 (MQ below (va_Qi (fun (x : Int32) (_ : Unit) => x = r) (fun _ t => va_P (dC, dI) vwCl (wX6 cI cJ ad m_code' m_n m_built m_length' m_begin m_many m_leastOf m_sizeOf m_own' m_bestRow m_tryRow m_keptRow m_otherRow m_row m_formRow m_allForms m_rowsOf m_intervals m_places m_whole) t.heap ∧ vK (dC, dI) [(cI, .int), (cJ, .long)] t ∧ va_D (va_A (wX6 cI cJ ad m_code m_n m_built m_length m_begin m_many m_leastOf m_sizeOf m_own m_bestRow m_tryRow m_keptRow m_otherRow m_row m_formRow m_allForms m_rowsOf m_intervals m_places m_whole) sz) (wX6 cI cJ ad m_code' m_n m_built m_length' m_begin m_many m_leastOf m_sizeOf m_own' m_bestRow m_tryRow m_keptRow m_otherRow m_row m_formRow m_allForms m_rowsOf m_intervals m_places m_whole)) (va_A (wX6 cI cJ ad m_code m_n m_built m_length m_begin m_many m_leastOf m_sizeOf m_own m_bestRow m_tryRow m_keptRow m_otherRow m_row m_formRow m_allForms m_rowsOf m_intervals m_places m_whole) sz)) args s 0 0 A) (F0 m 181 ls []) := by
    intro m_codek m_lengthk m_ownk H locs ls hP hD hS hl h
    unfold X6_even_181 at h
    refine lv_aload_n hx hb dX6_even_181 rfl (lv_at hl 0 rfl) ?_
    refine va_get (D := (dC, dI)) (ci := 6) (v := .int m_lengthk) (C := RX6) (T := TX6) (N := 20) hx hb hts hiX6 hown hK.1 hP 0 rfl rfl 5 (by decide) hf104 (fun _ h9 => h9) rfl dX6_even_182 ?_
    refine lv_if_le (tgt := 192) hx hb dX6_even_185 (by decide) (fun q185 => ?_) (fun q185 => ?_)
    · have h := Ho_t h q185
      refine lv_iconst (v := (0 : Int32)) hx hb dX6_even_192 (by decide) ?_
      exact W.iret hx hb hr (fun t ht hW => QI (Ho_e h) (by rw [ht]; exact hP) (hK.warm hW) hD (hS.F ht)) hS.2.2 dX6_even_193 hlk
    · have h := Ho_f h q185
      refine lv_iconst (v := (1 : Int32)) hx hb dX6_even_188 (by decide) ?_
      refine lv_goto (tgt := 193) hx hb dX6_even_189 (by decide) ?_
      exact W.iret hx hb hr (fun t ht hW => QI (Ho_e h) (by rw [ht]; exact hP) (hK.warm hW) hD (hS.F ht)) hS.2.2 dX6_even_193 hlk
  have J173 : ∀ (m_codek : Int32) (m_lengthk : Int32) (m_ownk : Nat → Int32) (H : Heap) (locs : List Loc) (ls : Array Slot), va_P (dC, dI) vwCl (wX6 cI cJ ad m_codek m_n m_built m_lengthk m_begin m_many m_leastOf m_sizeOf m_ownk m_bestRow m_tryRow m_keptRow m_otherRow m_row m_formRow m_allForms m_rowsOf m_intervals m_places m_whole) H → va_D A (wX6 cI cJ ad m_codek m_n m_built m_lengthk m_begin m_many m_leastOf m_sizeOf m_ownk m_bestRow m_tryRow m_keptRow m_otherRow m_row m_formRow m_allForms m_rowsOf m_intervals m_places m_whole) → va_S A s.heap H locs → lv_has ls 7 [] → Ho (X6_even_173 m_codek m_lengthk m_ownk) (fun x => x = (r, m_code', m_length', m_own')) → W p l e rmX6_even s m args below meth c H locs 0 0 (MQ below (va_Qi (fun (x : Int32) (_ : Unit) => x = r) (fun _ t => va_P (dC, dI) vwCl (wX6 cI cJ ad m_code' m_n m_built m_length' m_begin m_many m_leastOf m_sizeOf m_own' m_bestRow m_tryRow m_keptRow m_otherRow m_row m_formRow m_allForms m_rowsOf m_intervals m_places m_whole) t.heap ∧ vK (dC, dI) [(cI, .int), (cJ, .long)] t ∧ va_D (va_A (wX6 cI cJ ad m_code m_n m_built m_length m_begin m_many m_leastOf m_sizeOf m_own m_bestRow m_tryRow m_keptRow m_otherRow m_row m_formRow m_allForms m_rowsOf m_intervals m_places m_whole) sz) (wX6 cI cJ ad m_code' m_n m_built m_length' m_begin m_many m_leastOf m_sizeOf m_own' m_bestRow m_tryRow m_keptRow m_otherRow m_row m_formRow m_allForms m_rowsOf m_intervals m_places m_whole)) (va_A (wX6 cI cJ ad m_code m_n m_built m_length m_begin m_many m_leastOf m_sizeOf m_own m_bestRow m_tryRow m_keptRow m_otherRow m_row m_formRow m_allForms m_rowsOf m_intervals m_places m_whole) sz)) args s 0 0 A) (F0 m 173 ls []) := by
    intro m_codek m_lengthk m_ownk H locs ls hP hD hS hl h
    unfold X6_even_173 at h
    refine lv_iconst (v := (0 : Int32)) hx hb dX6_even_173 (by decide) ?_
    exact W.iret hx hb hr (fun t ht hW => QI (Ho_e h) (by rw [ht]; exact hP) (hK.warm hW) hD (hS.F ht)) hS.2.2 dX6_even_174 hlk
  have J68 : ∀ (m_codek : Int32) (m_lengthk : Int32) (m_ownk : Nat → Int32) (v2 : Int32) (H : Heap) (locs : List Loc) (ls : Array Slot), va_P (dC, dI) vwCl (wX6 cI cJ ad m_codek m_n m_built m_lengthk m_begin m_many m_leastOf m_sizeOf m_ownk m_bestRow m_tryRow m_keptRow m_otherRow m_row m_formRow m_allForms m_rowsOf m_intervals m_places m_whole) H → va_D A (wX6 cI cJ ad m_codek m_n m_built m_lengthk m_begin m_many m_leastOf m_sizeOf m_ownk m_bestRow m_tryRow m_keptRow m_otherRow m_row m_formRow m_allForms m_rowsOf m_intervals m_places m_whole) → va_S A s.heap H locs → lv_has ls 7 [(0, .ref (ad 0)), (2, .int v2)] → Ho ((X6_even_68_l m_n m_codek m_lengthk m_ownk v2).bind (fun ex => Sum.elim (fun xy => X6_even_173 m_codek m_lengthk m_ownk) (fun xy => X6_even_181 m_codek m_lengthk m_ownk) ex)) (fun x => x = (r, m_code', m_length', m_own')) → W p l e rmX6_even s m args below meth c H locs 0 0 (MQ below (va_Qi (fun (x : Int32) (_ : Unit) => x = r) (fun _ t => va_P (dC, dI) vwCl (wX6 cI cJ ad m_code' m_n m_built m_length' m_begin m_many m_leastOf m_sizeOf m_own' m_bestRow m_tryRow m_keptRow m_otherRow m_row m_formRow m_allForms m_rowsOf m_intervals m_places m_whole) t.heap ∧ vK (dC, dI) [(cI, .int), (cJ, .long)] t ∧ va_D (va_A (wX6 cI cJ ad m_code m_n m_built m_length m_begin m_many m_leastOf m_sizeOf m_own m_bestRow m_tryRow m_keptRow m_otherRow m_row m_formRow m_allForms m_rowsOf m_intervals m_places m_whole) sz) (wX6 cI cJ ad m_code' m_n m_built m_length' m_begin m_many m_leastOf m_sizeOf m_own' m_bestRow m_tryRow m_keptRow m_otherRow m_row m_formRow m_allForms m_rowsOf m_intervals m_places m_whole)) (va_A (wX6 cI cJ ad m_code m_n m_built m_length m_begin m_many m_leastOf m_sizeOf m_own m_bestRow m_tryRow m_keptRow m_otherRow m_row m_formRow m_allForms m_rowsOf m_intervals m_places m_whole) sz)) args s 0 0 A) (F0 m 68 ls []) := by
    intro m_codek m_lengthk m_ownk v2 H locs ls hP hD hS hl h
    refine loop_use2 (fun z : Int32 => ∀ (H : Heap) (locs : List Loc) (ls : Array Slot), va_P (dC, dI) vwCl (wX6 cI cJ ad m_codek m_n m_built m_lengthk m_begin m_many m_leastOf m_sizeOf m_ownk m_bestRow m_tryRow m_keptRow m_otherRow m_row m_formRow m_allForms m_rowsOf m_intervals m_places m_whole) H → va_D A (wX6 cI cJ ad m_codek m_n m_built m_lengthk m_begin m_many m_leastOf m_sizeOf m_ownk m_bestRow m_tryRow m_keptRow m_otherRow m_row m_formRow m_allForms m_rowsOf m_intervals m_places m_whole) → va_S A s.heap H locs → lv_has ls 7 [(0, .ref (ad 0)), (2, .int z)] → W p l e rmX6_even s m args below meth c H locs 0 0 (MQ below (va_Qi (fun (x : Int32) (_ : Unit) => x = r) (fun _ t => va_P (dC, dI) vwCl (wX6 cI cJ ad m_code' m_n m_built m_length' m_begin m_many m_leastOf m_sizeOf m_own' m_bestRow m_tryRow m_keptRow m_otherRow m_row m_formRow m_allForms m_rowsOf m_intervals m_places m_whole) t.heap ∧ vK (dC, dI) [(cI, .int), (cJ, .long)] t ∧ va_D (va_A (wX6 cI cJ ad m_code m_n m_built m_length m_begin m_many m_leastOf m_sizeOf m_own m_bestRow m_tryRow m_keptRow m_otherRow m_row m_formRow m_allForms m_rowsOf m_intervals m_places m_whole) sz) (wX6 cI cJ ad m_code' m_n m_built m_length' m_begin m_many m_leastOf m_sizeOf m_own' m_bestRow m_tryRow m_keptRow m_otherRow m_row m_formRow m_allForms m_rowsOf m_intervals m_places m_whole)) (va_A (wX6 cI cJ ad m_code m_n m_built m_length m_begin m_many m_leastOf m_sizeOf m_own m_bestRow m_tryRow m_keptRow m_otherRow m_row m_formRow m_allForms m_rowsOf m_intervals m_places m_whole) sz)) args s 0 0 A) (F0 m 68 ls [])) ?_ FU _ h H locs ls hP hD hS hl
    intro Q68 hi68 ho68 z h H locs ls hP hD hS hl
    obtain ⟨v2, rfl⟩ : ∃ q, q = z := ⟨_, rfl⟩
    have h : Ho (X6_even_68_s m_n m_codek m_lengthk m_ownk v2) Q68 := h
    unfold X6_even_68_s at h
    have hl : lv_has ls 7 [(0, .ref (ad 0)), (2, .int v2)] := hl
    have hP : va_P (dC, dI) vwCl (wX6 cI cJ ad m_codek m_n m_built m_lengthk m_begin m_many m_leastOf m_sizeOf m_ownk m_bestRow m_tryRow m_keptRow m_otherRow m_row m_formRow m_allForms m_rowsOf m_intervals m_places m_whole) H := hP
    have hD : va_D A (wX6 cI cJ ad m_codek m_n m_built m_lengthk m_begin m_many m_leastOf m_sizeOf m_ownk m_bestRow m_tryRow m_keptRow m_otherRow m_row m_formRow m_allForms m_rowsOf m_intervals m_places m_whole) := hD
    have J165 : ∀ (v2 : Int32) (v3 : Int32) (v4 : Int32) (H : Heap) (locs : List Loc) (ls : Array Slot), va_P (dC, dI) vwCl (wX6 cI cJ ad m_codek m_n m_built m_lengthk m_begin m_many m_leastOf m_sizeOf m_ownk m_bestRow m_tryRow m_keptRow m_otherRow m_row m_formRow m_allForms m_rowsOf m_intervals m_places m_whole) H → va_D A (wX6 cI cJ ad m_codek m_n m_built m_lengthk m_begin m_many m_leastOf m_sizeOf m_ownk m_bestRow m_tryRow m_keptRow m_otherRow m_row m_formRow m_allForms m_rowsOf m_intervals m_places m_whole) → va_S A s.heap H locs → lv_has ls 7 [(0, .ref (ad 0)), (2, .int v2), (3, .int v3), (4, .int v4)] → Ho (X6_even_165 m_codek m_lengthk m_ownk v2 v3 v4) Q68 → W p l e rmX6_even s m args below meth c H locs 0 0 (MQ below (va_Qi (fun (x : Int32) (_ : Unit) => x = r) (fun _ t => va_P (dC, dI) vwCl (wX6 cI cJ ad m_code' m_n m_built m_length' m_begin m_many m_leastOf m_sizeOf m_own' m_bestRow m_tryRow m_keptRow m_otherRow m_row m_formRow m_allForms m_rowsOf m_intervals m_places m_whole) t.heap ∧ vK (dC, dI) [(cI, .int), (cJ, .long)] t ∧ va_D (va_A (wX6 cI cJ ad m_code m_n m_built m_length m_begin m_many m_leastOf m_sizeOf m_own m_bestRow m_tryRow m_keptRow m_otherRow m_row m_formRow m_allForms m_rowsOf m_intervals m_places m_whole) sz) (wX6 cI cJ ad m_code' m_n m_built m_length' m_begin m_many m_leastOf m_sizeOf m_own' m_bestRow m_tryRow m_keptRow m_otherRow m_row m_formRow m_allForms m_rowsOf m_intervals m_places m_whole)) (va_A (wX6 cI cJ ad m_code m_n m_built m_length m_begin m_many m_leastOf m_sizeOf m_own m_bestRow m_tryRow m_keptRow m_otherRow m_row m_formRow m_allForms m_rowsOf m_intervals m_places m_whole) sz)) args s 0 0 A) (F0 m 165 ls []) := by
      intro v2 v3 v4 H locs ls hP hD hS hl h
      unfold X6_even_165 at h
      refine lv_iload hx hb dX6_even_165 (lv_at hl 3 rfl) ?_
      refine lv_iload_n hx hb dX6_even_167 rfl (lv_at hl 2 rfl) ?_
      refine lv_isub hx hb dX6_even_168 ?_
      refine lv_iconst (v := (1 : Int32)) hx hb dX6_even_169 (by decide) ?_
      refine lv_icmp_le (tgt := 175) hx hb dX6_even_170 (by decide) (fun q170 => ?_) (fun q170 => ?_)
      · have h := Ho_t h q170
        refine lv_iinc (v := v2 + 1) (lv' := [(2, .int (v2 + 1)), (0, .ref (ad 0)), (3, .int v3), (4, .int v4)]) hx hb dX6_even_175 hl (k := 1) rfl rfl (by decide) rfl (fun ls hl => ?_)
        refine lv_goto (tgt := 68) hx hb dX6_even_178 (by decide) ?_
        exact hi68 _ (Ho_s h) _ _ ls hP hD hS (lv_sub hl [1, 0] rfl)
      · have h := Ho_f h q170
        have h := ho68 _ (Ho_s h)
        exact J173 m_codek m_lengthk m_ownk _ _ ls hP hD hS (lv_sub hl [] rfl) h
    have J87 : ∀ (v2 : Int32) (v3 : Int32) (v4 : Int32) (v5 : Int32) (H : Heap) (locs : List Loc) (ls : Array Slot), va_P (dC, dI) vwCl (wX6 cI cJ ad m_codek m_n m_built m_lengthk m_begin m_many m_leastOf m_sizeOf m_ownk m_bestRow m_tryRow m_keptRow m_otherRow m_row m_formRow m_allForms m_rowsOf m_intervals m_places m_whole) H → va_D A (wX6 cI cJ ad m_codek m_n m_built m_lengthk m_begin m_many m_leastOf m_sizeOf m_ownk m_bestRow m_tryRow m_keptRow m_otherRow m_row m_formRow m_allForms m_rowsOf m_intervals m_places m_whole) → va_S A s.heap H locs → lv_has ls 7 [(0, .ref (ad 0)), (2, .int v2), (3, .int v3), (4, .int v4), (5, .int v5)] → Ho ((X6_even_87_l m_n m_codek m_lengthk m_ownk v2 v3 v4 v5).bind (fun ex => X6_even_165 m_codek m_lengthk m_ownk v2 ex.1 ex.2)) Q68 → W p l e rmX6_even s m args below meth c H locs 0 0 (MQ below (va_Qi (fun (x : Int32) (_ : Unit) => x = r) (fun _ t => va_P (dC, dI) vwCl (wX6 cI cJ ad m_code' m_n m_built m_length' m_begin m_many m_leastOf m_sizeOf m_own' m_bestRow m_tryRow m_keptRow m_otherRow m_row m_formRow m_allForms m_rowsOf m_intervals m_places m_whole) t.heap ∧ vK (dC, dI) [(cI, .int), (cJ, .long)] t ∧ va_D (va_A (wX6 cI cJ ad m_code m_n m_built m_length m_begin m_many m_leastOf m_sizeOf m_own m_bestRow m_tryRow m_keptRow m_otherRow m_row m_formRow m_allForms m_rowsOf m_intervals m_places m_whole) sz) (wX6 cI cJ ad m_code' m_n m_built m_length' m_begin m_many m_leastOf m_sizeOf m_own' m_bestRow m_tryRow m_keptRow m_otherRow m_row m_formRow m_allForms m_rowsOf m_intervals m_places m_whole)) (va_A (wX6 cI cJ ad m_code m_n m_built m_length m_begin m_many m_leastOf m_sizeOf m_own m_bestRow m_tryRow m_keptRow m_otherRow m_row m_formRow m_allForms m_rowsOf m_intervals m_places m_whole) sz)) args s 0 0 A) (F0 m 87 ls []) := by
      intro v2 v3 v4 v5 H locs ls hP hD hS hl h
      refine loop_use2 (fun z : Int32 × Int32 × Int32 => ∀ (H : Heap) (locs : List Loc) (ls : Array Slot), va_P (dC, dI) vwCl (wX6 cI cJ ad m_codek m_n m_built m_lengthk m_begin m_many m_leastOf m_sizeOf m_ownk m_bestRow m_tryRow m_keptRow m_otherRow m_row m_formRow m_allForms m_rowsOf m_intervals m_places m_whole) H → va_D A (wX6 cI cJ ad m_codek m_n m_built m_lengthk m_begin m_many m_leastOf m_sizeOf m_ownk m_bestRow m_tryRow m_keptRow m_otherRow m_row m_formRow m_allForms m_rowsOf m_intervals m_places m_whole) → va_S A s.heap H locs → lv_has ls 7 [(0, .ref (ad 0)), (2, .int v2), (3, .int z.1), (4, .int z.2.1), (5, .int z.2.2)] → W p l e rmX6_even s m args below meth c H locs 0 0 (MQ below (va_Qi (fun (x : Int32) (_ : Unit) => x = r) (fun _ t => va_P (dC, dI) vwCl (wX6 cI cJ ad m_code' m_n m_built m_length' m_begin m_many m_leastOf m_sizeOf m_own' m_bestRow m_tryRow m_keptRow m_otherRow m_row m_formRow m_allForms m_rowsOf m_intervals m_places m_whole) t.heap ∧ vK (dC, dI) [(cI, .int), (cJ, .long)] t ∧ va_D (va_A (wX6 cI cJ ad m_code m_n m_built m_length m_begin m_many m_leastOf m_sizeOf m_own m_bestRow m_tryRow m_keptRow m_otherRow m_row m_formRow m_allForms m_rowsOf m_intervals m_places m_whole) sz) (wX6 cI cJ ad m_code' m_n m_built m_length' m_begin m_many m_leastOf m_sizeOf m_own' m_bestRow m_tryRow m_keptRow m_otherRow m_row m_formRow m_allForms m_rowsOf m_intervals m_places m_whole)) (va_A (wX6 cI cJ ad m_code m_n m_built m_length m_begin m_many m_leastOf m_sizeOf m_own m_bestRow m_tryRow m_keptRow m_otherRow m_row m_formRow m_allForms m_rowsOf m_intervals m_places m_whole) sz)) args s 0 0 A) (F0 m 87 ls [])) ?_ FU _ h H locs ls hP hD hS hl
      intro Q87 hi87 ho87 z h H locs ls hP hD hS hl
      obtain ⟨v3, v4, v5⟩ := z
      have h : Ho (X6_even_87_s m_n m_codek m_lengthk m_ownk v2 v3 v4 v5) Q87 := h
      unfold X6_even_87_s at h
      have hl : lv_has ls 7 [(0, .ref (ad 0)), (2, .int v2), (3, .int v3), (4, .int v4), (5, .int v5)] := hl
      have hP : va_P (dC, dI) vwCl (wX6 cI cJ ad m_codek m_n m_built m_lengthk m_begin m_many m_leastOf m_sizeOf m_ownk m_bestRow m_tryRow m_keptRow m_otherRow m_row m_formRow m_allForms m_rowsOf m_intervals m_places m_whole) H := hP
      have hD : va_D A (wX6 cI cJ ad m_codek m_n m_built m_lengthk m_begin m_many m_leastOf m_sizeOf m_ownk m_bestRow m_tryRow m_keptRow m_otherRow m_row m_formRow m_allForms m_rowsOf m_intervals m_places m_whole) := hD
      have J142 : ∀ (v4 : Int32) (v5 : Int32) (v6 : Int32) (t0 : Int32) (H : Heap) (locs : List Loc) (ls : Array Slot), va_P (dC, dI) vwCl (wX6 cI cJ ad m_codek m_n m_built m_lengthk m_begin m_many m_leastOf m_sizeOf m_ownk m_bestRow m_tryRow m_keptRow m_otherRow m_row m_formRow m_allForms m_rowsOf m_intervals m_places m_whole) H → va_D A (wX6 cI cJ ad m_codek m_n m_built m_lengthk m_begin m_many m_leastOf m_sizeOf m_ownk m_bestRow m_tryRow m_keptRow m_otherRow m_row m_formRow m_allForms m_rowsOf m_intervals m_places m_whole) → va_S A s.heap H locs → lv_has ls 7 [(0, .ref (ad 0)), (2, .int v2), (4, .int v4), (5, .int v5), (6, .int v6)] → Ho (X6_even_142 m_codek m_lengthk m_ownk v2 v4 v5 v6 t0) Q87 → W p l e rmX6_even s m args below meth c H locs 0 0 (MQ below (va_Qi (fun (x : Int32) (_ : Unit) => x = r) (fun _ t => va_P (dC, dI) vwCl (wX6 cI cJ ad m_code' m_n m_built m_length' m_begin m_many m_leastOf m_sizeOf m_own' m_bestRow m_tryRow m_keptRow m_otherRow m_row m_formRow m_allForms m_rowsOf m_intervals m_places m_whole) t.heap ∧ vK (dC, dI) [(cI, .int), (cJ, .long)] t ∧ va_D (va_A (wX6 cI cJ ad m_code m_n m_built m_length m_begin m_many m_leastOf m_sizeOf m_own m_bestRow m_tryRow m_keptRow m_otherRow m_row m_formRow m_allForms m_rowsOf m_intervals m_places m_whole) sz) (wX6 cI cJ ad m_code' m_n m_built m_length' m_begin m_many m_leastOf m_sizeOf m_own' m_bestRow m_tryRow m_keptRow m_otherRow m_row m_formRow m_allForms m_rowsOf m_intervals m_places m_whole)) (va_A (wX6 cI cJ ad m_code m_n m_built m_length m_begin m_many m_leastOf m_sizeOf m_own m_bestRow m_tryRow m_keptRow m_otherRow m_row m_formRow m_allForms m_rowsOf m_intervals m_places m_whole) sz)) args s 0 0 A) (F0 m 142 ls [.int t0]) := by
        intro v4 v5 v6 t0 H locs ls hP hD hS hl h
        unfold X6_even_142 at h
        refine lv_istore_n (lv' := [(3, .int t0), (0, .ref (ad 0)), (2, .int v2), (4, .int v4), (5, .int v5), (6, .int v6)]) hx hb dX6_even_142 rfl hl (by decide) rfl (fun ls hl => ?_)
        refine lv_iload hx hb dX6_even_143 (lv_at hl 5 rfl) ?_
        refine lv_iload hx hb dX6_even_145 (lv_at hl 3 rfl) ?_
        refine lv_icmp_le (tgt := 155) hx hb dX6_even_147 (by decide) (fun q147 => ?_) (fun q147 => ?_)
        · have h := Ho_t h q147
          refine lv_iload hx hb dX6_even_155 (lv_at hl 3 rfl) ?_
          refine lv_istore (lv' := [(4, .int v4), (3, .int t0), (0, .ref (ad 0)), (2, .int v2), (5, .int v5), (6, .int v6)]) hx hb dX6_even_157 hl (by decide) rfl (fun ls hl => ?_)
          refine lv_iinc (v := v5 + 1) (lv' := [(5, .int (v5 + 1)), (4, .int v4), (3, .int t0), (0, .ref (ad 0)), (2, .int v2), (6, .int v6)]) hx hb dX6_even_159 hl (k := 4) rfl rfl (by decide) rfl (fun ls hl => ?_)
          refine lv_goto (tgt := 87) hx hb dX6_even_162 (by decide) ?_
          exact hi87 _ (Ho_s h) _ _ ls hP hD hS (lv_sub hl [3, 4, 2, 1, 0] rfl)
        · have h := Ho_f h q147
          refine lv_iload hx hb dX6_even_150 (lv_at hl 5 rfl) ?_
          refine lv_goto (tgt := 157) hx hb dX6_even_152 (by decide) ?_
          refine lv_istore (lv' := [(4, .int v6), (3, .int t0), (0, .ref (ad 0)), (2, .int v2), (5, .int v5), (6, .int v6)]) hx hb dX6_even_157 hl (by decide) rfl (fun ls hl => ?_)
          refine lv_iinc (v := v5 + 1) (lv' := [(5, .int (v5 + 1)), (4, .int v6), (3, .int t0), (0, .ref (ad 0)), (2, .int v2), (6, .int v6)]) hx hb dX6_even_159 hl (k := 4) rfl rfl (by decide) rfl (fun ls hl => ?_)
          refine lv_goto (tgt := 87) hx hb dX6_even_162 (by decide) ?_
          exact hi87 _ (Ho_s h) _ _ ls hP hD hS (lv_sub hl [3, 4, 2, 1, 0] rfl)
      refine lv_iload hx hb dX6_even_87 (lv_at hl 4 rfl) ?_
      refine lv_aload_n hx hb dX6_even_89 rfl (lv_at hl 0 rfl) ?_
      refine va_get (D := (dC, dI)) (ci := 6) (v := .int m_lengthk) (C := RX6) (T := TX6) (N := 20) hx hb hts hiX6 hown hK.1 hP 0 rfl rfl 5 (by decide) hf104 (fun _ h9 => h9) rfl dX6_even_90 ?_
      refine lv_icmp_ge (tgt := 165) hx hb dX6_even_93 (by decide) (fun q93 => ?_) (fun q93 => ?_)
      · have h := Ho_t h q93
        have h := ho87 _ (Ho_s h)
        exact J165 v2 v3 v4 _ _ ls hP hD hS (lv_sub hl [0, 1, 2, 3] rfl) h
      · have h := Ho_f h q93
        refine lv_aload_n hx hb dX6_even_96 rfl (lv_at hl 0 rfl) ?_
        refine va_get (D := (dC, dI)) (ci := 6) (v := .ref (ad 3)) (C := RX6) (T := TX6) (N := 20) hx hb hts hiX6 hown hK.1 hP 0 rfl rfl 6 (by decide) hf20 (fun _ h9 => h9) rfl dX6_even_97 ?_
        refine lv_iload hx hb dX6_even_100 (lv_at hl 4 rfl) ?_
        refine lv_iload_n hx hb dX6_even_102 rfl (lv_at hl 1 rfl) ?_
        refine lv_iadd hx hb dX6_even_103 ?_
        refine lv_aload_n hx hb dX6_even_104 rfl (lv_at hl 0 rfl) ?_
        refine va_get (D := (dC, dI)) (ci := 6) (v := .int m_lengthk) (C := RX6) (T := TX6) (N := 20) hx hb hts hiX6 hown hK.1 hP 0 rfl rfl 5 (by decide) hf104 (fun _ h9 => h9) rfl dX6_even_105 ?_
        obtain ⟨hz108, h⟩ := Ho_nz h
        refine lv_irem hx hb dX6_even_108 hz108 ?_
        obtain ⟨hz109, h⟩ := Ho_ix h
        refine va_iald hx hb hK.1 hP 3 0 rfl rfl hz109 dX6_even_109 ?_
        refine lv_aload_n hx hb dX6_even_110 rfl (lv_at hl 0 rfl) ?_
        refine va_get (D := (dC, dI)) (ci := 6) (v := .ref (ad 3)) (C := RX6) (T := TX6) (N := 20) hx hb hts hiX6 hown hK.1 hP 0 rfl rfl 6 (by decide) hf20 (fun _ h9 => h9) rfl dX6_even_111 ?_
        refine lv_iload hx hb dX6_even_114 (lv_at hl 4 rfl) ?_
        obtain ⟨hz116, h⟩ := Ho_ix h
        refine va_iald hx hb hK.1 hP 3 0 rfl rfl hz116 dX6_even_116 ?_
        refine lv_isub hx hb dX6_even_117 ?_
        refine lv_aload_n hx hb dX6_even_118 rfl (lv_at hl 0 rfl) ?_
        refine va_get (D := (dC, dI)) (ci := 6) (v := .int m_n) (C := RX6) (T := TX6) (N := 20) hx hb hts hiX6 hown hK.1 hP 0 rfl rfl 1 (by decide) hf7 (fun _ h9 => h9) rfl dX6_even_119 ?_
        refine lv_iadd hx hb dX6_even_122 ?_
        refine lv_aload_n hx hb dX6_even_123 rfl (lv_at hl 0 rfl) ?_
        refine va_get (D := (dC, dI)) (ci := 6) (v := .int m_n) (C := RX6) (T := TX6) (N := 20) hx hb hts hiX6 hown hK.1 hP 0 rfl rfl 1 (by decide) hf7 (fun _ h9 => h9) rfl dX6_even_124 ?_
        obtain ⟨hz127, h⟩ := Ho_nz h
        refine lv_irem hx hb dX6_even_127 hz127 ?_
        refine lv_topi (fun w128 ew128 => ?_)
        have h := Ho_let h w128 ew128
        refine lv_istore (lv' := [(6, .int w128), (0, .ref (ad 0)), (2, .int v2), (3, .int v3), (4, .int v4), (5, .int v5)]) hx hb dX6_even_128 hl (by decide) rfl (fun ls hl => ?_)
        refine lv_iload hx hb dX6_even_130 (lv_at hl 0 rfl) ?_
        refine lv_iload_n hx hb dX6_even_132 rfl (lv_at hl 3 rfl) ?_
        refine lv_icmp_ge (tgt := 141) hx hb dX6_even_133 (by decide) (fun q133 => ?_) (fun q133 => ?_)
        · have h := Ho_t h q133
          refine lv_iload_n hx hb dX6_even_141 rfl (lv_at hl 3 rfl) ?_
          exact J142 v4 v5 w128 v3 _ _ ls hP hD hS (lv_sub hl [1, 2, 4, 5, 0] rfl) h
        · have h := Ho_f h q133
          refine lv_iload hx hb dX6_even_136 (lv_at hl 0 rfl) ?_
          refine lv_goto (tgt := 142) hx hb dX6_even_138 (by decide) ?_
          exact J142 v4 v5 w128 w128 _ _ ls hP hD hS (lv_sub hl [1, 2, 4, 5, 0] rfl) h
    refine lv_iload_n hx hb dX6_even_68 rfl (lv_at hl 1 rfl) ?_
    refine lv_aload_n hx hb dX6_even_69 rfl (lv_at hl 0 rfl) ?_
    refine va_get (D := (dC, dI)) (ci := 6) (v := .int m_lengthk) (C := RX6) (T := TX6) (N := 20) hx hb hts hiX6 hown hK.1 hP 0 rfl rfl 5 (by decide) hf104 (fun _ h9 => h9) rfl dX6_even_70 ?_
    refine lv_icmp_ge (tgt := 181) hx hb dX6_even_73 (by decide) (fun q73 => ?_) (fun q73 => ?_)
    · have h := Ho_t h q73
      have h := ho68 _ (Ho_s h)
      exact J181 m_codek m_lengthk m_ownk _ _ ls hP hD hS (lv_sub hl [0] rfl) h
    · have h := Ho_f h q73
      refine lv_aload_n hx hb dX6_even_76 rfl (lv_at hl 0 rfl) ?_
      refine va_get (D := (dC, dI)) (ci := 6) (v := .int m_n) (C := RX6) (T := TX6) (N := 20) hx hb hts hiX6 hown hK.1 hP 0 rfl rfl 1 (by decide) hf7 (fun _ h9 => h9) rfl dX6_even_77 ?_
      refine lv_istore_n (lv' := [(3, .int m_n), (0, .ref (ad 0)), (2, .int v2)]) hx hb dX6_even_80 rfl hl (by decide) rfl (fun ls hl => ?_)
      refine lv_iconst (v := (0 : Int32)) hx hb dX6_even_81 (by decide) ?_
      refine lv_istore (lv' := [(4, .int (0 : Int32)), (3, .int m_n), (0, .ref (ad 0)), (2, .int v2)]) hx hb dX6_even_82 hl (by decide) rfl (fun ls hl => ?_)
      refine lv_iconst (v := (0 : Int32)) hx hb dX6_even_84 (by decide) ?_
      refine lv_istore (lv' := [(5, .int (0 : Int32)), (4, .int (0 : Int32)), (3, .int m_n), (0, .ref (ad 0)), (2, .int v2)]) hx hb dX6_even_85 hl (by decide) rfl (fun ls hl => ?_)
      exact J87 v2 m_n (0 : Int32) (0 : Int32) _ _ ls hP hD hS (lv_sub hl [3, 4, 2, 1, 0] rfl) h
  have J66 : ∀ (m_codek : Int32) (m_lengthk : Int32) (m_ownk : Nat → Int32) (H : Heap) (locs : List Loc) (ls : Array Slot), va_P (dC, dI) vwCl (wX6 cI cJ ad m_codek m_n m_built m_lengthk m_begin m_many m_leastOf m_sizeOf m_ownk m_bestRow m_tryRow m_keptRow m_otherRow m_row m_formRow m_allForms m_rowsOf m_intervals m_places m_whole) H → va_D A (wX6 cI cJ ad m_codek m_n m_built m_lengthk m_begin m_many m_leastOf m_sizeOf m_ownk m_bestRow m_tryRow m_keptRow m_otherRow m_row m_formRow m_allForms m_rowsOf m_intervals m_places m_whole) → va_S A s.heap H locs → lv_has ls 7 [(0, .ref (ad 0))] → Ho (X6_even_66 m_n m_codek m_lengthk m_ownk) (fun x => x = (r, m_code', m_length', m_own')) → W p l e rmX6_even s m args below meth c H locs 0 0 (MQ below (va_Qi (fun (x : Int32) (_ : Unit) => x = r) (fun _ t => va_P (dC, dI) vwCl (wX6 cI cJ ad m_code' m_n m_built m_length' m_begin m_many m_leastOf m_sizeOf m_own' m_bestRow m_tryRow m_keptRow m_otherRow m_row m_formRow m_allForms m_rowsOf m_intervals m_places m_whole) t.heap ∧ vK (dC, dI) [(cI, .int), (cJ, .long)] t ∧ va_D (va_A (wX6 cI cJ ad m_code m_n m_built m_length m_begin m_many m_leastOf m_sizeOf m_own m_bestRow m_tryRow m_keptRow m_otherRow m_row m_formRow m_allForms m_rowsOf m_intervals m_places m_whole) sz) (wX6 cI cJ ad m_code' m_n m_built m_length' m_begin m_many m_leastOf m_sizeOf m_own' m_bestRow m_tryRow m_keptRow m_otherRow m_row m_formRow m_allForms m_rowsOf m_intervals m_places m_whole)) (va_A (wX6 cI cJ ad m_code m_n m_built m_length m_begin m_many m_leastOf m_sizeOf m_own m_bestRow m_tryRow m_keptRow m_otherRow m_row m_formRow m_allForms m_rowsOf m_intervals m_places m_whole) sz)) args s 0 0 A) (F0 m 66 ls []) := by
    intro m_codek m_lengthk m_ownk H locs ls hP hD hS hl h
    unfold X6_even_66 at h
    refine lv_iconst (v := (1 : Int32)) hx hb dX6_even_66 (by decide) ?_
    refine lv_istore_n (lv' := [(2, .int (1 : Int32)), (0, .ref (ad 0))]) hx hb dX6_even_67 rfl hl (by decide) rfl (fun ls hl => ?_)
    exact J68 m_codek m_lengthk m_ownk (1 : Int32) _ _ ls hP hD hS (lv_sub hl [1, 0] rfl) h
  have J23 : ∀ (m_codek : Int32) (m_lengthk : Int32) (m_ownk : Nat → Int32) (v2 : Int32) (H : Heap) (locs : List Loc) (ls : Array Slot), va_P (dC, dI) vwCl (wX6 cI cJ ad m_codek m_n m_built m_lengthk m_begin m_many m_leastOf m_sizeOf m_ownk m_bestRow m_tryRow m_keptRow m_otherRow m_row m_formRow m_allForms m_rowsOf m_intervals m_places m_whole) H → va_D A (wX6 cI cJ ad m_codek m_n m_built m_lengthk m_begin m_many m_leastOf m_sizeOf m_ownk m_bestRow m_tryRow m_keptRow m_otherRow m_row m_formRow m_allForms m_rowsOf m_intervals m_places m_whole) → va_S A s.heap H locs → lv_has ls 7 [(0, .ref (ad 0)), (1, .int x1), (2, .int v2)] → Ho ((X6_even_23_l m_n x1 m_codek m_lengthk m_ownk v2).bind (fun ex => X6_even_66 m_n m_codek ex.1 ex.2)) (fun x => x = (r, m_code', m_length', m_own')) → W p l e rmX6_even s m args below meth c H locs 0 0 (MQ below (va_Qi (fun (x : Int32) (_ : Unit) => x = r) (fun _ t => va_P (dC, dI) vwCl (wX6 cI cJ ad m_code' m_n m_built m_length' m_begin m_many m_leastOf m_sizeOf m_own' m_bestRow m_tryRow m_keptRow m_otherRow m_row m_formRow m_allForms m_rowsOf m_intervals m_places m_whole) t.heap ∧ vK (dC, dI) [(cI, .int), (cJ, .long)] t ∧ va_D (va_A (wX6 cI cJ ad m_code m_n m_built m_length m_begin m_many m_leastOf m_sizeOf m_own m_bestRow m_tryRow m_keptRow m_otherRow m_row m_formRow m_allForms m_rowsOf m_intervals m_places m_whole) sz) (wX6 cI cJ ad m_code' m_n m_built m_length' m_begin m_many m_leastOf m_sizeOf m_own' m_bestRow m_tryRow m_keptRow m_otherRow m_row m_formRow m_allForms m_rowsOf m_intervals m_places m_whole)) (va_A (wX6 cI cJ ad m_code m_n m_built m_length m_begin m_many m_leastOf m_sizeOf m_own m_bestRow m_tryRow m_keptRow m_otherRow m_row m_formRow m_allForms m_rowsOf m_intervals m_places m_whole) sz)) args s 0 0 A) (F0 m 23 ls []) := by
    intro m_codek m_lengthk m_ownk v2 H locs ls hP hD hS hl h
    refine loop_use2 (fun z : Int32 × (Nat → Int32) × Int32 => ∀ (H : Heap) (locs : List Loc) (ls : Array Slot), va_P (dC, dI) vwCl (wX6 cI cJ ad m_codek m_n m_built z.1 m_begin m_many m_leastOf m_sizeOf z.2.1 m_bestRow m_tryRow m_keptRow m_otherRow m_row m_formRow m_allForms m_rowsOf m_intervals m_places m_whole) H → va_D A (wX6 cI cJ ad m_codek m_n m_built z.1 m_begin m_many m_leastOf m_sizeOf z.2.1 m_bestRow m_tryRow m_keptRow m_otherRow m_row m_formRow m_allForms m_rowsOf m_intervals m_places m_whole) → va_S A s.heap H locs → lv_has ls 7 [(0, .ref (ad 0)), (1, .int x1), (2, .int z.2.2)] → W p l e rmX6_even s m args below meth c H locs 0 0 (MQ below (va_Qi (fun (x : Int32) (_ : Unit) => x = r) (fun _ t => va_P (dC, dI) vwCl (wX6 cI cJ ad m_code' m_n m_built m_length' m_begin m_many m_leastOf m_sizeOf m_own' m_bestRow m_tryRow m_keptRow m_otherRow m_row m_formRow m_allForms m_rowsOf m_intervals m_places m_whole) t.heap ∧ vK (dC, dI) [(cI, .int), (cJ, .long)] t ∧ va_D (va_A (wX6 cI cJ ad m_code m_n m_built m_length m_begin m_many m_leastOf m_sizeOf m_own m_bestRow m_tryRow m_keptRow m_otherRow m_row m_formRow m_allForms m_rowsOf m_intervals m_places m_whole) sz) (wX6 cI cJ ad m_code' m_n m_built m_length' m_begin m_many m_leastOf m_sizeOf m_own' m_bestRow m_tryRow m_keptRow m_otherRow m_row m_formRow m_allForms m_rowsOf m_intervals m_places m_whole)) (va_A (wX6 cI cJ ad m_code m_n m_built m_length m_begin m_many m_leastOf m_sizeOf m_own m_bestRow m_tryRow m_keptRow m_otherRow m_row m_formRow m_allForms m_rowsOf m_intervals m_places m_whole) sz)) args s 0 0 A) (F0 m 23 ls [])) ?_ FU _ h H locs ls hP hD hS hl
    intro Q23 hi23 ho23 z h H locs ls hP hD hS hl
    obtain ⟨m_lengthk, m_ownk, v2⟩ := z
    have h : Ho (X6_even_23_s m_n x1 m_codek m_lengthk m_ownk v2) Q23 := h
    unfold X6_even_23_s at h
    have hl : lv_has ls 7 [(0, .ref (ad 0)), (1, .int x1), (2, .int v2)] := hl
    have hP : va_P (dC, dI) vwCl (wX6 cI cJ ad m_codek m_n m_built m_lengthk m_begin m_many m_leastOf m_sizeOf m_ownk m_bestRow m_tryRow m_keptRow m_otherRow m_row m_formRow m_allForms m_rowsOf m_intervals m_places m_whole) H := hP
    have hD : va_D A (wX6 cI cJ ad m_codek m_n m_built m_lengthk m_begin m_many m_leastOf m_sizeOf m_ownk m_bestRow m_tryRow m_keptRow m_otherRow m_row m_formRow m_allForms m_rowsOf m_intervals m_places m_whole) := hD
    refine lv_iload_n hx hb dX6_even_23 rfl (lv_at hl 2 rfl) ?_
    refine lv_aload_n hx hb dX6_even_24 rfl (lv_at hl 0 rfl) ?_
    refine va_get (D := (dC, dI)) (ci := 6) (v := .int m_n) (C := RX6) (T := TX6) (N := 20) hx hb hts hiX6 hown hK.1 hP 0 rfl rfl 1 (by decide) hf7 (fun _ h9 => h9) rfl dX6_even_25 ?_
    refine lv_icmp_ge (tgt := 66) hx hb dX6_even_28 (by decide) (fun q28 => ?_) (fun q28 => ?_)
    · have h := Ho_t h q28
      have h := ho23 _ (Ho_s h)
      exact J66 m_codek m_lengthk m_ownk _ _ ls hP hD hS (lv_sub hl [0] rfl) h
    · have h := Ho_f h q28
      refine lv_iload_n hx hb dX6_even_31 rfl (lv_at hl 1 rfl) ?_
      refine lv_iload_n hx hb dX6_even_32 rfl (lv_at hl 2 rfl) ?_
      refine lv_ishr hx hb dX6_even_33 ?_
      refine lv_iconst (v := (1 : Int32)) hx hb dX6_even_34 (by decide) ?_
      refine lv_iand hx hb dX6_even_35 ?_
      refine lv_iconst (v := (1 : Int32)) hx hb dX6_even_36 (by decide) ?_
      refine lv_icmp_ne (tgt := 60) hx hb dX6_even_37 (by decide) (fun q37 => ?_) (fun q37 => ?_)
      · have h := Ho_f h q37
        refine lv_iinc (v := v2 + 1) (lv' := [(2, .int (v2 + 1)), (0, .ref (ad 0)), (1, .int x1)]) hx hb dX6_even_60 hl (k := 2) rfl rfl (by decide) rfl (fun ls hl => ?_)
        refine lv_goto (tgt := 23) hx hb dX6_even_63 (by decide) ?_
        exact hi23 _ (Ho_s h) _ _ ls hP hD hS (lv_sub hl [1, 2, 0] rfl)
      · have h := Ho_t h q37
        refine lv_aload_n hx hb dX6_even_40 rfl (lv_at hl 0 rfl) ?_
        refine va_get (D := (dC, dI)) (ci := 6) (v := .ref (ad 3)) (C := RX6) (T := TX6) (N := 20) hx hb hts hiX6 hown hK.1 hP 0 rfl rfl 6 (by decide) hf20 (fun _ h9 => h9) rfl dX6_even_41 ?_
        refine lv_aload_n hx hb dX6_even_44 rfl (lv_at hl 0 rfl) ?_
        refine va_get (D := (dC, dI)) (ci := 6) (v := .int m_lengthk) (C := RX6) (T := TX6) (N := 20) hx hb hts hiX6 hown hK.1 hP 0 rfl rfl 5 (by decide) hf104 (fun _ h9 => h9) rfl dX6_even_45 ?_
        refine lv_iload_n hx hb dX6_even_48 rfl (lv_at hl 2 rfl) ?_
        obtain ⟨hz49, h⟩ := Ho_ix h
        refine va_iast hx hb hK.1 hP hD hS 3 0 rfl rfl hz49 dX6_even_49 (fun H locs hP hD hS => ?_)
        have hP : va_P (dC, dI) vwCl (wX6 cI cJ ad m_codek m_n m_built m_lengthk m_begin m_many m_leastOf m_sizeOf (upd m_ownk m_lengthk.toNatClampNeg v2) m_bestRow m_tryRow m_keptRow m_otherRow m_row m_formRow m_allForms m_rowsOf m_intervals m_places m_whole) H := hP
        have hD : va_D A (wX6 cI cJ ad m_codek m_n m_built m_lengthk m_begin m_many m_leastOf m_sizeOf (upd m_ownk m_lengthk.toNatClampNeg v2) m_bestRow m_tryRow m_keptRow m_otherRow m_row m_formRow m_allForms m_rowsOf m_intervals m_places m_whole) := hD
        refine lv_aload_n hx hb dX6_even_50 rfl (lv_at hl 0 rfl) ?_
        refine lv_dup hx hb dX6_even_51 rfl ?_
        refine va_get (D := (dC, dI)) (ci := 6) (v := .int m_lengthk) (C := RX6) (T := TX6) (N := 20) hx hb hts hiX6 hown hK.1 hP 0 rfl rfl 5 (by decide) hf104 (fun _ h9 => h9) rfl dX6_even_52 ?_
        refine lv_iconst (v := (1 : Int32)) hx hb dX6_even_55 (by decide) ?_
        refine lv_iadd hx hb dX6_even_56 ?_
        refine va_put (D := (dC, dI)) (ci := 6) (v := .int (m_lengthk + (1 : Int32))) (ty := .int) (C := RX6) (T := TX6) (N := 20) hx hb hts hiX6 tyX6 tyX6_ok nmX6 hown hK.1 hP hD hS 0 rfl rfl 5 (by decide) hf104 (fun _ h9 => h9) rfl (by decide +kernel) rfl rfl (Nat.le_of_ble_eq_true rfl) dX6_even_57 (fun H locs hP hD hS => ?_)
        have hP : va_P (dC, dI) vwCl (wX6 cI cJ ad m_codek m_n m_built (m_lengthk + (1 : Int32)) m_begin m_many m_leastOf m_sizeOf (upd m_ownk m_lengthk.toNatClampNeg v2) m_bestRow m_tryRow m_keptRow m_otherRow m_row m_formRow m_allForms m_rowsOf m_intervals m_places m_whole) H := hP
        have hD : va_D A (wX6 cI cJ ad m_codek m_n m_built (m_lengthk + (1 : Int32)) m_begin m_many m_leastOf m_sizeOf (upd m_ownk m_lengthk.toNatClampNeg v2) m_bestRow m_tryRow m_keptRow m_otherRow m_row m_formRow m_allForms m_rowsOf m_intervals m_places m_whole) := hD
        refine lv_iinc (v := v2 + 1) (lv' := [(2, .int (v2 + 1)), (0, .ref (ad 0)), (1, .int x1)]) hx hb dX6_even_60 hl (k := 2) rfl rfl (by decide) rfl (fun ls hl => ?_)
        refine lv_goto (tgt := 23) hx hb dX6_even_63 (by decide) ?_
        exact hi23 _ (Ho_s h) _ _ ls hP hD hS (lv_sub hl [1, 2, 0] rfl)
  refine lv_aload_n hx hb dX6_even_0 rfl (lv_at hl 0 rfl) ?_
  refine lv_iconst (v := (0 : Int32)) hx hb dX6_even_1 (by decide) ?_
  refine va_put (D := (dC, dI)) (ci := 6) (v := .int (0 : Int32)) (ty := .int) (C := RX6) (T := TX6) (N := 20) hx hb hts hiX6 tyX6 tyX6_ok nmX6 hown hK.1 hP hD hS 0 rfl rfl 0 (by decide) hf57 (fun _ h9 => h9) rfl (by decide +kernel) rfl rfl (Nat.le_of_ble_eq_true rfl) dX6_even_2 (fun H locs hP hD hS => ?_)
  have hP : va_P (dC, dI) vwCl (wX6 cI cJ ad (0 : Int32) m_n m_built m_length m_begin m_many m_leastOf m_sizeOf m_own m_bestRow m_tryRow m_keptRow m_otherRow m_row m_formRow m_allForms m_rowsOf m_intervals m_places m_whole) H := hP
  have hD : va_D A (wX6 cI cJ ad (0 : Int32) m_n m_built m_length m_begin m_many m_leastOf m_sizeOf m_own m_bestRow m_tryRow m_keptRow m_otherRow m_row m_formRow m_allForms m_rowsOf m_intervals m_places m_whole) := hD
  refine lv_aload_n hx hb dX6_even_5 rfl (lv_at hl 0 rfl) ?_
  refine lv_iload_n hx hb dX6_even_6 rfl (lv_at hl 1 rfl) ?_
  obtain ⟨r7, hc7, h⟩ := Ho_b h
  have hPc : va_P (dC, dI) vwCl (wX6 cI cJ ad (0 : Int32) m_n m_built m_length m_begin m_many m_leastOf m_sizeOf m_own m_bestRow m_tryRow m_keptRow m_otherRow m_row m_formRow m_allForms m_rowsOf m_intervals m_places m_whole) H := hP.sub [0, 1, 2, 3, 4, 5, 6, 7, 8, 9, 10, 11, 12, 13, 14] rfl
  refine cs_i (va_runV (As := [.int x1]) (rest := []) hfix (c_X6_isSet l dC dI cI cJ ad (0 : Int32) m_n m_built m_length m_begin m_many m_leastOf m_sizeOf m_own m_bestRow m_tryRow m_keptRow m_otherRow m_row m_formRow m_allForms m_rowsOf m_intervals m_places m_whole x1 _ hc7) (cwV 1 hts gX6_even_X6_isSet rfl rfl rfl (by decide +kernel) ⟨by decide, by decide⟩) (roP.preV hK hPc (ci := 6) rfl rfl) rfl rfl hl.1 rfl (lv_room (Nat.le_of_ble_eq_true rfl)) dX6_even_7 ⟨Nat.zero_le _, Nat.zero_le _⟩) ?_
  refine lv_if_ne (tgt := 16) hx hb dX6_even_10 (by decide) (fun q10 => ?_) (fun q10 => ?_)
  · have h := Ho_f h q10
    refine lv_aload_n hx hb dX6_even_16 rfl (lv_at hl 0 rfl) ?_
    refine lv_iconst (v := (0 : Int32)) hx hb dX6_even_17 (by decide) ?_
    refine va_put (D := (dC, dI)) (ci := 6) (v := .int (0 : Int32)) (ty := .int) (C := RX6) (T := TX6) (N := 20) hx hb hts hiX6 tyX6 tyX6_ok nmX6 hown hK.1 hP hD hS 0 rfl rfl 5 (by decide) hf104 (fun _ h9 => h9) rfl (by decide +kernel) rfl rfl (Nat.le_of_ble_eq_true rfl) dX6_even_18 (fun H locs hP hD hS => ?_)
    have hP : va_P (dC, dI) vwCl (wX6 cI cJ ad (0 : Int32) m_n m_built (0 : Int32) m_begin m_many m_leastOf m_sizeOf m_own m_bestRow m_tryRow m_keptRow m_otherRow m_row m_formRow m_allForms m_rowsOf m_intervals m_places m_whole) H := hP
    have hD : va_D A (wX6 cI cJ ad (0 : Int32) m_n m_built (0 : Int32) m_begin m_many m_leastOf m_sizeOf m_own m_bestRow m_tryRow m_keptRow m_otherRow m_row m_formRow m_allForms m_rowsOf m_intervals m_places m_whole) := hD
    refine lv_iconst (v := (0 : Int32)) hx hb dX6_even_21 (by decide) ?_
    refine lv_istore_n (lv' := [(2, .int (0 : Int32)), (0, .ref (ad 0)), (1, .int x1)]) hx hb dX6_even_22 rfl hl (by decide) rfl (fun ls hl => ?_)
    exact J23 (0 : Int32) (0 : Int32) m_own (0 : Int32) _ _ ls hP hD hS (lv_sub hl [1, 2, 0] rfl) h
  · have h := Ho_t h q10
    refine lv_bipush (v := (-2 : Int32)) hx hb dX6_even_13 (by decide) ?_
    exact W.iret hx hb hr (fun t ht hW => QI (Ho_e h) (by rw [ht]; exact hP) (hK.warm hW) hD (hS.F ht)) hS.2.2 dX6_even_15 hlk
abbrev rmX6_spread : Room := { frames := 1, cells := 0, slots := 0, locals := 22 }
set_option maxHeartbeats 4000000 in
set_option maxRecDepth 100000 in
theorem c_X6_spread (l : Launch) (dC : Nat → ClassId) (dI : Nat → Nat → Nat) (cI cJ : ClassId) (ad : Nat → Nat) (sz : Nat) (m_code : Int32) (m_n : Int32) (m_built : Int32) (m_length : Int32) (m_begin : Int32) (m_many : Int32) (m_leastOf : Nat → Int32) (m_sizeOf : Nat → Int32) (m_own : Nat → Int32) (m_bestRow : Nat → Int32) (m_tryRow : Nat → Int32) (m_keptRow : Nat → Int32) (m_otherRow : Nat → Int32) (m_row : Nat → Int32) (m_formRow : Nat → Int32) (m_allForms : Nat → Int32) (m_rowsOf : Nat → Int32) (m_intervals : Nat → Int32) (m_places : Nat → Int32) (m_whole : Nat → Int64) (x1 : Int32) (x2 : Int32) (r : Int32) (m_code' : Int32) (hF : FX6_spread m_code m_n x1 x2 = some (r, m_code')) : Met l yX6_spread wsX6_spread rmX6_spread (rwP (dC, dI) [(cI, .int), (cJ, .long)] sz (wX6 cI cJ ad m_code m_n m_built m_length m_begin m_many m_leastOf m_sizeOf m_own m_bestRow m_tryRow m_keptRow m_otherRow m_row m_formRow m_allForms m_rowsOf m_intervals m_places m_whole) [.ref (ad 0), .int x1, .int x2]) (va_Qi (fun (x : Int32) (_ : Unit) => x = r) (fun _ t => va_P (dC, dI) vwCl (wX6 cI cJ ad m_code' m_n m_built m_length m_begin m_many m_leastOf m_sizeOf m_own m_bestRow m_tryRow m_keptRow m_otherRow m_row m_formRow m_allForms m_rowsOf m_intervals m_places m_whole) t.heap ∧ vK (dC, dI) [(cI, .int), (cJ, .long)] t ∧ va_D (va_A (wX6 cI cJ ad m_code m_n m_built m_length m_begin m_many m_leastOf m_sizeOf m_own m_bestRow m_tryRow m_keptRow m_otherRow m_row m_formRow m_allForms m_rowsOf m_intervals m_places m_whole) sz) (wX6 cI cJ ad m_code' m_n m_built m_length m_begin m_many m_leastOf m_sizeOf m_own m_bestRow m_tryRow m_keptRow m_otherRow m_row m_formRow m_allForms m_rowsOf m_intervals m_places m_whole)) (va_A (wX6 cI cJ ad m_code m_n m_built m_length m_begin m_many m_leastOf m_sizeOf m_own m_bestRow m_tryRow m_keptRow m_otherRow m_row m_formRow m_allForms m_rowsOf m_intervals m_places m_whole) sz)) 0 0 (va_A (wX6 cI cJ ad m_code m_n m_built m_length m_begin m_many m_leastOf m_sizeOf m_own m_bestRow m_tryRow m_keptRow m_otherRow m_row m_formRow m_allForms m_rowsOf m_intervals m_places m_whole) sz) := by
  refine rw_start (cc := cX6_spread) (maxL := 5) (ret := (some .int)) (by decide) rfl (Nat.le_of_ble_eq_true rfl) ?_
  intro p e s m args below meth c ls A H locs hx hb hml hr hlk hown hts hsz hP hK hD hA hS hAe hl
  have hown : s.vm.findClass RX6 = some m.cls := hown
  have hl : lv_has ls 5 [(0, .ref (ad 0)), (1, .int x1), (2, .int x2)] := hl
  have h : Ho (FX6_spread m_code m_n x1 x2) (fun x => x = (r, m_code')) := ⟨_, hF, rfl⟩
  unfold FX6_spread at h
  have QI : ∀ {v0 : Int32} {m_code9 : Int32} {t : State}, (v0, m_code9) = (r, m_code') → va_P (dC, dI) vwCl (wX6 cI cJ ad m_code9 m_n m_built m_length m_begin m_many m_leastOf m_sizeOf m_own m_bestRow m_tryRow m_keptRow m_otherRow m_row m_formRow m_allForms m_rowsOf m_intervals m_places m_whole) t.heap → vK (dC, dI) [(cI, .int), (cJ, .long)] t → va_D A (wX6 cI cJ ad m_code9 m_n m_built m_length m_begin m_many m_leastOf m_sizeOf m_own m_bestRow m_tryRow m_keptRow m_otherRow m_row m_formRow m_allForms m_rowsOf m_intervals m_places m_whole) → va_F A s t → (va_Qi (fun (x : Int32) (_ : Unit) => x = r) (fun _ t => va_P (dC, dI) vwCl (wX6 cI cJ ad m_code' m_n m_built m_length m_begin m_many m_leastOf m_sizeOf m_own m_bestRow m_tryRow m_keptRow m_otherRow m_row m_formRow m_allForms m_rowsOf m_intervals m_places m_whole) t.heap ∧ vK (dC, dI) [(cI, .int), (cJ, .long)] t ∧ va_D (va_A (wX6 cI cJ ad m_code m_n m_built m_length m_begin m_many m_leastOf m_sizeOf m_own m_bestRow m_tryRow m_keptRow m_otherRow m_row m_formRow m_allForms m_rowsOf m_intervals m_places m_whole) sz) (wX6 cI cJ ad m_code' m_n m_built m_length m_begin m_many m_leastOf m_sizeOf m_own m_bestRow m_tryRow m_keptRow m_otherRow m_row m_formRow m_allForms m_rowsOf m_intervals m_places m_whole)) (va_A (wX6 cI cJ ad m_code m_n m_built m_length m_begin m_many m_leastOf m_sizeOf m_own m_bestRow m_tryRow m_keptRow m_otherRow m_row m_formRow m_allForms m_rowsOf m_intervals m_places m_whole) sz)) args s (.returned (some (.int v0))) t := by
    intro v0 m_code9 t e9 q1 q2 q3 q4
    cases e9
    subst hAe
    exact ⟨⟨_, (), rfl, rfl, q1, q2, q3⟩, q4⟩
  have hfix : CallFix p m c cX6_spread 5 s args wsX6_spread RX6 := ⟨hx, hb, hml, hown, hts⟩
  have hiX6 : ∀ w ∈ u_ws RX6 TX6 20, w ∈ wsX6_spread := by decide +kernel
  have hf7 := hts (.fieldLink RX6 7 "RowClassesModel" "n" "I") (by decide +kernel)
  have hf57 := hts (.fieldLink RX6 57 "RowClassesModel" "code" "I") (by decide +kernel)
  have J61 : ∀ (m_codek : Int32) (v3 : Int32) (H : Heap) (locs : List Loc) (ls : Array Slot), va_P (dC, dI) vwCl (wX6 cI cJ ad m_codek m_n m_built m_length m_begin m_many m_leastOf m_sizeOf m_own m_bestRow m_tryRow m_keptRow m_otherRow m_row m_formRow m_allForms m_rowsOf m_intervals m_places m_whole) H → va_D A (wX6 cI cJ ad m_codek m_n m_built m_length m_begin m_many m_leastOf m_sizeOf m_own m_bestRow m_tryRow m_keptRow m_otherRow m_row m_formRow m_allForms m_rowsOf m_intervals m_places m_whole) → va_S A s.heap H locs → lv_has ls 5 [(3, .int v3)] → Ho (X6_spread_61 m_codek v3) (fun x => x = (r, m_code')) → W p l e rmX6_spread s m args below meth c H locs 0 0 (MQ below (va_Qi (fun (x : Int32) (_ : Unit) => x = r) (fun _ t => va_P (dC, dI) vwCl (wX6 cI cJ ad m_code' m_n m_built m_length m_begin m_many m_leastOf m_sizeOf m_own m_bestRow m_tryRow m_keptRow m_otherRow m_row m_formRow m_allForms m_rowsOf m_intervals m_places m_whole) t.heap ∧ vK (dC, dI) [(cI, .int), (cJ, .long)] t ∧ va_D (va_A (wX6 cI cJ ad m_code m_n m_built m_length m_begin m_many m_leastOf m_sizeOf m_own m_bestRow m_tryRow m_keptRow m_otherRow m_row m_formRow m_allForms m_rowsOf m_intervals m_places m_whole) sz) (wX6 cI cJ ad m_code' m_n m_built m_length m_begin m_many m_leastOf m_sizeOf m_own m_bestRow m_tryRow m_keptRow m_otherRow m_row m_formRow m_allForms m_rowsOf m_intervals m_places m_whole)) (va_A (wX6 cI cJ ad m_code m_n m_built m_length m_begin m_many m_leastOf m_sizeOf m_own m_bestRow m_tryRow m_keptRow m_otherRow m_row m_formRow m_allForms m_rowsOf m_intervals m_places m_whole) sz)) args s 0 0 A) (F0 m 61 ls []) := by
    intro m_codek v3 H locs ls hP hD hS hl h
    unfold X6_spread_61 at h
    refine lv_iload_n hx hb dX6_spread_61 rfl (lv_at hl 0 rfl) ?_
    exact W.iret hx hb hr (fun t ht hW => QI (Ho_e h) (by rw [ht]; exact hP) (hK.warm hW) hD (hS.F ht)) hS.2.2 dX6_spread_62 hlk
  have J33 : ∀ (m_codek : Int32) (v3 : Int32) (v4 : Int32) (H : Heap) (locs : List Loc) (ls : Array Slot), va_P (dC, dI) vwCl (wX6 cI cJ ad m_codek m_n m_built m_length m_begin m_many m_leastOf m_sizeOf m_own m_bestRow m_tryRow m_keptRow m_otherRow m_row m_formRow m_allForms m_rowsOf m_intervals m_places m_whole) H → va_D A (wX6 cI cJ ad m_codek m_n m_built m_length m_begin m_many m_leastOf m_sizeOf m_own m_bestRow m_tryRow m_keptRow m_otherRow m_row m_formRow m_allForms m_rowsOf m_intervals m_places m_whole) → va_S A s.heap H locs → lv_has ls 5 [(0, .ref (ad 0)), (1, .int x1), (2, .int x2), (3, .int v3), (4, .int v4)] → Ho ((X6_spread_33_l m_n x1 x2 m_codek v3 v4).bind (fun ex => X6_spread_61 m_codek ex)) (fun x => x = (r, m_code')) → W p l e rmX6_spread s m args below meth c H locs 0 0 (MQ below (va_Qi (fun (x : Int32) (_ : Unit) => x = r) (fun _ t => va_P (dC, dI) vwCl (wX6 cI cJ ad m_code' m_n m_built m_length m_begin m_many m_leastOf m_sizeOf m_own m_bestRow m_tryRow m_keptRow m_otherRow m_row m_formRow m_allForms m_rowsOf m_intervals m_places m_whole) t.heap ∧ vK (dC, dI) [(cI, .int), (cJ, .long)] t ∧ va_D (va_A (wX6 cI cJ ad m_code m_n m_built m_length m_begin m_many m_leastOf m_sizeOf m_own m_bestRow m_tryRow m_keptRow m_otherRow m_row m_formRow m_allForms m_rowsOf m_intervals m_places m_whole) sz) (wX6 cI cJ ad m_code' m_n m_built m_length m_begin m_many m_leastOf m_sizeOf m_own m_bestRow m_tryRow m_keptRow m_otherRow m_row m_formRow m_allForms m_rowsOf m_intervals m_places m_whole)) (va_A (wX6 cI cJ ad m_code m_n m_built m_length m_begin m_many m_leastOf m_sizeOf m_own m_bestRow m_tryRow m_keptRow m_otherRow m_row m_formRow m_allForms m_rowsOf m_intervals m_places m_whole) sz)) args s 0 0 A) (F0 m 33 ls []) := by
    intro m_codek v3 v4 H locs ls hP hD hS hl h
    refine loop_use2 (fun z : Int32 × Int32 => ∀ (H : Heap) (locs : List Loc) (ls : Array Slot), va_P (dC, dI) vwCl (wX6 cI cJ ad m_codek m_n m_built m_length m_begin m_many m_leastOf m_sizeOf m_own m_bestRow m_tryRow m_keptRow m_otherRow m_row m_formRow m_allForms m_rowsOf m_intervals m_places m_whole) H → va_D A (wX6 cI cJ ad m_codek m_n m_built m_length m_begin m_many m_leastOf m_sizeOf m_own m_bestRow m_tryRow m_keptRow m_otherRow m_row m_formRow m_allForms m_rowsOf m_intervals m_places m_whole) → va_S A s.heap H locs → lv_has ls 5 [(0, .ref (ad 0)), (1, .int x1), (2, .int x2), (3, .int z.1), (4, .int z.2)] → W p l e rmX6_spread s m args below meth c H locs 0 0 (MQ below (va_Qi (fun (x : Int32) (_ : Unit) => x = r) (fun _ t => va_P (dC, dI) vwCl (wX6 cI cJ ad m_code' m_n m_built m_length m_begin m_many m_leastOf m_sizeOf m_own m_bestRow m_tryRow m_keptRow m_otherRow m_row m_formRow m_allForms m_rowsOf m_intervals m_places m_whole) t.heap ∧ vK (dC, dI) [(cI, .int), (cJ, .long)] t ∧ va_D (va_A (wX6 cI cJ ad m_code m_n m_built m_length m_begin m_many m_leastOf m_sizeOf m_own m_bestRow m_tryRow m_keptRow m_otherRow m_row m_formRow m_allForms m_rowsOf m_intervals m_places m_whole) sz) (wX6 cI cJ ad m_code' m_n m_built m_length m_begin m_many m_leastOf m_sizeOf m_own m_bestRow m_tryRow m_keptRow m_otherRow m_row m_formRow m_allForms m_rowsOf m_intervals m_places m_whole)) (va_A (wX6 cI cJ ad m_code m_n m_built m_length m_begin m_many m_leastOf m_sizeOf m_own m_bestRow m_tryRow m_keptRow m_otherRow m_row m_formRow m_allForms m_rowsOf m_intervals m_places m_whole) sz)) args s 0 0 A) (F0 m 33 ls [])) ?_ FU _ h H locs ls hP hD hS hl
    intro Q33 hi33 ho33 z h H locs ls hP hD hS hl
    obtain ⟨v3, v4⟩ := z
    have h : Ho (X6_spread_33_s m_n x1 x2 m_codek v3 v4) Q33 := h
    unfold X6_spread_33_s at h
    have hl : lv_has ls 5 [(0, .ref (ad 0)), (1, .int x1), (2, .int x2), (3, .int v3), (4, .int v4)] := hl
    have hP : va_P (dC, dI) vwCl (wX6 cI cJ ad m_codek m_n m_built m_length m_begin m_many m_leastOf m_sizeOf m_own m_bestRow m_tryRow m_keptRow m_otherRow m_row m_formRow m_allForms m_rowsOf m_intervals m_places m_whole) H := hP
    have hD : va_D A (wX6 cI cJ ad m_codek m_n m_built m_length m_begin m_many m_leastOf m_sizeOf m_own m_bestRow m_tryRow m_keptRow m_otherRow m_row m_formRow m_allForms m_rowsOf m_intervals m_places m_whole) := hD
    refine lv_iload hx hb dX6_spread_33 (lv_at hl 4 rfl) ?_
    refine lv_iload_n hx hb dX6_spread_35 rfl (lv_at hl 1 rfl) ?_
    refine lv_icmp_ge (tgt := 61) hx hb dX6_spread_36 (by decide) (fun q36 => ?_) (fun q36 => ?_)
    · have h := Ho_t h q36
      have h := ho33 _ (Ho_s h)
      exact J61 m_codek v3 _ _ ls hP hD hS (lv_sub hl [3] rfl) h
    · have h := Ho_f h q36
      refine lv_iload_n hx hb dX6_spread_39 rfl (lv_at hl 3 rfl) ?_
      refine lv_iconst (v := (1 : Int32)) hx hb dX6_spread_40 (by decide) ?_
      refine lv_aload_n hx hb dX6_spread_41 rfl (lv_at hl 0 rfl) ?_
      refine va_get (D := (dC, dI)) (ci := 6) (v := .int m_n) (C := RX6) (T := TX6) (N := 20) hx hb hts hiX6 hown hK.1 hP 0 rfl rfl 1 (by decide) hf7 (fun _ h9 => h9) rfl dX6_spread_42 ?_
      refine lv_iload hx hb dX6_spread_45 (lv_at hl 4 rfl) ?_
      refine lv_imul hx hb dX6_spread_47 ?_
      refine lv_iload_n hx hb dX6_spread_48 rfl (lv_at hl 2 rfl) ?_
      refine lv_iadd hx hb dX6_spread_49 ?_
      refine lv_iload_n hx hb dX6_spread_50 rfl (lv_at hl 1 rfl) ?_
      obtain ⟨hz51, h⟩ := Ho_nz h
      refine lv_idiv hx hb dX6_spread_51 hz51 ?_
      refine lv_ishl hx hb dX6_spread_52 ?_
      refine lv_ior hx hb dX6_spread_53 ?_
      refine lv_istore_n (lv' := [(3, .int (v3 ||| ((1 : Int32) <<< ((((m_n * v4) + x2) / x1) &&& 31)))), (0, .ref (ad 0)), (1, .int x1), (2, .int x2), (4, .int v4)]) hx hb dX6_spread_54 rfl hl (by decide) rfl (fun ls hl => ?_)
      refine lv_iinc (v := v4 + 1) (lv' := [(4, .int (v4 + 1)), (3, .int (v3 ||| ((1 : Int32) <<< ((((m_n * v4) + x2) / x1) &&& 31)))), (0, .ref (ad 0)), (1, .int x1), (2, .int x2)]) hx hb dX6_spread_55 hl (k := 4) rfl rfl (by decide) rfl (fun ls hl => ?_)
      refine lv_goto (tgt := 33) hx hb dX6_spread_58 (by decide) ?_
      exact hi33 _ (Ho_s h) _ _ ls hP hD hS (lv_sub hl [2, 3, 4, 1, 0] rfl)
  refine lv_aload_n hx hb dX6_spread_0 rfl (lv_at hl 0 rfl) ?_
  refine lv_iconst (v := (0 : Int32)) hx hb dX6_spread_1 (by decide) ?_
  refine va_put (D := (dC, dI)) (ci := 6) (v := .int (0 : Int32)) (ty := .int) (C := RX6) (T := TX6) (N := 20) hx hb hts hiX6 tyX6 tyX6_ok nmX6 hown hK.1 hP hD hS 0 rfl rfl 0 (by decide) hf57 (fun _ h9 => h9) rfl (by decide +kernel) rfl rfl (Nat.le_of_ble_eq_true rfl) dX6_spread_2 (fun H locs hP hD hS => ?_)
  have hP : va_P (dC, dI) vwCl (wX6 cI cJ ad (0 : Int32) m_n m_built m_length m_begin m_many m_leastOf m_sizeOf m_own m_bestRow m_tryRow m_keptRow m_otherRow m_row m_formRow m_allForms m_rowsOf m_intervals m_places m_whole) H := hP
  have hD : va_D A (wX6 cI cJ ad (0 : Int32) m_n m_built m_length m_begin m_many m_leastOf m_sizeOf m_own m_bestRow m_tryRow m_keptRow m_otherRow m_row m_formRow m_allForms m_rowsOf m_intervals m_places m_whole) := hD
  refine lv_iload_n hx hb dX6_spread_5 rfl (lv_at hl 1 rfl) ?_
  refine lv_iconst (v := (1 : Int32)) hx hb dX6_spread_6 (by decide) ?_
  refine lv_aload_n hx hb dX6_spread_7 rfl (lv_at hl 0 rfl) ?_
  refine va_get (D := (dC, dI)) (ci := 6) (v := .int m_n) (C := RX6) (T := TX6) (N := 20) hx hb hts hiX6 hown hK.1 hP 0 rfl rfl 1 (by decide) hf7 (fun _ h9 => h9) rfl dX6_spread_8 ?_
  obtain ⟨r11, hc11, h⟩ := Ho_b h
  refine cs_i (va_runS (As := [.int x1, .int (1 : Int32), .int m_n]) (rest := []) hfix (c_X6_isIn l dC dI cI cJ  x1 (1 : Int32) m_n _ hc11) (va_cwS 3 hts gX6_spread_X6_isIn rfl rfl rfl (by decide +kernel) ⟨by decide, by decide⟩) (roP.preS hK va_Pnil) rfl rfl hl.1 rfl (lv_room (Nat.le_of_ble_eq_true rfl)) dX6_spread_11 ⟨Nat.zero_le _, Nat.zero_le _⟩) ?_
  refine lv_if_eq (tgt := 25) hx hb dX6_spread_14 (by decide) (fun q14 => ?_) (fun q14 => ?_)
  · have h := Ho_t h q14
    refine lv_bipush (v := (-2 : Int32)) hx hb dX6_spread_25 (by decide) ?_
    exact W.iret hx hb hr (fun t ht hW => QI (Ho_e h) (by rw [ht]; exact hP) (hK.warm hW) hD (hS.F ht)) hS.2.2 dX6_spread_27 hlk
  · have h := Ho_f h q14
    refine lv_aload_n hx hb dX6_spread_17 rfl (lv_at hl 0 rfl) ?_
    refine lv_iload_n hx hb dX6_spread_18 rfl (lv_at hl 2 rfl) ?_
    obtain ⟨r19, hc19, h⟩ := Ho_b h
    have hPc : va_P (dC, dI) vwCl (wX6 cI cJ ad (0 : Int32) m_n m_built m_length m_begin m_many m_leastOf m_sizeOf m_own m_bestRow m_tryRow m_keptRow m_otherRow m_row m_formRow m_allForms m_rowsOf m_intervals m_places m_whole) H := hP.sub [0, 1, 2, 3, 4, 5, 6, 7, 8, 9, 10, 11, 12, 13, 14] rfl
    refine cs_i (va_runV (As := [.int x2]) (rest := []) hfix (c_X6_isStep l dC dI cI cJ ad (0 : Int32) m_n m_built m_length m_begin m_many m_leastOf m_sizeOf m_own m_bestRow m_tryRow m_keptRow m_otherRow m_row m_formRow m_allForms m_rowsOf m_intervals m_places m_whole x2 _ hc19) (cwV 1 hts gX6_spread_X6_isStep rfl rfl rfl (by decide +kernel) ⟨by decide, by decide⟩) (roP.preV hK hPc (ci := 6) rfl rfl) rfl rfl hl.1 rfl (lv_room (Nat.le_of_ble_eq_true rfl)) dX6_spread_19 ⟨Nat.zero_le _, Nat.zero_le _⟩) ?_
    refine lv_if_ne (tgt := 28) hx hb dX6_spread_22 (by decide) (fun q22 => ?_) (fun q22 => ?_)
    · have h := Ho_f h q22
      refine lv_iconst (v := (0 : Int32)) hx hb dX6_spread_28 (by decide) ?_
      refine lv_istore_n (lv' := [(3, .int (0 : Int32)), (0, .ref (ad 0)), (1, .int x1), (2, .int x2)]) hx hb dX6_spread_29 rfl hl (by decide) rfl (fun ls hl => ?_)
      refine lv_iconst (v := (0 : Int32)) hx hb dX6_spread_30 (by decide) ?_
      refine lv_istore (lv' := [(4, .int (0 : Int32)), (3, .int (0 : Int32)), (0, .ref (ad 0)), (1, .int x1), (2, .int x2)]) hx hb dX6_spread_31 hl (by decide) rfl (fun ls hl => ?_)
      exact J33 (0 : Int32) (0 : Int32) (0 : Int32) _ _ ls hP hD hS (lv_sub hl [2, 3, 4, 1, 0] rfl) h
    · have h := Ho_t h q22
      refine lv_bipush (v := (-2 : Int32)) hx hb dX6_spread_25 (by decide) ?_
      exact W.iret hx hb hr (fun t ht hW => QI (Ho_e h) (by rw [ht]; exact hP) (hK.warm hW) hD (hS.F ht)) hS.2.2 dX6_spread_27 hlk
