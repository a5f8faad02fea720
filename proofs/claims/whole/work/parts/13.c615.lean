abbrev rmX6_power : Room := { frames := 0, cells := 0, slots := 0, locals := 0 }
set_option maxHeartbeats 4000000 in
set_option maxRecDepth 100000 in
theorem c_X6_power (l : Launch) (dC : Nat → ClassId) (dI : Nat → Nat → Nat) (cI cJ : ClassId) (x0 : Int64) (x2 : Int32) (r : Int64) (hF : FX6_power x0 x2 = some r) : Met l yX6_power wsX6_power rmX6_power (roP (dC, dI) [(cI, .int), (cJ, .long)] [] [.long x0, .int x2]) (vp_Sl (fun x => x = r)) 0 0 (fun _ => False) := by
  refine ro_start (cc := cX6_power) (maxL := 6) (ret := (some .long)) (by decide) rfl (Nat.le_of_ble_eq_true rfl) ?_
  intro p e s m args below meth c ls hx hb hml hr hlk hown hts hP hK hl
  have hown : s.vm.findClass RX6 = some m.cls := hown
  have hl : lv_has ls 6 [(0, .long x0), (2, .int x2)] := hl
  have h : Ho (FX6_power x0 x2) (fun x => x = r) := ⟨r, hF, rfl⟩
  unfold FX6_power at h
  have hfix : CallFix p m c cX6_power 6 s args wsX6_power RX6 := ⟨hx, hb, hml, hown, hts⟩
  have J21 : ∀ (v3 : Int64) (ls : Array Slot), lv_has ls 6 [(3, .long v3)] → Ho (X6_power_21 v3) (fun x => x = r) → W p l e rmX6_power s m args below meth c s.heap [] 0 0 (MQ below (vp_Sl (fun x => x = r)) args s 0 0 (fun _ => False)) (F0 m 21 ls []) := by
    intro v3 ls hl h
    unfold X6_power_21 at h
    refine lv_lload_n hx hb dX6_power_21 rfl (lv_at hl 0 rfl) ?_
    exact W.lret hx hb hr (fun t ht _ => ro_Sl (Ho_e h) ht) ro_nil dX6_power_22 hlk
  have J5 : ∀ (v3 : Int64) (v5 : Int32) (ls : Array Slot), lv_has ls 6 [(0, .long x0), (2, .int x2), (3, .long v3), (5, .int v5)] → Ho ((X6_power_5_l x0 x2 v3 v5).bind (fun ex => X6_power_21 ex)) (fun x => x = r) → W p l e rmX6_power s m args below meth c s.heap [] 0 0 (MQ below (vp_Sl (fun x => x = r)) args s 0 0 (fun _ => False)) (F0 m 5 ls []) := by
    intro v3 v5 ls hl h
    refine loop_use2 (fun z : Int64 × Int32 => ∀ (ls : Array Slot), lv_has ls 6 [(0, .long x0), (2, .int x2), (3, .long z.1), (5, .int z.2)] → W p l e rmX6_power s m args below meth c s.heap [] 0 0 (MQ below (vp_Sl (fun x => x = r)) args s 0 0 (fun _ => False)) (F0 m 5 ls [])) ?_ FU _ h ls hl
    intro Q5 hi5 ho5 z h ls hl
    obtain ⟨v3, v5⟩ := z
    have h : Ho (X6_power_5_s x0 x2 v3 v5) Q5 := h
    unfold X6_power_5_s at h
    have hl : lv_has ls 6 [(0, .long x0), (2, .int x2), (3, .long v3), (5, .int v5)] := hl
    refine lv_iload hx hb dX6_power_5 (lv_at hl 3 rfl) ?_
    refine lv_iload_n hx hb dX6_power_7 rfl (lv_at hl 1 rfl) ?_
    refine lv_icmp_ge (tgt := 21) hx hb dX6_power_8 (by decide) (fun q8 => ?_) (fun q8 => ?_)
    · have h := Ho_t h q8
      have h := ho5 _ (Ho_s h)
      exact J21 v3 ls (lv_sub hl [2] rfl) h
    · have h := Ho_f h q8
      refine lv_lload_n hx hb dX6_power_11 rfl (lv_at hl 2 rfl) ?_
      refine lv_lload_n hx hb dX6_power_12 rfl (lv_at hl 0 rfl) ?_
      refine lv_lmul hx hb dX6_power_13 ?_
      refine lv_lstore_n (lv' := [(3, .long (v3 * x0)), (0, .long x0), (2, .int x2), (5, .int v5)]) hx hb dX6_power_14 rfl hl (by decide) rfl (fun ls hl => ?_)
      refine lv_iinc (v := v5 + 1) (lv' := [(5, .int (v5 + 1)), (3, .long (v3 * x0)), (0, .long x0), (2, .int x2)]) hx hb dX6_power_15 hl (k := 3) rfl rfl (by decide) rfl (fun ls hl => ?_)
      refine lv_goto (tgt := 5) hx hb dX6_power_18 (by decide) ?_
      exact hi5 _ (Ho_s h) ls (lv_sub hl [2, 3, 1, 0] rfl)
  refine lv_lconst (v := (1 : Int64)) hx hb dX6_power_0 (by decide) ?_
  refine lv_lstore_n (lv' := [(3, .long (1 : Int64)), (0, .long x0), (2, .int x2)]) hx hb dX6_power_1 rfl hl (by decide) rfl (fun ls hl => ?_)
  refine lv_iconst (v := (0 : Int32)) hx hb dX6_power_2 (by decide) ?_
  refine lv_istore (lv' := [(5, .int (0 : Int32)), (3, .long (1 : Int64)), (0, .long x0), (2, .int x2)]) hx hb dX6_power_3 hl (by decide) rfl (fun ls hl => ?_)
  exact J5 (1 : Int64) (0 : Int32) ls (lv_sub hl [2, 3, 1, 0] rfl) h
abbrev rmX6_rounds : Room := { frames := 1, cells := 0, slots := 0, locals := 25 }
set_option maxHeartbeats 4000000 in
set_option maxRecDepth 100000 in
theorem c_X6_rounds (l : Launch) (dC : Nat → ClassId) (dI : Nat → Nat → Nat) (cI cJ : ClassId) (ad : Nat → Nat) (sz : Nat) (m_code : Int32) (m_n : Int32) (m_built : Int32) (m_length : Int32) (m_begin : Int32) (m_many : Int32) (m_leastOf : Nat → Int32) (m_sizeOf : Nat → Int32) (m_own : Nat → Int32) (m_bestRow : Nat → Int32) (m_tryRow : Nat → Int32) (m_keptRow : Nat → Int32) (m_otherRow : Nat → Int32) (m_row : Nat → Int32) (m_formRow : Nat → Int32) (m_allForms : Nat → Int32) (m_rowsOf : Nat → Int32) (m_intervals : Nat → Int32) (m_places : Nat → Int32) (m_whole : Nat → Int64) (x1 : Int32) (x2 : Int32) (x3 : Int32) (r : Int64) (m_code' : Int32) (m_whole' : Nat → Int64) (hF : FX6_rounds m_code m_whole x1 x2 x3 = some (r, m_code', m_whole')) : Met l yX6_rounds wsX6_rounds rmX6_rounds (rwP (dC, dI) [(cI, .int), (cJ, .long)] sz (wX6 cI cJ ad m_code m_n m_built m_length m_begin m_many m_leastOf m_sizeOf m_own m_bestRow m_tryRow m_keptRow m_otherRow m_row m_formRow m_allForms m_rowsOf m_intervals m_places m_whole) [.ref (ad 0), .int x1, .int x2, .int x3]) (va_Ql (fun (x : Int64) (_ : Unit) => x = r) (fun _ t => va_P (dC, dI) vwCl (wX6 cI cJ ad m_code' m_n m_built m_length m_begin m_many m_leastOf m_sizeOf m_own m_bestRow m_tryRow m_keptRow m_otherRow m_row m_formRow m_allForms m_rowsOf m_intervals m_places m_whole') t.heap ∧ vK (dC, dI) [(cI, .int), (cJ, .long)] t ∧ va_D (va_A (wX6 cI cJ ad m_code m_n m_built m_length m_begin m_many m_leastOf m_sizeOf m_own m_bestRow m_tryRow m_keptRow m_otherRow m_row m_formRow m_allForms m_rowsOf m_intervals m_places m_whole) sz) (wX6 cI cJ ad m_code' m_n m_built m_length m_begin m_many m_leastOf m_sizeOf m_own m_bestRow m_tryRow m_keptRow m_otherRow m_row m_formRow m_allForms m_rowsOf m_intervals m_places m_whole')) (va_A (wX6 cI cJ ad m_code m_n m_built m_length m_begin m_many m_leastOf m_sizeOf m_own m_bestRow m_tryRow m_keptRow m_otherRow m_row m_formRow m_allForms m_rowsOf m_intervals m_places m_whole) sz)) 0 0 (va_A (wX6 cI cJ ad m_code m_n m_built m_length m_begin m_many m_leastOf m_sizeOf m_own m_bestRow m_tryRow m_keptRow m_otherRow m_row m_formRow m_allForms m_rowsOf m_intervals m_places m_whole) sz) := by
  refine rw_start (cc := cX6_rounds) (maxL := 8) (ret := (some .long)) (by decide) rfl (Nat.le_of_ble_eq_true rfl) ?_
  intro p e s m args below meth c ls A H locs hx hb hml hr hlk hown hts hsz hP hK hD hA hS hAe hl
  have hown : s.vm.findClass RX6 = some m.cls := hown
  have hl : lv_has ls 8 [(0, .ref (ad 0)), (1, .int x1), (2, .int x2), (3, .int x3)] := hl
  have h : Ho (FX6_rounds m_code m_whole x1 x2 x3) (fun x => x = (r, m_code', m_whole')) := ⟨_, hF, rfl⟩
  unfold FX6_rounds at h
  have QI : ∀ {v0 : Int64} {m_code9 : Int32} {m_whole9 : Nat → Int64} {t : State}, (v0, m_code9, m_whole9) = (r, m_code', m_whole') → va_P (dC, dI) vwCl (wX6 cI cJ ad m_code9 m_n m_built m_length m_begin m_many m_leastOf m_sizeOf m_own m_bestRow m_tryRow m_keptRow m_otherRow m_row m_formRow m_allForms m_rowsOf m_intervals m_places m_whole9) t.heap → vK (dC, dI) [(cI, .int), (cJ, .long)] t → va_D A (wX6 cI cJ ad m_code9 m_n m_built m_length m_begin m_many m_leastOf m_sizeOf m_own m_bestRow m_tryRow m_keptRow m_otherRow m_row m_formRow m_allForms m_rowsOf m_intervals m_places m_whole9) → va_F A s t → (va_Ql (fun (x : Int64) (_ : Unit) => x = r) (fun _ t => va_P (dC, dI) vwCl (wX6 cI cJ ad m_code' m_n m_built m_length m_begin m_many m_leastOf m_sizeOf m_own m_bestRow m_tryRow m_keptRow m_otherRow m_row m_formRow m_allForms m_rowsOf m_intervals m_places m_whole') t.heap ∧ vK (dC, dI) [(cI, .int), (cJ, .long)] t ∧ va_D (va_A (wX6 cI cJ ad m_code m_n m_built m_length m_begin m_many m_leastOf m_sizeOf m_own m_bestRow m_tryRow m_keptRow m_otherRow m_row m_formRow m_allForms m_rowsOf m_intervals m_places m_whole) sz) (wX6 cI cJ ad m_code' m_n m_built m_length m_begin m_many m_leastOf m_sizeOf m_own m_bestRow m_tryRow m_keptRow m_otherRow m_row m_formRow m_allForms m_rowsOf m_intervals m_places m_whole')) (va_A (wX6 cI cJ ad m_code m_n m_built m_length m_begin m_many m_leastOf m_sizeOf m_own m_bestRow m_tryRow m_keptRow m_otherRow m_row m_formRow m_allForms m_rowsOf m_intervals m_places m_whole) sz)) args s (.returned (some (.long v0))) t := by
    intro v0 m_code9 m_whole9 t e9 q1 q2 q3 q4
    cases e9
    subst hAe
    exact ⟨⟨_, (), rfl, rfl, q1, q2, q3⟩, q4⟩
  have hfix : CallFix p m c cX6_rounds 8 s args wsX6_rounds RX6 := ⟨hx, hb, hml, hown, hts⟩
  have hiX6 : ∀ w ∈ u_ws RX6 TX6 20, w ∈ wsX6_rounds := by decide +kernel
  have hf53 := hts (.fieldLink RX6 53 "RowClassesModel" "whole" "[J") (by decide +kernel)
  have hf57 := hts (.fieldLink RX6 57 "RowClassesModel" "code" "I") (by decide +kernel)
  have hc141 := hts (.constantLong RX6 141 (-2)) (by decide +kernel)
  have hc147 := hts (.constantLong RX6 147 (2)) (by decide +kernel)
  have J183 : ∀ (m_codek : Int32) (m_wholek : Nat → Int64) (v4 : Int64) (t0 : Int64) (H : Heap) (locs : List Loc) (ls : Array Slot), va_P (dC, dI) vwCl (wX6 cI cJ ad m_codek m_n m_built m_length m_begin m_many m_leastOf m_sizeOf m_own m_bestRow m_tryRow m_keptRow m_otherRow m_row m_formRow m_allForms m_rowsOf m_intervals m_places m_wholek) H → va_D A (wX6 cI cJ ad m_codek m_n m_built m_length m_begin m_many m_leastOf m_sizeOf m_own m_bestRow m_tryRow m_keptRow m_otherRow m_row m_formRow m_allForms m_rowsOf m_intervals m_places m_wholek) → va_S A s.heap H locs → lv_has ls 8 [(4, .long v4)] → Ho (X6_rounds_183 m_codek m_wholek v4 t0) (fun x => x = (r, m_code', m_whole')) → W p l e rmX6_rounds s m args below meth c H locs 0 0 (MQ below (va_Ql (fun (x : Int64) (_ : Unit) => x = r) (fun _ t => va_P (dC, dI) vwCl (wX6 cI cJ ad m_code' m_n m_built m_length m_begin m_many m_leastOf m_sizeOf m_own m_bestRow m_tryRow m_keptRow m_otherRow m_row m_formRow m_allForms m_rowsOf m_intervals m_places m_whole') t.heap ∧ vK (dC, dI) [(cI, .int), (cJ, .long)] t ∧ va_D (va_A (wX6 cI cJ ad m_code m_n m_built m_length m_begin m_many m_leastOf m_sizeOf m_own m_bestRow m_tryRow m_keptRow m_otherRow m_row m_formRow m_allForms m_rowsOf m_intervals m_places m_whole) sz) (wX6 cI cJ ad m_code' m_n m_built m_length m_begin m_many m_leastOf m_sizeOf m_own m_bestRow m_tryRow m_keptRow m_otherRow m_row m_formRow m_allForms m_rowsOf m_intervals m_places m_whole')) (va_A (wX6 cI cJ ad m_code m_n m_built m_length m_begin m_many m_leastOf m_sizeOf m_own m_bestRow m_tryRow m_keptRow m_otherRow m_row m_formRow m_allForms m_rowsOf m_intervals m_places m_whole) sz)) args s 0 0 A) (F0 m 183 ls [.long t0]) := by
    intro m_codek m_wholek v4 t0 H locs ls hP hD hS hl h
    unfold X6_rounds_183 at h
    refine lv_lstore (lv' := [(6, .long t0), (4, .long v4)]) hx hb dX6_rounds_183 hl (by decide) rfl (fun ls hl => ?_)
    refine lv_lload hx hb dX6_rounds_185 (lv_at hl 1 rfl) ?_
    refine lv_lload hx hb dX6_rounds_187 (lv_at hl 0 rfl) ?_
    refine lv_ladd hx hb dX6_rounds_189 ?_
    refine lv_ldc2 hx hb hown hc147 dX6_rounds_190 ?_
    refine lv_ldiv hx hb dX6_rounds_193 (by decide) ?_
    exact W.lret hx hb hr (fun t ht hW => QI (Ho_e h) (by rw [ht]; exact hP) (hK.warm hW) hD (hS.F ht)) hS.2.2 dX6_rounds_194 hlk
  have J133 : ∀ (m_codek : Int32) (m_wholek : Nat → Int64) (v4 : Int64) (H : Heap) (locs : List Loc) (ls : Array Slot), va_P (dC, dI) vwCl (wX6 cI cJ ad m_codek m_n m_built m_length m_begin m_many m_leastOf m_sizeOf m_own m_bestRow m_tryRow m_keptRow m_otherRow m_row m_formRow m_allForms m_rowsOf m_intervals m_places m_wholek) H → va_D A (wX6 cI cJ ad m_codek m_n m_built m_length m_begin m_many m_leastOf m_sizeOf m_own m_bestRow m_tryRow m_keptRow m_otherRow m_row m_formRow m_allForms m_rowsOf m_intervals m_places m_wholek) → va_S A s.heap H locs → lv_has ls 8 [(1, .int x1), (2, .int x2), (3, .int x3), (4, .long v4)] → Ho (X6_rounds_133 x1 x2 x3 m_codek m_wholek v4) (fun x => x = (r, m_code', m_whole')) → W p l e rmX6_rounds s m args below meth c H locs 0 0 (MQ below (va_Ql (fun (x : Int64) (_ : Unit) => x = r) (fun _ t => va_P (dC, dI) vwCl (wX6 cI cJ ad m_code' m_n m_built m_length m_begin m_many m_leastOf m_sizeOf m_own m_bestRow m_tryRow m_keptRow m_otherRow m_row m_formRow m_allForms m_rowsOf m_intervals m_places m_whole') t.heap ∧ vK (dC, dI) [(cI, .int), (cJ, .long)] t ∧ va_D (va_A (wX6 cI cJ ad m_code m_n m_built m_length m_begin m_many m_leastOf m_sizeOf m_own m_bestRow m_tryRow m_keptRow m_otherRow m_row m_formRow m_allForms m_rowsOf m_intervals m_places m_whole) sz) (wX6 cI cJ ad m_code' m_n m_built m_length m_begin m_many m_leastOf m_sizeOf m_own m_bestRow m_tryRow m_keptRow m_otherRow m_row m_formRow m_allForms m_rowsOf m_intervals m_places m_whole')) (va_A (wX6 cI cJ ad m_code m_n m_built m_length m_begin m_many m_leastOf m_sizeOf m_own m_bestRow m_tryRow m_keptRow m_otherRow m_row m_formRow m_allForms m_rowsOf m_intervals m_places m_whole) sz)) args s 0 0 A) (F0 m 133 ls []) := by
    intro m_codek m_wholek v4 H locs ls hP hD hS hl h
    unfold X6_rounds_133 at h
    refine lv_iload_n hx hb dX6_rounds_133 rfl (lv_at hl 2 rfl) ?_
    refine lv_if_ne (tgt := 140) hx hb dX6_rounds_134 (by decide) (fun q134 => ?_) (fun q134 => ?_)
    · have h := Ho_f h q134
      refine lv_iload_n hx hb dX6_rounds_140 rfl (lv_at hl 0 rfl) ?_
      refine lv_iconst (v := (2 : Int32)) hx hb dX6_rounds_141 (by decide) ?_
      refine lv_irem hx hb dX6_rounds_142 (by decide) ?_
      refine lv_iconst (v := (1 : Int32)) hx hb dX6_rounds_143 (by decide) ?_
      refine lv_icmp_ne (tgt := 160) hx hb dX6_rounds_144 (by decide) (fun q144 => ?_) (fun q144 => ?_)
      · have h := Ho_f h q144
        refine lv_iload_n hx hb dX6_rounds_160 rfl (lv_at hl 1 rfl) ?_
        refine lv_i2l (v := x2.toInt64) hx hb dX6_rounds_161 rfl ?_
        refine lv_iload_n hx hb dX6_rounds_162 rfl (lv_at hl 0 rfl) ?_
        refine lv_iconst (v := (2 : Int32)) hx hb dX6_rounds_163 (by decide) ?_
        refine lv_idiv hx hb dX6_rounds_164 (by decide) ?_
        obtain ⟨r165, hc165, h⟩ := Ho_b h
        refine cs_l (va_runS (As := [.long x2.toInt64, .int (x1 / (2 : Int32))]) (rest := []) hfix (c_X6_power l dC dI cI cJ  x2.toInt64 (x1 / (2 : Int32)) _ hc165) (va_cwS 2 hts gX6_rounds_X6_power rfl rfl rfl (by decide +kernel) ⟨by decide, by decide⟩) (roP.preS hK va_Pnil) rfl rfl hl.1 rfl (lv_room (Nat.le_of_ble_eq_true rfl)) dX6_rounds_165 ⟨Nat.zero_le _, Nat.zero_le _⟩) ?_
        refine lv_iload_n hx hb dX6_rounds_168 rfl (lv_at hl 1 rfl) ?_
        refine lv_i2l (v := x2.toInt64) hx hb dX6_rounds_169 rfl ?_
        refine lv_iload_n hx hb dX6_rounds_170 rfl (lv_at hl 0 rfl) ?_
        refine lv_iconst (v := (2 : Int32)) hx hb dX6_rounds_171 (by decide) ?_
        refine lv_idiv hx hb dX6_rounds_172 (by decide) ?_
        refine lv_iconst (v := (1 : Int32)) hx hb dX6_rounds_173 (by decide) ?_
        refine lv_iadd hx hb dX6_rounds_174 ?_
        obtain ⟨r175, hc175, h⟩ := Ho_b h
        refine cs_l (va_runS (As := [.long x2.toInt64, .int ((x1 / (2 : Int32)) + (1 : Int32))]) (rest := [.long r165]) hfix (c_X6_power l dC dI cI cJ  x2.toInt64 ((x1 / (2 : Int32)) + (1 : Int32)) _ hc175) (va_cwS 2 hts gX6_rounds_X6_power rfl rfl rfl (by decide +kernel) ⟨by decide, by decide⟩) (roP.preS hK va_Pnil) rfl rfl hl.1 rfl (lv_room (Nat.le_of_ble_eq_true rfl)) dX6_rounds_175 ⟨Nat.zero_le _, Nat.zero_le _⟩) ?_
        refine lv_ladd hx hb dX6_rounds_178 ?_
        refine lv_ldc2 hx hb hown hc147 dX6_rounds_179 ?_
        refine lv_ldiv hx hb dX6_rounds_182 (by decide) ?_
        exact J183 m_codek m_wholek v4 ((r165 + r175) / (2 : Int64)) _ _ ls hP hD hS (lv_sub hl [3] rfl) h
      · have h := Ho_t h q144
        refine lv_iload_n hx hb dX6_rounds_147 rfl (lv_at hl 1 rfl) ?_
        refine lv_i2l (v := x2.toInt64) hx hb dX6_rounds_148 rfl ?_
        refine lv_iload_n hx hb dX6_rounds_149 rfl (lv_at hl 0 rfl) ?_
        refine lv_iconst (v := (1 : Int32)) hx hb dX6_rounds_150 (by decide) ?_
        refine lv_iadd hx hb dX6_rounds_151 ?_
        refine lv_iconst (v := (2 : Int32)) hx hb dX6_rounds_152 (by decide) ?_
        refine lv_idiv hx hb dX6_rounds_153 (by decide) ?_
        obtain ⟨r154, hc154, h⟩ := Ho_b h
        refine cs_l (va_runS (As := [.long x2.toInt64, .int ((x1 + (1 : Int32)) / (2 : Int32))]) (rest := []) hfix (c_X6_power l dC dI cI cJ  x2.toInt64 ((x1 + (1 : Int32)) / (2 : Int32)) _ hc154) (va_cwS 2 hts gX6_rounds_X6_power rfl rfl rfl (by decide +kernel) ⟨by decide, by decide⟩) (roP.preS hK va_Pnil) rfl rfl hl.1 rfl (lv_room (Nat.le_of_ble_eq_true rfl)) dX6_rounds_154 ⟨Nat.zero_le _, Nat.zero_le _⟩) ?_
        refine lv_goto (tgt := 183) hx hb dX6_rounds_157 (by decide) ?_
        exact J183 m_codek m_wholek v4 r154 _ _ ls hP hD hS (lv_sub hl [3] rfl) h
    · have h := Ho_t h q134
      refine lv_lload hx hb dX6_rounds_137 (lv_at hl 3 rfl) ?_
      exact W.lret hx hb hr (fun t ht hW => QI (Ho_e h) (by rw [ht]; exact hP) (hK.warm hW) hD (hS.F ht)) hS.2.2 dX6_rounds_139 hlk
  have J35 : ∀ (m_codek : Int32) (m_wholek : Nat → Int64) (v4 : Int64) (v6 : Int32) (H : Heap) (locs : List Loc) (ls : Array Slot), va_P (dC, dI) vwCl (wX6 cI cJ ad m_codek m_n m_built m_length m_begin m_many m_leastOf m_sizeOf m_own m_bestRow m_tryRow m_keptRow m_otherRow m_row m_formRow m_allForms m_rowsOf m_intervals m_places m_wholek) H → va_D A (wX6 cI cJ ad m_codek m_n m_built m_length m_begin m_many m_leastOf m_sizeOf m_own m_bestRow m_tryRow m_keptRow m_otherRow m_row m_formRow m_allForms m_rowsOf m_intervals m_places m_wholek) → va_S A s.heap H locs → lv_has ls 8 [(0, .ref (ad 0)), (1, .int x1), (2, .int x2), (3, .int x3), (4, .long v4), (6, .int v6)] → Ho ((X6_rounds_35_l x1 x2 m_codek m_wholek v4 v6).bind (fun ex => X6_rounds_133 x1 x2 x3 m_codek ex.1 ex.2)) (fun x => x = (r, m_code', m_whole')) → W p l e rmX6_rounds s m args below meth c H locs 0 0 (MQ below (va_Ql (fun (x : Int64) (_ : Unit) => x = r) (fun _ t => va_P (dC, dI) vwCl (wX6 cI cJ ad m_code' m_n m_built m_length m_begin m_many m_leastOf m_sizeOf m_own m_bestRow m_tryRow m_keptRow m_otherRow m_row m_formRow m_allForms m_rowsOf m_intervals m_places m_whole') t.heap ∧ vK (dC, dI) [(cI, .int), (cJ, .long)] t ∧ va_D (va_A (wX6 cI cJ ad m_code m_n m_built m_length m_begin m_many m_leastOf m_sizeOf m_own m_bestRow m_tryRow m_keptRow m_otherRow m_row m_formRow m_allForms m_rowsOf m_intervals m_places m_whole) sz) (wX6 cI cJ ad m_code' m_n m_built m_length m_begin m_many m_leastOf m_sizeOf m_own m_bestRow m_tryRow m_keptRow m_otherRow m_row m_formRow m_allForms m_rowsOf m_intervals m_places m_whole')) (va_A (wX6 cI cJ ad m_code m_n m_built m_length m_begin m_many m_leastOf m_sizeOf m_own m_bestRow m_tryRow m_keptRow m_otherRow m_row m_formRow m_allForms m_rowsOf m_intervals m_places m_whole) sz)) args s 0 0 A) (F0 m 35 ls []) := by
    intro m_codek m_wholek v4 v6 H locs ls hP hD hS hl h
    refine loop_use2 (fun z : (Nat → Int64) × Int64 × Int32 => ∀ (H : Heap) (locs : List Loc) (ls : Array Slot), va_P (dC, dI) vwCl (wX6 cI cJ ad m_codek m_n m_built m_length m_begin m_many m_leastOf m_sizeOf m_own m_bestRow m_tryRow m_keptRow m_otherRow m_row m_formRow m_allForms m_rowsOf m_intervals m_places z.1) H → va_D A (wX6 cI cJ ad m_codek m_n m_built m_length m_begin m_many m_leastOf m_sizeOf m_own m_bestRow m_tryRow m_keptRow m_otherRow m_row m_formRow m_allForms m_rowsOf m_intervals m_places z.1) → va_S A s.heap H locs → lv_has ls 8 [(0, .ref (ad 0)), (1, .int x1), (2, .int x2), (3, .int x3), (4, .long z.2.1), (6, .int z.2.2)] → W p l e rmX6_rounds s m args below meth c H locs 0 0 (MQ below (va_Ql (fun (x : Int64) (_ : Unit) => x = r) (fun _ t => va_P (dC, dI) vwCl (wX6 cI cJ ad m_code' m_n m_built m_length m_begin m_many m_leastOf m_sizeOf m_own m_bestRow m_tryRow m_keptRow m_otherRow m_row m_formRow m_allForms m_rowsOf m_intervals m_places m_whole') t.heap ∧ vK (dC, dI) [(cI, .int), (cJ, .long)] t ∧ va_D (va_A (wX6 cI cJ ad m_code m_n m_built m_length m_begin m_many m_leastOf m_sizeOf m_own m_bestRow m_tryRow m_keptRow m_otherRow m_row m_formRow m_allForms m_rowsOf m_intervals m_places m_whole) sz) (wX6 cI cJ ad m_code' m_n m_built m_length m_begin m_many m_leastOf m_sizeOf m_own m_bestRow m_tryRow m_keptRow m_otherRow m_row m_formRow m_allForms m_rowsOf m_intervals m_places m_whole')) (va_A (wX6 cI cJ ad m_code m_n m_built m_length m_begin m_many m_leastOf m_sizeOf m_own m_bestRow m_tryRow m_keptRow m_otherRow m_row m_formRow m_allForms m_rowsOf m_intervals m_places m_whole) sz)) args s 0 0 A) (F0 m 35 ls [])) ?_ FU _ h H locs ls hP hD hS hl
    intro Q35 hi35 ho35 z h H locs ls hP hD hS hl
    obtain ⟨m_wholek, v4, v6⟩ := z
    have h : Ho (X6_rounds_35_s x1 x2 m_codek m_wholek v4 v6) Q35 := h
    unfold X6_rounds_35_s at h
    have hl : lv_has ls 8 [(0, .ref (ad 0)), (1, .int x1), (2, .int x2), (3, .int x3), (4, .long v4), (6, .int v6)] := hl
    have hP : va_P (dC, dI) vwCl (wX6 cI cJ ad m_codek m_n m_built m_length m_begin m_many m_leastOf m_sizeOf m_own m_bestRow m_tryRow m_keptRow m_otherRow m_row m_formRow m_allForms m_rowsOf m_intervals m_places m_wholek) H := hP
    have hD : va_D A (wX6 cI cJ ad m_codek m_n m_built m_length m_begin m_many m_leastOf m_sizeOf m_own m_bestRow m_tryRow m_keptRow m_otherRow m_row m_formRow m_allForms m_rowsOf m_intervals m_places m_wholek) := hD
    have J100 : ∀ (m_wholek : Nat → Int64) (v4 : Int64) (v6 : Int32) (H : Heap) (locs : List Loc) (ls : Array Slot), va_P (dC, dI) vwCl (wX6 cI cJ ad m_codek m_n m_built m_length m_begin m_many m_leastOf m_sizeOf m_own m_bestRow m_tryRow m_keptRow m_otherRow m_row m_formRow m_allForms m_rowsOf m_intervals m_places m_wholek) H → va_D A (wX6 cI cJ ad m_codek m_n m_built m_length m_begin m_many m_leastOf m_sizeOf m_own m_bestRow m_tryRow m_keptRow m_otherRow m_row m_formRow m_allForms m_rowsOf m_intervals m_places m_wholek) → va_S A s.heap H locs → lv_has ls 8 [(0, .ref (ad 0)), (1, .int x1), (2, .int x2), (3, .int x3), (4, .long v4), (6, .int v6)] → Ho (X6_rounds_100 x1 m_codek m_wholek v4 v6) Q35 → W p l e rmX6_rounds s m args below meth c H locs 0 0 (MQ below (va_Ql (fun (x : Int64) (_ : Unit) => x = r) (fun _ t => va_P (dC, dI) vwCl (wX6 cI cJ ad m_code' m_n m_built m_length m_begin m_many m_leastOf m_sizeOf m_own m_bestRow m_tryRow m_keptRow m_otherRow m_row m_formRow m_allForms m_rowsOf m_intervals m_places m_whole') t.heap ∧ vK (dC, dI) [(cI, .int), (cJ, .long)] t ∧ va_D (va_A (wX6 cI cJ ad m_code m_n m_built m_length m_begin m_many m_leastOf m_sizeOf m_own m_bestRow m_tryRow m_keptRow m_otherRow m_row m_formRow m_allForms m_rowsOf m_intervals m_places m_whole) sz) (wX6 cI cJ ad m_code' m_n m_built m_length m_begin m_many m_leastOf m_sizeOf m_own m_bestRow m_tryRow m_keptRow m_otherRow m_row m_formRow m_allForms m_rowsOf m_intervals m_places m_whole')) (va_A (wX6 cI cJ ad m_code m_n m_built m_length m_begin m_many m_leastOf m_sizeOf m_own m_bestRow m_tryRow m_keptRow m_otherRow m_row m_formRow m_allForms m_rowsOf m_intervals m_places m_whole) sz)) args s 0 0 A) (F0 m 100 ls []) := by
      intro m_wholek v4 v6 H locs ls hP hD hS hl h
      unfold X6_rounds_100 at h
      refine lv_lload hx hb dX6_rounds_100 (lv_at hl 4 rfl) ?_
      refine lv_iload_n hx hb dX6_rounds_102 rfl (lv_at hl 1 rfl) ?_
      refine lv_iload hx hb dX6_rounds_103 (lv_at hl 5 rfl) ?_
      obtain ⟨hz105, h⟩ := Ho_nz h
      refine lv_irem hx hb dX6_rounds_105 hz105 ?_
      refine lv_if_ne (tgt := 123) hx hb dX6_rounds_106 (by decide) (fun q106 => ?_) (fun q106 => ?_)
      · have h := Ho_f h q106
        refine lv_lconst (v := (0 : Int64)) hx hb dX6_rounds_123 (by decide) ?_
        refine lv_ladd hx hb dX6_rounds_124 ?_
        refine lv_lstore (lv' := [(4, .long (v4 + (0 : Int64))), (0, .ref (ad 0)), (1, .int x1), (2, .int x2), (3, .int x3), (6, .int v6)]) hx hb dX6_rounds_125 hl (by decide) rfl (fun ls hl => ?_)
        refine lv_iinc (v := v6 + 1) (lv' := [(6, .int (v6 + 1)), (4, .long (v4 + (0 : Int64))), (0, .ref (ad 0)), (1, .int x1), (2, .int x2), (3, .int x3)]) hx hb dX6_rounds_127 hl (k := 5) rfl rfl (by decide) rfl (fun ls hl => ?_)
        refine lv_goto (tgt := 35) hx hb dX6_rounds_130 (by decide) ?_
        exact hi35 _ (Ho_s h) _ _ ls hP hD hS (lv_sub hl [2, 3, 4, 5, 1, 0] rfl)
      · have h := Ho_t h q106
        refine lv_aload_n hx hb dX6_rounds_109 rfl (lv_at hl 0 rfl) ?_
        refine va_get (D := (dC, dI)) (ci := 6) (v := .ref (ad 14)) (C := RX6) (T := TX6) (N := 20) hx hb hts hiX6 hown hK.1 hP 0 rfl rfl 19 (by decide) hf53 (fun _ h9 => h9) rfl dX6_rounds_110 ?_
        refine lv_iload hx hb dX6_rounds_113 (lv_at hl 5 rfl) ?_
        obtain ⟨hz115, h⟩ := Ho_ix h
        refine va_lald hx hb hK.1 hP 14 1 rfl rfl hz115 dX6_rounds_115 ?_
        refine lv_iload hx hb dX6_rounds_116 (lv_at hl 5 rfl) ?_
        refine lv_i2l (v := v6.toInt64) hx hb dX6_rounds_118 rfl ?_
        obtain ⟨hz119, h⟩ := Ho_nz h
        refine lv_ldiv hx hb dX6_rounds_119 hz119 ?_
        refine lv_goto (tgt := 124) hx hb dX6_rounds_120 (by decide) ?_
        refine lv_ladd hx hb dX6_rounds_124 ?_
        refine lv_lstore (lv' := [(4, .long (v4 + ((m_wholek v6.toNatClampNeg) / v6.toInt64))), (0, .ref (ad 0)), (1, .int x1), (2, .int x2), (3, .int x3), (6, .int v6)]) hx hb dX6_rounds_125 hl (by decide) rfl (fun ls hl => ?_)
        refine lv_iinc (v := v6 + 1) (lv' := [(6, .int (v6 + 1)), (4, .long (v4 + ((m_wholek v6.toNatClampNeg) / v6.toInt64))), (0, .ref (ad 0)), (1, .int x1), (2, .int x2), (3, .int x3)]) hx hb dX6_rounds_127 hl (k := 5) rfl rfl (by decide) rfl (fun ls hl => ?_)
        refine lv_goto (tgt := 35) hx hb dX6_rounds_130 (by decide) ?_
        exact hi35 _ (Ho_s h) _ _ ls hP hD hS (lv_sub hl [2, 3, 4, 5, 1, 0] rfl)
    have J58 : ∀ (m_wholek : Nat → Int64) (v4 : Int64) (v6 : Int32) (v7 : Int32) (H : Heap) (locs : List Loc) (ls : Array Slot), va_P (dC, dI) vwCl (wX6 cI cJ ad m_codek m_n m_built m_length m_begin m_many m_leastOf m_sizeOf m_own m_bestRow m_tryRow m_keptRow m_otherRow m_row m_formRow m_allForms m_rowsOf m_intervals m_places m_wholek) H → va_D A (wX6 cI cJ ad m_codek m_n m_built m_length m_begin m_many m_leastOf m_sizeOf m_own m_bestRow m_tryRow m_keptRow m_otherRow m_row m_formRow m_allForms m_rowsOf m_intervals m_places m_wholek) → va_S A s.heap H locs → lv_has ls 8 [(0, .ref (ad 0)), (1, .int x1), (2, .int x2), (3, .int x3), (4, .long v4), (6, .int v6), (7, .int v7)] → Ho ((X6_rounds_58_l m_codek v4 v6 m_wholek v7).bind (fun ex => X6_rounds_100 x1 m_codek ex v4 v6)) Q35 → W p l e rmX6_rounds s m args below meth c H locs 0 0 (MQ below (va_Ql (fun (x : Int64) (_ : Unit) => x = r) (fun _ t => va_P (dC, dI) vwCl (wX6 cI cJ ad m_code' m_n m_built m_length m_begin m_many m_leastOf m_sizeOf m_own m_bestRow m_tryRow m_keptRow m_otherRow m_row m_formRow m_allForms m_rowsOf m_intervals m_places m_whole') t.heap ∧ vK (dC, dI) [(cI, .int), (cJ, .long)] t ∧ va_D (va_A (wX6 cI cJ ad m_code m_n m_built m_length m_begin m_many m_leastOf m_sizeOf m_own m_bestRow m_tryRow m_keptRow m_otherRow m_row m_formRow m_allForms m_rowsOf m_intervals m_places m_whole) sz) (wX6 cI cJ ad m_code' m_n m_built m_length m_begin m_many m_leastOf m_sizeOf m_own m_bestRow m_tryRow m_keptRow m_otherRow m_row m_formRow m_allForms m_rowsOf m_intervals m_places m_whole')) (va_A (wX6 cI cJ ad m_code m_n m_built m_length m_begin m_many m_leastOf m_sizeOf m_own m_bestRow m_tryRow m_keptRow m_otherRow m_row m_formRow m_allForms m_rowsOf m_intervals m_places m_whole) sz)) args s 0 0 A) (F0 m 58 ls []) := by
      intro m_wholek v4 v6 v7 H locs ls hP hD hS hl h
      refine loop_use2 (fun z : (Nat → Int64) × Int32 => ∀ (H : Heap) (locs : List Loc) (ls : Array Slot), va_P (dC, dI) vwCl (wX6 cI cJ ad m_codek m_n m_built m_length m_begin m_many m_leastOf m_sizeOf m_own m_bestRow m_tryRow m_keptRow m_otherRow m_row m_formRow m_allForms m_rowsOf m_intervals m_places z.1) H → va_D A (wX6 cI cJ ad m_codek m_n m_built m_length m_begin m_many m_leastOf m_sizeOf m_own m_bestRow m_tryRow m_keptRow m_otherRow m_row m_formRow m_allForms m_rowsOf m_intervals m_places z.1) → va_S A s.heap H locs → lv_has ls 8 [(0, .ref (ad 0)), (1, .int x1), (2, .int x2), (3, .int x3), (4, .long v4), (6, .int v6), (7, .int z.2)] → W p l e rmX6_rounds s m args below meth c H locs 0 0 (MQ below (va_Ql (fun (x : Int64) (_ : Unit) => x = r) (fun _ t => va_P (dC, dI) vwCl (wX6 cI cJ ad m_code' m_n m_built m_length m_begin m_many m_leastOf m_sizeOf m_own m_bestRow m_tryRow m_keptRow m_otherRow m_row m_formRow m_allForms m_rowsOf m_intervals m_places m_whole') t.heap ∧ vK (dC, dI) [(cI, .int), (cJ, .long)] t ∧ va_D (va_A (wX6 cI cJ ad m_code m_n m_built m_length m_begin m_many m_leastOf m_sizeOf m_own m_bestRow m_tryRow m_keptRow m_otherRow m_row m_formRow m_allForms m_rowsOf m_intervals m_places m_whole) sz) (wX6 cI cJ ad m_code' m_n m_built m_length m_begin m_many m_leastOf m_sizeOf m_own m_bestRow m_tryRow m_keptRow m_otherRow m_row m_formRow m_allForms m_rowsOf m_intervals m_places m_whole')) (va_A (wX6 cI cJ ad m_code m_n m_built m_length m_begin m_many m_leastOf m_sizeOf m_own m_bestRow m_tryRow m_keptRow m_otherRow m_row m_formRow m_allForms m_rowsOf m_intervals m_places m_whole) sz)) args s 0 0 A) (F0 m 58 ls [])) ?_ FU _ h H locs ls hP hD hS hl
      intro Q58 hi58 ho58 z h H locs ls hP hD hS hl
      obtain ⟨m_wholek, v7⟩ := z
      have h : Ho (X6_rounds_58_s m_codek v4 v6 m_wholek v7) Q58 := h
      unfold X6_rounds_58_s at h
      have hl : lv_has ls 8 [(0, .ref (ad 0)), (1, .int x1), (2, .int x2), (3, .int x3), (4, .long v4), (6, .int v6), (7, .int v7)] := hl
      have hP : va_P (dC, dI) vwCl (wX6 cI cJ ad m_codek m_n m_built m_length m_begin m_many m_leastOf m_sizeOf m_own m_bestRow m_tryRow m_keptRow m_otherRow m_row m_formRow m_allForms m_rowsOf m_intervals m_places m_wholek) H := hP
      have hD : va_D A (wX6 cI cJ ad m_codek m_n m_built m_length m_begin m_many m_leastOf m_sizeOf m_own m_bestRow m_tryRow m_keptRow m_otherRow m_row m_formRow m_allForms m_rowsOf m_intervals m_places m_wholek) := hD
      have J92 : ∀ (m_wholek : Nat → Int64) (v7 : Int32) (t1 : Int32) (t2 : Int64) (t3 : Int64) (H : Heap) (locs : List Loc) (ls : Array Slot), va_P (dC, dI) vwCl (wX6 cI cJ ad m_codek m_n m_built m_length m_begin m_many m_leastOf m_sizeOf m_own m_bestRow m_tryRow m_keptRow m_otherRow m_row m_formRow m_allForms m_rowsOf m_intervals m_places m_wholek) H → va_D A (wX6 cI cJ ad m_codek m_n m_built m_length m_begin m_many m_leastOf m_sizeOf m_own m_bestRow m_tryRow m_keptRow m_otherRow m_row m_formRow m_allForms m_rowsOf m_intervals m_places m_wholek) → va_S A s.heap H locs → lv_has ls 8 [(0, .ref (ad 0)), (1, .int x1), (2, .int x2), (3, .int x3), (4, .long v4), (6, .int v6), (7, .int v7)] → Ho (X6_rounds_92 m_codek m_wholek v4 v6 v7 t1 t2 t3) Q58 → W p l e rmX6_rounds s m args below meth c H locs 0 0 (MQ below (va_Ql (fun (x : Int64) (_ : Unit) => x = r) (fun _ t => va_P (dC, dI) vwCl (wX6 cI cJ ad m_code' m_n m_built m_length m_begin m_many m_leastOf m_sizeOf m_own m_bestRow m_tryRow m_keptRow m_otherRow m_row m_formRow m_allForms m_rowsOf m_intervals m_places m_whole') t.heap ∧ vK (dC, dI) [(cI, .int), (cJ, .long)] t ∧ va_D (va_A (wX6 cI cJ ad m_code m_n m_built m_length m_begin m_many m_leastOf m_sizeOf m_own m_bestRow m_tryRow m_keptRow m_otherRow m_row m_formRow m_allForms m_rowsOf m_intervals m_places m_whole) sz) (wX6 cI cJ ad m_code' m_n m_built m_length m_begin m_many m_leastOf m_sizeOf m_own m_bestRow m_tryRow m_keptRow m_otherRow m_row m_formRow m_allForms m_rowsOf m_intervals m_places m_whole')) (va_A (wX6 cI cJ ad m_code m_n m_built m_length m_begin m_many m_leastOf m_sizeOf m_own m_bestRow m_tryRow m_keptRow m_otherRow m_row m_formRow m_allForms m_rowsOf m_intervals m_places m_whole) sz)) args s 0 0 A) (F0 m 92 ls [.long t3, .long t2, .int t1, .ref (ad 14)]) := by
        intro m_wholek v7 t1 t2 t3 H locs ls hP hD hS hl h
        unfold X6_rounds_92 at h
        refine lv_lsub hx hb dX6_rounds_92 ?_
        obtain ⟨hz93, h⟩ := Ho_ix h
        refine va_last hx hb hK.1 hP hD hS 14 1 rfl rfl hz93 dX6_rounds_93 (fun H locs hP hD hS => ?_)
        have hP : va_P (dC, dI) vwCl (wX6 cI cJ ad m_codek m_n m_built m_length m_begin m_many m_leastOf m_sizeOf m_own m_bestRow m_tryRow m_keptRow m_otherRow m_row m_formRow m_allForms m_rowsOf m_intervals m_places (vp_updL m_wholek t1.toNatClampNeg (t2 - t3))) H := hP
        have hD : va_D A (wX6 cI cJ ad m_codek m_n m_built m_length m_begin m_many m_leastOf m_sizeOf m_own m_bestRow m_tryRow m_keptRow m_otherRow m_row m_formRow m_allForms m_rowsOf m_intervals m_places (vp_updL m_wholek t1.toNatClampNeg (t2 - t3))) := hD
        refine lv_iinc (v := v7 + 1) (lv' := [(7, .int (v7 + 1)), (0, .ref (ad 0)), (1, .int x1), (2, .int x2), (3, .int x3), (4, .long v4), (6, .int v6)]) hx hb dX6_rounds_94 hl (k := 6) rfl rfl (by decide) rfl (fun ls hl => ?_)
        refine lv_goto (tgt := 58) hx hb dX6_rounds_97 (by decide) ?_
        exact hi58 _ (Ho_s h) _ _ ls hP hD hS (lv_sub hl [1, 2, 3, 4, 5, 6, 0] rfl)
      refine lv_iload hx hb dX6_rounds_58 (lv_at hl 6 rfl) ?_
      refine lv_iload hx hb dX6_rounds_60 (lv_at hl 5 rfl) ?_
      refine lv_icmp_ge (tgt := 100) hx hb dX6_rounds_62 (by decide) (fun q62 => ?_) (fun q62 => ?_)
      · have h := Ho_t h q62
        have h := ho58 _ (Ho_s h)
        exact J100 m_wholek v4 v6 _ _ ls hP hD hS (lv_sub hl [0, 1, 2, 3, 4, 5] rfl) h
      · have h := Ho_f h q62
        refine lv_aload_n hx hb dX6_rounds_65 rfl (lv_at hl 0 rfl) ?_
        refine va_get (D := (dC, dI)) (ci := 6) (v := .ref (ad 14)) (C := RX6) (T := TX6) (N := 20) hx hb hts hiX6 hown hK.1 hP 0 rfl rfl 19 (by decide) hf53 (fun _ h9 => h9) rfl dX6_rounds_66 ?_
        refine lv_iload hx hb dX6_rounds_69 (lv_at hl 5 rfl) ?_
        refine lv_dup2_11 hx hb dX6_rounds_71 rfl rfl ?_
        obtain ⟨hz72, h⟩ := Ho_ix h
        refine va_lald hx hb hK.1 hP 14 1 rfl rfl hz72 dX6_rounds_72 ?_
        refine lv_iload hx hb dX6_rounds_73 (lv_at hl 5 rfl) ?_
        refine lv_iload hx hb dX6_rounds_75 (lv_at hl 6 rfl) ?_
        obtain ⟨hz77, h⟩ := Ho_nz h
        refine lv_irem hx hb dX6_rounds_77 hz77 ?_
        refine lv_if_ne (tgt := 91) hx hb dX6_rounds_78 (by decide) (fun q78 => ?_) (fun q78 => ?_)
        · have h := Ho_f h q78
          refine lv_lconst (v := (0 : Int64)) hx hb dX6_rounds_91 (by decide) ?_
          exact J92 m_wholek v7 v6 (m_wholek v6.toNatClampNeg) (0 : Int64) _ _ ls hP hD hS (lv_sub hl [0, 1, 2, 3, 4, 5, 6] rfl) h
        · have h := Ho_t h q78
          refine lv_aload_n hx hb dX6_rounds_81 rfl (lv_at hl 0 rfl) ?_
          refine va_get (D := (dC, dI)) (ci := 6) (v := .ref (ad 14)) (C := RX6) (T := TX6) (N := 20) hx hb hts hiX6 hown hK.1 hP 0 rfl rfl 19 (by decide) hf53 (fun _ h9 => h9) rfl dX6_rounds_82 ?_
          refine lv_iload hx hb dX6_rounds_85 (lv_at hl 6 rfl) ?_
          obtain ⟨hz87, h⟩ := Ho_ix h
          refine va_lald hx hb hK.1 hP 14 1 rfl rfl hz87 dX6_rounds_87 ?_
          refine lv_goto (tgt := 92) hx hb dX6_rounds_88 (by decide) ?_
          exact J92 m_wholek v7 v6 (m_wholek v6.toNatClampNeg) (m_wholek v7.toNatClampNeg) _ _ ls hP hD hS (lv_sub hl [0, 1, 2, 3, 4, 5, 6] rfl) h
    refine lv_iload hx hb dX6_rounds_35 (lv_at hl 5 rfl) ?_
    refine lv_iload_n hx hb dX6_rounds_37 rfl (lv_at hl 1 rfl) ?_
    refine lv_icmp_gt (tgt := 133) hx hb dX6_rounds_38 (by decide) (fun q38 => ?_) (fun q38 => ?_)
    · have h := Ho_t h q38
      have h := ho35 _ (Ho_s h)
      exact J133 m_codek m_wholek v4 _ _ ls hP hD hS (lv_sub hl [1, 2, 3, 4] rfl) h
    · have h := Ho_f h q38
      refine lv_aload_n hx hb dX6_rounds_41 rfl (lv_at hl 0 rfl) ?_
      refine va_get (D := (dC, dI)) (ci := 6) (v := .ref (ad 14)) (C := RX6) (T := TX6) (N := 20) hx hb hts hiX6 hown hK.1 hP 0 rfl rfl 19 (by decide) hf53 (fun _ h9 => h9) rfl dX6_rounds_42 ?_
      refine lv_iload hx hb dX6_rounds_45 (lv_at hl 5 rfl) ?_
      refine lv_iload_n hx hb dX6_rounds_47 rfl (lv_at hl 2 rfl) ?_
      refine lv_i2l (v := x2.toInt64) hx hb dX6_rounds_48 rfl ?_
      refine lv_iload hx hb dX6_rounds_49 (lv_at hl 5 rfl) ?_
      obtain ⟨r51, hc51, h⟩ := Ho_b h
      refine cs_l (va_runS (As := [.long x2.toInt64, .int v6]) (rest := [.int v6, .ref (ad 14)]) hfix (c_X6_power l dC dI cI cJ  x2.toInt64 v6 _ hc51) (va_cwS 2 hts gX6_rounds_X6_power rfl rfl rfl (by decide +kernel) ⟨by decide, by decide⟩) (roP.preS hK va_Pnil) rfl rfl hl.1 rfl (lv_room (Nat.le_of_ble_eq_true rfl)) dX6_rounds_51 ⟨Nat.zero_le _, Nat.zero_le _⟩) ?_
      obtain ⟨hz54, h⟩ := Ho_ix h
      refine va_last hx hb hK.1 hP hD hS 14 1 rfl rfl hz54 dX6_rounds_54 (fun H locs hP hD hS => ?_)
      have hP : va_P (dC, dI) vwCl (wX6 cI cJ ad m_codek m_n m_built m_length m_begin m_many m_leastOf m_sizeOf m_own m_bestRow m_tryRow m_keptRow m_otherRow m_row m_formRow m_allForms m_rowsOf m_intervals m_places (vp_updL m_wholek v6.toNatClampNeg r51)) H := hP
      have hD : va_D A (wX6 cI cJ ad m_codek m_n m_built m_length m_begin m_many m_leastOf m_sizeOf m_own m_bestRow m_tryRow m_keptRow m_otherRow m_row m_formRow m_allForms m_rowsOf m_intervals m_places (vp_updL m_wholek v6.toNatClampNeg r51)) := hD
      refine lv_iconst (v := (1 : Int32)) hx hb dX6_rounds_55 (by decide) ?_
      refine lv_istore (lv' := [(7, .int (1 : Int32)), (0, .ref (ad 0)), (1, .int x1), (2, .int x2), (3, .int x3), (4, .long v4), (6, .int v6)]) hx hb dX6_rounds_56 hl (by decide) rfl (fun ls hl => ?_)
      exact J58 (vp_updL m_wholek v6.toNatClampNeg r51) v4 v6 (1 : Int32) _ _ ls hP hD hS (lv_sub hl [1, 2, 3, 4, 5, 6, 0] rfl) h
  have J25 : ∀ (m_codek : Int32) (m_wholek : Nat → Int64) (H : Heap) (locs : List Loc) (ls : Array Slot), va_P (dC, dI) vwCl (wX6 cI cJ ad m_codek m_n m_built m_length m_begin m_many m_leastOf m_sizeOf m_own m_bestRow m_tryRow m_keptRow m_otherRow m_row m_formRow m_allForms m_rowsOf m_intervals m_places m_wholek) H → va_D A (wX6 cI cJ ad m_codek m_n m_built m_length m_begin m_many m_leastOf m_sizeOf m_own m_bestRow m_tryRow m_keptRow m_otherRow m_row m_formRow m_allForms m_rowsOf m_intervals m_places m_wholek) → va_S A s.heap H locs → lv_has ls 8 [] → Ho (X6_rounds_25 m_codek m_wholek) (fun x => x = (r, m_code', m_whole')) → W p l e rmX6_rounds s m args below meth c H locs 0 0 (MQ below (va_Ql (fun (x : Int64) (_ : Unit) => x = r) (fun _ t => va_P (dC, dI) vwCl (wX6 cI cJ ad m_code' m_n m_built m_length m_begin m_many m_leastOf m_sizeOf m_own m_bestRow m_tryRow m_keptRow m_otherRow m_row m_formRow m_allForms m_rowsOf m_intervals m_places m_whole') t.heap ∧ vK (dC, dI) [(cI, .int), (cJ, .long)] t ∧ va_D (va_A (wX6 cI cJ ad m_code m_n m_built m_length m_begin m_many m_leastOf m_sizeOf m_own m_bestRow m_tryRow m_keptRow m_otherRow m_row m_formRow m_allForms m_rowsOf m_intervals m_places m_whole) sz) (wX6 cI cJ ad m_code' m_n m_built m_length m_begin m_many m_leastOf m_sizeOf m_own m_bestRow m_tryRow m_keptRow m_otherRow m_row m_formRow m_allForms m_rowsOf m_intervals m_places m_whole')) (va_A (wX6 cI cJ ad m_code m_n m_built m_length m_begin m_many m_leastOf m_sizeOf m_own m_bestRow m_tryRow m_keptRow m_otherRow m_row m_formRow m_allForms m_rowsOf m_intervals m_places m_whole) sz)) args s 0 0 A) (F0 m 25 ls []) := by
    intro m_codek m_wholek H locs ls hP hD hS hl h
    unfold X6_rounds_25 at h
    refine lv_ldc2 hx hb hown hc141 dX6_rounds_25 ?_
    exact W.lret hx hb hr (fun t ht hW => QI (Ho_e h) (by rw [ht]; exact hP) (hK.warm hW) hD (hS.F ht)) hS.2.2 dX6_rounds_28 hlk
  refine lv_aload_n hx hb dX6_rounds_0 rfl (lv_at hl 0 rfl) ?_
  refine lv_iconst (v := (0 : Int32)) hx hb dX6_rounds_1 (by decide) ?_
  refine va_put (D := (dC, dI)) (ci := 6) (v := .int (0 : Int32)) (ty := .int) (C := RX6) (T := TX6) (N := 20) hx hb hts hiX6 tyX6 tyX6_ok nmX6 hown hK.1 hP hD hS 0 rfl rfl 0 (by decide) hf57 (fun _ h9 => h9) rfl (by decide +kernel) rfl rfl (Nat.le_of_ble_eq_true rfl) dX6_rounds_2 (fun H locs hP hD hS => ?_)
  have hP : va_P (dC, dI) vwCl (wX6 cI cJ ad (0 : Int32) m_n m_built m_length m_begin m_many m_leastOf m_sizeOf m_own m_bestRow m_tryRow m_keptRow m_otherRow m_row m_formRow m_allForms m_rowsOf m_intervals m_places m_whole) H := hP
  have hD : va_D A (wX6 cI cJ ad (0 : Int32) m_n m_built m_length m_begin m_many m_leastOf m_sizeOf m_own m_bestRow m_tryRow m_keptRow m_otherRow m_row m_formRow m_allForms m_rowsOf m_intervals m_places m_whole) := hD
  refine lv_iload_n hx hb dX6_rounds_5 rfl (lv_at hl 1 rfl) ?_
  refine lv_iconst (v := (1 : Int32)) hx hb dX6_rounds_6 (by decide) ?_
  refine lv_bipush (v := (24 : Int32)) hx hb dX6_rounds_7 (by decide) ?_
  obtain ⟨r9, hc9, h⟩ := Ho_b h
  refine cs_i (va_runS (As := [.int x1, .int (1 : Int32), .int (24 : Int32)]) (rest := []) hfix (c_X6_isIn l dC dI cI cJ  x1 (1 : Int32) (24 : Int32) _ hc9) (va_cwS 3 hts gX6_rounds_X6_isIn rfl rfl rfl (by decide +kernel) ⟨by decide, by decide⟩) (roP.preS hK va_Pnil) rfl rfl hl.1 rfl (lv_room (Nat.le_of_ble_eq_true rfl)) dX6_rounds_9 ⟨Nat.zero_le _, Nat.zero_le _⟩) ?_
  refine lv_if_eq (tgt := 25) hx hb dX6_rounds_12 (by decide) (fun q12 => ?_) (fun q12 => ?_)
  · have h := Ho_t h q12
    exact J25 (0 : Int32) m_whole _ _ ls hP hD hS (lv_sub hl [] rfl) h
  · have h := Ho_f h q12
    refine lv_iload_n hx hb dX6_rounds_15 rfl (lv_at hl 2 rfl) ?_
    refine lv_iconst (v := (1 : Int32)) hx hb dX6_rounds_16 (by decide) ?_
    refine lv_bipush (v := (6 : Int32)) hx hb dX6_rounds_17 (by decide) ?_
    obtain ⟨r19, hc19, h⟩ := Ho_b h
    refine cs_i (va_runS (As := [.int x2, .int (1 : Int32), .int (6 : Int32)]) (rest := []) hfix (c_X6_isIn l dC dI cI cJ  x2 (1 : Int32) (6 : Int32) _ hc19) (va_cwS 3 hts gX6_rounds_X6_isIn rfl rfl rfl (by decide +kernel) ⟨by decide, by decide⟩) (roP.preS hK va_Pnil) rfl rfl hl.1 rfl (lv_room (Nat.le_of_ble_eq_true rfl)) dX6_rounds_19 ⟨Nat.zero_le _, Nat.zero_le _⟩) ?_
    refine lv_if_ne (tgt := 29) hx hb dX6_rounds_22 (by decide) (fun q22 => ?_) (fun q22 => ?_)
    · have h := Ho_f h q22
      refine lv_lconst (v := (0 : Int64)) hx hb dX6_rounds_29 (by decide) ?_
      refine lv_lstore (lv' := [(4, .long (0 : Int64)), (0, .ref (ad 0)), (1, .int x1), (2, .int x2), (3, .int x3)]) hx hb dX6_rounds_30 hl (by decide) rfl (fun ls hl => ?_)
      refine lv_iconst (v := (1 : Int32)) hx hb dX6_rounds_32 (by decide) ?_
      refine lv_istore (lv' := [(6, .int (1 : Int32)), (4, .long (0 : Int64)), (0, .ref (ad 0)), (1, .int x1), (2, .int x2), (3, .int x3)]) hx hb dX6_rounds_33 hl (by decide) rfl (fun ls hl => ?_)
      exact J35 (0 : Int32) m_whole (0 : Int64) (1 : Int32) _ _ ls hP hD hS (lv_sub hl [2, 3, 4, 5, 1, 0] rfl) h
    · have h := Ho_t h q22
      exact J25 (0 : Int32) m_whole _ _ ls hP hD hS (lv_sub hl [] rfl) h
