abbrev rmX6_isLess : Room := { frames := 0, cells := 0, slots := 0, locals := 0 }
set_option maxHeartbeats 4000000 in
set_option maxRecDepth 100000 in
theorem c_X6_isLess (l : Launch) (dC : Nat → ClassId) (dI : Nat → Nat → Nat) (cI cJ : ClassId) (ad : Nat → Nat) (m_code : Int32) (m_n : Int32) (m_built : Int32) (m_length : Int32) (m_begin : Int32) (m_many : Int32) (m_leastOf : Nat → Int32) (m_sizeOf : Nat → Int32) (m_own : Nat → Int32) (m_bestRow : Nat → Int32) (m_tryRow : Nat → Int32) (m_keptRow : Nat → Int32) (m_otherRow : Nat → Int32) (m_row : Nat → Int32) (m_formRow : Nat → Int32) (m_allForms : Nat → Int32) (m_rowsOf : Nat → Int32) (m_intervals : Nat → Int32) (m_places : Nat → Int32) (m_whole : Nat → Int64) (x1 : Int32) (r : Int32) (hF : FX6_isLess m_length m_bestRow m_tryRow x1 = some r) : Met l yX6_isLess wsX6_isLess rmX6_isLess (roP (dC, dI) [(cI, .int), (cJ, .long)] (wX6 cI cJ ad m_code m_n m_built m_length m_begin m_many m_leastOf m_sizeOf m_own m_bestRow m_tryRow m_keptRow m_otherRow m_row m_formRow m_allForms m_rowsOf m_intervals m_places m_whole) [.ref (ad 0), .int x1]) (vp_Si (fun x => x = r)) 0 0 (fun _ => False) := by
  refine ro_start (cc := cX6_isLess) (maxL := 4) (ret := (some .boolean)) (by decide) rfl (Nat.le_of_ble_eq_true rfl) ?_
  intro p e s m args below meth c ls hx hb hml hr hlk hown hts hP hK hl
  have hown : s.vm.findClass RX6 = some m.cls := hown
  have hl : lv_has ls 4 [(0, .ref (ad 0)), (1, .int x1)] := hl
  have h : Ho (FX6_isLess m_length m_bestRow m_tryRow x1) (fun x => x = r) := ⟨r, hF, rfl⟩
  unfold FX6_isLess at h
  have hfix : CallFix p m c cX6_isLess 4 s args wsX6_isLess RX6 := ⟨hx, hb, hml, hown, hts⟩
  have hiX6 : ∀ w ∈ u_ws RX6 TX6 20, w ∈ wsX6_isLess := by decide +kernel
  have hf23 := hts (.fieldLink RX6 23 "RowClassesModel" "bestRow" "[I") (by decide +kernel)
  have hf26 := hts (.fieldLink RX6 26 "RowClassesModel" "tryRow" "[I") (by decide +kernel)
  have hf104 := hts (.fieldLink RX6 104 "RowClassesModel" "length" "I") (by decide +kernel)
  have J123 : ∀  (ls : Array Slot), lv_has ls 4 [] → Ho (X6_isLess_123) (fun x => x = r) → W p l e rmX6_isLess s m args below meth c s.heap [] 0 0 (MQ below (vp_Si (fun x => x = r)) args s 0 0 (fun _ => False)) (F0 m 123 ls []) := by
    intro  ls hl h
    unfold X6_isLess_123 at h
    refine lv_iconst (v := (0 : Int32)) hx hb dX6_isLess_123 (by decide) ?_
    exact W.zret (ty := .boolean) hx hb hr rfl (fun t ht _ => ro_Si (Ho_e h) ht) ro_nil dX6_isLess_124 hlk
  have J96 : ∀ (v3 : Int32) (ls : Array Slot), lv_has ls 4 [(0, .ref (ad 0)), (3, .int v3)] → Ho (X6_isLess_96 m_bestRow m_tryRow v3) (fun x => x = r) → W p l e rmX6_isLess s m args below meth c s.heap [] 0 0 (MQ below (vp_Si (fun x => x = r)) args s 0 0 (fun _ => False)) (F0 m 96 ls []) := by
    intro v3 ls hl h
    unfold X6_isLess_96 at h
    refine lv_aload_n hx hb dX6_isLess_96 rfl (lv_at hl 0 rfl) ?_
    refine va_get (D := (dC, dI)) (ci := 6) (v := .ref (ad 5)) (C := RX6) (T := TX6) (N := 20) hx hb hts hiX6 hown hK.1 hP 0 rfl rfl 8 (by decide) hf26 (fun _ h9 => h9) rfl dX6_isLess_97 ?_
    refine lv_iload_n hx hb dX6_isLess_100 rfl (lv_at hl 1 rfl) ?_
    obtain ⟨hz101, h⟩ := Ho_ix h
    refine va_iald hx hb hK.1 hP 5 0 rfl rfl hz101 dX6_isLess_101 ?_
    refine lv_aload_n hx hb dX6_isLess_102 rfl (lv_at hl 0 rfl) ?_
    refine va_get (D := (dC, dI)) (ci := 6) (v := .ref (ad 4)) (C := RX6) (T := TX6) (N := 20) hx hb hts hiX6 hown hK.1 hP 0 rfl rfl 7 (by decide) hf23 (fun _ h9 => h9) rfl dX6_isLess_103 ?_
    refine lv_iload_n hx hb dX6_isLess_106 rfl (lv_at hl 1 rfl) ?_
    obtain ⟨hz107, h⟩ := Ho_ix h
    refine va_iald hx hb hK.1 hP 4 0 rfl rfl hz107 dX6_isLess_107 ?_
    refine lv_icmp_ge (tgt := 115) hx hb dX6_isLess_108 (by decide) (fun q108 => ?_) (fun q108 => ?_)
    · have h := Ho_t h q108
      refine lv_iconst (v := (0 : Int32)) hx hb dX6_isLess_115 (by decide) ?_
      exact W.zret (ty := .boolean) hx hb hr rfl (fun t ht _ => ro_Si (Ho_e h) ht) ro_nil dX6_isLess_116 hlk
    · have h := Ho_f h q108
      refine lv_iconst (v := (1 : Int32)) hx hb dX6_isLess_111 (by decide) ?_
      refine lv_goto (tgt := 116) hx hb dX6_isLess_112 (by decide) ?_
      exact W.zret (ty := .boolean) hx hb hr rfl (fun t ht _ => ro_Si (Ho_e h) ht) ro_nil dX6_isLess_116 hlk
  have J58 : ∀ (v2 : Int32) (ls : Array Slot), lv_has ls 4 [(0, .ref (ad 0)), (1, .int x1), (2, .int v2)] → Ho ((X6_isLess_58_l m_length m_bestRow m_tryRow x1 v2).bind (fun ex => Sum.elim (fun xy => X6_isLess_96 m_bestRow m_tryRow xy) (fun xy => X6_isLess_123) ex)) (fun x => x = r) → W p l e rmX6_isLess s m args below meth c s.heap [] 0 0 (MQ below (vp_Si (fun x => x = r)) args s 0 0 (fun _ => False)) (F0 m 58 ls []) := by
    intro v2 ls hl h
    refine loop_use2 (fun z : Int32 => ∀ (ls : Array Slot), lv_has ls 4 [(0, .ref (ad 0)), (1, .int x1), (2, .int z)] → W p l e rmX6_isLess s m args below meth c s.heap [] 0 0 (MQ below (vp_Si (fun x => x = r)) args s 0 0 (fun _ => False)) (F0 m 58 ls [])) ?_ FU _ h ls hl
    intro Q58 hi58 ho58 z h ls hl
    obtain ⟨v2, rfl⟩ : ∃ q, q = z := ⟨_, rfl⟩
    have h : Ho (X6_isLess_58_s m_length m_bestRow m_tryRow x1 v2) Q58 := h
    unfold X6_isLess_58_s at h
    have hl : lv_has ls 4 [(0, .ref (ad 0)), (1, .int x1), (2, .int v2)] := hl
    have J80 : ∀ (v2 : Int32) (t0 : Int32) (ls : Array Slot), lv_has ls 4 [(0, .ref (ad 0)), (1, .int x1), (2, .int v2)] → Ho (X6_isLess_80 m_bestRow m_tryRow v2 t0) Q58 → W p l e rmX6_isLess s m args below meth c s.heap [] 0 0 (MQ below (vp_Si (fun x => x = r)) args s 0 0 (fun _ => False)) (F0 m 80 ls [.int t0]) := by
      intro v2 t0 ls hl h
      unfold X6_isLess_80 at h
      refine lv_istore_n (lv' := [(3, .int t0), (0, .ref (ad 0)), (1, .int x1), (2, .int v2)]) hx hb dX6_isLess_80 rfl hl (by decide) rfl (fun ls hl => ?_)
      refine lv_aload_n hx hb dX6_isLess_81 rfl (lv_at hl 1 rfl) ?_
      refine va_get (D := (dC, dI)) (ci := 6) (v := .ref (ad 5)) (C := RX6) (T := TX6) (N := 20) hx hb hts hiX6 hown hK.1 hP 0 rfl rfl 8 (by decide) hf26 (fun _ h9 => h9) rfl dX6_isLess_82 ?_
      refine lv_iload_n hx hb dX6_isLess_85 rfl (lv_at hl 0 rfl) ?_
      obtain ⟨hz86, h⟩ := Ho_ix h
      refine va_iald hx hb hK.1 hP 5 0 rfl rfl hz86 dX6_isLess_86 ?_
      refine lv_aload_n hx hb dX6_isLess_87 rfl (lv_at hl 1 rfl) ?_
      refine va_get (D := (dC, dI)) (ci := 6) (v := .ref (ad 4)) (C := RX6) (T := TX6) (N := 20) hx hb hts hiX6 hown hK.1 hP 0 rfl rfl 7 (by decide) hf23 (fun _ h9 => h9) rfl dX6_isLess_88 ?_
      refine lv_iload_n hx hb dX6_isLess_91 rfl (lv_at hl 0 rfl) ?_
      obtain ⟨hz92, h⟩ := Ho_ix h
      refine va_iald hx hb hK.1 hP 4 0 rfl rfl hz92 dX6_isLess_92 ?_
      refine lv_icmp_eq (tgt := 117) hx hb dX6_isLess_93 (by decide) (fun q93 => ?_) (fun q93 => ?_)
      · have h := Ho_t h q93
        refine lv_iinc (v := v2 + 1) (lv' := [(2, .int (v2 + 1)), (3, .int t0), (0, .ref (ad 0)), (1, .int x1)]) hx hb dX6_isLess_117 hl (k := 3) rfl rfl (by decide) rfl (fun ls hl => ?_)
        refine lv_goto (tgt := 58) hx hb dX6_isLess_120 (by decide) ?_
        exact hi58 _ (Ho_s h) ls (lv_sub hl [2, 3, 0] rfl)
      · have h := Ho_f h q93
        have h := ho58 _ (Ho_s h)
        exact J96 t0 ls (lv_sub hl [1, 0] rfl) h
    refine lv_iload_n hx hb dX6_isLess_58 rfl (lv_at hl 2 rfl) ?_
    refine lv_aload_n hx hb dX6_isLess_59 rfl (lv_at hl 0 rfl) ?_
    refine va_get (D := (dC, dI)) (ci := 6) (v := .int m_length) (C := RX6) (T := TX6) (N := 20) hx hb hts hiX6 hown hK.1 hP 0 rfl rfl 5 (by decide) hf104 (fun _ h9 => h9) rfl dX6_isLess_60 ?_
    refine lv_icmp_ge (tgt := 123) hx hb dX6_isLess_63 (by decide) (fun q63 => ?_) (fun q63 => ?_)
    · have h := Ho_t h q63
      have h := ho58 _ (Ho_s h)
      exact J123  ls (lv_sub hl [] rfl) h
    · have h := Ho_f h q63
      refine lv_iload_n hx hb dX6_isLess_66 rfl (lv_at hl 1 rfl) ?_
      refine lv_if_ne (tgt := 74) hx hb dX6_isLess_67 (by decide) (fun q67 => ?_) (fun q67 => ?_)
      · have h := Ho_f h q67
        refine lv_aload_n hx hb dX6_isLess_74 rfl (lv_at hl 0 rfl) ?_
        refine va_get (D := (dC, dI)) (ci := 6) (v := .int m_length) (C := RX6) (T := TX6) (N := 20) hx hb hts hiX6 hown hK.1 hP 0 rfl rfl 5 (by decide) hf104 (fun _ h9 => h9) rfl dX6_isLess_75 ?_
        refine lv_iload_n hx hb dX6_isLess_78 rfl (lv_at hl 2 rfl) ?_
        refine lv_isub hx hb dX6_isLess_79 ?_
        exact J80 v2 (m_length - v2) ls (lv_sub hl [0, 1, 2] rfl) h
      · have h := Ho_t h q67
        refine lv_iload_n hx hb dX6_isLess_70 rfl (lv_at hl 2 rfl) ?_
        refine lv_goto (tgt := 80) hx hb dX6_isLess_71 (by decide) ?_
        exact J80 v2 v2 ls (lv_sub hl [0, 1, 2] rfl) h
  refine lv_aload_n hx hb dX6_isLess_0 rfl (lv_at hl 0 rfl) ?_
  refine va_get (D := (dC, dI)) (ci := 6) (v := .ref (ad 5)) (C := RX6) (T := TX6) (N := 20) hx hb hts hiX6 hown hK.1 hP 0 rfl rfl 8 (by decide) hf26 (fun _ h9 => h9) rfl dX6_isLess_1 ?_
  refine lv_aload_n hx hb dX6_isLess_4 rfl (lv_at hl 0 rfl) ?_
  refine va_get (D := (dC, dI)) (ci := 6) (v := .int m_length) (C := RX6) (T := TX6) (N := 20) hx hb hts hiX6 hown hK.1 hP 0 rfl rfl 5 (by decide) hf104 (fun _ h9 => h9) rfl dX6_isLess_5 ?_
  refine lv_iconst (v := (1 : Int32)) hx hb dX6_isLess_8 (by decide) ?_
  refine lv_isub hx hb dX6_isLess_9 ?_
  obtain ⟨hz10, h⟩ := Ho_ix h
  refine va_iald hx hb hK.1 hP 5 0 rfl rfl hz10 dX6_isLess_10 ?_
  refine lv_aload_n hx hb dX6_isLess_11 rfl (lv_at hl 0 rfl) ?_
  refine va_get (D := (dC, dI)) (ci := 6) (v := .ref (ad 4)) (C := RX6) (T := TX6) (N := 20) hx hb hts hiX6 hown hK.1 hP 0 rfl rfl 7 (by decide) hf23 (fun _ h9 => h9) rfl dX6_isLess_12 ?_
  refine lv_aload_n hx hb dX6_isLess_15 rfl (lv_at hl 0 rfl) ?_
  refine va_get (D := (dC, dI)) (ci := 6) (v := .int m_length) (C := RX6) (T := TX6) (N := 20) hx hb hts hiX6 hown hK.1 hP 0 rfl rfl 5 (by decide) hf104 (fun _ h9 => h9) rfl dX6_isLess_16 ?_
  refine lv_iconst (v := (1 : Int32)) hx hb dX6_isLess_19 (by decide) ?_
  refine lv_isub hx hb dX6_isLess_20 ?_
  obtain ⟨hz21, h⟩ := Ho_ix h
  refine va_iald hx hb hK.1 hP 4 0 rfl rfl hz21 dX6_isLess_21 ?_
  refine lv_icmp_eq (tgt := 56) hx hb dX6_isLess_22 (by decide) (fun q22 => ?_) (fun q22 => ?_)
  · have h := Ho_t h q22
    refine lv_iconst (v := (1 : Int32)) hx hb dX6_isLess_56 (by decide) ?_
    refine lv_istore_n (lv' := [(2, .int (1 : Int32)), (0, .ref (ad 0)), (1, .int x1)]) hx hb dX6_isLess_57 rfl hl (by decide) rfl (fun ls hl => ?_)
    exact J58 (1 : Int32) ls (lv_sub hl [1, 2, 0] rfl) h
  · have h := Ho_f h q22
    refine lv_aload_n hx hb dX6_isLess_25 rfl (lv_at hl 0 rfl) ?_
    refine va_get (D := (dC, dI)) (ci := 6) (v := .ref (ad 5)) (C := RX6) (T := TX6) (N := 20) hx hb hts hiX6 hown hK.1 hP 0 rfl rfl 8 (by decide) hf26 (fun _ h9 => h9) rfl dX6_isLess_26 ?_
    refine lv_aload_n hx hb dX6_isLess_29 rfl (lv_at hl 0 rfl) ?_
    refine va_get (D := (dC, dI)) (ci := 6) (v := .int m_length) (C := RX6) (T := TX6) (N := 20) hx hb hts hiX6 hown hK.1 hP 0 rfl rfl 5 (by decide) hf104 (fun _ h9 => h9) rfl dX6_isLess_30 ?_
    refine lv_iconst (v := (1 : Int32)) hx hb dX6_isLess_33 (by decide) ?_
    refine lv_isub hx hb dX6_isLess_34 ?_
    obtain ⟨hz35, h⟩ := Ho_ix h
    refine va_iald hx hb hK.1 hP 5 0 rfl rfl hz35 dX6_isLess_35 ?_
    refine lv_aload_n hx hb dX6_isLess_36 rfl (lv_at hl 0 rfl) ?_
    refine va_get (D := (dC, dI)) (ci := 6) (v := .ref (ad 4)) (C := RX6) (T := TX6) (N := 20) hx hb hts hiX6 hown hK.1 hP 0 rfl rfl 7 (by decide) hf23 (fun _ h9 => h9) rfl dX6_isLess_37 ?_
    refine lv_aload_n hx hb dX6_isLess_40 rfl (lv_at hl 0 rfl) ?_
    refine va_get (D := (dC, dI)) (ci := 6) (v := .int m_length) (C := RX6) (T := TX6) (N := 20) hx hb hts hiX6 hown hK.1 hP 0 rfl rfl 5 (by decide) hf104 (fun _ h9 => h9) rfl dX6_isLess_41 ?_
    refine lv_iconst (v := (1 : Int32)) hx hb dX6_isLess_44 (by decide) ?_
    refine lv_isub hx hb dX6_isLess_45 ?_
    obtain ⟨hz46, h⟩ := Ho_ix h
    refine va_iald hx hb hK.1 hP 4 0 rfl rfl hz46 dX6_isLess_46 ?_
    refine lv_icmp_ge (tgt := 54) hx hb dX6_isLess_47 (by decide) (fun q47 => ?_) (fun q47 => ?_)
    · have h := Ho_t h q47
      refine lv_iconst (v := (0 : Int32)) hx hb dX6_isLess_54 (by decide) ?_
      exact W.zret (ty := .boolean) hx hb hr rfl (fun t ht _ => ro_Si (Ho_e h) ht) ro_nil dX6_isLess_55 hlk
    · have h := Ho_f h q47
      refine lv_iconst (v := (1 : Int32)) hx hb dX6_isLess_50 (by decide) ?_
      refine lv_goto (tgt := 55) hx hb dX6_isLess_51 (by decide) ?_
      exact W.zret (ty := .boolean) hx hb hr rfl (fun t ht _ => ro_Si (Ho_e h) ht) ro_nil dX6_isLess_55 hlk
abbrev rmX6_findOrder : Room := { frames := 1, cells := 0, slots := 0, locals := 23 }
set_option maxHeartbeats 4000000 in
set_option maxRecDepth 100000 in
theorem c_X6_findOrder (l : Launch) (dC : Nat → ClassId) (dI : Nat → Nat → Nat) (cI cJ : ClassId) (ad : Nat → Nat) (sz : Nat) (m_code : Int32) (m_n : Int32) (m_built : Int32) (m_length : Int32) (m_begin : Int32) (m_many : Int32) (m_leastOf : Nat → Int32) (m_sizeOf : Nat → Int32) (m_own : Nat → Int32) (m_bestRow : Nat → Int32) (m_tryRow : Nat → Int32) (m_keptRow : Nat → Int32) (m_otherRow : Nat → Int32) (m_row : Nat → Int32) (m_formRow : Nat → Int32) (m_allForms : Nat → Int32) (m_rowsOf : Nat → Int32) (m_intervals : Nat → Int32) (m_places : Nat → Int32) (m_whole : Nat → Int64) (x1 : Int32) (x2 : Int32) (m_length' : Int32) (m_begin' : Int32) (m_own' : Nat → Int32) (m_bestRow' : Nat → Int32) (m_tryRow' : Nat → Int32) (hF : FX6_findOrder m_n m_length m_begin m_own m_bestRow m_tryRow x1 x2 = some (m_length', m_begin', m_own', m_bestRow', m_tryRow')) : Met l yX6_findOrder wsX6_findOrder rmX6_findOrder (rwP (dC, dI) [(cI, .int), (cJ, .long)] sz (wX6 cI cJ ad m_code m_n m_built m_length m_begin m_many m_leastOf m_sizeOf m_own m_bestRow m_tryRow m_keptRow m_otherRow m_row m_formRow m_allForms m_rowsOf m_intervals m_places m_whole) [.ref (ad 0), .int x1, .int x2]) (va_Qv (fun _ : Unit => True) (fun _ t => va_P (dC, dI) vwCl (wX6 cI cJ ad m_code m_n m_built m_length' m_begin' m_many m_leastOf m_sizeOf m_own' m_bestRow' m_tryRow' m_keptRow m_otherRow m_row m_formRow m_allForms m_rowsOf m_intervals m_places m_whole) t.heap ∧ vK (dC, dI) [(cI, .int), (cJ, .long)] t ∧ va_D (va_A (wX6 cI cJ ad m_code m_n m_built m_length m_begin m_many m_leastOf m_sizeOf m_own m_bestRow m_tryRow m_keptRow m_otherRow m_row m_formRow m_allForms m_rowsOf m_intervals m_places m_whole) sz) (wX6 cI cJ ad m_code m_n m_built m_length' m_begin' m_many m_leastOf m_sizeOf m_own' m_bestRow' m_tryRow' m_keptRow m_otherRow m_row m_formRow m_allForms m_rowsOf m_intervals m_places m_whole)) (va_A (wX6 cI cJ ad m_code m_n m_built m_length m_begin m_many m_leastOf m_sizeOf m_own m_bestRow m_tryRow m_keptRow m_otherRow m_row m_formRow m_allForms m_rowsOf m_intervals m_places m_whole) sz)) 0 0 (va_A (wX6 cI cJ ad m_code m_n m_built m_length m_begin m_many m_leastOf m_sizeOf m_own m_bestRow m_tryRow m_keptRow m_otherRow m_row m_formRow m_allForms m_rowsOf m_intervals m_places m_whole) sz) := by
  refine rw_start (cc := cX6_findOrder) (maxL := 5) (ret := none) (by decide) rfl (Nat.le_of_ble_eq_true rfl) ?_
  intro p e s m args below meth c ls A H locs hx hb hml hr hlk hown hts hsz hP hK hD hA hS hAe hl
  have hown : s.vm.findClass RX6 = some m.cls := hown
  have hl : lv_has ls 5 [(0, .ref (ad 0)), (1, .int x1), (2, .int x2)] := hl
  have h : Ho (FX6_findOrder m_n m_length m_begin m_own m_bestRow m_tryRow x1 x2) (fun x => x = (m_length', m_begin', m_own', m_bestRow', m_tryRow')) := ⟨_, hF, rfl⟩
  unfold FX6_findOrder at h
  have QI : ∀ {m_length9 : Int32} {m_begin9 : Int32} {m_own9 : Nat → Int32} {m_bestRow9 : Nat → Int32} {m_tryRow9 : Nat → Int32} {t : State}, (m_length9, m_begin9, m_own9, m_bestRow9, m_tryRow9) = (m_length', m_begin', m_own', m_bestRow', m_tryRow') → va_P (dC, dI) vwCl (wX6 cI cJ ad m_code m_n m_built m_length9 m_begin9 m_many m_leastOf m_sizeOf m_own9 m_bestRow9 m_tryRow9 m_keptRow m_otherRow m_row m_formRow m_allForms m_rowsOf m_intervals m_places m_whole) t.heap → vK (dC, dI) [(cI, .int), (cJ, .long)] t → va_D A (wX6 cI cJ ad m_code m_n m_built m_length9 m_begin9 m_many m_leastOf m_sizeOf m_own9 m_bestRow9 m_tryRow9 m_keptRow m_otherRow m_row m_formRow m_allForms m_rowsOf m_intervals m_places m_whole) → va_F A s t → (va_Qv (fun _ : Unit => True) (fun _ t => va_P (dC, dI) vwCl (wX6 cI cJ ad m_code m_n m_built m_length' m_begin' m_many m_leastOf m_sizeOf m_own' m_bestRow' m_tryRow' m_keptRow m_otherRow m_row m_formRow m_allForms m_rowsOf m_intervals m_places m_whole) t.heap ∧ vK (dC, dI) [(cI, .int), (cJ, .long)] t ∧ va_D (va_A (wX6 cI cJ ad m_code m_n m_built m_length m_begin m_many m_leastOf m_sizeOf m_own m_bestRow m_tryRow m_keptRow m_otherRow m_row m_formRow m_allForms m_rowsOf m_intervals m_places m_whole) sz) (wX6 cI cJ ad m_code m_n m_built m_length' m_begin' m_many m_leastOf m_sizeOf m_own' m_bestRow' m_tryRow' m_keptRow m_otherRow m_row m_formRow m_allForms m_rowsOf m_intervals m_places m_whole)) (va_A (wX6 cI cJ ad m_code m_n m_built m_length m_begin m_many m_leastOf m_sizeOf m_own m_bestRow m_tryRow m_keptRow m_otherRow m_row m_formRow m_allForms m_rowsOf m_intervals m_places m_whole) sz)) args s (.returned none) t := by
    intro m_length9 m_begin9 m_own9 m_bestRow9 m_tryRow9 t e9 q1 q2 q3 q4
    cases e9
    subst hAe
    exact ⟨⟨(), rfl, trivial, q1, q2, q3⟩, q4⟩
  have hfix : CallFix p m c cX6_findOrder 5 s args wsX6_findOrder RX6 := ⟨hx, hb, hml, hown, hts⟩
  have hiX6 : ∀ w ∈ u_ws RX6 TX6 20, w ∈ wsX6_findOrder := by decide +kernel
  have hf7 := hts (.fieldLink RX6 7 "RowClassesModel" "n" "I") (by decide +kernel)
  have hf20 := hts (.fieldLink RX6 20 "RowClassesModel" "own" "[I") (by decide +kernel)
  have hf23 := hts (.fieldLink RX6 23 "RowClassesModel" "bestRow" "[I") (by decide +kernel)
  have hf26 := hts (.fieldLink RX6 26 "RowClassesModel" "tryRow" "[I") (by decide +kernel)
  have hf104 := hts (.fieldLink RX6 104 "RowClassesModel" "length" "I") (by decide +kernel)
  have hf110 := hts (.fieldLink RX6 110 "RowClassesModel" "begin" "I") (by decide +kernel)
  have J176 : ∀ (m_lengthk : Int32) (m_begink : Int32) (m_ownk : Nat → Int32) (m_bestRowk : Nat → Int32) (m_tryRowk : Nat → Int32) (H : Heap) (locs : List Loc) (ls : Array Slot), va_P (dC, dI) vwCl (wX6 cI cJ ad m_code m_n m_built m_lengthk m_begink m_many m_leastOf m_sizeOf m_ownk m_bestRowk m_tryRowk m_keptRow m_otherRow m_row m_formRow m_allForms m_rowsOf m_intervals m_places m_whole) H → va_D A (wX6 cI cJ ad m_code m_n m_built m_lengthk m_begink m_many m_leastOf m_sizeOf m_ownk m_bestRowk m_tryRowk m_keptRow m_otherRow m_row m_formRow m_allForms m_rowsOf m_intervals m_places m_whole) → va_S A s.heap H locs → lv_has ls 5 [] → Ho (X6_findOrder_176 m_lengthk m_begink m_ownk m_bestRowk m_tryRowk) (fun x => x = (m_length', m_begin', m_own', m_bestRow', m_tryRow')) → W p l e rmX6_findOrder s m args below meth c H locs 0 0 (MQ below (va_Qv (fun _ : Unit => True) (fun _ t => va_P (dC, dI) vwCl (wX6 cI cJ ad m_code m_n m_built m_length' m_begin' m_many m_leastOf m_sizeOf m_own' m_bestRow' m_tryRow' m_keptRow m_otherRow m_row m_formRow m_allForms m_rowsOf m_intervals m_places m_whole) t.heap ∧ vK (dC, dI) [(cI, .int), (cJ, .long)] t ∧ va_D (va_A (wX6 cI cJ ad m_code m_n m_built m_length m_begin m_many m_leastOf m_sizeOf m_own m_bestRow m_tryRow m_keptRow m_otherRow m_row m_formRow m_allForms m_rowsOf m_intervals m_places m_whole) sz) (wX6 cI cJ ad m_code m_n m_built m_length' m_begin' m_many m_leastOf m_sizeOf m_own' m_bestRow' m_tryRow' m_keptRow m_otherRow m_row m_formRow m_allForms m_rowsOf m_intervals m_places m_whole)) (va_A (wX6 cI cJ ad m_code m_n m_built m_length m_begin m_many m_leastOf m_sizeOf m_own m_bestRow m_tryRow m_keptRow m_otherRow m_row m_formRow m_allForms m_rowsOf m_intervals m_places m_whole) sz)) args s 0 0 A) (F0 m 176 ls []) := by
    intro m_lengthk m_begink m_ownk m_bestRowk m_tryRowk H locs ls hP hD hS hl h
    unfold X6_findOrder_176 at h
    exact W.vret hx hb hr (fun t ht hW => QI (Ho_e h) (by rw [ht]; exact hP) (hK.warm hW) hD (hS.F ht)) hS.2.2 dX6_findOrder_176 hlk
  have J52 : ∀ (m_lengthk : Int32) (m_begink : Int32) (m_ownk : Nat → Int32) (m_bestRowk : Nat → Int32) (m_tryRowk : Nat → Int32) (v3 : Int32) (H : Heap) (locs : List Loc) (ls : Array Slot), va_P (dC, dI) vwCl (wX6 cI cJ ad m_code m_n m_built m_lengthk m_begink m_many m_leastOf m_sizeOf m_ownk m_bestRowk m_tryRowk m_keptRow m_otherRow m_row m_formRow m_allForms m_rowsOf m_intervals m_places m_whole) H → va_D A (wX6 cI cJ ad m_code m_n m_built m_lengthk m_begink m_many m_leastOf m_sizeOf m_ownk m_bestRowk m_tryRowk m_keptRow m_otherRow m_row m_formRow m_allForms m_rowsOf m_intervals m_places m_whole) → va_S A s.heap H locs → lv_has ls 5 [(0, .ref (ad 0)), (2, .int x2), (3, .int v3)] → Ho ((X6_findOrder_52_l m_n x2 m_lengthk m_ownk m_begink m_bestRowk m_tryRowk v3).bind (fun ex => X6_findOrder_176 m_lengthk ex.1 m_ownk ex.2.1 ex.2.2)) (fun x => x = (m_length', m_begin', m_own', m_bestRow', m_tryRow')) → W p l e rmX6_findOrder s m args below meth c H locs 0 0 (MQ below (va_Qv (fun _ : Unit => True) (fun _ t => va_P (dC, dI) vwCl (wX6 cI cJ ad m_code m_n m_built m_length' m_begin' m_many m_leastOf m_sizeOf m_own' m_bestRow' m_tryRow' m_keptRow m_otherRow m_row m_formRow m_allForms m_rowsOf m_intervals m_places m_whole) t.heap ∧ vK (dC, dI) [(cI, .int), (cJ, .long)] t ∧ va_D (va_A (wX6 cI cJ ad m_code m_n m_built m_length m_begin m_many m_leastOf m_sizeOf m_own m_bestRow m_tryRow m_keptRow m_otherRow m_row m_formRow m_allForms m_rowsOf m_intervals m_places m_whole) sz) (wX6 cI cJ ad m_code m_n m_built m_length' m_begin' m_many m_leastOf m_sizeOf m_own' m_bestRow' m_tryRow' m_keptRow m_otherRow m_row m_formRow m_allForms m_rowsOf m_intervals m_places m_whole)) (va_A (wX6 cI cJ ad m_code m_n m_built m_length m_begin m_many m_leastOf m_sizeOf m_own m_bestRow m_tryRow m_keptRow m_otherRow m_row m_formRow m_allForms m_rowsOf m_intervals m_places m_whole) sz)) args s 0 0 A) (F0 m 52 ls []) := by
    intro m_lengthk m_begink m_ownk m_bestRowk m_tryRowk v3 H locs ls hP hD hS hl h
    refine loop_use2 (fun z : Int32 × (Nat → Int32) × (Nat → Int32) × Int32 => ∀ (H : Heap) (locs : List Loc) (ls : Array Slot), va_P (dC, dI) vwCl (wX6 cI cJ ad m_code m_n m_built m_lengthk z.1 m_many m_leastOf m_sizeOf m_ownk z.2.1 z.2.2.1 m_keptRow m_otherRow m_row m_formRow m_allForms m_rowsOf m_intervals m_places m_whole) H → va_D A (wX6 cI cJ ad m_code m_n m_built m_lengthk z.1 m_many m_leastOf m_sizeOf m_ownk z.2.1 z.2.2.1 m_keptRow m_otherRow m_row m_formRow m_allForms m_rowsOf m_intervals m_places m_whole) → va_S A s.heap H locs → lv_has ls 5 [(0, .ref (ad 0)), (2, .int x2), (3, .int z.2.2.2)] → W p l e rmX6_findOrder s m args below meth c H locs 0 0 (MQ below (va_Qv (fun _ : Unit => True) (fun _ t => va_P (dC, dI) vwCl (wX6 cI cJ ad m_code m_n m_built m_length' m_begin' m_many m_leastOf m_sizeOf m_own' m_bestRow' m_tryRow' m_keptRow m_otherRow m_row m_formRow m_allForms m_rowsOf m_intervals m_places m_whole) t.heap ∧ vK (dC, dI) [(cI, .int), (cJ, .long)] t ∧ va_D (va_A (wX6 cI cJ ad m_code m_n m_built m_length m_begin m_many m_leastOf m_sizeOf m_own m_bestRow m_tryRow m_keptRow m_otherRow m_row m_formRow m_allForms m_rowsOf m_intervals m_places m_whole) sz) (wX6 cI cJ ad m_code m_n m_built m_length' m_begin' m_many m_leastOf m_sizeOf m_own' m_bestRow' m_tryRow' m_keptRow m_otherRow m_row m_formRow m_allForms m_rowsOf m_intervals m_places m_whole)) (va_A (wX6 cI cJ ad m_code m_n m_built m_length m_begin m_many m_leastOf m_sizeOf m_own m_bestRow m_tryRow m_keptRow m_otherRow m_row m_formRow m_allForms m_rowsOf m_intervals m_places m_whole) sz)) args s 0 0 A) (F0 m 52 ls [])) ?_ FU _ h H locs ls hP hD hS hl
    intro Q52 hi52 ho52 z h H locs ls hP hD hS hl
    obtain ⟨m_begink, m_bestRowk, m_tryRowk, v3⟩ := z
    have h : Ho (X6_findOrder_52_s m_n x2 m_lengthk m_ownk m_begink m_bestRowk m_tryRowk v3) Q52 := h
    unfold X6_findOrder_52_s at h
    have hl : lv_has ls 5 [(0, .ref (ad 0)), (2, .int x2), (3, .int v3)] := hl
    have hP : va_P (dC, dI) vwCl (wX6 cI cJ ad m_code m_n m_built m_lengthk m_begink m_many m_leastOf m_sizeOf m_ownk m_bestRowk m_tryRowk m_keptRow m_otherRow m_row m_formRow m_allForms m_rowsOf m_intervals m_places m_whole) H := hP
    have hD : va_D A (wX6 cI cJ ad m_code m_n m_built m_lengthk m_begink m_many m_leastOf m_sizeOf m_ownk m_bestRowk m_tryRowk m_keptRow m_otherRow m_row m_formRow m_allForms m_rowsOf m_intervals m_places m_whole) := hD
    have J170 : ∀ (m_begink : Int32) (m_bestRowk : Nat → Int32) (m_tryRowk : Nat → Int32) (v3 : Int32) (H : Heap) (locs : List Loc) (ls : Array Slot), va_P (dC, dI) vwCl (wX6 cI cJ ad m_code m_n m_built m_lengthk m_begink m_many m_leastOf m_sizeOf m_ownk m_bestRowk m_tryRowk m_keptRow m_otherRow m_row m_formRow m_allForms m_rowsOf m_intervals m_places m_whole) H → va_D A (wX6 cI cJ ad m_code m_n m_built m_lengthk m_begink m_many m_leastOf m_sizeOf m_ownk m_bestRowk m_tryRowk m_keptRow m_otherRow m_row m_formRow m_allForms m_rowsOf m_intervals m_places m_whole) → va_S A s.heap H locs → lv_has ls 5 [(0, .ref (ad 0)), (2, .int x2), (3, .int v3)] → Ho (X6_findOrder_170 m_lengthk m_begink m_ownk m_bestRowk m_tryRowk v3) Q52 → W p l e rmX6_findOrder s m args below meth c H locs 0 0 (MQ below (va_Qv (fun _ : Unit => True) (fun _ t => va_P (dC, dI) vwCl (wX6 cI cJ ad m_code m_n m_built m_length' m_begin' m_many m_leastOf m_sizeOf m_own' m_bestRow' m_tryRow' m_keptRow m_otherRow m_row m_formRow m_allForms m_rowsOf m_intervals m_places m_whole) t.heap ∧ vK (dC, dI) [(cI, .int), (cJ, .long)] t ∧ va_D (va_A (wX6 cI cJ ad m_code m_n m_built m_length m_begin m_many m_leastOf m_sizeOf m_own m_bestRow m_tryRow m_keptRow m_otherRow m_row m_formRow m_allForms m_rowsOf m_intervals m_places m_whole) sz) (wX6 cI cJ ad m_code m_n m_built m_length' m_begin' m_many m_leastOf m_sizeOf m_own' m_bestRow' m_tryRow' m_keptRow m_otherRow m_row m_formRow m_allForms m_rowsOf m_intervals m_places m_whole)) (va_A (wX6 cI cJ ad m_code m_n m_built m_length m_begin m_many m_leastOf m_sizeOf m_own m_bestRow m_tryRow m_keptRow m_otherRow m_row m_formRow m_allForms m_rowsOf m_intervals m_places m_whole) sz)) args s 0 0 A) (F0 m 170 ls []) := by
      intro m_begink m_bestRowk m_tryRowk v3 H locs ls hP hD hS hl h
      unfold X6_findOrder_170 at h
      refine lv_iinc (v := v3 + 1) (lv' := [(3, .int (v3 + 1)), (0, .ref (ad 0)), (2, .int x2)]) hx hb dX6_findOrder_170 hl (k := 2) rfl rfl (by decide) rfl (fun ls hl => ?_)
      refine lv_goto (tgt := 52) hx hb dX6_findOrder_173 (by decide) ?_
      exact hi52 _ (Ho_s h) _ _ ls hP hD hS (lv_sub hl [1, 2, 0] rfl)
    have J141 : ∀ (m_begink : Int32) (m_bestRowk : Nat → Int32) (m_tryRowk : Nat → Int32) (v3 : Int32) (v4 : Int32) (H : Heap) (locs : List Loc) (ls : Array Slot), va_P (dC, dI) vwCl (wX6 cI cJ ad m_code m_n m_built m_lengthk m_begink m_many m_leastOf m_sizeOf m_ownk m_bestRowk m_tryRowk m_keptRow m_otherRow m_row m_formRow m_allForms m_rowsOf m_intervals m_places m_whole) H → va_D A (wX6 cI cJ ad m_code m_n m_built m_lengthk m_begink m_many m_leastOf m_sizeOf m_ownk m_bestRowk m_tryRowk m_keptRow m_otherRow m_row m_formRow m_allForms m_rowsOf m_intervals m_places m_whole) → va_S A s.heap H locs → lv_has ls 5 [(0, .ref (ad 0)), (2, .int x2), (3, .int v3), (4, .int v4)] → Ho ((X6_findOrder_141_l m_lengthk m_begink m_ownk m_tryRowk v3 m_bestRowk v4).bind (fun ex => X6_findOrder_170 m_lengthk m_begink m_ownk ex m_tryRowk v3)) Q52 → W p l e rmX6_findOrder s m args below meth c H locs 0 0 (MQ below (va_Qv (fun _ : Unit => True) (fun _ t => va_P (dC, dI) vwCl (wX6 cI cJ ad m_code m_n m_built m_length' m_begin' m_many m_leastOf m_sizeOf m_own' m_bestRow' m_tryRow' m_keptRow m_otherRow m_row m_formRow m_allForms m_rowsOf m_intervals m_places m_whole) t.heap ∧ vK (dC, dI) [(cI, .int), (cJ, .long)] t ∧ va_D (va_A (wX6 cI cJ ad m_code m_n m_built m_length m_begin m_many m_leastOf m_sizeOf m_own m_bestRow m_tryRow m_keptRow m_otherRow m_row m_formRow m_allForms m_rowsOf m_intervals m_places m_whole) sz) (wX6 cI cJ ad m_code m_n m_built m_length' m_begin' m_many m_leastOf m_sizeOf m_own' m_bestRow' m_tryRow' m_keptRow m_otherRow m_row m_formRow m_allForms m_rowsOf m_intervals m_places m_whole)) (va_A (wX6 cI cJ ad m_code m_n m_built m_length m_begin m_many m_leastOf m_sizeOf m_own m_bestRow m_tryRow m_keptRow m_otherRow m_row m_formRow m_allForms m_rowsOf m_intervals m_places m_whole) sz)) args s 0 0 A) (F0 m 141 ls []) := by
      intro m_begink m_bestRowk m_tryRowk v3 v4 H locs ls hP hD hS hl h
      refine loop_use2 (fun z : (Nat → Int32) × Int32 => ∀ (H : Heap) (locs : List Loc) (ls : Array Slot), va_P (dC, dI) vwCl (wX6 cI cJ ad m_code m_n m_built m_lengthk m_begink m_many m_leastOf m_sizeOf m_ownk z.1 m_tryRowk m_keptRow m_otherRow m_row m_formRow m_allForms m_rowsOf m_intervals m_places m_whole) H → va_D A (wX6 cI cJ ad m_code m_n m_built m_lengthk m_begink m_many m_leastOf m_sizeOf m_ownk z.1 m_tryRowk m_keptRow m_otherRow m_row m_formRow m_allForms m_rowsOf m_intervals m_places m_whole) → va_S A s.heap H locs → lv_has ls 5 [(0, .ref (ad 0)), (2, .int x2), (3, .int v3), (4, .int z.2)] → W p l e rmX6_findOrder s m args below meth c H locs 0 0 (MQ below (va_Qv (fun _ : Unit => True) (fun _ t => va_P (dC, dI) vwCl (wX6 cI cJ ad m_code m_n m_built m_length' m_begin' m_many m_leastOf m_sizeOf m_own' m_bestRow' m_tryRow' m_keptRow m_otherRow m_row m_formRow m_allForms m_rowsOf m_intervals m_places m_whole) t.heap ∧ vK (dC, dI) [(cI, .int), (cJ, .long)] t ∧ va_D (va_A (wX6 cI cJ ad m_code m_n m_built m_length m_begin m_many m_leastOf m_sizeOf m_own m_bestRow m_tryRow m_keptRow m_otherRow m_row m_formRow m_allForms m_rowsOf m_intervals m_places m_whole) sz) (wX6 cI cJ ad m_code m_n m_built m_length' m_begin' m_many m_leastOf m_sizeOf m_own' m_bestRow' m_tryRow' m_keptRow m_otherRow m_row m_formRow m_allForms m_rowsOf m_intervals m_places m_whole)) (va_A (wX6 cI cJ ad m_code m_n m_built m_length m_begin m_many m_leastOf m_sizeOf m_own m_bestRow m_tryRow m_keptRow m_otherRow m_row m_formRow m_allForms m_rowsOf m_intervals m_places m_whole) sz)) args s 0 0 A) (F0 m 141 ls [])) ?_ FU _ h H locs ls hP hD hS hl
      intro Q141 hi141 ho141 z h H locs ls hP hD hS hl
      obtain ⟨m_bestRowk, v4⟩ := z
      have h : Ho (X6_findOrder_141_s m_lengthk m_begink m_ownk m_tryRowk v3 m_bestRowk v4) Q141 := h
      unfold X6_findOrder_141_s at h
      have hl : lv_has ls 5 [(0, .ref (ad 0)), (2, .int x2), (3, .int v3), (4, .int v4)] := hl
      have hP : va_P (dC, dI) vwCl (wX6 cI cJ ad m_code m_n m_built m_lengthk m_begink m_many m_leastOf m_sizeOf m_ownk m_bestRowk m_tryRowk m_keptRow m_otherRow m_row m_formRow m_allForms m_rowsOf m_intervals m_places m_whole) H := hP
      have hD : va_D A (wX6 cI cJ ad m_code m_n m_built m_lengthk m_begink m_many m_leastOf m_sizeOf m_ownk m_bestRowk m_tryRowk m_keptRow m_otherRow m_row m_formRow m_allForms m_rowsOf m_intervals m_places m_whole) := hD
      refine lv_iload hx hb dX6_findOrder_141 (lv_at hl 3 rfl) ?_
      refine lv_aload_n hx hb dX6_findOrder_143 rfl (lv_at hl 0 rfl) ?_
      refine va_get (D := (dC, dI)) (ci := 6) (v := .int m_lengthk) (C := RX6) (T := TX6) (N := 20) hx hb hts hiX6 hown hK.1 hP 0 rfl rfl 5 (by decide) hf104 (fun _ h9 => h9) rfl dX6_findOrder_144 ?_
      refine lv_icmp_ge (tgt := 170) hx hb dX6_findOrder_147 (by decide) (fun q147 => ?_) (fun q147 => ?_)
      · have h := Ho_t h q147
        have h := ho141 _ (Ho_s h)
        exact J170 m_begink m_bestRowk m_tryRowk v3 _ _ ls hP hD hS (lv_sub hl [0, 1, 2] rfl) h
      · have h := Ho_f h q147
        refine lv_aload_n hx hb dX6_findOrder_150 rfl (lv_at hl 0 rfl) ?_
        refine va_get (D := (dC, dI)) (ci := 6) (v := .ref (ad 4)) (C := RX6) (T := TX6) (N := 20) hx hb hts hiX6 hown hK.1 hP 0 rfl rfl 7 (by decide) hf23 (fun _ h9 => h9) rfl dX6_findOrder_151 ?_
        refine lv_iload hx hb dX6_findOrder_154 (lv_at hl 3 rfl) ?_
        refine lv_aload_n hx hb dX6_findOrder_156 rfl (lv_at hl 0 rfl) ?_
        refine va_get (D := (dC, dI)) (ci := 6) (v := .ref (ad 5)) (C := RX6) (T := TX6) (N := 20) hx hb hts hiX6 hown hK.1 hP 0 rfl rfl 8 (by decide) hf26 (fun _ h9 => h9) rfl dX6_findOrder_157 ?_
        refine lv_iload hx hb dX6_findOrder_160 (lv_at hl 3 rfl) ?_
        obtain ⟨hz162, h⟩ := Ho_ix h
        refine va_iald hx hb hK.1 hP 5 0 rfl rfl hz162 dX6_findOrder_162 ?_
        obtain ⟨hz163, h⟩ := Ho_ix h
        refine va_iast hx hb hK.1 hP hD hS 4 0 rfl rfl hz163 dX6_findOrder_163 (fun H locs hP hD hS => ?_)
        have hP : va_P (dC, dI) vwCl (wX6 cI cJ ad m_code m_n m_built m_lengthk m_begink m_many m_leastOf m_sizeOf m_ownk (upd m_bestRowk v4.toNatClampNeg (m_tryRowk v4.toNatClampNeg)) m_tryRowk m_keptRow m_otherRow m_row m_formRow m_allForms m_rowsOf m_intervals m_places m_whole) H := hP
        have hD : va_D A (wX6 cI cJ ad m_code m_n m_built m_lengthk m_begink m_many m_leastOf m_sizeOf m_ownk (upd m_bestRowk v4.toNatClampNeg (m_tryRowk v4.toNatClampNeg)) m_tryRowk m_keptRow m_otherRow m_row m_formRow m_allForms m_rowsOf m_intervals m_places m_whole) := hD
        refine lv_iinc (v := v4 + 1) (lv' := [(4, .int (v4 + 1)), (0, .ref (ad 0)), (2, .int x2), (3, .int v3)]) hx hb dX6_findOrder_164 hl (k := 3) rfl rfl (by decide) rfl (fun ls hl => ?_)
        refine lv_goto (tgt := 141) hx hb dX6_findOrder_167 (by decide) ?_
        exact hi141 _ (Ho_s h) _ _ ls hP hD hS (lv_sub hl [1, 2, 3, 0] rfl)
    have J128 : ∀ (m_begink : Int32) (m_bestRowk : Nat → Int32) (m_tryRowk : Nat → Int32) (v3 : Int32) (H : Heap) (locs : List Loc) (ls : Array Slot), va_P (dC, dI) vwCl (wX6 cI cJ ad m_code m_n m_built m_lengthk m_begink m_many m_leastOf m_sizeOf m_ownk m_bestRowk m_tryRowk m_keptRow m_otherRow m_row m_formRow m_allForms m_rowsOf m_intervals m_places m_whole) H → va_D A (wX6 cI cJ ad m_code m_n m_built m_lengthk m_begink m_many m_leastOf m_sizeOf m_ownk m_bestRowk m_tryRowk m_keptRow m_otherRow m_row m_formRow m_allForms m_rowsOf m_intervals m_places m_whole) → va_S A s.heap H locs → lv_has ls 5 [(0, .ref (ad 0)), (2, .int x2), (3, .int v3)] → Ho (X6_findOrder_128 m_lengthk m_begink m_ownk m_bestRowk m_tryRowk v3) Q52 → W p l e rmX6_findOrder s m args below meth c H locs 0 0 (MQ below (va_Qv (fun _ : Unit => True) (fun _ t => va_P (dC, dI) vwCl (wX6 cI cJ ad m_code m_n m_built m_length' m_begin' m_many m_leastOf m_sizeOf m_own' m_bestRow' m_tryRow' m_keptRow m_otherRow m_row m_formRow m_allForms m_rowsOf m_intervals m_places m_whole) t.heap ∧ vK (dC, dI) [(cI, .int), (cJ, .long)] t ∧ va_D (va_A (wX6 cI cJ ad m_code m_n m_built m_length m_begin m_many m_leastOf m_sizeOf m_own m_bestRow m_tryRow m_keptRow m_otherRow m_row m_formRow m_allForms m_rowsOf m_intervals m_places m_whole) sz) (wX6 cI cJ ad m_code m_n m_built m_length' m_begin' m_many m_leastOf m_sizeOf m_own' m_bestRow' m_tryRow' m_keptRow m_otherRow m_row m_formRow m_allForms m_rowsOf m_intervals m_places m_whole)) (va_A (wX6 cI cJ ad m_code m_n m_built m_length m_begin m_many m_leastOf m_sizeOf m_own m_bestRow m_tryRow m_keptRow m_otherRow m_row m_formRow m_allForms m_rowsOf m_intervals m_places m_whole) sz)) args s 0 0 A) (F0 m 128 ls []) := by
      intro m_begink m_bestRowk m_tryRowk v3 H locs ls hP hD hS hl h
      unfold X6_findOrder_128 at h
      refine lv_aload_n hx hb dX6_findOrder_128 rfl (lv_at hl 0 rfl) ?_
      refine lv_aload_n hx hb dX6_findOrder_129 rfl (lv_at hl 0 rfl) ?_
      refine va_get (D := (dC, dI)) (ci := 6) (v := .ref (ad 3)) (C := RX6) (T := TX6) (N := 20) hx hb hts hiX6 hown hK.1 hP 0 rfl rfl 6 (by decide) hf20 (fun _ h9 => h9) rfl dX6_findOrder_130 ?_
      refine lv_iload_n hx hb dX6_findOrder_133 rfl (lv_at hl 2 rfl) ?_
      obtain ⟨hz134, h⟩ := Ho_ix h
      refine va_iald hx hb hK.1 hP 3 0 rfl rfl hz134 dX6_findOrder_134 ?_
      refine va_put (D := (dC, dI)) (ci := 6) (v := .int (m_ownk v3.toNatClampNeg)) (ty := .int) (C := RX6) (T := TX6) (N := 20) hx hb hts hiX6 tyX6 tyX6_ok nmX6 hown hK.1 hP hD hS 0 rfl rfl 11 (by decide) hf110 (fun _ h9 => h9) rfl (by decide +kernel) rfl rfl (Nat.le_of_ble_eq_true rfl) dX6_findOrder_135 (fun H locs hP hD hS => ?_)
      have hP : va_P (dC, dI) vwCl (wX6 cI cJ ad m_code m_n m_built m_lengthk (m_ownk v3.toNatClampNeg) m_many m_leastOf m_sizeOf m_ownk m_bestRowk m_tryRowk m_keptRow m_otherRow m_row m_formRow m_allForms m_rowsOf m_intervals m_places m_whole) H := hP
      have hD : va_D A (wX6 cI cJ ad m_code m_n m_built m_lengthk (m_ownk v3.toNatClampNeg) m_many m_leastOf m_sizeOf m_ownk m_bestRowk m_tryRowk m_keptRow m_otherRow m_row m_formRow m_allForms m_rowsOf m_intervals m_places m_whole) := hD
      refine lv_iconst (v := (0 : Int32)) hx hb dX6_findOrder_138 (by decide) ?_
      refine lv_istore (lv' := [(4, .int (0 : Int32)), (0, .ref (ad 0)), (2, .int x2), (3, .int v3)]) hx hb dX6_findOrder_139 hl (by decide) rfl (fun ls hl => ?_)
      exact J141 (m_ownk v3.toNatClampNeg) m_bestRowk m_tryRowk v3 (0 : Int32) _ _ ls hP hD hS (lv_sub hl [1, 2, 3, 0] rfl) h
    have J116 : ∀ (m_begink : Int32) (m_bestRowk : Nat → Int32) (m_tryRowk : Nat → Int32) (v3 : Int32) (H : Heap) (locs : List Loc) (ls : Array Slot), va_P (dC, dI) vwCl (wX6 cI cJ ad m_code m_n m_built m_lengthk m_begink m_many m_leastOf m_sizeOf m_ownk m_bestRowk m_tryRowk m_keptRow m_otherRow m_row m_formRow m_allForms m_rowsOf m_intervals m_places m_whole) H → va_D A (wX6 cI cJ ad m_code m_n m_built m_lengthk m_begink m_many m_leastOf m_sizeOf m_ownk m_bestRowk m_tryRowk m_keptRow m_otherRow m_row m_formRow m_allForms m_rowsOf m_intervals m_places m_whole) → va_S A s.heap H locs → lv_has ls 5 [(0, .ref (ad 0)), (2, .int x2), (3, .int v3)] → Ho (X6_findOrder_116 x2 m_lengthk m_begink m_ownk m_bestRowk m_tryRowk v3) Q52 → W p l e rmX6_findOrder s m args below meth c H locs 0 0 (MQ below (va_Qv (fun _ : Unit => True) (fun _ t => va_P (dC, dI) vwCl (wX6 cI cJ ad m_code m_n m_built m_length' m_begin' m_many m_leastOf m_sizeOf m_own' m_bestRow' m_tryRow' m_keptRow m_otherRow m_row m_formRow m_allForms m_rowsOf m_intervals m_places m_whole) t.heap ∧ vK (dC, dI) [(cI, .int), (cJ, .long)] t ∧ va_D (va_A (wX6 cI cJ ad m_code m_n m_built m_length m_begin m_many m_leastOf m_sizeOf m_own m_bestRow m_tryRow m_keptRow m_otherRow m_row m_formRow m_allForms m_rowsOf m_intervals m_places m_whole) sz) (wX6 cI cJ ad m_code m_n m_built m_length' m_begin' m_many m_leastOf m_sizeOf m_own' m_bestRow' m_tryRow' m_keptRow m_otherRow m_row m_formRow m_allForms m_rowsOf m_intervals m_places m_whole)) (va_A (wX6 cI cJ ad m_code m_n m_built m_length m_begin m_many m_leastOf m_sizeOf m_own m_bestRow m_tryRow m_keptRow m_otherRow m_row m_formRow m_allForms m_rowsOf m_intervals m_places m_whole) sz)) args s 0 0 A) (F0 m 116 ls []) := by
      intro m_begink m_bestRowk m_tryRowk v3 H locs ls hP hD hS hl h
      unfold X6_findOrder_116 at h
      refine lv_iload_n hx hb dX6_findOrder_116 rfl (lv_at hl 2 rfl) ?_
      refine lv_if_eq (tgt := 128) hx hb dX6_findOrder_117 (by decide) (fun q117 => ?_) (fun q117 => ?_)
      · have h := Ho_t h q117
        exact J128 m_begink m_bestRowk m_tryRowk v3 _ _ ls hP hD hS (lv_sub hl [0, 1, 2] rfl) h
      · have h := Ho_f h q117
        refine lv_aload_n hx hb dX6_findOrder_120 rfl (lv_at hl 0 rfl) ?_
        refine lv_iload_n hx hb dX6_findOrder_121 rfl (lv_at hl 1 rfl) ?_
        obtain ⟨r122, hc122, h⟩ := Ho_b h
        have hPc : va_P (dC, dI) vwCl (wX6 cI cJ ad m_code m_n m_built m_lengthk m_begink m_many m_leastOf m_sizeOf m_ownk m_bestRowk m_tryRowk m_keptRow m_otherRow m_row m_formRow m_allForms m_rowsOf m_intervals m_places m_whole) H := hP.sub [0, 1, 2, 3, 4, 5, 6, 7, 8, 9, 10, 11, 12, 13, 14] rfl
        refine cs_i (va_runV (As := [.int x2]) (rest := []) hfix (c_X6_isLess l dC dI cI cJ ad m_code m_n m_built m_lengthk m_begink m_many m_leastOf m_sizeOf m_ownk m_bestRowk m_tryRowk m_keptRow m_otherRow m_row m_formRow m_allForms m_rowsOf m_intervals m_places m_whole x2 _ hc122) (cwV 1 hts gX6_findOrder_X6_isLess rfl rfl rfl (by decide +kernel) ⟨by decide, by decide⟩) (roP.preV hK hPc (ci := 6) rfl rfl) rfl rfl hl.1 rfl (lv_room (Nat.le_of_ble_eq_true rfl)) dX6_findOrder_122 ⟨Nat.zero_le _, Nat.zero_le _⟩) ?_
        refine lv_if_eq (tgt := 170) hx hb dX6_findOrder_125 (by decide) (fun q125 => ?_) (fun q125 => ?_)
        · have h := Ho_t h q125
          exact J170 m_begink m_bestRowk m_tryRowk v3 _ _ ls hP hD hS (lv_sub hl [0, 1, 2] rfl) h
        · have h := Ho_f h q125
          exact J128 m_begink m_bestRowk m_tryRowk v3 _ _ ls hP hD hS (lv_sub hl [0, 1, 2] rfl) h
    have J63 : ∀ (m_begink : Int32) (m_bestRowk : Nat → Int32) (m_tryRowk : Nat → Int32) (v3 : Int32) (v4 : Int32) (H : Heap) (locs : List Loc) (ls : Array Slot), va_P (dC, dI) vwCl (wX6 cI cJ ad m_code m_n m_built m_lengthk m_begink m_many m_leastOf m_sizeOf m_ownk m_bestRowk m_tryRowk m_keptRow m_otherRow m_row m_formRow m_allForms m_rowsOf m_intervals m_places m_whole) H → va_D A (wX6 cI cJ ad m_code m_n m_built m_lengthk m_begink m_many m_leastOf m_sizeOf m_ownk m_bestRowk m_tryRowk m_keptRow m_otherRow m_row m_formRow m_allForms m_rowsOf m_intervals m_places m_whole) → va_S A s.heap H locs → lv_has ls 5 [(0, .ref (ad 0)), (2, .int x2), (3, .int v3), (4, .int v4)] → Ho ((X6_findOrder_63_l m_n m_lengthk m_begink m_ownk m_bestRowk v3 m_tryRowk v4).bind (fun ex => X6_findOrder_116 x2 m_lengthk m_begink m_ownk m_bestRowk ex v3)) Q52 → W p l e rmX6_findOrder s m args below meth c H locs 0 0 (MQ below (va_Qv (fun _ : Unit => True) (fun _ t => va_P (dC, dI) vwCl (wX6 cI cJ ad m_code m_n m_built m_length' m_begin' m_many m_leastOf m_sizeOf m_own' m_bestRow' m_tryRow' m_keptRow m_otherRow m_row m_formRow m_allForms m_rowsOf m_intervals m_places m_whole) t.heap ∧ vK (dC, dI) [(cI, .int), (cJ, .long)] t ∧ va_D (va_A (wX6 cI cJ ad m_code m_n m_built m_length m_begin m_many m_leastOf m_sizeOf m_own m_bestRow m_tryRow m_keptRow m_otherRow m_row m_formRow m_allForms m_rowsOf m_intervals m_places m_whole) sz) (wX6 cI cJ ad m_code m_n m_built m_length' m_begin' m_many m_leastOf m_sizeOf m_own' m_bestRow' m_tryRow' m_keptRow m_otherRow m_row m_formRow m_allForms m_rowsOf m_intervals m_places m_whole)) (va_A (wX6 cI cJ ad m_code m_n m_built m_length m_begin m_many m_leastOf m_sizeOf m_own m_bestRow m_tryRow m_keptRow m_otherRow m_row m_formRow m_allForms m_rowsOf m_intervals m_places m_whole) sz)) args s 0 0 A) (F0 m 63 ls []) := by
      intro m_begink m_bestRowk m_tryRowk v3 v4 H locs ls hP hD hS hl h
      refine loop_use2 (fun z : (Nat → Int32) × Int32 => ∀ (H : Heap) (locs : List Loc) (ls : Array Slot), va_P (dC, dI) vwCl (wX6 cI cJ ad m_code m_n m_built m_lengthk m_begink m_many m_leastOf m_sizeOf m_ownk m_bestRowk z.1 m_keptRow m_otherRow m_row m_formRow m_allForms m_rowsOf m_intervals m_places m_whole) H → va_D A (wX6 cI cJ ad m_code m_n m_built m_lengthk m_begink m_many m_leastOf m_sizeOf m_ownk m_bestRowk z.1 m_keptRow m_otherRow m_row m_formRow m_allForms m_rowsOf m_intervals m_places m_whole) → va_S A s.heap H locs → lv_has ls 5 [(0, .ref (ad 0)), (2, .int x2), (3, .int v3), (4, .int z.2)] → W p l e rmX6_findOrder s m args below meth c H locs 0 0 (MQ below (va_Qv (fun _ : Unit => True) (fun _ t => va_P (dC, dI) vwCl (wX6 cI cJ ad m_code m_n m_built m_length' m_begin' m_many m_leastOf m_sizeOf m_own' m_bestRow' m_tryRow' m_keptRow m_otherRow m_row m_formRow m_allForms m_rowsOf m_intervals m_places m_whole) t.heap ∧ vK (dC, dI) [(cI, .int), (cJ, .long)] t ∧ va_D (va_A (wX6 cI cJ ad m_code m_n m_built m_length m_begin m_many m_leastOf m_sizeOf m_own m_bestRow m_tryRow m_keptRow m_otherRow m_row m_formRow m_allForms m_rowsOf m_intervals m_places m_whole) sz) (wX6 cI cJ ad m_code m_n m_built m_length' m_begin' m_many m_leastOf m_sizeOf m_own' m_bestRow' m_tryRow' m_keptRow m_otherRow m_row m_formRow m_allForms m_rowsOf m_intervals m_places m_whole)) (va_A (wX6 cI cJ ad m_code m_n m_built m_length m_begin m_many m_leastOf m_sizeOf m_own m_bestRow m_tryRow m_keptRow m_otherRow m_row m_formRow m_allForms m_rowsOf m_intervals m_places m_whole) sz)) args s 0 0 A) (F0 m 63 ls [])) ?_ FU _ h H locs ls hP hD hS hl
      intro Q63 hi63 ho63 z h H locs ls hP hD hS hl
      obtain ⟨m_tryRowk, v4⟩ := z
      have h : Ho (X6_findOrder_63_s m_n m_lengthk m_begink m_ownk m_bestRowk v3 m_tryRowk v4) Q63 := h
      unfold X6_findOrder_63_s at h
      have hl : lv_has ls 5 [(0, .ref (ad 0)), (2, .int x2), (3, .int v3), (4, .int v4)] := hl
      have hP : va_P (dC, dI) vwCl (wX6 cI cJ ad m_code m_n m_built m_lengthk m_begink m_many m_leastOf m_sizeOf m_ownk m_bestRowk m_tryRowk m_keptRow m_otherRow m_row m_formRow m_allForms m_rowsOf m_intervals m_places m_whole) H := hP
      have hD : va_D A (wX6 cI cJ ad m_code m_n m_built m_lengthk m_begink m_many m_leastOf m_sizeOf m_ownk m_bestRowk m_tryRowk m_keptRow m_otherRow m_row m_formRow m_allForms m_rowsOf m_intervals m_places m_whole) := hD
      refine lv_iload hx hb dX6_findOrder_63 (lv_at hl 3 rfl) ?_
      refine lv_aload_n hx hb dX6_findOrder_65 rfl (lv_at hl 0 rfl) ?_
      refine va_get (D := (dC, dI)) (ci := 6) (v := .int m_lengthk) (C := RX6) (T := TX6) (N := 20) hx hb hts hiX6 hown hK.1 hP 0 rfl rfl 5 (by decide) hf104 (fun _ h9 => h9) rfl dX6_findOrder_66 ?_
      refine lv_icmp_ge (tgt := 116) hx hb dX6_findOrder_69 (by decide) (fun q69 => ?_) (fun q69 => ?_)
      · have h := Ho_t h q69
        have h := ho63 _ (Ho_s h)
        exact J116 m_begink m_bestRowk m_tryRowk v3 _ _ ls hP hD hS (lv_sub hl [0, 1, 2] rfl) h
      · have h := Ho_f h q69
        refine lv_aload_n hx hb dX6_findOrder_72 rfl (lv_at hl 0 rfl) ?_
        refine va_get (D := (dC, dI)) (ci := 6) (v := .ref (ad 5)) (C := RX6) (T := TX6) (N := 20) hx hb hts hiX6 hown hK.1 hP 0 rfl rfl 8 (by decide) hf26 (fun _ h9 => h9) rfl dX6_findOrder_73 ?_
        refine lv_iload hx hb dX6_findOrder_76 (lv_at hl 3 rfl) ?_
        refine lv_aload_n hx hb dX6_findOrder_78 rfl (lv_at hl 0 rfl) ?_
        refine va_get (D := (dC, dI)) (ci := 6) (v := .ref (ad 3)) (C := RX6) (T := TX6) (N := 20) hx hb hts hiX6 hown hK.1 hP 0 rfl rfl 6 (by decide) hf20 (fun _ h9 => h9) rfl dX6_findOrder_79 ?_
        refine lv_iload_n hx hb dX6_findOrder_82 rfl (lv_at hl 2 rfl) ?_
        refine lv_iload hx hb dX6_findOrder_83 (lv_at hl 3 rfl) ?_
        refine lv_iadd hx hb dX6_findOrder_85 ?_
        refine lv_aload_n hx hb dX6_findOrder_86 rfl (lv_at hl 0 rfl) ?_
        refine va_get (D := (dC, dI)) (ci := 6) (v := .int m_lengthk) (C := RX6) (T := TX6) (N := 20) hx hb hts hiX6 hown hK.1 hP 0 rfl rfl 5 (by decide) hf104 (fun _ h9 => h9) rfl dX6_findOrder_87 ?_
        obtain ⟨hz90, h⟩ := Ho_nz h
        refine lv_irem hx hb dX6_findOrder_90 hz90 ?_
        obtain ⟨hz91, h⟩ := Ho_ix h
        refine va_iald hx hb hK.1 hP 3 0 rfl rfl hz91 dX6_findOrder_91 ?_
        refine lv_aload_n hx hb dX6_findOrder_92 rfl (lv_at hl 0 rfl) ?_
        refine va_get (D := (dC, dI)) (ci := 6) (v := .ref (ad 3)) (C := RX6) (T := TX6) (N := 20) hx hb hts hiX6 hown hK.1 hP 0 rfl rfl 6 (by decide) hf20 (fun _ h9 => h9) rfl dX6_findOrder_93 ?_
        refine lv_iload_n hx hb dX6_findOrder_96 rfl (lv_at hl 2 rfl) ?_
        obtain ⟨hz97, h⟩ := Ho_ix h
        refine va_iald hx hb hK.1 hP 3 0 rfl rfl hz97 dX6_findOrder_97 ?_
        refine lv_isub hx hb dX6_findOrder_98 ?_
        refine lv_aload_n hx hb dX6_findOrder_99 rfl (lv_at hl 0 rfl) ?_
        refine va_get (D := (dC, dI)) (ci := 6) (v := .int m_n) (C := RX6) (T := TX6) (N := 20) hx hb hts hiX6 hown hK.1 hP 0 rfl rfl 1 (by decide) hf7 (fun _ h9 => h9) rfl dX6_findOrder_100 ?_
        refine lv_iadd hx hb dX6_findOrder_103 ?_
        refine lv_aload_n hx hb dX6_findOrder_104 rfl (lv_at hl 0 rfl) ?_
        refine va_get (D := (dC, dI)) (ci := 6) (v := .int m_n) (C := RX6) (T := TX6) (N := 20) hx hb hts hiX6 hown hK.1 hP 0 rfl rfl 1 (by decide) hf7 (fun _ h9 => h9) rfl dX6_findOrder_105 ?_
        obtain ⟨hz108, h⟩ := Ho_nz h
        refine lv_irem hx hb dX6_findOrder_108 hz108 ?_
        obtain ⟨hz109, h⟩ := Ho_ix h
        refine va_iast hx hb hK.1 hP hD hS 5 0 rfl rfl hz109 dX6_findOrder_109 (fun H locs hP hD hS => ?_)
        have hP : va_P (dC, dI) vwCl (wX6 cI cJ ad m_code m_n m_built m_lengthk m_begink m_many m_leastOf m_sizeOf m_ownk m_bestRowk (upd m_tryRowk v4.toNatClampNeg ((((m_ownk ((v3 + v4) - (v3 + v4) / m_lengthk * m_lengthk).toNatClampNeg) - (m_ownk v3.toNatClampNeg)) + m_n) - (((m_ownk ((v3 + v4) - (v3 + v4) / m_lengthk * m_lengthk).toNatClampNeg) - (m_ownk v3.toNatClampNeg)) + m_n) / m_n * m_n)) m_keptRow m_otherRow m_row m_formRow m_allForms m_rowsOf m_intervals m_places m_whole) H := hP
        have hD : va_D A (wX6 cI cJ ad m_code m_n m_built m_lengthk m_begink m_many m_leastOf m_sizeOf m_ownk m_bestRowk (upd m_tryRowk v4.toNatClampNeg ((((m_ownk ((v3 + v4) - (v3 + v4) / m_lengthk * m_lengthk).toNatClampNeg) - (m_ownk v3.toNatClampNeg)) + m_n) - (((m_ownk ((v3 + v4) - (v3 + v4) / m_lengthk * m_lengthk).toNatClampNeg) - (m_ownk v3.toNatClampNeg)) + m_n) / m_n * m_n)) m_keptRow m_otherRow m_row m_formRow m_allForms m_rowsOf m_intervals m_places m_whole) := hD
        refine lv_iinc (v := v4 + 1) (lv' := [(4, .int (v4 + 1)), (0, .ref (ad 0)), (2, .int x2), (3, .int v3)]) hx hb dX6_findOrder_110 hl (k := 3) rfl rfl (by decide) rfl (fun ls hl => ?_)
        refine lv_goto (tgt := 63) hx hb dX6_findOrder_113 (by decide) ?_
        exact hi63 _ (Ho_s h) _ _ ls hP hD hS (lv_sub hl [1, 2, 3, 0] rfl)
    refine lv_iload_n hx hb dX6_findOrder_52 rfl (lv_at hl 2 rfl) ?_
    refine lv_aload_n hx hb dX6_findOrder_53 rfl (lv_at hl 0 rfl) ?_
    refine va_get (D := (dC, dI)) (ci := 6) (v := .int m_lengthk) (C := RX6) (T := TX6) (N := 20) hx hb hts hiX6 hown hK.1 hP 0 rfl rfl 5 (by decide) hf104 (fun _ h9 => h9) rfl dX6_findOrder_54 ?_
    refine lv_icmp_ge (tgt := 176) hx hb dX6_findOrder_57 (by decide) (fun q57 => ?_) (fun q57 => ?_)
    · have h := Ho_t h q57
      have h := ho52 _ (Ho_s h)
      exact J176 m_lengthk m_begink m_ownk m_bestRowk m_tryRowk _ _ ls hP hD hS (lv_sub hl [] rfl) h
    · have h := Ho_f h q57
      refine lv_iconst (v := (0 : Int32)) hx hb dX6_findOrder_60 (by decide) ?_
      refine lv_istore (lv' := [(4, .int (0 : Int32)), (0, .ref (ad 0)), (2, .int x2), (3, .int v3)]) hx hb dX6_findOrder_61 hl (by decide) rfl (fun ls hl => ?_)
      exact J63 m_begink m_bestRowk m_tryRowk v3 (0 : Int32) _ _ ls hP hD hS (lv_sub hl [1, 2, 3, 0] rfl) h
  have J50 : ∀ (m_lengthk : Int32) (m_begink : Int32) (m_ownk : Nat → Int32) (m_bestRowk : Nat → Int32) (m_tryRowk : Nat → Int32) (H : Heap) (locs : List Loc) (ls : Array Slot), va_P (dC, dI) vwCl (wX6 cI cJ ad m_code m_n m_built m_lengthk m_begink m_many m_leastOf m_sizeOf m_ownk m_bestRowk m_tryRowk m_keptRow m_otherRow m_row m_formRow m_allForms m_rowsOf m_intervals m_places m_whole) H → va_D A (wX6 cI cJ ad m_code m_n m_built m_lengthk m_begink m_many m_leastOf m_sizeOf m_ownk m_bestRowk m_tryRowk m_keptRow m_otherRow m_row m_formRow m_allForms m_rowsOf m_intervals m_places m_whole) → va_S A s.heap H locs → lv_has ls 5 [(0, .ref (ad 0)), (2, .int x2)] → Ho (X6_findOrder_50 m_n x2 m_lengthk m_begink m_ownk m_bestRowk m_tryRowk) (fun x => x = (m_length', m_begin', m_own', m_bestRow', m_tryRow')) → W p l e rmX6_findOrder s m args below meth c H locs 0 0 (MQ below (va_Qv (fun _ : Unit => True) (fun _ t => va_P (dC, dI) vwCl (wX6 cI cJ ad m_code m_n m_built m_length' m_begin' m_many m_leastOf m_sizeOf m_own' m_bestRow' m_tryRow' m_keptRow m_otherRow m_row m_formRow m_allForms m_rowsOf m_intervals m_places m_whole) t.heap ∧ vK (dC, dI) [(cI, .int), (cJ, .long)] t ∧ va_D (va_A (wX6 cI cJ ad m_code m_n m_built m_length m_begin m_many m_leastOf m_sizeOf m_own m_bestRow m_tryRow m_keptRow m_otherRow m_row m_formRow m_allForms m_rowsOf m_intervals m_places m_whole) sz) (wX6 cI cJ ad m_code m_n m_built m_length' m_begin' m_many m_leastOf m_sizeOf m_own' m_bestRow' m_tryRow' m_keptRow m_otherRow m_row m_formRow m_allForms m_rowsOf m_intervals m_places m_whole)) (va_A (wX6 cI cJ ad m_code m_n m_built m_length m_begin m_many m_leastOf m_sizeOf m_own m_bestRow m_tryRow m_keptRow m_otherRow m_row m_formRow m_allForms m_rowsOf m_intervals m_places m_whole) sz)) args s 0 0 A) (F0 m 50 ls []) := by
    intro m_lengthk m_begink m_ownk m_bestRowk m_tryRowk H locs ls hP hD hS hl h
    unfold X6_findOrder_50 at h
    refine lv_iconst (v := (0 : Int32)) hx hb dX6_findOrder_50 (by decide) ?_
    refine lv_istore_n (lv' := [(3, .int (0 : Int32)), (0, .ref (ad 0)), (2, .int x2)]) hx hb dX6_findOrder_51 rfl hl (by decide) rfl (fun ls hl => ?_)
    exact J52 m_lengthk m_begink m_ownk m_bestRowk m_tryRowk (0 : Int32) _ _ ls hP hD hS (lv_sub hl [1, 2, 0] rfl) h
  have J7 : ∀ (m_lengthk : Int32) (m_begink : Int32) (m_ownk : Nat → Int32) (m_bestRowk : Nat → Int32) (m_tryRowk : Nat → Int32) (v3 : Int32) (H : Heap) (locs : List Loc) (ls : Array Slot), va_P (dC, dI) vwCl (wX6 cI cJ ad m_code m_n m_built m_lengthk m_begink m_many m_leastOf m_sizeOf m_ownk m_bestRowk m_tryRowk m_keptRow m_otherRow m_row m_formRow m_allForms m_rowsOf m_intervals m_places m_whole) H → va_D A (wX6 cI cJ ad m_code m_n m_built m_lengthk m_begink m_many m_leastOf m_sizeOf m_ownk m_bestRowk m_tryRowk m_keptRow m_otherRow m_row m_formRow m_allForms m_rowsOf m_intervals m_places m_whole) → va_S A s.heap H locs → lv_has ls 5 [(0, .ref (ad 0)), (1, .int x1), (2, .int x2), (3, .int v3)] → Ho ((X6_findOrder_7_l m_n x1 m_begink m_bestRowk m_tryRowk m_lengthk m_ownk v3).bind (fun ex => X6_findOrder_50 m_n x2 ex.1 m_begink ex.2 m_bestRowk m_tryRowk)) (fun x => x = (m_length', m_begin', m_own', m_bestRow', m_tryRow')) → W p l e rmX6_findOrder s m args below meth c H locs 0 0 (MQ below (va_Qv (fun _ : Unit => True) (fun _ t => va_P (dC, dI) vwCl (wX6 cI cJ ad m_code m_n m_built m_length' m_begin' m_many m_leastOf m_sizeOf m_own' m_bestRow' m_tryRow' m_keptRow m_otherRow m_row m_formRow m_allForms m_rowsOf m_intervals m_places m_whole) t.heap ∧ vK (dC, dI) [(cI, .int), (cJ, .long)] t ∧ va_D (va_A (wX6 cI cJ ad m_code m_n m_built m_length m_begin m_many m_leastOf m_sizeOf m_own m_bestRow m_tryRow m_keptRow m_otherRow m_row m_formRow m_allForms m_rowsOf m_intervals m_places m_whole) sz) (wX6 cI cJ ad m_code m_n m_built m_length' m_begin' m_many m_leastOf m_sizeOf m_own' m_bestRow' m_tryRow' m_keptRow m_otherRow m_row m_formRow m_allForms m_rowsOf m_intervals m_places m_whole)) (va_A (wX6 cI cJ ad m_code m_n m_built m_length m_begin m_many m_leastOf m_sizeOf m_own m_bestRow m_tryRow m_keptRow m_otherRow m_row m_formRow m_allForms m_rowsOf m_intervals m_places m_whole) sz)) args s 0 0 A) (F0 m 7 ls []) := by
    intro m_lengthk m_begink m_ownk m_bestRowk m_tryRowk v3 H locs ls hP hD hS hl h
    refine loop_use2 (fun z : Int32 × (Nat → Int32) × Int32 => ∀ (H : Heap) (locs : List Loc) (ls : Array Slot), va_P (dC, dI) vwCl (wX6 cI cJ ad m_code m_n m_built z.1 m_begink m_many m_leastOf m_sizeOf z.2.1 m_bestRowk m_tryRowk m_keptRow m_otherRow m_row m_formRow m_allForms m_rowsOf m_intervals m_places m_whole) H → va_D A (wX6 cI cJ ad m_code m_n m_built z.1 m_begink m_many m_leastOf m_sizeOf z.2.1 m_bestRowk m_tryRowk m_keptRow m_otherRow m_row m_formRow m_allForms m_rowsOf m_intervals m_places m_whole) → va_S A s.heap H locs → lv_has ls 5 [(0, .ref (ad 0)), (1, .int x1), (2, .int x2), (3, .int z.2.2)] → W p l e rmX6_findOrder s m args below meth c H locs 0 0 (MQ below (va_Qv (fun _ : Unit => True) (fun _ t => va_P (dC, dI) vwCl (wX6 cI cJ ad m_code m_n m_built m_length' m_begin' m_many m_leastOf m_sizeOf m_own' m_bestRow' m_tryRow' m_keptRow m_otherRow m_row m_formRow m_allForms m_rowsOf m_intervals m_places m_whole) t.heap ∧ vK (dC, dI) [(cI, .int), (cJ, .long)] t ∧ va_D (va_A (wX6 cI cJ ad m_code m_n m_built m_length m_begin m_many m_leastOf m_sizeOf m_own m_bestRow m_tryRow m_keptRow m_otherRow m_row m_formRow m_allForms m_rowsOf m_intervals m_places m_whole) sz) (wX6 cI cJ ad m_code m_n m_built m_length' m_begin' m_many m_leastOf m_sizeOf m_own' m_bestRow' m_tryRow' m_keptRow m_otherRow m_row m_formRow m_allForms m_rowsOf m_intervals m_places m_whole)) (va_A (wX6 cI cJ ad m_code m_n m_built m_length m_begin m_many m_leastOf m_sizeOf m_own m_bestRow m_tryRow m_keptRow m_otherRow m_row m_formRow m_allForms m_rowsOf m_intervals m_places m_whole) sz)) args s 0 0 A) (F0 m 7 ls [])) ?_ FU _ h H locs ls hP hD hS hl
    intro Q7 hi7 ho7 z h H locs ls hP hD hS hl
    obtain ⟨m_lengthk, m_ownk, v3⟩ := z
    have h : Ho (X6_findOrder_7_s m_n x1 m_begink m_bestRowk m_tryRowk m_lengthk m_ownk v3) Q7 := h
    unfold X6_findOrder_7_s at h
    have hl : lv_has ls 5 [(0, .ref (ad 0)), (1, .int x1), (2, .int x2), (3, .int v3)] := hl
    have hP : va_P (dC, dI) vwCl (wX6 cI cJ ad m_code m_n m_built m_lengthk m_begink m_many m_leastOf m_sizeOf m_ownk m_bestRowk m_tryRowk m_keptRow m_otherRow m_row m_formRow m_allForms m_rowsOf m_intervals m_places m_whole) H := hP
    have hD : va_D A (wX6 cI cJ ad m_code m_n m_built m_lengthk m_begink m_many m_leastOf m_sizeOf m_ownk m_bestRowk m_tryRowk m_keptRow m_otherRow m_row m_formRow m_allForms m_rowsOf m_intervals m_places m_whole) := hD
    refine lv_iload_n hx hb dX6_findOrder_7 rfl (lv_at hl 3 rfl) ?_
    refine lv_aload_n hx hb dX6_findOrder_8 rfl (lv_at hl 0 rfl) ?_
    refine va_get (D := (dC, dI)) (ci := 6) (v := .int m_n) (C := RX6) (T := TX6) (N := 20) hx hb hts hiX6 hown hK.1 hP 0 rfl rfl 1 (by decide) hf7 (fun _ h9 => h9) rfl dX6_findOrder_9 ?_
    refine lv_icmp_ge (tgt := 50) hx hb dX6_findOrder_12 (by decide) (fun q12 => ?_) (fun q12 => ?_)
    · have h := Ho_t h q12
      have h := ho7 _ (Ho_s h)
      exact J50 m_lengthk m_begink m_ownk m_bestRowk m_tryRowk _ _ ls hP hD hS (lv_sub hl [0, 2] rfl) h
    · have h := Ho_f h q12
      refine lv_iload_n hx hb dX6_findOrder_15 rfl (lv_at hl 1 rfl) ?_
      refine lv_iload_n hx hb dX6_findOrder_16 rfl (lv_at hl 3 rfl) ?_
      refine lv_ishr hx hb dX6_findOrder_17 ?_
      refine lv_iconst (v := (1 : Int32)) hx hb dX6_findOrder_18 (by decide) ?_
      refine lv_iand hx hb dX6_findOrder_19 ?_
      refine lv_iconst (v := (1 : Int32)) hx hb dX6_findOrder_20 (by decide) ?_
      refine lv_icmp_ne (tgt := 44) hx hb dX6_findOrder_21 (by decide) (fun q21 => ?_) (fun q21 => ?_)
      · have h := Ho_f h q21
        refine lv_iinc (v := v3 + 1) (lv' := [(3, .int (v3 + 1)), (0, .ref (ad 0)), (1, .int x1), (2, .int x2)]) hx hb dX6_findOrder_44 hl (k := 3) rfl rfl (by decide) rfl (fun ls hl => ?_)
        refine lv_goto (tgt := 7) hx hb dX6_findOrder_47 (by decide) ?_
        exact hi7 _ (Ho_s h) _ _ ls hP hD hS (lv_sub hl [1, 2, 3, 0] rfl)
      · have h := Ho_t h q21
        refine lv_aload_n hx hb dX6_findOrder_24 rfl (lv_at hl 0 rfl) ?_
        refine va_get (D := (dC, dI)) (ci := 6) (v := .ref (ad 3)) (C := RX6) (T := TX6) (N := 20) hx hb hts hiX6 hown hK.1 hP 0 rfl rfl 6 (by decide) hf20 (fun _ h9 => h9) rfl dX6_findOrder_25 ?_
        refine lv_aload_n hx hb dX6_findOrder_28 rfl (lv_at hl 0 rfl) ?_
        refine va_get (D := (dC, dI)) (ci := 6) (v := .int m_lengthk) (C := RX6) (T := TX6) (N := 20) hx hb hts hiX6 hown hK.1 hP 0 rfl rfl 5 (by decide) hf104 (fun _ h9 => h9) rfl dX6_findOrder_29 ?_
        refine lv_iload_n hx hb dX6_findOrder_32 rfl (lv_at hl 3 rfl) ?_
        obtain ⟨hz33, h⟩ := Ho_ix h
        refine va_iast hx hb hK.1 hP hD hS 3 0 rfl rfl hz33 dX6_findOrder_33 (fun H locs hP hD hS => ?_)
        have hP : va_P (dC, dI) vwCl (wX6 cI cJ ad m_code m_n m_built m_lengthk m_begink m_many m_leastOf m_sizeOf (upd m_ownk m_lengthk.toNatClampNeg v3) m_bestRowk m_tryRowk m_keptRow m_otherRow m_row m_formRow m_allForms m_rowsOf m_intervals m_places m_whole) H := hP
        have hD : va_D A (wX6 cI cJ ad m_code m_n m_built m_lengthk m_begink m_many m_leastOf m_sizeOf (upd m_ownk m_lengthk.toNatClampNeg v3) m_bestRowk m_tryRowk m_keptRow m_otherRow m_row m_formRow m_allForms m_rowsOf m_intervals m_places m_whole) := hD
        refine lv_aload_n hx hb dX6_findOrder_34 rfl (lv_at hl 0 rfl) ?_
        refine lv_dup hx hb dX6_findOrder_35 rfl ?_
        refine va_get (D := (dC, dI)) (ci := 6) (v := .int m_lengthk) (C := RX6) (T := TX6) (N := 20) hx hb hts hiX6 hown hK.1 hP 0 rfl rfl 5 (by decide) hf104 (fun _ h9 => h9) rfl dX6_findOrder_36 ?_
        refine lv_iconst (v := (1 : Int32)) hx hb dX6_findOrder_39 (by decide) ?_
        refine lv_iadd hx hb dX6_findOrder_40 ?_
        refine va_put (D := (dC, dI)) (ci := 6) (v := .int (m_lengthk + (1 : Int32))) (ty := .int) (C := RX6) (T := TX6) (N := 20) hx hb hts hiX6 tyX6 tyX6_ok nmX6 hown hK.1 hP hD hS 0 rfl rfl 5 (by decide) hf104 (fun _ h9 => h9) rfl (by decide +kernel) rfl rfl (Nat.le_of_ble_eq_true rfl) dX6_findOrder_41 (fun H locs hP hD hS => ?_)
        have hP : va_P (dC, dI) vwCl (wX6 cI cJ ad m_code m_n m_built (m_lengthk + (1 : Int32)) m_begink m_many m_leastOf m_sizeOf (upd m_ownk m_lengthk.toNatClampNeg v3) m_bestRowk m_tryRowk m_keptRow m_otherRow m_row m_formRow m_allForms m_rowsOf m_intervals m_places m_whole) H := hP
        have hD : va_D A (wX6 cI cJ ad m_code m_n m_built (m_lengthk + (1 : Int32)) m_begink m_many m_leastOf m_sizeOf (upd m_ownk m_lengthk.toNatClampNeg v3) m_bestRowk m_tryRowk m_keptRow m_otherRow m_row m_formRow m_allForms m_rowsOf m_intervals m_places m_whole) := hD
        refine lv_iinc (v := v3 + 1) (lv' := [(3, .int (v3 + 1)), (0, .ref (ad 0)), (1, .int x1), (2, .int x2)]) hx hb dX6_findOrder_44 hl (k := 3) rfl rfl (by decide) rfl (fun ls hl => ?_)
        refine lv_goto (tgt := 7) hx hb dX6_findOrder_47 (by decide) ?_
        exact hi7 _ (Ho_s h) _ _ ls hP hD hS (lv_sub hl [1, 2, 3, 0] rfl)
  refine lv_aload_n hx hb dX6_findOrder_0 rfl (lv_at hl 0 rfl) ?_
  refine lv_iconst (v := (0 : Int32)) hx hb dX6_findOrder_1 (by decide) ?_
  refine va_put (D := (dC, dI)) (ci := 6) (v := .int (0 : Int32)) (ty := .int) (C := RX6) (T := TX6) (N := 20) hx hb hts hiX6 tyX6 tyX6_ok nmX6 hown hK.1 hP hD hS 0 rfl rfl 5 (by decide) hf104 (fun _ h9 => h9) rfl (by decide +kernel) rfl rfl (Nat.le_of_ble_eq_true rfl) dX6_findOrder_2 (fun H locs hP hD hS => ?_)
  have hP : va_P (dC, dI) vwCl (wX6 cI cJ ad m_code m_n m_built (0 : Int32) m_begin m_many m_leastOf m_sizeOf m_own m_bestRow m_tryRow m_keptRow m_otherRow m_row m_formRow m_allForms m_rowsOf m_intervals m_places m_whole) H := hP
  have hD : va_D A (wX6 cI cJ ad m_code m_n m_built (0 : Int32) m_begin m_many m_leastOf m_sizeOf m_own m_bestRow m_tryRow m_keptRow m_otherRow m_row m_formRow m_allForms m_rowsOf m_intervals m_places m_whole) := hD
  refine lv_iconst (v := (0 : Int32)) hx hb dX6_findOrder_5 (by decide) ?_
  refine lv_istore_n (lv' := [(3, .int (0 : Int32)), (0, .ref (ad 0)), (1, .int x1), (2, .int x2)]) hx hb dX6_findOrder_6 rfl hl (by decide) rfl (fun ls hl => ?_)
  exact J7 (0 : Int32) m_begin m_own m_bestRow m_tryRow (0 : Int32) _ _ ls hP hD hS (lv_sub hl [1, 2, 3, 0] rfl) h
