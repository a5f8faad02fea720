abbrev rmX6_pairs : Room := { frames := 0, cells := 0, slots := 0, locals := 0 }
set_option maxHeartbeats 4000000 in
set_option maxRecDepth 100000 in
theorem c_X6_pairs (l : Launch) (dC : Nat → ClassId) (dI : Nat → Nat → Nat) (cI cJ : ClassId) (ad : Nat → Nat) (m_code : Int32) (m_n : Int32) (m_built : Int32) (m_length : Int32) (m_begin : Int32) (m_many : Int32) (m_leastOf : Nat → Int32) (m_sizeOf : Nat → Int32) (m_own : Nat → Int32) (m_bestRow : Nat → Int32) (m_tryRow : Nat → Int32) (m_keptRow : Nat → Int32) (m_otherRow : Nat → Int32) (m_row : Nat → Int32) (m_formRow : Nat → Int32) (m_allForms : Nat → Int32) (m_rowsOf : Nat → Int32) (m_intervals : Nat → Int32) (m_places : Nat → Int32) (m_whole : Nat → Int64) (x1 : Int32) (x2 : Int32) (r : Int32) (hF : FX6_pairs m_n x1 x2 = some r) : Met l yX6_pairs wsX6_pairs rmX6_pairs (roP (dC, dI) [(cI, .int), (cJ, .long)] (wX6 cI cJ ad m_code m_n m_built m_length m_begin m_many m_leastOf m_sizeOf m_own m_bestRow m_tryRow m_keptRow m_otherRow m_row m_formRow m_allForms m_rowsOf m_intervals m_places m_whole) [.ref (ad 0), .int x1, .int x2]) (vp_Si (fun x => x = r)) 0 0 (fun _ => False) := by
  refine ro_start (cc := cX6_pairs) (maxL := 7) (ret := (some .int)) (by decide) rfl (Nat.le_of_ble_eq_true rfl) ?_
  intro p e s m args below meth c ls hx hb hml hr hlk hown hts hP hK hl
  have hown : s.vm.findClass RX6 = some m.cls := hown
  have hl : lv_has ls 7 [(0, .ref (ad 0)), (1, .int x1), (2, .int x2)] := hl
  have h : Ho (FX6_pairs m_n x1 x2) (fun x => x = r) := ⟨r, hF, rfl⟩
  unfold FX6_pairs at h
  have hfix : CallFix p m c cX6_pairs 7 s args wsX6_pairs RX6 := ⟨hx, hb, hml, hown, hts⟩
  have hiX6 : ∀ w ∈ u_ws RX6 TX6 20, w ∈ wsX6_pairs := by decide +kernel
  have hf7 := hts (.fieldLink RX6 7 "RowClassesModel" "n" "I") (by decide +kernel)
  have J113 : ∀ (v3 : Int32) (ls : Array Slot), lv_has ls 7 [(3, .int v3)] → Ho (X6_pairs_113 v3) (fun x => x = r) → W p l e rmX6_pairs s m args below meth c s.heap [] 0 0 (MQ below (vp_Si (fun x => x = r)) args s 0 0 (fun _ => False)) (F0 m 113 ls []) := by
    intro v3 ls hl h
    unfold X6_pairs_113 at h
    refine lv_iload_n hx hb dX6_pairs_113 rfl (lv_at hl 0 rfl) ?_
    exact W.iret hx hb hr (fun t ht _ => ro_Si (Ho_e h) ht) ro_nil dX6_pairs_114 hlk
  have J5 : ∀ (v3 : Int32) (v4 : Int32) (ls : Array Slot), lv_has ls 7 [(0, .ref (ad 0)), (1, .int x1), (2, .int x2), (3, .int v3), (4, .int v4)] → Ho ((X6_pairs_5_l m_n x1 x2 v3 v4).bind (fun ex => X6_pairs_113 ex)) (fun x => x = r) → W p l e rmX6_pairs s m args below meth c s.heap [] 0 0 (MQ below (vp_Si (fun x => x = r)) args s 0 0 (fun _ => False)) (F0 m 5 ls []) := by
    intro v3 v4 ls hl h
    refine loop_use2 (fun z : Int32 × Int32 => ∀ (ls : Array Slot), lv_has ls 7 [(0, .ref (ad 0)), (1, .int x1), (2, .int x2), (3, .int z.1), (4, .int z.2)] → W p l e rmX6_pairs s m args below meth c s.heap [] 0 0 (MQ below (vp_Si (fun x => x = r)) args s 0 0 (fun _ => False)) (F0 m 5 ls [])) ?_ FU _ h ls hl
    intro Q5 hi5 ho5 z h ls hl
    obtain ⟨v3, v4⟩ := z
    have h : Ho (X6_pairs_5_s m_n x1 x2 v3 v4) Q5 := h
    unfold X6_pairs_5_s at h
    have hl : lv_has ls 7 [(0, .ref (ad 0)), (1, .int x1), (2, .int x2), (3, .int v3), (4, .int v4)] := hl
    have J107 : ∀ (v3 : Int32) (v4 : Int32) (ls : Array Slot), lv_has ls 7 [(0, .ref (ad 0)), (1, .int x1), (2, .int x2), (3, .int v3), (4, .int v4)] → Ho (X6_pairs_107 v3 v4) Q5 → W p l e rmX6_pairs s m args below meth c s.heap [] 0 0 (MQ below (vp_Si (fun x => x = r)) args s 0 0 (fun _ => False)) (F0 m 107 ls []) := by
      intro v3 v4 ls hl h
      unfold X6_pairs_107 at h
      refine lv_iinc (v := v4 + 1) (lv' := [(4, .int (v4 + 1)), (0, .ref (ad 0)), (1, .int x1), (2, .int x2), (3, .int v3)]) hx hb dX6_pairs_107 hl (k := 4) rfl rfl (by decide) rfl (fun ls hl => ?_)
      refine lv_goto (tgt := 5) hx hb dX6_pairs_110 (by decide) ?_
      exact hi5 _ (Ho_s h) ls (lv_sub hl [1, 2, 3, 4, 0] rfl)
    have J20 : ∀ (v3 : Int32) (v4 : Int32) (v5 : Int32) (ls : Array Slot), lv_has ls 7 [(0, .ref (ad 0)), (1, .int x1), (2, .int x2), (3, .int v3), (4, .int v4), (5, .int v5)] → Ho ((X6_pairs_20_l m_n x1 x2 v4 v3 v5).bind (fun ex => X6_pairs_107 ex v4)) Q5 → W p l e rmX6_pairs s m args below meth c s.heap [] 0 0 (MQ below (vp_Si (fun x => x = r)) args s 0 0 (fun _ => False)) (F0 m 20 ls []) := by
      intro v3 v4 v5 ls hl h
      refine loop_use2 (fun z : Int32 × Int32 => ∀ (ls : Array Slot), lv_has ls 7 [(0, .ref (ad 0)), (1, .int x1), (2, .int x2), (3, .int z.1), (4, .int v4), (5, .int z.2)] → W p l e rmX6_pairs s m args below meth c s.heap [] 0 0 (MQ below (vp_Si (fun x => x = r)) args s 0 0 (fun _ => False)) (F0 m 20 ls [])) ?_ FU _ h ls hl
      intro Q20 hi20 ho20 z h ls hl
      obtain ⟨v3, v5⟩ := z
      have h : Ho (X6_pairs_20_s m_n x1 x2 v4 v3 v5) Q20 := h
      unfold X6_pairs_20_s at h
      have hl : lv_has ls 7 [(0, .ref (ad 0)), (1, .int x1), (2, .int x2), (3, .int v3), (4, .int v4), (5, .int v5)] := hl
      have J65 : ∀ (v3 : Int32) (v5 : Int32) (t0 : Int32) (ls : Array Slot), lv_has ls 7 [(0, .ref (ad 0)), (1, .int x1), (2, .int x2), (3, .int v3), (4, .int v4), (5, .int v5)] → Ho (X6_pairs_65 x1 x2 v3 v4 v5 t0) Q20 → W p l e rmX6_pairs s m args below meth c s.heap [] 0 0 (MQ below (vp_Si (fun x => x = r)) args s 0 0 (fun _ => False)) (F0 m 65 ls [.int t0]) := by
        intro v3 v5 t0 ls hl h
        unfold X6_pairs_65 at h
        refine lv_istore (lv' := [(6, .int t0), (0, .ref (ad 0)), (1, .int x1), (2, .int x2), (3, .int v3), (4, .int v4), (5, .int v5)]) hx hb dX6_pairs_65 hl (by decide) rfl (fun ls hl => ?_)
        refine lv_iload_n hx hb dX6_pairs_67 rfl (lv_at hl 4 rfl) ?_
        refine lv_iload_n hx hb dX6_pairs_68 rfl (lv_at hl 2 rfl) ?_
        refine lv_iload hx hb dX6_pairs_69 (lv_at hl 5 rfl) ?_
        refine lv_ishr hx hb dX6_pairs_71 ?_
        refine lv_iconst (v := (1 : Int32)) hx hb dX6_pairs_72 (by decide) ?_
        refine lv_iand hx hb dX6_pairs_73 ?_
        refine lv_iconst (v := (1 : Int32)) hx hb dX6_pairs_74 (by decide) ?_
        refine lv_icmp_ne (tgt := 98) hx hb dX6_pairs_75 (by decide) (fun q75 => ?_) (fun q75 => ?_)
        · have h := Ho_f h q75
          refine lv_iconst (v := (0 : Int32)) hx hb dX6_pairs_98 (by decide) ?_
          refine lv_iadd hx hb dX6_pairs_99 ?_
          refine lv_istore_n (lv' := [(3, .int (v3 + (0 : Int32))), (6, .int t0), (0, .ref (ad 0)), (1, .int x1), (2, .int x2), (4, .int v4), (5, .int v5)]) hx hb dX6_pairs_100 rfl hl (by decide) rfl (fun ls hl => ?_)
          refine lv_iinc (v := v5 + 1) (lv' := [(5, .int (v5 + 1)), (3, .int (v3 + (0 : Int32))), (6, .int t0), (0, .ref (ad 0)), (1, .int x1), (2, .int x2), (4, .int v4)]) hx hb dX6_pairs_101 hl (k := 6) rfl rfl (by decide) rfl (fun ls hl => ?_)
          refine lv_goto (tgt := 20) hx hb dX6_pairs_104 (by decide) ?_
          exact hi20 _ (Ho_s h) ls (lv_sub hl [3, 4, 5, 1, 6, 0] rfl)
        · have h := Ho_t h q75
          refine lv_iload_n hx hb dX6_pairs_78 rfl (lv_at hl 2 rfl) ?_
          refine lv_iload hx hb dX6_pairs_79 (lv_at hl 6 rfl) ?_
          refine lv_ishr hx hb dX6_pairs_81 ?_
          refine lv_iconst (v := (1 : Int32)) hx hb dX6_pairs_82 (by decide) ?_
          refine lv_iand hx hb dX6_pairs_83 ?_
          refine lv_iconst (v := (1 : Int32)) hx hb dX6_pairs_84 (by decide) ?_
          refine lv_icmp_ne (tgt := 98) hx hb dX6_pairs_85 (by decide) (fun q85 => ?_) (fun q85 => ?_)
          · have h := Ho_f h q85
            refine lv_iconst (v := (0 : Int32)) hx hb dX6_pairs_98 (by decide) ?_
            refine lv_iadd hx hb dX6_pairs_99 ?_
            refine lv_istore_n (lv' := [(3, .int (v3 + (0 : Int32))), (6, .int t0), (0, .ref (ad 0)), (1, .int x1), (2, .int x2), (4, .int v4), (5, .int v5)]) hx hb dX6_pairs_100 rfl hl (by decide) rfl (fun ls hl => ?_)
            refine lv_iinc (v := v5 + 1) (lv' := [(5, .int (v5 + 1)), (3, .int (v3 + (0 : Int32))), (6, .int t0), (0, .ref (ad 0)), (1, .int x1), (2, .int x2), (4, .int v4)]) hx hb dX6_pairs_101 hl (k := 6) rfl rfl (by decide) rfl (fun ls hl => ?_)
            refine lv_goto (tgt := 20) hx hb dX6_pairs_104 (by decide) ?_
            exact hi20 _ (Ho_s h) ls (lv_sub hl [3, 4, 5, 1, 6, 0] rfl)
          · have h := Ho_t h q85
            refine lv_iload hx hb dX6_pairs_88 (lv_at hl 0 rfl) ?_
            refine lv_iload_n hx hb dX6_pairs_90 rfl (lv_at hl 3 rfl) ?_
            refine lv_icmp_ne (tgt := 98) hx hb dX6_pairs_91 (by decide) (fun q91 => ?_) (fun q91 => ?_)
            · have h := Ho_f h q91
              refine lv_iconst (v := (0 : Int32)) hx hb dX6_pairs_98 (by decide) ?_
              refine lv_iadd hx hb dX6_pairs_99 ?_
              refine lv_istore_n (lv' := [(3, .int (v3 + (0 : Int32))), (6, .int t0), (0, .ref (ad 0)), (1, .int x1), (2, .int x2), (4, .int v4), (5, .int v5)]) hx hb dX6_pairs_100 rfl hl (by decide) rfl (fun ls hl => ?_)
              refine lv_iinc (v := v5 + 1) (lv' := [(5, .int (v5 + 1)), (3, .int (v3 + (0 : Int32))), (6, .int t0), (0, .ref (ad 0)), (1, .int x1), (2, .int x2), (4, .int v4)]) hx hb dX6_pairs_101 hl (k := 6) rfl rfl (by decide) rfl (fun ls hl => ?_)
              refine lv_goto (tgt := 20) hx hb dX6_pairs_104 (by decide) ?_
              exact hi20 _ (Ho_s h) ls (lv_sub hl [3, 4, 5, 1, 6, 0] rfl)
            · have h := Ho_t h q91
              refine lv_iconst (v := (1 : Int32)) hx hb dX6_pairs_94 (by decide) ?_
              refine lv_goto (tgt := 99) hx hb dX6_pairs_95 (by decide) ?_
              refine lv_iadd hx hb dX6_pairs_99 ?_
              refine lv_istore_n (lv' := [(3, .int (v3 + (1 : Int32))), (6, .int t0), (0, .ref (ad 0)), (1, .int x1), (2, .int x2), (4, .int v4), (5, .int v5)]) hx hb dX6_pairs_100 rfl hl (by decide) rfl (fun ls hl => ?_)
              refine lv_iinc (v := v5 + 1) (lv' := [(5, .int (v5 + 1)), (3, .int (v3 + (1 : Int32))), (6, .int t0), (0, .ref (ad 0)), (1, .int x1), (2, .int x2), (4, .int v4)]) hx hb dX6_pairs_101 hl (k := 6) rfl rfl (by decide) rfl (fun ls hl => ?_)
              refine lv_goto (tgt := 20) hx hb dX6_pairs_104 (by decide) ?_
              exact hi20 _ (Ho_s h) ls (lv_sub hl [3, 4, 5, 1, 6, 0] rfl)
      refine lv_iload hx hb dX6_pairs_20 (lv_at hl 5 rfl) ?_
      refine lv_aload_n hx hb dX6_pairs_22 rfl (lv_at hl 0 rfl) ?_
      refine va_get (D := (dC, dI)) (ci := 6) (v := .int m_n) (C := RX6) (T := TX6) (N := 20) hx hb hts hiX6 hown hK.1 hP 0 rfl rfl 1 (by decide) hf7 (fun _ h9 => h9) rfl dX6_pairs_23 ?_
      refine lv_icmp_ge (tgt := 107) hx hb dX6_pairs_26 (by decide) (fun q26 => ?_) (fun q26 => ?_)
      · have h := Ho_t h q26
        have h := ho20 _ (Ho_s h)
        exact J107 v3 v4 ls (lv_sub hl [0, 1, 2, 3, 4] rfl) h
      · have h := Ho_f h q26
        refine lv_iload hx hb dX6_pairs_29 (lv_at hl 5 rfl) ?_
        refine lv_iload hx hb dX6_pairs_31 (lv_at hl 4 rfl) ?_
        refine lv_isub hx hb dX6_pairs_33 ?_
        refine lv_aload_n hx hb dX6_pairs_34 rfl (lv_at hl 0 rfl) ?_
        refine va_get (D := (dC, dI)) (ci := 6) (v := .int m_n) (C := RX6) (T := TX6) (N := 20) hx hb hts hiX6 hown hK.1 hP 0 rfl rfl 1 (by decide) hf7 (fun _ h9 => h9) rfl dX6_pairs_35 ?_
        refine lv_iload hx hb dX6_pairs_38 (lv_at hl 5 rfl) ?_
        refine lv_isub hx hb dX6_pairs_40 ?_
        refine lv_iload hx hb dX6_pairs_41 (lv_at hl 4 rfl) ?_
        refine lv_iadd hx hb dX6_pairs_43 ?_
        refine lv_icmp_ge (tgt := 55) hx hb dX6_pairs_44 (by decide) (fun q44 => ?_) (fun q44 => ?_)
        · have h := Ho_t h q44
          refine lv_aload_n hx hb dX6_pairs_55 rfl (lv_at hl 0 rfl) ?_
          refine va_get (D := (dC, dI)) (ci := 6) (v := .int m_n) (C := RX6) (T := TX6) (N := 20) hx hb hts hiX6 hown hK.1 hP 0 rfl rfl 1 (by decide) hf7 (fun _ h9 => h9) rfl dX6_pairs_56 ?_
          refine lv_iload hx hb dX6_pairs_59 (lv_at hl 5 rfl) ?_
          refine lv_isub hx hb dX6_pairs_61 ?_
          refine lv_iload hx hb dX6_pairs_62 (lv_at hl 4 rfl) ?_
          refine lv_iadd hx hb dX6_pairs_64 ?_
          exact J65 v3 v5 ((m_n - v5) + v4) ls (lv_sub hl [0, 1, 2, 3, 4, 5] rfl) h
        · have h := Ho_f h q44
          refine lv_iload hx hb dX6_pairs_47 (lv_at hl 5 rfl) ?_
          refine lv_iload hx hb dX6_pairs_49 (lv_at hl 4 rfl) ?_
          refine lv_isub hx hb dX6_pairs_51 ?_
          refine lv_goto (tgt := 65) hx hb dX6_pairs_52 (by decide) ?_
          exact J65 v3 v5 (v5 - v4) ls (lv_sub hl [0, 1, 2, 3, 4, 5] rfl) h
    refine lv_iload hx hb dX6_pairs_5 (lv_at hl 4 rfl) ?_
    refine lv_aload_n hx hb dX6_pairs_7 rfl (lv_at hl 0 rfl) ?_
    refine va_get (D := (dC, dI)) (ci := 6) (v := .int m_n) (C := RX6) (T := TX6) (N := 20) hx hb hts hiX6 hown hK.1 hP 0 rfl rfl 1 (by decide) hf7 (fun _ h9 => h9) rfl dX6_pairs_8 ?_
    refine lv_icmp_ge (tgt := 113) hx hb dX6_pairs_11 (by decide) (fun q11 => ?_) (fun q11 => ?_)
    · have h := Ho_t h q11
      have h := ho5 _ (Ho_s h)
      exact J113 v3 ls (lv_sub hl [3] rfl) h
    · have h := Ho_f h q11
      refine lv_iload hx hb dX6_pairs_14 (lv_at hl 4 rfl) ?_
      refine lv_iconst (v := (1 : Int32)) hx hb dX6_pairs_16 (by decide) ?_
      refine lv_iadd hx hb dX6_pairs_17 ?_
      refine lv_istore (lv' := [(5, .int (v4 + (1 : Int32))), (0, .ref (ad 0)), (1, .int x1), (2, .int x2), (3, .int v3), (4, .int v4)]) hx hb dX6_pairs_18 hl (by decide) rfl (fun ls hl => ?_)
      exact J20 v3 v4 (v4 + (1 : Int32)) ls (lv_sub hl [1, 2, 3, 4, 5, 0] rfl) h
  refine lv_iconst (v := (0 : Int32)) hx hb dX6_pairs_0 (by decide) ?_
  refine lv_istore_n (lv' := [(3, .int (0 : Int32)), (0, .ref (ad 0)), (1, .int x1), (2, .int x2)]) hx hb dX6_pairs_1 rfl hl (by decide) rfl (fun ls hl => ?_)
  refine lv_iconst (v := (0 : Int32)) hx hb dX6_pairs_2 (by decide) ?_
  refine lv_istore (lv' := [(4, .int (0 : Int32)), (3, .int (0 : Int32)), (0, .ref (ad 0)), (1, .int x1), (2, .int x2)]) hx hb dX6_pairs_3 hl (by decide) rfl (fun ls hl => ?_)
  exact J5 (0 : Int32) (0 : Int32) ls (lv_sub hl [2, 3, 4, 1, 0] rfl) h
abbrev rmX6_vector : Room := { frames := 1, cells := 0, slots := 0, locals := 26 }
set_option maxHeartbeats 4000000 in
set_option maxRecDepth 100000 in
theorem c_X6_vector (l : Launch) (dC : Nat → ClassId) (dI : Nat → Nat → Nat) (cI cJ : ClassId) (ad : Nat → Nat) (sz : Nat) (m_code : Int32) (m_n : Int32) (m_built : Int32) (m_length : Int32) (m_begin : Int32) (m_many : Int32) (m_leastOf : Nat → Int32) (m_sizeOf : Nat → Int32) (m_own : Nat → Int32) (m_bestRow : Nat → Int32) (m_tryRow : Nat → Int32) (m_keptRow : Nat → Int32) (m_otherRow : Nat → Int32) (m_row : Nat → Int32) (m_formRow : Nat → Int32) (m_allForms : Nat → Int32) (m_rowsOf : Nat → Int32) (m_intervals : Nat → Int32) (m_places : Nat → Int32) (m_whole : Nat → Int64) (x1 : Int32) (x2 : Int32) (r : Int32) (m_code' : Int32) (hF : FX6_vector m_code m_n x1 x2 = some (r, m_code')) : Met l yX6_vector wsX6_vector rmX6_vector (rwP (dC, dI) [(cI, .int), (cJ, .long)] sz (wX6 cI cJ ad m_code m_n m_built m_length m_begin m_many m_leastOf m_sizeOf m_own m_bestRow m_tryRow m_keptRow m_otherRow m_row m_formRow m_allForms m_rowsOf m_intervals m_places m_whole) [.ref (ad 0), .int x1, .int x2]) (va_Qi (fun (x : Int32) (_ : Unit) => x = r) (fun _ t => va_P (dC, dI) vwCl (wX6 cI cJ ad m_code' m_n m_built m_length m_begin m_many m_leastOf m_sizeOf m_own m_bestRow m_tryRow m_keptRow m_otherRow m_row m_formRow m_allForms m_rowsOf m_intervals m_places m_whole) t.heap ∧ vK (dC, dI) [(cI, .int), (cJ, .long)] t ∧ va_D (va_A (wX6 cI cJ ad m_code m_n m_built m_length m_begin m_many m_leastOf m_sizeOf m_own m_bestRow m_tryRow m_keptRow m_otherRow m_row m_formRow m_allForms m_rowsOf m_intervals m_places m_whole) sz) (wX6 cI cJ ad m_code' m_n m_built m_length m_begin m_many m_leastOf m_sizeOf m_own m_bestRow m_tryRow m_keptRow m_otherRow m_row m_formRow m_allForms m_rowsOf m_intervals m_places m_whole)) (va_A (wX6 cI cJ ad m_code m_n m_built m_length m_begin m_many m_leastOf m_sizeOf m_own m_bestRow m_tryRow m_keptRow m_otherRow m_row m_formRow m_allForms m_rowsOf m_intervals m_places m_whole) sz)) 0 0 (va_A (wX6 cI cJ ad m_code m_n m_built m_length m_begin m_many m_leastOf m_sizeOf m_own m_bestRow m_tryRow m_keptRow m_otherRow m_row m_formRow m_allForms m_rowsOf m_intervals m_places m_whole) sz) := by
  refine rw_start (cc := cX6_vector) (maxL := 3) (ret := (some .int)) (by decide) rfl (Nat.le_of_ble_eq_true rfl) ?_
  intro p e s m args below meth c ls A H locs hx hb hml hr hlk hown hts hsz hP hK hD hA hS hAe hl
  have hown : s.vm.findClass RX6 = some m.cls := hown
  have hl : lv_has ls 3 [(0, .ref (ad 0)), (1, .int x1), (2, .int x2)] := hl
  have h : Ho (FX6_vector m_code m_n x1 x2) (fun x => x = (r, m_code')) := ⟨_, hF, rfl⟩
  unfold FX6_vector at h
  have QI : ∀ {v0 : Int32} {m_code9 : Int32} {t : State}, (v0, m_code9) = (r, m_code') → va_P (dC, dI) vwCl (wX6 cI cJ ad m_code9 m_n m_built m_length m_begin m_many m_leastOf m_sizeOf m_own m_bestRow m_tryRow m_keptRow m_otherRow m_row m_formRow m_allForms m_rowsOf m_intervals m_places m_whole) t.heap → vK (dC, dI) [(cI, .int), (cJ, .long)] t → va_D A (wX6 cI cJ ad m_code9 m_n m_built m_length m_begin m_many m_leastOf m_sizeOf m_own m_bestRow m_tryRow m_keptRow m_otherRow m_row m_formRow m_allForms m_rowsOf m_intervals m_places m_whole) → va_F A s t → (va_Qi (fun (x : Int32) (_ : Unit) => x = r) (fun _ t => va_P (dC, dI) vwCl (wX6 cI cJ ad m_code' m_n m_built m_length m_begin m_many m_leastOf m_sizeOf m_own m_bestRow m_tryRow m_keptRow m_otherRow m_row m_formRow m_allForms m_rowsOf m_intervals m_places m_whole) t.heap ∧ vK (dC, dI) [(cI, .int), (cJ, .long)] t ∧ va_D (va_A (wX6 cI cJ ad m_code m_n m_built m_length m_begin m_many m_leastOf m_sizeOf m_own m_bestRow m_tryRow m_keptRow m_otherRow m_row m_formRow m_allForms m_rowsOf m_intervals m_places m_whole) sz) (wX6 cI cJ ad m_code' m_n m_built m_length m_begin m_many m_leastOf m_sizeOf m_own m_bestRow m_tryRow m_keptRow m_otherRow m_row m_formRow m_allForms m_rowsOf m_intervals m_places m_whole)) (va_A (wX6 cI cJ ad m_code m_n m_built m_length m_begin m_many m_leastOf m_sizeOf m_own m_bestRow m_tryRow m_keptRow m_otherRow m_row m_formRow m_allForms m_rowsOf m_intervals m_places m_whole) sz)) args s (.returned (some (.int v0))) t := by
    intro v0 m_code9 t e9 q1 q2 q3 q4
    cases e9
    subst hAe
    exact ⟨⟨_, (), rfl, rfl, q1, q2, q3⟩, q4⟩
  have hfix : CallFix p m c cX6_vector 3 s args wsX6_vector RX6 := ⟨hx, hb, hml, hown, hts⟩
  have hiX6 : ∀ w ∈ u_ws RX6 TX6 20, w ∈ wsX6_vector := by decide +kernel
  have hf7 := hts (.fieldLink RX6 7 "RowClassesModel" "n" "I") (by decide +kernel)
  have hf57 := hts (.fieldLink RX6 57 "RowClassesModel" "code" "I") (by decide +kernel)
  refine lv_aload_n hx hb dX6_vector_0 rfl (lv_at hl 0 rfl) ?_
  refine lv_iconst (v := (0 : Int32)) hx hb dX6_vector_1 (by decide) ?_
  refine va_put (D := (dC, dI)) (ci := 6) (v := .int (0 : Int32)) (ty := .int) (C := RX6) (T := TX6) (N := 20) hx hb hts hiX6 tyX6 tyX6_ok nmX6 hown hK.1 hP hD hS 0 rfl rfl 0 (by decide) hf57 (fun _ h9 => h9) rfl (by decide +kernel) rfl rfl (Nat.le_of_ble_eq_true rfl) dX6_vector_2 (fun H locs hP hD hS => ?_)
  have hP : va_P (dC, dI) vwCl (wX6 cI cJ ad (0 : Int32) m_n m_built m_length m_begin m_many m_leastOf m_sizeOf m_own m_bestRow m_tryRow m_keptRow m_otherRow m_row m_formRow m_allForms m_rowsOf m_intervals m_places m_whole) H := hP
  have hD : va_D A (wX6 cI cJ ad (0 : Int32) m_n m_built m_length m_begin m_many m_leastOf m_sizeOf m_own m_bestRow m_tryRow m_keptRow m_otherRow m_row m_formRow m_allForms m_rowsOf m_intervals m_places m_whole) := hD
  refine lv_aload_n hx hb dX6_vector_5 rfl (lv_at hl 0 rfl) ?_
  refine lv_iload_n hx hb dX6_vector_6 rfl (lv_at hl 1 rfl) ?_
  obtain ⟨r7, hc7, h⟩ := Ho_b h
  have hPc : va_P (dC, dI) vwCl (wX6 cI cJ ad (0 : Int32) m_n m_built m_length m_begin m_many m_leastOf m_sizeOf m_own m_bestRow m_tryRow m_keptRow m_otherRow m_row m_formRow m_allForms m_rowsOf m_intervals m_places m_whole) H := hP.sub [0, 1, 2, 3, 4, 5, 6, 7, 8, 9, 10, 11, 12, 13, 14] rfl
  refine cs_i (va_runV (As := [.int x1]) (rest := []) hfix (c_X6_isSet l dC dI cI cJ ad (0 : Int32) m_n m_built m_length m_begin m_many m_leastOf m_sizeOf m_own m_bestRow m_tryRow m_keptRow m_otherRow m_row m_formRow m_allForms m_rowsOf m_intervals m_places m_whole x1 _ hc7) (cwV 1 hts gX6_vector_X6_isSet rfl rfl rfl (by decide +kernel) ⟨by decide, by decide⟩) (roP.preV hK hPc (ci := 6) rfl rfl) rfl rfl hl.1 rfl (lv_room (Nat.le_of_ble_eq_true rfl)) dX6_vector_7 ⟨Nat.zero_le _, Nat.zero_le _⟩) ?_
  refine lv_if_eq (tgt := 36) hx hb dX6_vector_10 (by decide) (fun q10 => ?_) (fun q10 => ?_)
  · have h := Ho_t h q10
    refine lv_bipush (v := (-2 : Int32)) hx hb dX6_vector_36 (by decide) ?_
    exact W.iret hx hb hr (fun t ht hW => QI (Ho_e h) (by rw [ht]; exact hP) (hK.warm hW) hD (hS.F ht)) hS.2.2 dX6_vector_38 hlk
  · have h := Ho_f h q10
    refine lv_iload_n hx hb dX6_vector_13 rfl (lv_at hl 2 rfl) ?_
    refine lv_iconst (v := (1 : Int32)) hx hb dX6_vector_14 (by decide) ?_
    refine lv_aload_n hx hb dX6_vector_15 rfl (lv_at hl 0 rfl) ?_
    refine va_get (D := (dC, dI)) (ci := 6) (v := .int m_n) (C := RX6) (T := TX6) (N := 20) hx hb hts hiX6 hown hK.1 hP 0 rfl rfl 1 (by decide) hf7 (fun _ h9 => h9) rfl dX6_vector_16 ?_
    refine lv_iconst (v := (2 : Int32)) hx hb dX6_vector_19 (by decide) ?_
    refine lv_idiv hx hb dX6_vector_20 (by decide) ?_
    obtain ⟨r21, hc21, h⟩ := Ho_b h
    refine cs_i (va_runS (As := [.int x2, .int (1 : Int32), .int (m_n / (2 : Int32))]) (rest := []) hfix (c_X6_isIn l dC dI cI cJ  x2 (1 : Int32) (m_n / (2 : Int32)) _ hc21) (va_cwS 3 hts gX6_vector_X6_isIn rfl rfl rfl (by decide +kernel) ⟨by decide, by decide⟩) (roP.preS hK va_Pnil) rfl rfl hl.1 rfl (lv_room (Nat.le_of_ble_eq_true rfl)) dX6_vector_21 ⟨Nat.zero_le _, Nat.zero_le _⟩) ?_
    refine lv_if_eq (tgt := 36) hx hb dX6_vector_24 (by decide) (fun q24 => ?_) (fun q24 => ?_)
    · have h := Ho_t h q24
      refine lv_bipush (v := (-2 : Int32)) hx hb dX6_vector_36 (by decide) ?_
      exact W.iret hx hb hr (fun t ht hW => QI (Ho_e h) (by rw [ht]; exact hP) (hK.warm hW) hD (hS.F ht)) hS.2.2 dX6_vector_38 hlk
    · have h := Ho_f h q24
      refine lv_aload_n hx hb dX6_vector_27 rfl (lv_at hl 0 rfl) ?_
      refine lv_iload_n hx hb dX6_vector_28 rfl (lv_at hl 1 rfl) ?_
      refine lv_iload_n hx hb dX6_vector_29 rfl (lv_at hl 2 rfl) ?_
      obtain ⟨r30, hc30, h⟩ := Ho_b h
      have hPc : va_P (dC, dI) vwCl (wX6 cI cJ ad (0 : Int32) m_n m_built m_length m_begin m_many m_leastOf m_sizeOf m_own m_bestRow m_tryRow m_keptRow m_otherRow m_row m_formRow m_allForms m_rowsOf m_intervals m_places m_whole) H := hP.sub [0, 1, 2, 3, 4, 5, 6, 7, 8, 9, 10, 11, 12, 13, 14] rfl
      refine cs_i (va_runV (As := [.int x1, .int x2]) (rest := []) hfix (c_X6_pairs l dC dI cI cJ ad (0 : Int32) m_n m_built m_length m_begin m_many m_leastOf m_sizeOf m_own m_bestRow m_tryRow m_keptRow m_otherRow m_row m_formRow m_allForms m_rowsOf m_intervals m_places m_whole x1 x2 _ hc30) (cwV 2 hts gX6_vector_X6_pairs rfl rfl rfl (by decide +kernel) ⟨by decide, by decide⟩) (roP.preV hK hPc (ci := 6) rfl rfl) rfl rfl hl.1 rfl (lv_room (Nat.le_of_ble_eq_true rfl)) dX6_vector_30 ⟨Nat.zero_le _, Nat.zero_le _⟩) ?_
      refine lv_goto (tgt := 38) hx hb dX6_vector_33 (by decide) ?_
      exact W.iret hx hb hr (fun t ht hW => QI (Ho_e h) (by rw [ht]; exact hP) (hK.warm hW) hD (hS.F ht)) hS.2.2 dX6_vector_38 hlk
abbrev rmX6_isAlike : Room := { frames := 1, cells := 0, slots := 0, locals := 26 }
set_option maxHeartbeats 4000000 in
set_option maxRecDepth 100000 in
theorem c_X6_isAlike (l : Launch) (dC : Nat → ClassId) (dI : Nat → Nat → Nat) (cI cJ : ClassId) (ad : Nat → Nat) (m_code : Int32) (m_n : Int32) (m_built : Int32) (m_length : Int32) (m_begin : Int32) (m_many : Int32) (m_leastOf : Nat → Int32) (m_sizeOf : Nat → Int32) (m_own : Nat → Int32) (m_bestRow : Nat → Int32) (m_tryRow : Nat → Int32) (m_keptRow : Nat → Int32) (m_otherRow : Nat → Int32) (m_row : Nat → Int32) (m_formRow : Nat → Int32) (m_allForms : Nat → Int32) (m_rowsOf : Nat → Int32) (m_intervals : Nat → Int32) (m_places : Nat → Int32) (m_whole : Nat → Int64) (x1 : Int32) (x2 : Int32) (r : Int32) (hF : FX6_isAlike m_n x1 x2 = some r) : Met l yX6_isAlike wsX6_isAlike rmX6_isAlike (roP (dC, dI) [(cI, .int), (cJ, .long)] (wX6 cI cJ ad m_code m_n m_built m_length m_begin m_many m_leastOf m_sizeOf m_own m_bestRow m_tryRow m_keptRow m_otherRow m_row m_formRow m_allForms m_rowsOf m_intervals m_places m_whole) [.ref (ad 0), .int x1, .int x2]) (vp_Si (fun x => x = r)) 0 0 (fun _ => False) := by
  refine ro_start (cc := cX6_isAlike) (maxL := 5) (ret := (some .boolean)) (by decide) rfl (Nat.le_of_ble_eq_true rfl) ?_
  intro p e s m args below meth c ls hx hb hml hr hlk hown hts hP hK hl
  have hown : s.vm.findClass RX6 = some m.cls := hown
  have hl : lv_has ls 5 [(0, .ref (ad 0)), (1, .int x1), (2, .int x2)] := hl
  have h : Ho (FX6_isAlike m_n x1 x2) (fun x => x = r) := ⟨r, hF, rfl⟩
  unfold FX6_isAlike at h
  have hfix : CallFix p m c cX6_isAlike 5 s args wsX6_isAlike RX6 := ⟨hx, hb, hml, hown, hts⟩
  have hiX6 : ∀ w ∈ u_ws RX6 TX6 20, w ∈ wsX6_isAlike := by decide +kernel
  have hf7 := hts (.fieldLink RX6 7 "RowClassesModel" "n" "I") (by decide +kernel)
  have J64 : ∀ (v3 : Int32) (ls : Array Slot), lv_has ls 5 [(3, .int v3)] → Ho (X6_isAlike_64 v3) (fun x => x = r) → W p l e rmX6_isAlike s m args below meth c s.heap [] 0 0 (MQ below (vp_Si (fun x => x = r)) args s 0 0 (fun _ => False)) (F0 m 64 ls []) := by
    intro v3 ls hl h
    unfold X6_isAlike_64 at h
    refine lv_iload_n hx hb dX6_isAlike_64 rfl (lv_at hl 0 rfl) ?_
    obtain ⟨hzb, h⟩ := Ho_bool h
    exact W.zret (ty := .boolean) hx hb hr (nb_of hzb) (fun t ht _ => ro_Si (Ho_e h) ht) ro_nil dX6_isAlike_65 hlk
  have J20 : ∀ (v3 : Int32) (v4 : Int32) (ls : Array Slot), lv_has ls 5 [(0, .ref (ad 0)), (1, .int x1), (2, .int x2), (3, .int v3), (4, .int v4)] → Ho ((X6_isAlike_20_l m_n x1 x2 v3 v4).bind (fun ex => X6_isAlike_64 ex)) (fun x => x = r) → W p l e rmX6_isAlike s m args below meth c s.heap [] 0 0 (MQ below (vp_Si (fun x => x = r)) args s 0 0 (fun _ => False)) (F0 m 20 ls []) := by
    intro v3 v4 ls hl h
    refine loop_use2 (fun z : Int32 × Int32 => ∀ (ls : Array Slot), lv_has ls 5 [(0, .ref (ad 0)), (1, .int x1), (2, .int x2), (3, .int z.1), (4, .int z.2)] → W p l e rmX6_isAlike s m args below meth c s.heap [] 0 0 (MQ below (vp_Si (fun x => x = r)) args s 0 0 (fun _ => False)) (F0 m 20 ls [])) ?_ FU _ h ls hl
    intro Q20 hi20 ho20 z h ls hl
    obtain ⟨v3, v4⟩ := z
    have h : Ho (X6_isAlike_20_s m_n x1 x2 v3 v4) Q20 := h
    unfold X6_isAlike_20_s at h
    have hl : lv_has ls 5 [(0, .ref (ad 0)), (1, .int x1), (2, .int x2), (3, .int v3), (4, .int v4)] := hl
    refine lv_iload hx hb dX6_isAlike_20 (lv_at hl 4 rfl) ?_
    refine lv_aload_n hx hb dX6_isAlike_22 rfl (lv_at hl 0 rfl) ?_
    refine va_get (D := (dC, dI)) (ci := 6) (v := .int m_n) (C := RX6) (T := TX6) (N := 20) hx hb hts hiX6 hown hK.1 hP 0 rfl rfl 1 (by decide) hf7 (fun _ h9 => h9) rfl dX6_isAlike_23 ?_
    refine lv_iconst (v := (2 : Int32)) hx hb dX6_isAlike_26 (by decide) ?_
    refine lv_idiv hx hb dX6_isAlike_27 (by decide) ?_
    refine lv_icmp_gt (tgt := 64) hx hb dX6_isAlike_28 (by decide) (fun q28 => ?_) (fun q28 => ?_)
    · have h := Ho_t h q28
      have h := ho20 _ (Ho_s h)
      exact J64 v3 ls (lv_sub hl [3] rfl) h
    · have h := Ho_f h q28
      refine lv_iload_n hx hb dX6_isAlike_31 rfl (lv_at hl 3 rfl) ?_
      refine lv_if_eq (tgt := 64) hx hb dX6_isAlike_32 (by decide) (fun q32 => ?_) (fun q32 => ?_)
      · have h := Ho_t h q32
        have h := ho20 _ (Ho_s h)
        exact J64 v3 ls (lv_sub hl [3] rfl) h
      · have h := Ho_f h q32
        refine lv_aload_n hx hb dX6_isAlike_35 rfl (lv_at hl 0 rfl) ?_
        refine lv_iload_n hx hb dX6_isAlike_36 rfl (lv_at hl 1 rfl) ?_
        refine lv_iload hx hb dX6_isAlike_37 (lv_at hl 4 rfl) ?_
        obtain ⟨r39, hc39, h⟩ := Ho_b h
        have hPc : va_P (dC, dI) vwCl (wX6 cI cJ ad m_code m_n m_built m_length m_begin m_many m_leastOf m_sizeOf m_own m_bestRow m_tryRow m_keptRow m_otherRow m_row m_formRow m_allForms m_rowsOf m_intervals m_places m_whole) s.heap := hP.sub [0, 1, 2, 3, 4, 5, 6, 7, 8, 9, 10, 11, 12, 13, 14] rfl
        refine cs_i (va_runV (As := [.int x1, .int v4]) (rest := []) hfix (c_X6_pairs l dC dI cI cJ ad m_code m_n m_built m_length m_begin m_many m_leastOf m_sizeOf m_own m_bestRow m_tryRow m_keptRow m_otherRow m_row m_formRow m_allForms m_rowsOf m_intervals m_places m_whole x1 v4 _ hc39) (cwV 2 hts gX6_isAlike_X6_pairs rfl rfl rfl (by decide +kernel) ⟨by decide, by decide⟩) (roP.preV hK hPc (ci := 6) rfl rfl) rfl rfl hl.1 rfl (lv_room (Nat.le_of_ble_eq_true rfl)) dX6_isAlike_39 ⟨Nat.zero_le _, Nat.zero_le _⟩) ?_
        refine lv_aload_n hx hb dX6_isAlike_42 rfl (lv_at hl 0 rfl) ?_
        refine lv_iload_n hx hb dX6_isAlike_43 rfl (lv_at hl 2 rfl) ?_
        refine lv_iload hx hb dX6_isAlike_44 (lv_at hl 4 rfl) ?_
        obtain ⟨r46, hc46, h⟩ := Ho_b h
        have hPc : va_P (dC, dI) vwCl (wX6 cI cJ ad m_code m_n m_built m_length m_begin m_many m_leastOf m_sizeOf m_own m_bestRow m_tryRow m_keptRow m_otherRow m_row m_formRow m_allForms m_rowsOf m_intervals m_places m_whole) s.heap := hP.sub [0, 1, 2, 3, 4, 5, 6, 7, 8, 9, 10, 11, 12, 13, 14] rfl
        refine cs_i (va_runV (As := [.int x2, .int v4]) (rest := [.int r39]) hfix (c_X6_pairs l dC dI cI cJ ad m_code m_n m_built m_length m_begin m_many m_leastOf m_sizeOf m_own m_bestRow m_tryRow m_keptRow m_otherRow m_row m_formRow m_allForms m_rowsOf m_intervals m_places m_whole x2 v4 _ hc46) (cwV 2 hts gX6_isAlike_X6_pairs rfl rfl rfl (by decide +kernel) ⟨by decide, by decide⟩) (roP.preV hK hPc (ci := 6) rfl rfl) rfl rfl hl.1 rfl (lv_room (Nat.le_of_ble_eq_true rfl)) dX6_isAlike_46 ⟨Nat.zero_le _, Nat.zero_le _⟩) ?_
        refine lv_icmp_ne (tgt := 56) hx hb dX6_isAlike_49 (by decide) (fun q49 => ?_) (fun q49 => ?_)
        · have h := Ho_f h q49
          refine lv_iconst (v := (0 : Int32)) hx hb dX6_isAlike_56 (by decide) ?_
          refine lv_istore_n (lv' := [(3, .int (0 : Int32)), (0, .ref (ad 0)), (1, .int x1), (2, .int x2), (4, .int v4)]) hx hb dX6_isAlike_57 rfl hl (by decide) rfl (fun ls hl => ?_)
          refine lv_iinc (v := v4 + 1) (lv' := [(4, .int (v4 + 1)), (3, .int (0 : Int32)), (0, .ref (ad 0)), (1, .int x1), (2, .int x2)]) hx hb dX6_isAlike_58 hl (k := 4) rfl rfl (by decide) rfl (fun ls hl => ?_)
          refine lv_goto (tgt := 20) hx hb dX6_isAlike_61 (by decide) ?_
          exact hi20 _ (Ho_s h) ls (lv_sub hl [2, 3, 4, 1, 0] rfl)
        · have h := Ho_t h q49
          refine lv_iconst (v := (1 : Int32)) hx hb dX6_isAlike_52 (by decide) ?_
          refine lv_goto (tgt := 57) hx hb dX6_isAlike_53 (by decide) ?_
          refine lv_istore_n (lv' := [(3, .int (1 : Int32)), (0, .ref (ad 0)), (1, .int x1), (2, .int x2), (4, .int v4)]) hx hb dX6_isAlike_57 rfl hl (by decide) rfl (fun ls hl => ?_)
          refine lv_iinc (v := v4 + 1) (lv' := [(4, .int (v4 + 1)), (3, .int (1 : Int32)), (0, .ref (ad 0)), (1, .int x1), (2, .int x2)]) hx hb dX6_isAlike_58 hl (k := 4) rfl rfl (by decide) rfl (fun ls hl => ?_)
          refine lv_goto (tgt := 20) hx hb dX6_isAlike_61 (by decide) ?_
          exact hi20 _ (Ho_s h) ls (lv_sub hl [2, 3, 4, 1, 0] rfl)
  refine lv_iload_n hx hb dX6_isAlike_0 rfl (lv_at hl 1 rfl) ?_
  obtain ⟨r1, hc1, h⟩ := Ho_b h
  refine cs_i (va_runS (As := [.int x1]) (rest := []) hfix (c_X6_count l dC dI cI cJ  x1 _ hc1) (va_cwS 1 hts gX6_isAlike_X6_count rfl rfl rfl (by decide +kernel) ⟨by decide, by decide⟩) (roP.preS hK va_Pnil) rfl rfl hl.1 rfl (lv_room (Nat.le_of_ble_eq_true rfl)) dX6_isAlike_1 ⟨Nat.zero_le _, Nat.zero_le _⟩) ?_
  refine lv_iload_n hx hb dX6_isAlike_4 rfl (lv_at hl 2 rfl) ?_
  obtain ⟨r5, hc5, h⟩ := Ho_b h
  refine cs_i (va_runS (As := [.int x2]) (rest := [.int r1]) hfix (c_X6_count l dC dI cI cJ  x2 _ hc5) (va_cwS 1 hts gX6_isAlike_X6_count rfl rfl rfl (by decide +kernel) ⟨by decide, by decide⟩) (roP.preS hK va_Pnil) rfl rfl hl.1 rfl (lv_room (Nat.le_of_ble_eq_true rfl)) dX6_isAlike_5 ⟨Nat.zero_le _, Nat.zero_le _⟩) ?_
  refine lv_icmp_ne (tgt := 15) hx hb dX6_isAlike_8 (by decide) (fun q8 => ?_) (fun q8 => ?_)
  · have h := Ho_f h q8
    refine lv_iconst (v := (0 : Int32)) hx hb dX6_isAlike_15 (by decide) ?_
    refine lv_istore_n (lv' := [(3, .int (0 : Int32)), (0, .ref (ad 0)), (1, .int x1), (2, .int x2)]) hx hb dX6_isAlike_16 rfl hl (by decide) rfl (fun ls hl => ?_)
    refine lv_iconst (v := (1 : Int32)) hx hb dX6_isAlike_17 (by decide) ?_
    refine lv_istore (lv' := [(4, .int (1 : Int32)), (3, .int (0 : Int32)), (0, .ref (ad 0)), (1, .int x1), (2, .int x2)]) hx hb dX6_isAlike_18 hl (by decide) rfl (fun ls hl => ?_)
    exact J20 (0 : Int32) (1 : Int32) ls (lv_sub hl [2, 3, 4, 1, 0] rfl) h
  · have h := Ho_t h q8
    refine lv_iconst (v := (1 : Int32)) hx hb dX6_isAlike_11 (by decide) ?_
    refine lv_goto (tgt := 16) hx hb dX6_isAlike_12 (by decide) ?_
    refine lv_istore_n (lv' := [(3, .int (1 : Int32)), (0, .ref (ad 0)), (1, .int x1), (2, .int x2)]) hx hb dX6_isAlike_16 rfl hl (by decide) rfl (fun ls hl => ?_)
    refine lv_iconst (v := (1 : Int32)) hx hb dX6_isAlike_17 (by decide) ?_
    refine lv_istore (lv' := [(4, .int (1 : Int32)), (3, .int (1 : Int32)), (0, .ref (ad 0)), (1, .int x1), (2, .int x2)]) hx hb dX6_isAlike_18 hl (by decide) rfl (fun ls hl => ?_)
    exact J20 (1 : Int32) (1 : Int32) ls (lv_sub hl [2, 3, 4, 1, 0] rfl) h
abbrev rmX6_twin : Room := { frames := 5, cells := 0, slots := 0, locals := 115 }
set_option maxHeartbeats 4000000 in
set_option maxRecDepth 100000 in
theorem c_X6_twin (l : Launch) (dC : Nat → ClassId) (dI : Nat → Nat → Nat) (cI cJ : ClassId) (ad : Nat → Nat) (sz : Nat) (m_code : Int32) (m_n : Int32) (m_built : Int32) (m_length : Int32) (m_begin : Int32) (m_many : Int32) (m_leastOf : Nat → Int32) (m_sizeOf : Nat → Int32) (m_own : Nat → Int32) (m_bestRow : Nat → Int32) (m_tryRow : Nat → Int32) (m_keptRow : Nat → Int32) (m_otherRow : Nat → Int32) (m_row : Nat → Int32) (m_formRow : Nat → Int32) (m_allForms : Nat → Int32) (m_rowsOf : Nat → Int32) (m_intervals : Nat → Int32) (m_places : Nat → Int32) (m_whole : Nat → Int64) (x1 : Int32) (r : Int32) (m_code' : Int32) (m_built' : Int32) (m_leastOf' : Nat → Int32) (m_sizeOf' : Nat → Int32) (hF : FX6_twin m_code m_n m_built m_leastOf m_sizeOf x1 = some (r, m_code', m_built', m_leastOf', m_sizeOf')) : Met l yX6_twin wsX6_twin rmX6_twin (rwP (dC, dI) [(cI, .int), (cJ, .long)] sz (wX6 cI cJ ad m_code m_n m_built m_length m_begin m_many m_leastOf m_sizeOf m_own m_bestRow m_tryRow m_keptRow m_otherRow m_row m_formRow m_allForms m_rowsOf m_intervals m_places m_whole) [.ref (ad 0), .int x1]) (va_Qi (fun (x : Int32) (_ : Unit) => x = r) (fun _ t => va_P (dC, dI) vwCl (wX6 cI cJ ad m_code' m_n m_built' m_length m_begin m_many m_leastOf' m_sizeOf' m_own m_bestRow m_tryRow m_keptRow m_otherRow m_row m_formRow m_allForms m_rowsOf m_intervals m_places m_whole) t.heap ∧ vK (dC, dI) [(cI, .int), (cJ, .long)] t ∧ va_D (va_A (wX6 cI cJ ad m_code m_n m_built m_length m_begin m_many m_leastOf m_sizeOf m_own m_bestRow m_tryRow m_keptRow m_otherRow m_row m_formRow m_allForms m_rowsOf m_intervals m_places m_whole) sz) (wX6 cI cJ ad m_code' m_n m_built' m_length m_begin m_many m_leastOf' m_sizeOf' m_own m_bestRow m_tryRow m_keptRow m_otherRow m_row m_formRow m_allForms m_rowsOf m_intervals m_places m_whole)) (va_A (wX6 cI cJ ad m_code m_n m_built m_length m_begin m_many m_leastOf m_sizeOf m_own m_bestRow m_tryRow m_keptRow m_otherRow m_row m_formRow m_allForms m_rowsOf m_intervals m_places m_whole) sz)) 0 0 (va_A (wX6 cI cJ ad m_code m_n m_built m_length m_begin m_many m_leastOf m_sizeOf m_own m_bestRow m_tryRow m_keptRow m_otherRow m_row m_formRow m_allForms m_rowsOf m_intervals m_places m_whole) sz) := by
  refine rw_start (cc := cX6_twin) (maxL := 3) (ret := (some .int)) (by decide) rfl (Nat.le_of_ble_eq_true rfl) ?_
  intro p e s m args below meth c ls A H locs hx hb hml hr hlk hown hts hsz hP hK hD hA hS hAe hl
  have hown : s.vm.findClass RX6 = some m.cls := hown
  have hl : lv_has ls 3 [(0, .ref (ad 0)), (1, .int x1)] := hl
  have h : Ho (FX6_twin m_code m_n m_built m_leastOf m_sizeOf x1) (fun x => x = (r, m_code', m_built', m_leastOf', m_sizeOf')) := ⟨_, hF, rfl⟩
  unfold FX6_twin at h
  have QI : ∀ {v0 : Int32} {m_code9 : Int32} {m_built9 : Int32} {m_leastOf9 : Nat → Int32} {m_sizeOf9 : Nat → Int32} {t : State}, (v0, m_code9, m_built9, m_leastOf9, m_sizeOf9) = (r, m_code', m_built', m_leastOf', m_sizeOf') → va_P (dC, dI) vwCl (wX6 cI cJ ad m_code9 m_n m_built9 m_length m_begin m_many m_leastOf9 m_sizeOf9 m_own m_bestRow m_tryRow m_keptRow m_otherRow m_row m_formRow m_allForms m_rowsOf m_intervals m_places m_whole) t.heap → vK (dC, dI) [(cI, .int), (cJ, .long)] t → va_D A (wX6 cI cJ ad m_code9 m_n m_built9 m_length m_begin m_many m_leastOf9 m_sizeOf9 m_own m_bestRow m_tryRow m_keptRow m_otherRow m_row m_formRow m_allForms m_rowsOf m_intervals m_places m_whole) → va_F A s t → (va_Qi (fun (x : Int32) (_ : Unit) => x = r) (fun _ t => va_P (dC, dI) vwCl (wX6 cI cJ ad m_code' m_n m_built' m_length m_begin m_many m_leastOf' m_sizeOf' m_own m_bestRow m_tryRow m_keptRow m_otherRow m_row m_formRow m_allForms m_rowsOf m_intervals m_places m_whole) t.heap ∧ vK (dC, dI) [(cI, .int), (cJ, .long)] t ∧ va_D (va_A (wX6 cI cJ ad m_code m_n m_built m_length m_begin m_many m_leastOf m_sizeOf m_own m_bestRow m_tryRow m_keptRow m_otherRow m_row m_formRow m_allForms m_rowsOf m_intervals m_places m_whole) sz) (wX6 cI cJ ad m_code' m_n m_built' m_length m_begin m_many m_leastOf' m_sizeOf' m_own m_bestRow m_tryRow m_keptRow m_otherRow m_row m_formRow m_allForms m_rowsOf m_intervals m_places m_whole)) (va_A (wX6 cI cJ ad m_code m_n m_built m_length m_begin m_many m_leastOf m_sizeOf m_own m_bestRow m_tryRow m_keptRow m_otherRow m_row m_formRow m_allForms m_rowsOf m_intervals m_places m_whole) sz)) args s (.returned (some (.int v0))) t := by
    intro v0 m_code9 m_built9 m_leastOf9 m_sizeOf9 t e9 q1 q2 q3 q4
    cases e9
    subst hAe
    exact ⟨⟨_, (), rfl, rfl, q1, q2, q3⟩, q4⟩
  have hfix : CallFix p m c cX6_twin 3 s args wsX6_twin RX6 := ⟨hx, hb, hml, hown, hts⟩
  have hiX6 : ∀ w ∈ u_ws RX6 TX6 20, w ∈ wsX6_twin := by decide +kernel
  have hf7 := hts (.fieldLink RX6 7 "RowClassesModel" "n" "I") (by decide +kernel)
  have hf57 := hts (.fieldLink RX6 57 "RowClassesModel" "code" "I") (by decide +kernel)
  have J71 : ∀ (m_codek : Int32) (m_builtk : Int32) (m_leastOfk : Nat → Int32) (m_sizeOfk : Nat → Int32) (H : Heap) (locs : List Loc) (ls : Array Slot), va_P (dC, dI) vwCl (wX6 cI cJ ad m_codek m_n m_builtk m_length m_begin m_many m_leastOfk m_sizeOfk m_own m_bestRow m_tryRow m_keptRow m_otherRow m_row m_formRow m_allForms m_rowsOf m_intervals m_places m_whole) H → va_D A (wX6 cI cJ ad m_codek m_n m_builtk m_length m_begin m_many m_leastOfk m_sizeOfk m_own m_bestRow m_tryRow m_keptRow m_otherRow m_row m_formRow m_allForms m_rowsOf m_intervals m_places m_whole) → va_S A s.heap H locs → lv_has ls 3 [] → Ho (X6_twin_71 m_codek m_builtk m_leastOfk m_sizeOfk) (fun x => x = (r, m_code', m_built', m_leastOf', m_sizeOf')) → W p l e rmX6_twin s m args below meth c H locs 0 0 (MQ below (va_Qi (fun (x : Int32) (_ : Unit) => x = r) (fun _ t => va_P (dC, dI) vwCl (wX6 cI cJ ad m_code' m_n m_built' m_length m_begin m_many m_leastOf' m_sizeOf' m_own m_bestRow m_tryRow m_keptRow m_otherRow m_row m_formRow m_allForms m_rowsOf m_intervals m_places m_whole) t.heap ∧ vK (dC, dI) [(cI, .int), (cJ, .long)] t ∧ va_D (va_A (wX6 cI cJ ad m_code m_n m_built m_length m_begin m_many m_leastOf m_sizeOf m_own m_bestRow m_tryRow m_keptRow m_otherRow m_row m_formRow m_allForms m_rowsOf m_intervals m_places m_whole) sz) (wX6 cI cJ ad m_code' m_n m_built' m_length m_begin m_many m_leastOf' m_sizeOf' m_own m_bestRow m_tryRow m_keptRow m_otherRow m_row m_formRow m_allForms m_rowsOf m_intervals m_places m_whole)) (va_A (wX6 cI cJ ad m_code m_n m_built m_length m_begin m_many m_leastOf m_sizeOf m_own m_bestRow m_tryRow m_keptRow m_otherRow m_row m_formRow m_allForms m_rowsOf m_intervals m_places m_whole) sz)) args s 0 0 A) (F0 m 71 ls []) := by
    intro m_codek m_builtk m_leastOfk m_sizeOfk H locs ls hP hD hS hl h
    unfold X6_twin_71 at h
    refine lv_bipush (v := (-3 : Int32)) hx hb dX6_twin_71 (by decide) ?_
    exact W.iret hx hb hr (fun t ht hW => QI (Ho_e h) (by rw [ht]; exact hP) (hK.warm hW) hD (hS.F ht)) hS.2.2 dX6_twin_73 hlk
  have J63 : ∀ (m_codek : Int32) (m_builtk : Int32) (m_leastOfk : Nat → Int32) (m_sizeOfk : Nat → Int32) (v2 : Int32) (H : Heap) (locs : List Loc) (ls : Array Slot), va_P (dC, dI) vwCl (wX6 cI cJ ad m_codek m_n m_builtk m_length m_begin m_many m_leastOfk m_sizeOfk m_own m_bestRow m_tryRow m_keptRow m_otherRow m_row m_formRow m_allForms m_rowsOf m_intervals m_places m_whole) H → va_D A (wX6 cI cJ ad m_codek m_n m_builtk m_length m_begin m_many m_leastOfk m_sizeOfk m_own m_bestRow m_tryRow m_keptRow m_otherRow m_row m_formRow m_allForms m_rowsOf m_intervals m_places m_whole) → va_S A s.heap H locs → lv_has ls 3 [(2, .int v2)] → Ho (X6_twin_63 m_codek m_builtk m_leastOfk m_sizeOfk v2) (fun x => x = (r, m_code', m_built', m_leastOf', m_sizeOf')) → W p l e rmX6_twin s m args below meth c H locs 0 0 (MQ below (va_Qi (fun (x : Int32) (_ : Unit) => x = r) (fun _ t => va_P (dC, dI) vwCl (wX6 cI cJ ad m_code' m_n m_built' m_length m_begin m_many m_leastOf' m_sizeOf' m_own m_bestRow m_tryRow m_keptRow m_otherRow m_row m_formRow m_allForms m_rowsOf m_intervals m_places m_whole) t.heap ∧ vK (dC, dI) [(cI, .int), (cJ, .long)] t ∧ va_D (va_A (wX6 cI cJ ad m_code m_n m_built m_length m_begin m_many m_leastOf m_sizeOf m_own m_bestRow m_tryRow m_keptRow m_otherRow m_row m_formRow m_allForms m_rowsOf m_intervals m_places m_whole) sz) (wX6 cI cJ ad m_code' m_n m_built' m_length m_begin m_many m_leastOf' m_sizeOf' m_own m_bestRow m_tryRow m_keptRow m_otherRow m_row m_formRow m_allForms m_rowsOf m_intervals m_places m_whole)) (va_A (wX6 cI cJ ad m_code m_n m_built m_length m_begin m_many m_leastOf m_sizeOf m_own m_bestRow m_tryRow m_keptRow m_otherRow m_row m_formRow m_allForms m_rowsOf m_intervals m_places m_whole) sz)) args s 0 0 A) (F0 m 63 ls []) := by
    intro m_codek m_builtk m_leastOfk m_sizeOfk v2 H locs ls hP hD hS hl h
    unfold X6_twin_63 at h
    refine lv_iload_n hx hb dX6_twin_63 rfl (lv_at hl 0 rfl) ?_
    exact W.iret hx hb hr (fun t ht hW => QI (Ho_e h) (by rw [ht]; exact hP) (hK.warm hW) hD (hS.F ht)) hS.2.2 dX6_twin_64 hlk
  have J18 : ∀ (m_codek : Int32) (m_builtk : Int32) (m_leastOfk : Nat → Int32) (m_sizeOfk : Nat → Int32) (v2 : Int32) (H : Heap) (locs : List Loc) (ls : Array Slot), va_P (dC, dI) vwCl (wX6 cI cJ ad m_codek m_n m_builtk m_length m_begin m_many m_leastOfk m_sizeOfk m_own m_bestRow m_tryRow m_keptRow m_otherRow m_row m_formRow m_allForms m_rowsOf m_intervals m_places m_whole) H → va_D A (wX6 cI cJ ad m_codek m_n m_builtk m_length m_begin m_many m_leastOfk m_sizeOfk m_own m_bestRow m_tryRow m_keptRow m_otherRow m_row m_formRow m_allForms m_rowsOf m_intervals m_places m_whole) → va_S A s.heap H locs → lv_has ls 3 [(0, .ref (ad 0)), (1, .int x1), (2, .int v2)] → Ho ((X6_twin_18_l m_n x1 m_codek m_builtk m_leastOfk m_sizeOfk v2).bind (fun ex => Sum.elim (fun xy => X6_twin_63 m_codek xy.1 xy.2.1 xy.2.2.1 xy.2.2.2) (fun xy => X6_twin_71 m_codek xy.1 xy.2.1 xy.2.2) ex)) (fun x => x = (r, m_code', m_built', m_leastOf', m_sizeOf')) → W p l e rmX6_twin s m args below meth c H locs 0 0 (MQ below (va_Qi (fun (x : Int32) (_ : Unit) => x = r) (fun _ t => va_P (dC, dI) vwCl (wX6 cI cJ ad m_code' m_n m_built' m_length m_begin m_many m_leastOf' m_sizeOf' m_own m_bestRow m_tryRow m_keptRow m_otherRow m_row m_formRow m_allForms m_rowsOf m_intervals m_places m_whole) t.heap ∧ vK (dC, dI) [(cI, .int), (cJ, .long)] t ∧ va_D (va_A (wX6 cI cJ ad m_code m_n m_built m_length m_begin m_many m_leastOf m_sizeOf m_own m_bestRow m_tryRow m_keptRow m_otherRow m_row m_formRow m_allForms m_rowsOf m_intervals m_places m_whole) sz) (wX6 cI cJ ad m_code' m_n m_built' m_length m_begin m_many m_leastOf' m_sizeOf' m_own m_bestRow m_tryRow m_keptRow m_otherRow m_row m_formRow m_allForms m_rowsOf m_intervals m_places m_whole)) (va_A (wX6 cI cJ ad m_code m_n m_built m_length m_begin m_many m_leastOf m_sizeOf m_own m_bestRow m_tryRow m_keptRow m_otherRow m_row m_formRow m_allForms m_rowsOf m_intervals m_places m_whole) sz)) args s 0 0 A) (F0 m 18 ls []) := by
    intro m_codek m_builtk m_leastOfk m_sizeOfk v2 H locs ls hP hD hS hl h
    refine loop_use2 (fun z : Int32 × (Nat → Int32) × (Nat → Int32) × Int32 => ∀ (H : Heap) (locs : List Loc) (ls : Array Slot), va_P (dC, dI) vwCl (wX6 cI cJ ad m_codek m_n z.1 m_length m_begin m_many z.2.1 z.2.2.1 m_own m_bestRow m_tryRow m_keptRow m_otherRow m_row m_formRow m_allForms m_rowsOf m_intervals m_places m_whole) H → va_D A (wX6 cI cJ ad m_codek m_n z.1 m_length m_begin m_many z.2.1 z.2.2.1 m_own m_bestRow m_tryRow m_keptRow m_otherRow m_row m_formRow m_allForms m_rowsOf m_intervals m_places m_whole) → va_S A s.heap H locs → lv_has ls 3 [(0, .ref (ad 0)), (1, .int x1), (2, .int z.2.2.2)] → W p l e rmX6_twin s m args below meth c H locs 0 0 (MQ below (va_Qi (fun (x : Int32) (_ : Unit) => x = r) (fun _ t => va_P (dC, dI) vwCl (wX6 cI cJ ad m_code' m_n m_built' m_length m_begin m_many m_leastOf' m_sizeOf' m_own m_bestRow m_tryRow m_keptRow m_otherRow m_row m_formRow m_allForms m_rowsOf m_intervals m_places m_whole) t.heap ∧ vK (dC, dI) [(cI, .int), (cJ, .long)] t ∧ va_D (va_A (wX6 cI cJ ad m_code m_n m_built m_length m_begin m_many m_leastOf m_sizeOf m_own m_bestRow m_tryRow m_keptRow m_otherRow m_row m_formRow m_allForms m_rowsOf m_intervals m_places m_whole) sz) (wX6 cI cJ ad m_code' m_n m_built' m_length m_begin m_many m_leastOf' m_sizeOf' m_own m_bestRow m_tryRow m_keptRow m_otherRow m_row m_formRow m_allForms m_rowsOf m_intervals m_places m_whole)) (va_A (wX6 cI cJ ad m_code m_n m_built m_length m_begin m_many m_leastOf m_sizeOf m_own m_bestRow m_tryRow m_keptRow m_otherRow m_row m_formRow m_allForms m_rowsOf m_intervals m_places m_whole) sz)) args s 0 0 A) (F0 m 18 ls [])) ?_ FU _ h H locs ls hP hD hS hl
    intro Q18 hi18 ho18 z h H locs ls hP hD hS hl
    obtain ⟨m_builtk, m_leastOfk, m_sizeOfk, v2⟩ := z
    have h : Ho (X6_twin_18_s m_n x1 m_codek m_builtk m_leastOfk m_sizeOfk v2) Q18 := h
    unfold X6_twin_18_s at h
    have hl : lv_has ls 3 [(0, .ref (ad 0)), (1, .int x1), (2, .int v2)] := hl
    have hP : va_P (dC, dI) vwCl (wX6 cI cJ ad m_codek m_n m_builtk m_length m_begin m_many m_leastOfk m_sizeOfk m_own m_bestRow m_tryRow m_keptRow m_otherRow m_row m_formRow m_allForms m_rowsOf m_intervals m_places m_whole) H := hP
    have hD : va_D A (wX6 cI cJ ad m_codek m_n m_builtk m_length m_begin m_many m_leastOfk m_sizeOfk m_own m_bestRow m_tryRow m_keptRow m_otherRow m_row m_formRow m_allForms m_rowsOf m_intervals m_places m_whole) := hD
    refine lv_iload_n hx hb dX6_twin_18 rfl (lv_at hl 2 rfl) ?_
    refine lv_iconst (v := (1 : Int32)) hx hb dX6_twin_19 (by decide) ?_
    refine lv_aload_n hx hb dX6_twin_20 rfl (lv_at hl 0 rfl) ?_
    refine va_get (D := (dC, dI)) (ci := 6) (v := .int m_n) (C := RX6) (T := TX6) (N := 20) hx hb hts hiX6 hown hK.1 hP 0 rfl rfl 1 (by decide) hf7 (fun _ h9 => h9) rfl dX6_twin_21 ?_
    refine lv_ishl hx hb dX6_twin_24 ?_
    refine lv_icmp_ge (tgt := 71) hx hb dX6_twin_25 (by decide) (fun q25 => ?_) (fun q25 => ?_)
    · have h := Ho_t h q25
      have h := ho18 _ (Ho_s h)
      exact J71 m_codek m_builtk m_leastOfk m_sizeOfk _ _ ls hP hD hS (lv_sub hl [] rfl) h
    · have h := Ho_f h q25
      refine lv_iload_n hx hb dX6_twin_28 rfl (lv_at hl 2 rfl) ?_
      obtain ⟨r29, hc29, h⟩ := Ho_b h
      refine cs_i (va_runS (As := [.int v2]) (rest := []) hfix (c_X6_count l dC dI cI cJ  v2 _ hc29) (va_cwS 1 hts gX6_twin_X6_count rfl rfl rfl (by decide +kernel) ⟨by decide, by decide⟩) (roP.preS hK va_Pnil) rfl rfl hl.1 rfl (lv_room (Nat.le_of_ble_eq_true rfl)) dX6_twin_29 ⟨Nat.zero_le _, Nat.zero_le _⟩) ?_
      refine lv_iload_n hx hb dX6_twin_32 rfl (lv_at hl 1 rfl) ?_
      obtain ⟨r33, hc33, h⟩ := Ho_b h
      refine cs_i (va_runS (As := [.int x1]) (rest := [.int r29]) hfix (c_X6_count l dC dI cI cJ  x1 _ hc33) (va_cwS 1 hts gX6_twin_X6_count rfl rfl rfl (by decide +kernel) ⟨by decide, by decide⟩) (roP.preS hK va_Pnil) rfl rfl hl.1 rfl (lv_room (Nat.le_of_ble_eq_true rfl)) dX6_twin_33 ⟨Nat.zero_le _, Nat.zero_le _⟩) ?_
      refine lv_icmp_ne (tgt := 65) hx hb dX6_twin_36 (by decide) (fun q36 => ?_) (fun q36 => ?_)
      · have h := Ho_f h q36
        refine lv_iinc (v := v2 + 1) (lv' := [(2, .int (v2 + 1)), (0, .ref (ad 0)), (1, .int x1)]) hx hb dX6_twin_65 hl (k := 2) rfl rfl (by decide) rfl (fun ls hl => ?_)
        refine lv_goto (tgt := 18) hx hb dX6_twin_68 (by decide) ?_
        exact hi18 _ (Ho_s h) _ _ ls hP hD hS (lv_sub hl [1, 2, 0] rfl)
      · have h := Ho_t h q36
        refine lv_aload_n hx hb dX6_twin_39 rfl (lv_at hl 0 rfl) ?_
        refine lv_iconst (v := (1 : Int32)) hx hb dX6_twin_40 (by decide) ?_
        refine lv_iload_n hx hb dX6_twin_41 rfl (lv_at hl 2 rfl) ?_
        obtain ⟨r42, m_built_42, m_leastOf_42, m_sizeOf_42, hc42, h⟩ := Ho_b4 h
        have hPc : va_P (dC, dI) vwCl (wX6 cI cJ ad m_codek m_n m_builtk m_length m_begin m_many m_leastOfk m_sizeOfk m_own m_bestRow m_tryRow m_keptRow m_otherRow m_row m_formRow m_allForms m_rowsOf m_intervals m_places m_whole) H := hP.sub [0, 1, 2, 3, 4, 5, 6, 7, 8, 9, 10, 11, 12, 13, 14] rfl
        have hDc : va_D A (wX6 cI cJ ad m_codek m_n m_builtk m_length m_begin m_many m_leastOfk m_sizeOfk m_own m_bestRow m_tryRow m_keptRow m_otherRow m_row m_formRow m_allForms m_rowsOf m_intervals m_places m_whole) := hD.sub [0, 1, 2, 3, 4, 5, 6, 7, 8, 9, 10, 11, 12, 13, 14] (by decide) rfl
        have hFc := va_free (wc := (wX6 cI cJ ad m_codek m_n m_builtk m_length m_begin m_many m_leastOfk m_sizeOfk m_own m_bestRow m_tryRow m_keptRow m_otherRow m_row m_formRow m_allForms m_rowsOf m_intervals m_places m_whole)) hD hS hA [0, 1, 2, 3, 4, 5, 6, 7, 8, 9, 10, 11, 12, 13, 14] rfl
        refine va_calli (va_runV (As := [.int (1 : Int32), .int v2]) (rest := []) hfix (c_X6_leastIn l dC dI cI cJ ad H.size m_codek m_n m_builtk m_length m_begin m_many m_leastOfk m_sizeOfk m_own m_bestRow m_tryRow m_keptRow m_otherRow m_row m_formRow m_allForms m_rowsOf m_intervals m_places m_whole (1 : Int32) v2 _ _ _ _ hc42) (cwV 2 hts gX6_twin_X6_leastIn rfl rfl rfl (by decide +kernel) ⟨by decide, by decide⟩) (rwP.preV hK hPc hDc rfl (ci := 6) rfl rfl) rfl rfl hl.1 rfl (lv_room (Nat.le_of_ble_eq_true rfl)) dX6_twin_42 ⟨Nat.zero_le _, Nat.zero_le _⟩) hS (fun q _ h => hFc q h) hFc (fun y42 u t H1 locs ht hvm hw hB hz1 hk1 hS => ?_)
        obtain ⟨hP1, -, hD1⟩ := hB
        rw [ht] at hP1
        have hw : y42 = r42 := hw
        rw [hw]
        obtain ⟨hP, hD⟩ := va_join (wr := []) (w1 := (wX6 cI cJ ad m_codek m_n m_built_42 m_length m_begin m_many m_leastOf_42 m_sizeOf_42 m_own m_bestRow m_tryRow m_keptRow m_otherRow m_row m_formRow m_allForms m_rowsOf m_intervals m_places m_whole)) hP hD [0, 1, 2, 3, 4, 5, 6, 7, 8, 9, 10, 11, 12, 13, 14] [] rfl rfl (by decide) (by decide) hk1 hFc hP1 hD1
        generalize H1 = H at hP hS ⊢
        have hP : va_P (dC, dI) vwCl (wX6 cI cJ ad m_codek m_n m_built_42 m_length m_begin m_many m_leastOf_42 m_sizeOf_42 m_own m_bestRow m_tryRow m_keptRow m_otherRow m_row m_formRow m_allForms m_rowsOf m_intervals m_places m_whole) H := hP.sub [0, 1, 2, 3, 4, 5, 6, 7, 8, 9, 10, 11, 12, 13, 14] rfl
        have hD : va_D A (wX6 cI cJ ad m_codek m_n m_built_42 m_length m_begin m_many m_leastOf_42 m_sizeOf_42 m_own m_bestRow m_tryRow m_keptRow m_otherRow m_row m_formRow m_allForms m_rowsOf m_intervals m_places m_whole) := hD.sub [0, 1, 2, 3, 4, 5, 6, 7, 8, 9, 10, 11, 12, 13, 14] (by decide) rfl
        refine lv_aload_n hx hb dX6_twin_45 rfl (lv_at hl 0 rfl) ?_
        refine lv_iconst (v := (1 : Int32)) hx hb dX6_twin_46 (by decide) ?_
        refine lv_iload_n hx hb dX6_twin_47 rfl (lv_at hl 1 rfl) ?_
        obtain ⟨r48, m_built_48, m_leastOf_48, m_sizeOf_48, hc48, h⟩ := Ho_b4 h
        have hPc : va_P (dC, dI) vwCl (wX6 cI cJ ad m_codek m_n m_built_42 m_length m_begin m_many m_leastOf_42 m_sizeOf_42 m_own m_bestRow m_tryRow m_keptRow m_otherRow m_row m_formRow m_allForms m_rowsOf m_intervals m_places m_whole) H := hP.sub [0, 1, 2, 3, 4, 5, 6, 7, 8, 9, 10, 11, 12, 13, 14] rfl
        have hDc : va_D A (wX6 cI cJ ad m_codek m_n m_built_42 m_length m_begin m_many m_leastOf_42 m_sizeOf_42 m_own m_bestRow m_tryRow m_keptRow m_otherRow m_row m_formRow m_allForms m_rowsOf m_intervals m_places m_whole) := hD.sub [0, 1, 2, 3, 4, 5, 6, 7, 8, 9, 10, 11, 12, 13, 14] (by decide) rfl
        have hFc := va_free (wc := (wX6 cI cJ ad m_codek m_n m_built_42 m_length m_begin m_many m_leastOf_42 m_sizeOf_42 m_own m_bestRow m_tryRow m_keptRow m_otherRow m_row m_formRow m_allForms m_rowsOf m_intervals m_places m_whole)) hD hS hA [0, 1, 2, 3, 4, 5, 6, 7, 8, 9, 10, 11, 12, 13, 14] rfl
        refine va_calli (va_runV (As := [.int (1 : Int32), .int x1]) (rest := [.int r42]) hfix (c_X6_leastIn l dC dI cI cJ ad H.size m_codek m_n m_built_42 m_length m_begin m_many m_leastOf_42 m_sizeOf_42 m_own m_bestRow m_tryRow m_keptRow m_otherRow m_row m_formRow m_allForms m_rowsOf m_intervals m_places m_whole (1 : Int32) x1 _ _ _ _ hc48) (cwV 2 hts gX6_twin_X6_leastIn rfl rfl rfl (by decide +kernel) ⟨by decide, by decide⟩) (rwP.preV hK hPc hDc rfl (ci := 6) rfl rfl) rfl rfl hl.1 rfl (lv_room (Nat.le_of_ble_eq_true rfl)) dX6_twin_48 ⟨Nat.zero_le _, Nat.zero_le _⟩) hS (fun q _ h => hFc q h) hFc (fun y48 u t H1 locs ht hvm hw hB hz1 hk1 hS => ?_)
        obtain ⟨hP1, -, hD1⟩ := hB
        rw [ht] at hP1
        have hw : y48 = r48 := hw
        rw [hw]
        obtain ⟨hP, hD⟩ := va_join (wr := []) (w1 := (wX6 cI cJ ad m_codek m_n m_built_48 m_length m_begin m_many m_leastOf_48 m_sizeOf_48 m_own m_bestRow m_tryRow m_keptRow m_otherRow m_row m_formRow m_allForms m_rowsOf m_intervals m_places m_whole)) hP hD [0, 1, 2, 3, 4, 5, 6, 7, 8, 9, 10, 11, 12, 13, 14] [] rfl rfl (by decide) (by decide) hk1 hFc hP1 hD1
        generalize H1 = H at hP hS ⊢
        have hP : va_P (dC, dI) vwCl (wX6 cI cJ ad m_codek m_n m_built_48 m_length m_begin m_many m_leastOf_48 m_sizeOf_48 m_own m_bestRow m_tryRow m_keptRow m_otherRow m_row m_formRow m_allForms m_rowsOf m_intervals m_places m_whole) H := hP.sub [0, 1, 2, 3, 4, 5, 6, 7, 8, 9, 10, 11, 12, 13, 14] rfl
        have hD : va_D A (wX6 cI cJ ad m_codek m_n m_built_48 m_length m_begin m_many m_leastOf_48 m_sizeOf_48 m_own m_bestRow m_tryRow m_keptRow m_otherRow m_row m_formRow m_allForms m_rowsOf m_intervals m_places m_whole) := hD.sub [0, 1, 2, 3, 4, 5, 6, 7, 8, 9, 10, 11, 12, 13, 14] (by decide) rfl
        refine lv_icmp_eq (tgt := 65) hx hb dX6_twin_51 (by decide) (fun q51 => ?_) (fun q51 => ?_)
        · have h := Ho_t h q51
          refine lv_iinc (v := v2 + 1) (lv' := [(2, .int (v2 + 1)), (0, .ref (ad 0)), (1, .int x1)]) hx hb dX6_twin_65 hl (k := 2) rfl rfl (by decide) rfl (fun ls hl => ?_)
          refine lv_goto (tgt := 18) hx hb dX6_twin_68 (by decide) ?_
          exact hi18 _ (Ho_s h) _ _ ls hP hD hS (lv_sub hl [1, 2, 0] rfl)
        · have h := Ho_f h q51
          refine lv_aload_n hx hb dX6_twin_54 rfl (lv_at hl 0 rfl) ?_
          refine lv_iload_n hx hb dX6_twin_55 rfl (lv_at hl 1 rfl) ?_
          refine lv_iload_n hx hb dX6_twin_56 rfl (lv_at hl 2 rfl) ?_
          obtain ⟨r57, hc57, h⟩ := Ho_b h
          have hPc : va_P (dC, dI) vwCl (wX6 cI cJ ad m_codek m_n m_built_48 m_length m_begin m_many m_leastOf_48 m_sizeOf_48 m_own m_bestRow m_tryRow m_keptRow m_otherRow m_row m_formRow m_allForms m_rowsOf m_intervals m_places m_whole) H := hP.sub [0, 1, 2, 3, 4, 5, 6, 7, 8, 9, 10, 11, 12, 13, 14] rfl
          refine cs_i (va_runV (As := [.int x1, .int v2]) (rest := []) hfix (c_X6_isAlike l dC dI cI cJ ad m_codek m_n m_built_48 m_length m_begin m_many m_leastOf_48 m_sizeOf_48 m_own m_bestRow m_tryRow m_keptRow m_otherRow m_row m_formRow m_allForms m_rowsOf m_intervals m_places m_whole x1 v2 _ hc57) (cwV 2 hts gX6_twin_X6_isAlike rfl rfl rfl (by decide +kernel) ⟨by decide, by decide⟩) (roP.preV hK hPc (ci := 6) rfl rfl) rfl rfl hl.1 rfl (lv_room (Nat.le_of_ble_eq_true rfl)) dX6_twin_57 ⟨Nat.zero_le _, Nat.zero_le _⟩) ?_
          refine lv_if_eq (tgt := 65) hx hb dX6_twin_60 (by decide) (fun q60 => ?_) (fun q60 => ?_)
          · have h := Ho_t h q60
            refine lv_iinc (v := v2 + 1) (lv' := [(2, .int (v2 + 1)), (0, .ref (ad 0)), (1, .int x1)]) hx hb dX6_twin_65 hl (k := 2) rfl rfl (by decide) rfl (fun ls hl => ?_)
            refine lv_goto (tgt := 18) hx hb dX6_twin_68 (by decide) ?_
            exact hi18 _ (Ho_s h) _ _ ls hP hD hS (lv_sub hl [1, 2, 0] rfl)
          · have h := Ho_f h q60
            have h := ho18 _ (Ho_s h)
            exact J63 m_codek m_built_48 m_leastOf_48 m_sizeOf_48 v2 _ _ ls hP hD hS (lv_sub hl [2] rfl) h
  refine lv_aload_n hx hb dX6_twin_0 rfl (lv_at hl 0 rfl) ?_
  refine lv_iconst (v := (0 : Int32)) hx hb dX6_twin_1 (by decide) ?_
  refine va_put (D := (dC, dI)) (ci := 6) (v := .int (0 : Int32)) (ty := .int) (C := RX6) (T := TX6) (N := 20) hx hb hts hiX6 tyX6 tyX6_ok nmX6 hown hK.1 hP hD hS 0 rfl rfl 0 (by decide) hf57 (fun _ h9 => h9) rfl (by decide +kernel) rfl rfl (Nat.le_of_ble_eq_true rfl) dX6_twin_2 (fun H locs hP hD hS => ?_)
  have hP : va_P (dC, dI) vwCl (wX6 cI cJ ad (0 : Int32) m_n m_built m_length m_begin m_many m_leastOf m_sizeOf m_own m_bestRow m_tryRow m_keptRow m_otherRow m_row m_formRow m_allForms m_rowsOf m_intervals m_places m_whole) H := hP
  have hD : va_D A (wX6 cI cJ ad (0 : Int32) m_n m_built m_length m_begin m_many m_leastOf m_sizeOf m_own m_bestRow m_tryRow m_keptRow m_otherRow m_row m_formRow m_allForms m_rowsOf m_intervals m_places m_whole) := hD
  refine lv_aload_n hx hb dX6_twin_5 rfl (lv_at hl 0 rfl) ?_
  refine lv_iload_n hx hb dX6_twin_6 rfl (lv_at hl 1 rfl) ?_
  obtain ⟨r7, hc7, h⟩ := Ho_b h
  have hPc : va_P (dC, dI) vwCl (wX6 cI cJ ad (0 : Int32) m_n m_built m_length m_begin m_many m_leastOf m_sizeOf m_own m_bestRow m_tryRow m_keptRow m_otherRow m_row m_formRow m_allForms m_rowsOf m_intervals m_places m_whole) H := hP.sub [0, 1, 2, 3, 4, 5, 6, 7, 8, 9, 10, 11, 12, 13, 14] rfl
  refine cs_i (va_runV (As := [.int x1]) (rest := []) hfix (c_X6_isSet l dC dI cI cJ ad (0 : Int32) m_n m_built m_length m_begin m_many m_leastOf m_sizeOf m_own m_bestRow m_tryRow m_keptRow m_otherRow m_row m_formRow m_allForms m_rowsOf m_intervals m_places m_whole x1 _ hc7) (cwV 1 hts gX6_twin_X6_isSet rfl rfl rfl (by decide +kernel) ⟨by decide, by decide⟩) (roP.preV hK hPc (ci := 6) rfl rfl) rfl rfl hl.1 rfl (lv_room (Nat.le_of_ble_eq_true rfl)) dX6_twin_7 ⟨Nat.zero_le _, Nat.zero_le _⟩) ?_
  refine lv_if_ne (tgt := 16) hx hb dX6_twin_10 (by decide) (fun q10 => ?_) (fun q10 => ?_)
  · have h := Ho_f h q10
    refine lv_iconst (v := (0 : Int32)) hx hb dX6_twin_16 (by decide) ?_
    refine lv_istore_n (lv' := [(2, .int (0 : Int32)), (0, .ref (ad 0)), (1, .int x1)]) hx hb dX6_twin_17 rfl hl (by decide) rfl (fun ls hl => ?_)
    exact J18 (0 : Int32) m_built m_leastOf m_sizeOf (0 : Int32) _ _ ls hP hD hS (lv_sub hl [1, 2, 0] rfl) h
  · have h := Ho_t h q10
    refine lv_bipush (v := (-2 : Int32)) hx hb dX6_twin_13 (by decide) ?_
    exact W.iret hx hb hr (fun t ht hW => QI (Ho_e h) (by rw [ht]; exact hP) (hK.warm hW) hD (hS.F ht)) hS.2.2 dX6_twin_15 hlk
