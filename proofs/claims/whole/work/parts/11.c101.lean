abbrev rmX1_ofSize : Room := { frames := 5, cells := 0, slots := 0, locals := 112 }
set_option maxHeartbeats 4000000 in
set_option maxRecDepth 100000 in
theorem c_X1_ofSize (l : Launch) (dC : Nat → ClassId) (dI : Nat → Nat → Nat) (cI cJ : ClassId) (h0 hc ha : Nat) (sz : Nat) (kd : Int32) (ld : Int32) (n : Int32) (ev : Int32) (f : Nat → Int32) (x1 : Int32) (x2 : Int32) (r : Int32) (ld' : Int32) (f' : Nat → Int32) (hF : FX1_ofSize kd ld n ev f x1 x2 = some (r, ld', f')) : Met l yX1_ofSize wsX1_ofSize rmX1_ofSize (rwP (dC, dI) [(cI, .int), (cJ, .long)] sz [(h0, .inr (1, [.ref hc, .int kd, .ref ha, .int ld])), (hc, .inr (0, [.int n, .int ev])), (ha, .inl (cI, 352, .inl f))] [.ref h0, .int x1, .int x2]) (va_Qi (fun (x : Int32) (_ : Unit) => x = r) (fun _ t => va_P (dC, dI) vwCl [(h0, .inr (1, [.ref hc, .int kd, .ref ha, .int ld'])), (hc, .inr (0, [.int n, .int ev])), (ha, .inl (cI, 352, .inl f'))] t.heap ∧ vK (dC, dI) [(cI, .int), (cJ, .long)] t ∧ va_D (va_A [(h0, .inr (1, [.ref hc, .int kd, .ref ha, .int ld])), (hc, .inr (0, [.int n, .int ev])), (ha, .inl (cI, 352, .inl f))] sz) [(h0, .inr (1, [.ref hc, .int kd, .ref ha, .int ld'])), (hc, .inr (0, [.int n, .int ev])), (ha, .inl (cI, 352, .inl f'))]) (va_A [(h0, .inr (1, [.ref hc, .int kd, .ref ha, .int ld])), (hc, .inr (0, [.int n, .int ev])), (ha, .inl (cI, 352, .inl f))] sz)) 0 0 (va_A [(h0, .inr (1, [.ref hc, .int kd, .ref ha, .int ld])), (hc, .inr (0, [.int n, .int ev])), (ha, .inl (cI, 352, .inl f))] sz) := by
  refine rw_start (cc := cX1_ofSize) (maxL := 6) (ret := (some .int)) (by decide) rfl (Nat.le_of_ble_eq_true rfl) ?_
  intro p e s m args below meth c ls A H locs hx hb hml hr hlk hown hts hsz hP hK hD hA hS hAe hl
  have hown : s.vm.findClass RX1 = some m.cls := hown
  have hl : lv_has ls 6 [(0, .ref h0), (1, .int x1), (2, .int x2)] := hl
  have h : Ho (FX1_ofSize kd ld n ev f x1 x2) (fun x => x = (r, ld', f')) := ⟨_, hF, rfl⟩
  unfold FX1_ofSize at h
  have QI : ∀ {v0 : Int32} {ld9 : Int32} {f9 : Nat → Int32} {t : State}, (v0, ld9, f9) = (r, ld', f') → va_P (dC, dI) vwCl [(h0, .inr (1, [.ref hc, .int kd, .ref ha, .int ld9])), (hc, .inr (0, [.int n, .int ev])), (ha, .inl (cI, 352, .inl f9))] t.heap → vK (dC, dI) [(cI, .int), (cJ, .long)] t → va_D A [(h0, .inr (1, [.ref hc, .int kd, .ref ha, .int ld9])), (hc, .inr (0, [.int n, .int ev])), (ha, .inl (cI, 352, .inl f9))] → va_F A s t → (va_Qi (fun (x : Int32) (_ : Unit) => x = r) (fun _ t => va_P (dC, dI) vwCl [(h0, .inr (1, [.ref hc, .int kd, .ref ha, .int ld'])), (hc, .inr (0, [.int n, .int ev])), (ha, .inl (cI, 352, .inl f'))] t.heap ∧ vK (dC, dI) [(cI, .int), (cJ, .long)] t ∧ va_D (va_A [(h0, .inr (1, [.ref hc, .int kd, .ref ha, .int ld])), (hc, .inr (0, [.int n, .int ev])), (ha, .inl (cI, 352, .inl f))] sz) [(h0, .inr (1, [.ref hc, .int kd, .ref ha, .int ld'])), (hc, .inr (0, [.int n, .int ev])), (ha, .inl (cI, 352, .inl f'))]) (va_A [(h0, .inr (1, [.ref hc, .int kd, .ref ha, .int ld])), (hc, .inr (0, [.int n, .int ev])), (ha, .inl (cI, 352, .inl f))] sz)) args s (.returned (some (.int v0))) t := by
    intro v0 ld9 f9 t e9 q1 q2 q3 q4
    cases e9
    subst hAe
    exact ⟨⟨_, (), rfl, rfl, q1, q2, q3⟩, q4⟩
  have hfix : CallFix p m c cX1_ofSize 6 s args wsX1_ofSize RX1 := ⟨hx, hb, hml, hown, hts⟩
  have J52 : ∀ (ldk : Int32) (fk : Nat → Int32) (H : Heap) (locs : List Loc) (ls : Array Slot), va_P (dC, dI) vwCl [(h0, .inr (1, [.ref hc, .int kd, .ref ha, .int ldk])), (hc, .inr (0, [.int n, .int ev])), (ha, .inl (cI, 352, .inl fk))] H → va_D A [(h0, .inr (1, [.ref hc, .int kd, .ref ha, .int ldk])), (hc, .inr (0, [.int n, .int ev])), (ha, .inl (cI, 352, .inl fk))] → va_S A s.heap H locs → lv_has ls 6 [] → Ho (X1_ofSize_52 ldk fk) (fun x => x = (r, ld', f')) → W p l e rmX1_ofSize s m args below meth c H locs 0 0 (MQ below (va_Qi (fun (x : Int32) (_ : Unit) => x = r) (fun _ t => va_P (dC, dI) vwCl [(h0, .inr (1, [.ref hc, .int kd, .ref ha, .int ld'])), (hc, .inr (0, [.int n, .int ev])), (ha, .inl (cI, 352, .inl f'))] t.heap ∧ vK (dC, dI) [(cI, .int), (cJ, .long)] t ∧ va_D (va_A [(h0, .inr (1, [.ref hc, .int kd, .ref ha, .int ld])), (hc, .inr (0, [.int n, .int ev])), (ha, .inl (cI, 352, .inl f))] sz) [(h0, .inr (1, [.ref hc, .int kd, .ref ha, .int ld'])), (hc, .inr (0, [.int n, .int ev])), (ha, .inl (cI, 352, .inl f'))]) (va_A [(h0, .inr (1, [.ref hc, .int kd, .ref ha, .int ld])), (hc, .inr (0, [.int n, .int ev])), (ha, .inl (cI, 352, .inl f))] sz)) args s 0 0 A) (F0 m 52 ls []) := by
    intro ldk fk H locs ls hP hD hS hl h
    unfold X1_ofSize_52 at h
    refine lv_iconst (v := (-1 : Int32)) hx hb dX1_ofSize_52 (by decide) ?_
    exact W.iret hx hb hr (fun t ht hW => QI (Ho_e h) (by rw [ht]; exact hP) (hK.warm hW) hD (hS.F ht)) hS.2.2 dX1_ofSize_53 hlk
  have J36 : ∀ (ldk : Int32) (fk : Nat → Int32) (v5 : Int32) (H : Heap) (locs : List Loc) (ls : Array Slot), va_P (dC, dI) vwCl [(h0, .inr (1, [.ref hc, .int kd, .ref ha, .int ldk])), (hc, .inr (0, [.int n, .int ev])), (ha, .inl (cI, 352, .inl fk))] H → va_D A [(h0, .inr (1, [.ref hc, .int kd, .ref ha, .int ldk])), (hc, .inr (0, [.int n, .int ev])), (ha, .inl (cI, 352, .inl fk))] → va_S A s.heap H locs → lv_has ls 6 [(0, .ref h0), (5, .int v5)] → Ho (X1_ofSize_36 ldk fk v5) (fun x => x = (r, ld', f')) → W p l e rmX1_ofSize s m args below meth c H locs 0 0 (MQ below (va_Qi (fun (x : Int32) (_ : Unit) => x = r) (fun _ t => va_P (dC, dI) vwCl [(h0, .inr (1, [.ref hc, .int kd, .ref ha, .int ld'])), (hc, .inr (0, [.int n, .int ev])), (ha, .inl (cI, 352, .inl f'))] t.heap ∧ vK (dC, dI) [(cI, .int), (cJ, .long)] t ∧ va_D (va_A [(h0, .inr (1, [.ref hc, .int kd, .ref ha, .int ld])), (hc, .inr (0, [.int n, .int ev])), (ha, .inl (cI, 352, .inl f))] sz) [(h0, .inr (1, [.ref hc, .int kd, .ref ha, .int ld'])), (hc, .inr (0, [.int n, .int ev])), (ha, .inl (cI, 352, .inl f'))]) (va_A [(h0, .inr (1, [.ref hc, .int kd, .ref ha, .int ld])), (hc, .inr (0, [.int n, .int ev])), (ha, .inl (cI, 352, .inl f))] sz)) args s 0 0 A) (F0 m 36 ls []) := by
    intro ldk fk v5 H locs ls hP hD hS hl h
    unfold X1_ofSize_36 at h
    refine lv_aload_n hx hb dX1_ofSize_36 rfl (lv_at hl 0 rfl) ?_
    refine lv_iload hx hb dX1_ofSize_37 (lv_at hl 1 rfl) ?_
    obtain ⟨r39, hc39, h⟩ := Ho_b h
    have hPc : va_P (dC, dI) vwCl [(h0, .inr (1, [.ref hc, .int kd, .ref ha, .int ldk])), (hc, .inr (0, [.int n, .int ev])), (ha, .inl (cI, 352, .inl fk))] H := hP.sub [0, 1, 2] rfl
    refine cs_i (va_runV (As := [.int v5]) (rest := []) hfix (c_X1_at l dC dI cI cJ h0 hc ha kd ldk n ev fk v5 _ hc39) (cwV 1 hts gX1_ofSize_X1_at rfl rfl rfl (by decide +kernel) ⟨by decide, by decide⟩) (roP.preV hK hPc (ci := 1) rfl rfl) rfl rfl hl.1 rfl (lv_room (Nat.le_of_ble_eq_true rfl)) dX1_ofSize_39 ⟨Nat.zero_le _, Nat.zero_le _⟩) ?_
    exact W.iret hx hb hr (fun t ht hW => QI (Ho_e h) (by rw [ht]; exact hP) (hK.warm hW) hD (hS.F ht)) hS.2.2 dX1_ofSize_42 hlk
  have J11 : ∀ (ldk : Int32) (fk : Nat → Int32) (v3 : Int32) (v4 : Int32) (v5 : Int32) (H : Heap) (locs : List Loc) (ls : Array Slot), va_P (dC, dI) vwCl [(h0, .inr (1, [.ref hc, .int kd, .ref ha, .int ldk])), (hc, .inr (0, [.int n, .int ev])), (ha, .inl (cI, 352, .inl fk))] H → va_D A [(h0, .inr (1, [.ref hc, .int kd, .ref ha, .int ldk])), (hc, .inr (0, [.int n, .int ev])), (ha, .inl (cI, 352, .inl fk))] → va_S A s.heap H locs → lv_has ls 6 [(0, .ref h0), (1, .int x1), (2, .int x2), (3, .int v3), (4, .int v4), (5, .int v5)] → Ho ((X1_ofSize_11_l x1 x2 ldk fk v4 v3 v5).bind (fun ex => Sum.elim (fun xy => X1_ofSize_36 ldk fk xy) (fun xy => X1_ofSize_52 ldk fk) ex)) (fun x => x = (r, ld', f')) → W p l e rmX1_ofSize s m args below meth c H locs 0 0 (MQ below (va_Qi (fun (x : Int32) (_ : Unit) => x = r) (fun _ t => va_P (dC, dI) vwCl [(h0, .inr (1, [.ref hc, .int kd, .ref ha, .int ld'])), (hc, .inr (0, [.int n, .int ev])), (ha, .inl (cI, 352, .inl f'))] t.heap ∧ vK (dC, dI) [(cI, .int), (cJ, .long)] t ∧ va_D (va_A [(h0, .inr (1, [.ref hc, .int kd, .ref ha, .int ld])), (hc, .inr (0, [.int n, .int ev])), (ha, .inl (cI, 352, .inl f))] sz) [(h0, .inr (1, [.ref hc, .int kd, .ref ha, .int ld'])), (hc, .inr (0, [.int n, .int ev])), (ha, .inl (cI, 352, .inl f'))]) (va_A [(h0, .inr (1, [.ref hc, .int kd, .ref ha, .int ld])), (hc, .inr (0, [.int n, .int ev])), (ha, .inl (cI, 352, .inl f))] sz)) args s 0 0 A) (F0 m 11 ls []) := by
    intro ldk fk v3 v4 v5 H locs ls hP hD hS hl h
    refine loop_use2 (fun z : Int32 × Int32 => ∀ (H : Heap) (locs : List Loc) (ls : Array Slot), va_P (dC, dI) vwCl [(h0, .inr (1, [.ref hc, .int kd, .ref ha, .int ldk])), (hc, .inr (0, [.int n, .int ev])), (ha, .inl (cI, 352, .inl fk))] H → va_D A [(h0, .inr (1, [.ref hc, .int kd, .ref ha, .int ldk])), (hc, .inr (0, [.int n, .int ev])), (ha, .inl (cI, 352, .inl fk))] → va_S A s.heap H locs → lv_has ls 6 [(0, .ref h0), (1, .int x1), (2, .int x2), (3, .int z.1), (4, .int v4), (5, .int z.2)] → W p l e rmX1_ofSize s m args below meth c H locs 0 0 (MQ below (va_Qi (fun (x : Int32) (_ : Unit) => x = r) (fun _ t => va_P (dC, dI) vwCl [(h0, .inr (1, [.ref hc, .int kd, .ref ha, .int ld'])), (hc, .inr (0, [.int n, .int ev])), (ha, .inl (cI, 352, .inl f'))] t.heap ∧ vK (dC, dI) [(cI, .int), (cJ, .long)] t ∧ va_D (va_A [(h0, .inr (1, [.ref hc, .int kd, .ref ha, .int ld])), (hc, .inr (0, [.int n, .int ev])), (ha, .inl (cI, 352, .inl f))] sz) [(h0, .inr (1, [.ref hc, .int kd, .ref ha, .int ld'])), (hc, .inr (0, [.int n, .int ev])), (ha, .inl (cI, 352, .inl f'))]) (va_A [(h0, .inr (1, [.ref hc, .int kd, .ref ha, .int ld])), (hc, .inr (0, [.int n, .int ev])), (ha, .inl (cI, 352, .inl f))] sz)) args s 0 0 A) (F0 m 11 ls [])) ?_ FU _ h H locs ls hP hD hS hl
    intro Q11 hi11 ho11 z h H locs ls hP hD hS hl
    obtain ⟨v3, v5⟩ := z
    have h : Ho (X1_ofSize_11_s x1 x2 ldk fk v4 v3 v5) Q11 := h
    unfold X1_ofSize_11_s at h
    have hl : lv_has ls 6 [(0, .ref h0), (1, .int x1), (2, .int x2), (3, .int v3), (4, .int v4), (5, .int v5)] := hl
    have hP : va_P (dC, dI) vwCl [(h0, .inr (1, [.ref hc, .int kd, .ref ha, .int ldk])), (hc, .inr (0, [.int n, .int ev])), (ha, .inl (cI, 352, .inl fk))] H := hP
    have hD : va_D A [(h0, .inr (1, [.ref hc, .int kd, .ref ha, .int ldk])), (hc, .inr (0, [.int n, .int ev])), (ha, .inl (cI, 352, .inl fk))] := hD
    refine lv_iload hx hb dX1_ofSize_11 (lv_at hl 5 rfl) ?_
    refine lv_iload hx hb dX1_ofSize_13 (lv_at hl 4 rfl) ?_
    refine lv_icmp_ge (tgt := 52) hx hb dX1_ofSize_15 (by decide) (fun q15 => ?_) (fun q15 => ?_)
    · have h := Ho_t h q15
      have h := ho11 _ (Ho_s h)
      exact J52 ldk fk _ _ ls hP hD hS (lv_sub hl [] rfl) h
    · have h := Ho_f h q15
      refine lv_aload_n hx hb dX1_ofSize_18 rfl (lv_at hl 0 rfl) ?_
      refine lv_iload hx hb dX1_ofSize_19 (lv_at hl 5 rfl) ?_
      obtain ⟨r21, hc21, h⟩ := Ho_b h
      have hPc : va_P (dC, dI) vwCl [(h0, .inr (1, [.ref hc, .int kd, .ref ha, .int ldk])), (hc, .inr (0, [.int n, .int ev])), (ha, .inl (cI, 352, .inl fk))] H := hP.sub [0, 1, 2] rfl
      refine cs_i (va_runV (As := [.int v5]) (rest := []) hfix (c_X1_at l dC dI cI cJ h0 hc ha kd ldk n ev fk v5 _ hc21) (cwV 1 hts gX1_ofSize_X1_at rfl rfl rfl (by decide +kernel) ⟨by decide, by decide⟩) (roP.preV hK hPc (ci := 1) rfl rfl) rfl rfl hl.1 rfl (lv_room (Nat.le_of_ble_eq_true rfl)) dX1_ofSize_21 ⟨Nat.zero_le _, Nat.zero_le _⟩) ?_
      obtain ⟨r24, hc24, h⟩ := Ho_b h
      refine cs_i (va_runS (As := [.int r21]) (rest := []) hfix (c_J6_bitCount_0f7a4 l dC dI cI cJ  r21 _ hc24) (va_cwS 1 hts gX1_ofSize_J6_bitCount_0f7a4 rfl rfl rfl (by decide +kernel) ⟨by decide, by decide⟩) (roP.preS hK va_Pnil) rfl rfl hl.1 rfl (lv_room (Nat.le_of_ble_eq_true rfl)) dX1_ofSize_24 ⟨Nat.zero_le _, Nat.zero_le _⟩) ?_
      refine lv_iload_n hx hb dX1_ofSize_27 rfl (lv_at hl 1 rfl) ?_
      refine lv_icmp_ne (tgt := 46) hx hb dX1_ofSize_28 (by decide) (fun q28 => ?_) (fun q28 => ?_)
      · have h := Ho_f h q28
        refine lv_iinc (v := v5 + 1) (lv' := [(5, .int (v5 + 1)), (0, .ref h0), (1, .int x1), (2, .int x2), (3, .int v3), (4, .int v4)]) hx hb dX1_ofSize_46 hl (k := 5) rfl rfl (by decide) rfl (fun ls hl => ?_)
        refine lv_goto (tgt := 11) hx hb dX1_ofSize_49 (by decide) ?_
        exact hi11 _ (Ho_s h) _ _ ls hP hD hS (lv_sub hl [1, 2, 3, 4, 5, 0] rfl)
      · have h := Ho_t h q28
        refine lv_iload_n hx hb dX1_ofSize_31 rfl (lv_at hl 3 rfl) ?_
        refine lv_iload_n hx hb dX1_ofSize_32 rfl (lv_at hl 2 rfl) ?_
        refine lv_icmp_ne (tgt := 43) hx hb dX1_ofSize_33 (by decide) (fun q33 => ?_) (fun q33 => ?_)
        · have h := Ho_f h q33
          refine lv_iinc (v := v3 + 1) (lv' := [(3, .int (v3 + 1)), (0, .ref h0), (1, .int x1), (2, .int x2), (4, .int v4), (5, .int v5)]) hx hb dX1_ofSize_43 hl (k := 3) rfl rfl (by decide) rfl (fun ls hl => ?_)
          refine lv_iinc (v := v5 + 1) (lv' := [(5, .int (v5 + 1)), (3, .int (v3 + 1)), (0, .ref h0), (1, .int x1), (2, .int x2), (4, .int v4)]) hx hb dX1_ofSize_46 hl (k := 5) rfl rfl (by decide) rfl (fun ls hl => ?_)
          refine lv_goto (tgt := 11) hx hb dX1_ofSize_49 (by decide) ?_
          exact hi11 _ (Ho_s h) _ _ ls hP hD hS (lv_sub hl [2, 3, 4, 1, 5, 0] rfl)
        · have h := Ho_t h q33
          have h := ho11 _ (Ho_s h)
          exact J36 ldk fk v5 _ _ ls hP hD hS (lv_sub hl [0, 5] rfl) h
  refine lv_iconst (v := (0 : Int32)) hx hb dX1_ofSize_0 (by decide) ?_
  refine lv_istore_n (lv' := [(3, .int (0 : Int32)), (0, .ref h0), (1, .int x1), (2, .int x2)]) hx hb dX1_ofSize_1 rfl hl (by decide) rfl (fun ls hl => ?_)
  refine lv_aload_n hx hb dX1_ofSize_2 rfl (lv_at hl 1 rfl) ?_
  obtain ⟨r3, ld_3, f_3, hc3, h⟩ := Ho_b3 h
  have hPc : va_P (dC, dI) vwCl [(h0, .inr (1, [.ref hc, .int kd, .ref ha, .int ld])), (hc, .inr (0, [.int n, .int ev])), (ha, .inl (cI, 352, .inl f))] H := hP.sub [0, 1, 2] rfl
  have hDc : va_D A [(h0, .inr (1, [.ref hc, .int kd, .ref ha, .int ld])), (hc, .inr (0, [.int n, .int ev])), (ha, .inl (cI, 352, .inl f))] := hD.sub [0, 1, 2] (by decide) rfl
  have hFc := va_free (wc := [(h0, .inr (1, [.ref hc, .int kd, .ref ha, .int ld])), (hc, .inr (0, [.int n, .int ev])), (ha, .inl (cI, 352, .inl f))]) hD hS hA [0, 1, 2] rfl
  refine va_calli (va_runV (As := []) (rest := []) hfix (c_X1_count l dC dI cI cJ h0 hc ha H.size kd ld n ev f _ _ _ hc3) (cwV 0 hts gX1_ofSize_X1_count rfl rfl rfl (by decide +kernel) ⟨by decide, by decide⟩) (rwP.preV hK hPc hDc rfl (ci := 1) rfl rfl) rfl rfl hl.1 rfl (lv_room (Nat.le_of_ble_eq_true rfl)) dX1_ofSize_3 ⟨Nat.zero_le _, Nat.zero_le _⟩) hS (fun q _ h => hFc q h) hFc (fun y3 u t H1 locs ht hvm hw hB hz1 hk1 hS => ?_)
  obtain ⟨hP1, -, hD1⟩ := hB
  rw [ht] at hP1
  have hw : y3 = r3 := hw
  rw [hw]
  obtain ⟨hP, hD⟩ := va_join (wr := []) (w1 := [(h0, .inr (1, [.ref hc, .int kd, .ref ha, .int ld_3])), (hc, .inr (0, [.int n, .int ev])), (ha, .inl (cI, 352, .inl f_3))]) hP hD [0, 1, 2] [] rfl rfl (by decide) (by decide) hk1 hFc hP1 hD1
  generalize H1 = H at hP hS ⊢
  have hP : va_P (dC, dI) vwCl [(h0, .inr (1, [.ref hc, .int kd, .ref ha, .int ld_3])), (hc, .inr (0, [.int n, .int ev])), (ha, .inl (cI, 352, .inl f_3))] H := hP.sub [0, 1, 2] rfl
  have hD : va_D A [(h0, .inr (1, [.ref hc, .int kd, .ref ha, .int ld_3])), (hc, .inr (0, [.int n, .int ev])), (ha, .inl (cI, 352, .inl f_3))] := hD.sub [0, 1, 2] (by decide) rfl
  refine lv_istore (lv' := [(4, .int r3), (3, .int (0 : Int32)), (0, .ref h0), (1, .int x1), (2, .int x2)]) hx hb dX1_ofSize_6 hl (by decide) rfl (fun ls hl => ?_)
  refine lv_iconst (v := (0 : Int32)) hx hb dX1_ofSize_8 (by decide) ?_
  refine lv_istore (lv' := [(5, .int (0 : Int32)), (4, .int r3), (3, .int (0 : Int32)), (0, .ref h0), (1, .int x1), (2, .int x2)]) hx hb dX1_ofSize_9 hl (by decide) rfl (fun ls hl => ?_)
  exact J11 ld_3 f_3 (0 : Int32) r3 (0 : Int32) _ _ ls hP hD hS (lv_sub hl [3, 4, 5, 2, 1, 0] rfl) h
abbrev rmX2_distances : Room := { frames := 1, cells := 0, slots := 0, locals := 22 }
set_option maxHeartbeats 4000000 in
set_option maxRecDepth 100000 in
theorem c_X2_distances (l : Launch) (dC : Nat → ClassId) (dI : Nat → Nat → Nat) (cI cJ : ClassId) (h0 hc : Nat) (n : Int32) (ev : Int32) (x1 : Int32) (x2 : Int32) (r : Int32) (hF : FX2_distances n ev x1 x2 = some r) : Met l yX2_distances wsX2_distances rmX2_distances (roP (dC, dI) [(cI, .int), (cJ, .long)] [(h0, .inr (2, [.ref hc])), (hc, .inr (0, [.int n, .int ev]))] [.ref h0, .int x1, .int x2]) (vp_Si (fun x => x = r)) 0 0 (fun _ => False) := by
  refine ro_start (cc := cX2_distances) (maxL := 3) (ret := (some .int)) (by decide) rfl (Nat.le_of_ble_eq_true rfl) ?_
  intro p e s m args below meth c ls hx hb hml hr hlk hown hts hP hK hl
  have hown : s.vm.findClass RX2 = some m.cls := hown
  have hl : lv_has ls 3 [(0, .ref h0), (1, .int x1), (2, .int x2)] := hl
  have h : Ho (FX2_distances n ev x1 x2) (fun x => x = r) := ⟨r, hF, rfl⟩
  unfold FX2_distances at h
  have hfix : CallFix p m c cX2_distances 3 s args wsX2_distances RX2 := ⟨hx, hb, hml, hown, hts⟩
  have hiX2 : ∀ w ∈ u_ws RX2 TX2 1, w ∈ wsX2_distances := by decide +kernel
  have hf7 := hts (.fieldLink RX2 7 "RowClasses$Orders" "circle" "LRowClasses$Circle;") (by decide +kernel)
  refine lv_aload_n hx hb dX2_distances_0 rfl (lv_at hl 0 rfl) ?_
  refine va_get (D := (dC, dI)) (ci := 2) (v := .ref hc) (C := RX2) (T := TX2) (N := 1) hx hb hts hiX2 hown hK.1 hP 0 rfl rfl 0 (by decide) hf7 (fun _ h9 => h9) rfl dX2_distances_1 ?_
  refine lv_iload_n hx hb dX2_distances_4 rfl (lv_at hl 1 rfl) ?_
  refine lv_aload_n hx hb dX2_distances_5 rfl (lv_at hl 0 rfl) ?_
  refine va_get (D := (dC, dI)) (ci := 2) (v := .ref hc) (C := RX2) (T := TX2) (N := 1) hx hb hts hiX2 hown hK.1 hP 0 rfl rfl 0 (by decide) hf7 (fun _ h9 => h9) rfl dX2_distances_6 ?_
  obtain ⟨r9, hc9, h⟩ := Ho_b h
  have hPc : va_P (dC, dI) vwCl [(hc, .inr (0, [.int n, .int ev]))] s.heap := hP.sub [1] rfl
  refine cs_i (va_runV (As := []) (rest := [.int x1, .ref hc]) hfix (c_X0_count l dC dI cI cJ hc n ev _ hc9) (cwV 0 hts gX2_distances_X0_count rfl rfl rfl (by decide +kernel) ⟨by decide, by decide⟩) (roP.preV hK hPc (ci := 0) rfl rfl) rfl rfl hl.1 rfl (lv_room (Nat.le_of_ble_eq_true rfl)) dX2_distances_9 ⟨Nat.zero_le _, Nat.zero_le _⟩) ?_
  refine lv_iload_n hx hb dX2_distances_12 rfl (lv_at hl 2 rfl) ?_
  refine lv_isub hx hb dX2_distances_13 ?_
  obtain ⟨r14, hc14, h⟩ := Ho_b h
  have hPc : va_P (dC, dI) vwCl [(hc, .inr (0, [.int n, .int ev]))] s.heap := hP.sub [1] rfl
  refine cs_i (va_runV (As := [.int x1, .int (r9 - x2)]) (rest := []) hfix (c_X0_turned l dC dI cI cJ hc n ev x1 (r9 - x2) _ hc14) (cwV 2 hts gX2_distances_X0_turned rfl rfl rfl (by decide +kernel) ⟨by decide, by decide⟩) (roP.preV hK hPc (ci := 0) rfl rfl) rfl rfl hl.1 rfl (lv_room (Nat.le_of_ble_eq_true rfl)) dX2_distances_14 ⟨Nat.zero_le _, Nat.zero_le _⟩) ?_
  exact W.iret hx hb hr (fun t ht _ => ro_Si (Ho_e h) ht) ro_nil dX2_distances_17 hlk
abbrev rmX2_isLesserFromFirst : Room := { frames := 0, cells := 0, slots := 0, locals := 0 }
set_option maxHeartbeats 4000000 in
set_option maxRecDepth 100000 in
theorem c_X2_isLesserFromFirst (l : Launch) (dC : Nat → ClassId) (dI : Nat → Nat → Nat) (cI cJ : ClassId) (x0 : Int32) (x1 : Int32) (r : Int32) (hF : FX2_isLesserFromFirst x0 x1 = some r) : Met l yX2_isLesserFromFirst wsX2_isLesserFromFirst rmX2_isLesserFromFirst (roP (dC, dI) [(cI, .int), (cJ, .long)] [] [.int x0, .int x1]) (vp_Si (fun x => x = r)) 0 0 (fun _ => False) := by
  refine ro_start (cc := cX2_isLesserFromFirst) (maxL := 4) (ret := (some .boolean)) (by decide) rfl (Nat.le_of_ble_eq_true rfl) ?_
  intro p e s m args below meth c ls hx hb hml hr hlk hown hts hP hK hl
  have hown : s.vm.findClass RX2 = some m.cls := hown
  have hl : lv_has ls 4 [(0, .int x0), (1, .int x1)] := hl
  have h : Ho (FX2_isLesserFromFirst x0 x1) (fun x => x = r) := ⟨r, hF, rfl⟩
  unfold FX2_isLesserFromFirst at h
  have hfix : CallFix p m c cX2_isLesserFromFirst 4 s args wsX2_isLesserFromFirst RX2 := ⟨hx, hb, hml, hown, hts⟩
  refine lv_iload_n hx hb dX2_isLesserFromFirst_0 rfl (lv_at hl 0 rfl) ?_
  refine lv_iload_n hx hb dX2_isLesserFromFirst_1 rfl (lv_at hl 1 rfl) ?_
  refine lv_ixor hx hb dX2_isLesserFromFirst_2 ?_
  refine lv_istore_n (lv' := [(2, .int (x0 ^^^ x1)), (0, .int x0), (1, .int x1)]) hx hb dX2_isLesserFromFirst_3 rfl hl (by decide) rfl (fun ls hl => ?_)
  refine lv_iload_n hx hb dX2_isLesserFromFirst_4 rfl (lv_at hl 0 rfl) ?_
  refine lv_iload_n hx hb dX2_isLesserFromFirst_5 rfl (lv_at hl 0 rfl) ?_
  refine lv_ineg hx hb dX2_isLesserFromFirst_6 ?_
  refine lv_iand hx hb dX2_isLesserFromFirst_7 ?_
  refine lv_istore_n (lv' := [(3, .int ((x0 ^^^ x1) &&& (-(x0 ^^^ x1)))), (2, .int (x0 ^^^ x1)), (0, .int x0), (1, .int x1)]) hx hb dX2_isLesserFromFirst_8 rfl hl (by decide) rfl (fun ls hl => ?_)
  refine lv_iload_n hx hb dX2_isLesserFromFirst_9 rfl (lv_at hl 2 rfl) ?_
  refine lv_iload_n hx hb dX2_isLesserFromFirst_10 rfl (lv_at hl 0 rfl) ?_
  refine lv_iand hx hb dX2_isLesserFromFirst_11 ?_
  refine lv_if_eq (tgt := 19) hx hb dX2_isLesserFromFirst_12 (by decide) (fun q12 => ?_) (fun q12 => ?_)
  · have h := Ho_t h q12
    refine lv_iconst (v := (0 : Int32)) hx hb dX2_isLesserFromFirst_19 (by decide) ?_
    exact W.zret (ty := .boolean) hx hb hr rfl (fun t ht _ => ro_Si (Ho_e h) ht) ro_nil dX2_isLesserFromFirst_20 hlk
  · have h := Ho_f h q12
    refine lv_iconst (v := (1 : Int32)) hx hb dX2_isLesserFromFirst_15 (by decide) ?_
    refine lv_goto (tgt := 20) hx hb dX2_isLesserFromFirst_16 (by decide) ?_
    exact W.zret (ty := .boolean) hx hb hr rfl (fun t ht _ => ro_Si (Ho_e h) ht) ro_nil dX2_isLesserFromFirst_20 hlk
abbrev rmX2_isLesser : Room := { frames := 1, cells := 0, slots := 0, locals := 24 }
set_option maxHeartbeats 4000000 in
set_option maxRecDepth 100000 in
theorem c_X2_isLesser (l : Launch) (dC : Nat → ClassId) (dI : Nat → Nat → Nat) (cI cJ : ClassId) (h0 hc : Nat) (n : Int32) (ev : Int32) (x1 : Int32) (x2 : Int32) (x3 : Int32) (r : Int32) (hF : FX2_isLesser n x1 x2 x3 = some r) : Met l yX2_isLesser wsX2_isLesser rmX2_isLesser (roP (dC, dI) [(cI, .int), (cJ, .long)] [(h0, .inr (2, [.ref hc])), (hc, .inr (0, [.int n, .int ev]))] [.ref h0, .int x1, .int x2, .int x3]) (vp_Si (fun x => x = r)) 0 0 (fun _ => False) := by
  refine ro_start (cc := cX2_isLesser) (maxL := 7) (ret := (some .boolean)) (by decide) rfl (Nat.le_of_ble_eq_true rfl) ?_
  intro p e s m args below meth c ls hx hb hml hr hlk hown hts hP hK hl
  have hown : s.vm.findClass RX2 = some m.cls := hown
  have hl : lv_has ls 7 [(0, .ref h0), (1, .int x1), (2, .int x2), (3, .int x3)] := hl
  have h : Ho (FX2_isLesser n x1 x2 x3) (fun x => x = r) := ⟨r, hF, rfl⟩
  unfold FX2_isLesser at h
  have hfix : CallFix p m c cX2_isLesser 7 s args wsX2_isLesser RX2 := ⟨hx, hb, hml, hown, hts⟩
  have hiX2 : ∀ w ∈ u_ws RX2 TX2 1, w ∈ wsX2_isLesser := by decide +kernel
  have hf7 := hts (.fieldLink RX2 7 "RowClasses$Orders" "circle" "LRowClasses$Circle;") (by decide +kernel)
  have J49 : ∀  (ls : Array Slot), lv_has ls 7 [(1, .int x1), (2, .int x2)] → Ho (X2_isLesser_49 x1 x2) (fun x => x = r) → W p l e rmX2_isLesser s m args below meth c s.heap [] 0 0 (MQ below (vp_Si (fun x => x = r)) args s 0 0 (fun _ => False)) (F0 m 49 ls []) := by
    intro  ls hl h
    unfold X2_isLesser_49 at h
    refine lv_iload_n hx hb dX2_isLesser_49 rfl (lv_at hl 0 rfl) ?_
    refine lv_iload_n hx hb dX2_isLesser_50 rfl (lv_at hl 1 rfl) ?_
    refine lv_icmp_ge (tgt := 58) hx hb dX2_isLesser_51 (by decide) (fun q51 => ?_) (fun q51 => ?_)
    · have h := Ho_t h q51
      refine lv_iconst (v := (0 : Int32)) hx hb dX2_isLesser_58 (by decide) ?_
      exact W.zret (ty := .boolean) hx hb hr rfl (fun t ht _ => ro_Si (Ho_e h) ht) ro_nil dX2_isLesser_59 hlk
    · have h := Ho_f h q51
      refine lv_iconst (v := (1 : Int32)) hx hb dX2_isLesser_54 (by decide) ?_
      refine lv_goto (tgt := 59) hx hb dX2_isLesser_55 (by decide) ?_
      exact W.zret (ty := .boolean) hx hb hr rfl (fun t ht _ => ro_Si (Ho_e h) ht) ro_nil dX2_isLesser_59 hlk
  refine lv_iload_n hx hb dX2_isLesser_0 rfl (lv_at hl 1 rfl) ?_
  obtain ⟨r1, hc1, h⟩ := Ho_b h
  refine cs_i (va_runS (As := [.int x1]) (rest := []) hfix (c_J6_bitCount_0f7a4 l dC dI cI cJ  x1 _ hc1) (va_cwS 1 hts gX2_isLesser_J6_bitCount_0f7a4 rfl rfl rfl (by decide +kernel) ⟨by decide, by decide⟩) (roP.preS hK va_Pnil) rfl rfl hl.1 rfl (lv_room (Nat.le_of_ble_eq_true rfl)) dX2_isLesser_1 ⟨Nat.zero_le _, Nat.zero_le _⟩) ?_
  refine lv_iconst (v := (1 : Int32)) hx hb dX2_isLesser_4 (by decide) ?_
  refine lv_isub hx hb dX2_isLesser_5 ?_
  refine lv_istore (lv' := [(4, .int (r1 - (1 : Int32))), (0, .ref h0), (1, .int x1), (2, .int x2), (3, .int x3)]) hx hb dX2_isLesser_6 hl (by decide) rfl (fun ls hl => ?_)
  refine lv_aload_n hx hb dX2_isLesser_8 rfl (lv_at hl 1 rfl) ?_
  refine va_get (D := (dC, dI)) (ci := 2) (v := .ref hc) (C := RX2) (T := TX2) (N := 1) hx hb hts hiX2 hown hK.1 hP 0 rfl rfl 0 (by decide) hf7 (fun _ h9 => h9) rfl dX2_isLesser_9 ?_
  refine lv_iload_n hx hb dX2_isLesser_12 rfl (lv_at hl 2 rfl) ?_
  refine lv_iload hx hb dX2_isLesser_13 (lv_at hl 0 rfl) ?_
  obtain ⟨r15, hc15, h⟩ := Ho_b h
  have hPc : va_P (dC, dI) vwCl [(hc, .inr (0, [.int n, .int ev]))] s.heap := hP.sub [1] rfl
  refine cs_i (va_runV (As := [.int x1, .int (r1 - (1 : Int32))]) (rest := []) hfix (c_X0_stepAt l dC dI cI cJ hc n ev x1 (r1 - (1 : Int32)) _ hc15) (cwV 2 hts gX2_isLesser_X0_stepAt rfl rfl rfl (by decide +kernel) ⟨by decide, by decide⟩) (roP.preV hK hPc (ci := 0) rfl rfl) rfl rfl hl.1 rfl (lv_room (Nat.le_of_ble_eq_true rfl)) dX2_isLesser_15 ⟨Nat.zero_le _, Nat.zero_le _⟩) ?_
  refine lv_istore (lv' := [(5, .int r15), (4, .int (r1 - (1 : Int32))), (0, .ref h0), (1, .int x1), (2, .int x2), (3, .int x3)]) hx hb dX2_isLesser_18 hl (by decide) rfl (fun ls hl => ?_)
  refine lv_aload_n hx hb dX2_isLesser_20 rfl (lv_at hl 2 rfl) ?_
  refine va_get (D := (dC, dI)) (ci := 2) (v := .ref hc) (C := RX2) (T := TX2) (N := 1) hx hb hts hiX2 hown hK.1 hP 0 rfl rfl 0 (by decide) hf7 (fun _ h9 => h9) rfl dX2_isLesser_21 ?_
  refine lv_iload_n hx hb dX2_isLesser_24 rfl (lv_at hl 4 rfl) ?_
  refine lv_iload hx hb dX2_isLesser_25 (lv_at hl 1 rfl) ?_
  obtain ⟨r27, hc27, h⟩ := Ho_b h
  have hPc : va_P (dC, dI) vwCl [(hc, .inr (0, [.int n, .int ev]))] s.heap := hP.sub [1] rfl
  refine cs_i (va_runV (As := [.int x2, .int (r1 - (1 : Int32))]) (rest := []) hfix (c_X0_stepAt l dC dI cI cJ hc n ev x2 (r1 - (1 : Int32)) _ hc27) (cwV 2 hts gX2_isLesser_X0_stepAt rfl rfl rfl (by decide +kernel) ⟨by decide, by decide⟩) (roP.preV hK hPc (ci := 0) rfl rfl) rfl rfl hl.1 rfl (lv_room (Nat.le_of_ble_eq_true rfl)) dX2_isLesser_27 ⟨Nat.zero_le _, Nat.zero_le _⟩) ?_
  refine lv_istore (lv' := [(6, .int r27), (5, .int r15), (4, .int (r1 - (1 : Int32))), (0, .ref h0), (1, .int x1), (2, .int x2), (3, .int x3)]) hx hb dX2_isLesser_30 hl (by decide) rfl (fun ls hl => ?_)
  refine lv_iload_n hx hb dX2_isLesser_32 rfl (lv_at hl 6 rfl) ?_
  refine lv_if_ne (tgt := 49) hx hb dX2_isLesser_33 (by decide) (fun q33 => ?_) (fun q33 => ?_)
  · have h := Ho_f h q33
    exact J49  ls (lv_sub hl [4, 5] rfl) h
  · have h := Ho_t h q33
    refine lv_iload hx hb dX2_isLesser_36 (lv_at hl 1 rfl) ?_
    refine lv_iload hx hb dX2_isLesser_38 (lv_at hl 0 rfl) ?_
    refine lv_icmp_ne (tgt := 49) hx hb dX2_isLesser_40 (by decide) (fun q40 => ?_) (fun q40 => ?_)
    · have h := Ho_f h q40
      exact J49  ls (lv_sub hl [4, 5] rfl) h
    · have h := Ho_t h q40
      refine lv_iload_n hx hb dX2_isLesser_43 rfl (lv_at hl 4 rfl) ?_
      refine lv_iload_n hx hb dX2_isLesser_44 rfl (lv_at hl 5 rfl) ?_
      obtain ⟨r45, hc45, h⟩ := Ho_b h
      refine cs_i (va_runS (As := [.int x1, .int x2]) (rest := []) hfix (c_X2_isLesserFromFirst l dC dI cI cJ  x1 x2 _ hc45) (va_cwS 2 hts gX2_isLesser_X2_isLesserFromFirst rfl rfl rfl (by decide +kernel) ⟨by decide, by decide⟩) (roP.preS hK va_Pnil) rfl rfl hl.1 rfl (lv_room (Nat.le_of_ble_eq_true rfl)) dX2_isLesser_45 ⟨Nat.zero_le _, Nat.zero_le _⟩) ?_
      obtain ⟨hzb, h⟩ := Ho_bool h
      exact W.zret (ty := .boolean) hx hb hr (nb_of hzb) (fun t ht _ => ro_Si (Ho_e h) ht) ro_nil dX2_isLesser_48 hlk
abbrev rmX2_normalStart : Room := { frames := 2, cells := 0, slots := 0, locals := 50 }
set_option maxHeartbeats 4000000 in
set_option maxRecDepth 100000 in
theorem c_X2_normalStart (l : Launch) (dC : Nat → ClassId) (dI : Nat → Nat → Nat) (cI cJ : ClassId) (h0 hc : Nat) (n : Int32) (ev : Int32) (x1 : Int32) (x2 : Int32) (r : Int32) (hF : FX2_normalStart n ev x1 x2 = some r) : Met l yX2_normalStart wsX2_normalStart rmX2_normalStart (roP (dC, dI) [(cI, .int), (cJ, .long)] [(h0, .inr (2, [.ref hc])), (hc, .inr (0, [.int n, .int ev]))] [.ref h0, .int x1, .int x2]) (vp_Si (fun x => x = r)) 0 0 (fun _ => False) := by
  refine ro_start (cc := cX2_normalStart) (maxL := 5) (ret := (some .int)) (by decide) rfl (Nat.le_of_ble_eq_true rfl) ?_
  intro p e s m args below meth c ls hx hb hml hr hlk hown hts hP hK hl
  have hown : s.vm.findClass RX2 = some m.cls := hown
  have hl : lv_has ls 5 [(0, .ref h0), (1, .int x1), (2, .int x2)] := hl
  have h : Ho (FX2_normalStart n ev x1 x2) (fun x => x = r) := ⟨r, hF, rfl⟩
  unfold FX2_normalStart at h
  have hfix : CallFix p m c cX2_normalStart 5 s args wsX2_normalStart RX2 := ⟨hx, hb, hml, hown, hts⟩
  have hiX2 : ∀ w ∈ u_ws RX2 TX2 1, w ∈ wsX2_normalStart := by decide +kernel
  have hf7 := hts (.fieldLink RX2 7 "RowClasses$Orders" "circle" "LRowClasses$Circle;") (by decide +kernel)
  have J67 : ∀ (v3 : Int32) (ls : Array Slot), lv_has ls 5 [(3, .int v3)] → Ho (X2_normalStart_67 v3) (fun x => x = r) → W p l e rmX2_normalStart s m args below meth c s.heap [] 0 0 (MQ below (vp_Si (fun x => x = r)) args s 0 0 (fun _ => False)) (F0 m 67 ls []) := by
    intro v3 ls hl h
    unfold X2_normalStart_67 at h
    refine lv_iload_n hx hb dX2_normalStart_67 rfl (lv_at hl 0 rfl) ?_
    exact W.iret hx hb hr (fun t ht _ => ro_Si (Ho_e h) ht) ro_nil dX2_normalStart_68 hlk
  have J15 : ∀ (v3 : Int32) (v4 : Int32) (ls : Array Slot), lv_has ls 5 [(0, .ref h0), (1, .int x1), (2, .int x2), (3, .int v3), (4, .int v4)] → Ho ((X2_normalStart_15_l n ev x1 x2 v3 v4).bind (fun ex => X2_normalStart_67 ex)) (fun x => x = r) → W p l e rmX2_normalStart s m args below meth c s.heap [] 0 0 (MQ below (vp_Si (fun x => x = r)) args s 0 0 (fun _ => False)) (F0 m 15 ls []) := by
    intro v3 v4 ls hl h
    refine loop_use2 (fun z : Int32 × Int32 => ∀ (ls : Array Slot), lv_has ls 5 [(0, .ref h0), (1, .int x1), (2, .int x2), (3, .int z.1), (4, .int z.2)] → W p l e rmX2_normalStart s m args below meth c s.heap [] 0 0 (MQ below (vp_Si (fun x => x = r)) args s 0 0 (fun _ => False)) (F0 m 15 ls [])) ?_ FU _ h ls hl
    intro Q15 hi15 ho15 z h ls hl
    obtain ⟨v3, v4⟩ := z
    have h : Ho (X2_normalStart_15_s n ev x1 x2 v3 v4) Q15 := h
    unfold X2_normalStart_15_s at h
    have hl : lv_has ls 5 [(0, .ref h0), (1, .int x1), (2, .int x2), (3, .int v3), (4, .int v4)] := hl
    refine lv_iload hx hb dX2_normalStart_15 (lv_at hl 4 rfl) ?_
    refine lv_aload_n hx hb dX2_normalStart_17 rfl (lv_at hl 0 rfl) ?_
    refine va_get (D := (dC, dI)) (ci := 2) (v := .ref hc) (C := RX2) (T := TX2) (N := 1) hx hb hts hiX2 hown hK.1 hP 0 rfl rfl 0 (by decide) hf7 (fun _ h9 => h9) rfl dX2_normalStart_18 ?_
    obtain ⟨r21, hc21, h⟩ := Ho_b h
    have hPc : va_P (dC, dI) vwCl [(hc, .inr (0, [.int n, .int ev]))] s.heap := hP.sub [1] rfl
    refine cs_i (va_runV (As := []) (rest := [.int v4]) hfix (c_X0_count l dC dI cI cJ hc n ev _ hc21) (cwV 0 hts gX2_normalStart_X0_count rfl rfl rfl (by decide +kernel) ⟨by decide, by decide⟩) (roP.preV hK hPc (ci := 0) rfl rfl) rfl rfl hl.1 rfl (lv_room (Nat.le_of_ble_eq_true rfl)) dX2_normalStart_21 ⟨Nat.zero_le _, Nat.zero_le _⟩) ?_
    refine lv_icmp_ge (tgt := 67) hx hb dX2_normalStart_24 (by decide) (fun q24 => ?_) (fun q24 => ?_)
    · have h := Ho_t h q24
      have h := ho15 _ (Ho_s h)
      exact J67 v3 ls (lv_sub hl [3] rfl) h
    · have h := Ho_f h q24
      refine lv_iload_n hx hb dX2_normalStart_27 rfl (lv_at hl 1 rfl) ?_
      refine lv_iload hx hb dX2_normalStart_28 (lv_at hl 4 rfl) ?_
      refine lv_ishr hx hb dX2_normalStart_30 ?_
      refine lv_iconst (v := (1 : Int32)) hx hb dX2_normalStart_31 (by decide) ?_
      refine lv_iand hx hb dX2_normalStart_32 ?_
      refine lv_iconst (v := (1 : Int32)) hx hb dX2_normalStart_33 (by decide) ?_
      refine lv_icmp_ne (tgt := 61) hx hb dX2_normalStart_34 (by decide) (fun q34 => ?_) (fun q34 => ?_)
      · have h := Ho_f h q34
        refine lv_iinc (v := v4 + 1) (lv' := [(4, .int (v4 + 1)), (0, .ref h0), (1, .int x1), (2, .int x2), (3, .int v3)]) hx hb dX2_normalStart_61 hl (k := 4) rfl rfl (by decide) rfl (fun ls hl => ?_)
        refine lv_goto (tgt := 15) hx hb dX2_normalStart_64 (by decide) ?_
        exact hi15 _ (Ho_s h) ls (lv_sub hl [1, 2, 3, 4, 0] rfl)
      · have h := Ho_t h q34
        refine lv_aload_n hx hb dX2_normalStart_37 rfl (lv_at hl 0 rfl) ?_
        refine lv_aload_n hx hb dX2_normalStart_38 rfl (lv_at hl 0 rfl) ?_
        refine lv_iload_n hx hb dX2_normalStart_39 rfl (lv_at hl 1 rfl) ?_
        refine lv_iload hx hb dX2_normalStart_40 (lv_at hl 4 rfl) ?_
        obtain ⟨r42, hc42, h⟩ := Ho_b h
        have hPc : va_P (dC, dI) vwCl [(h0, .inr (2, [.ref hc])), (hc, .inr (0, [.int n, .int ev]))] s.heap := hP.sub [0, 1] rfl
        refine cs_i (va_runV (As := [.int x1, .int v4]) (rest := [.ref h0]) hfix (c_X2_distances l dC dI cI cJ h0 hc n ev x1 v4 _ hc42) (cwV 2 hts gX2_normalStart_X2_distances rfl rfl rfl (by decide +kernel) ⟨by decide, by decide⟩) (roP.preV hK hPc (ci := 2) rfl rfl) rfl rfl hl.1 rfl (lv_room (Nat.le_of_ble_eq_true rfl)) dX2_normalStart_42 ⟨Nat.zero_le _, Nat.zero_le _⟩) ?_
        refine lv_aload_n hx hb dX2_normalStart_45 rfl (lv_at hl 0 rfl) ?_
        refine lv_iload_n hx hb dX2_normalStart_46 rfl (lv_at hl 1 rfl) ?_
        refine lv_iload_n hx hb dX2_normalStart_47 rfl (lv_at hl 3 rfl) ?_
        obtain ⟨r48, hc48, h⟩ := Ho_b h
        have hPc : va_P (dC, dI) vwCl [(h0, .inr (2, [.ref hc])), (hc, .inr (0, [.int n, .int ev]))] s.heap := hP.sub [0, 1] rfl
        refine cs_i (va_runV (As := [.int x1, .int v3]) (rest := [.int r42, .ref h0]) hfix (c_X2_distances l dC dI cI cJ h0 hc n ev x1 v3 _ hc48) (cwV 2 hts gX2_normalStart_X2_distances rfl rfl rfl (by decide +kernel) ⟨by decide, by decide⟩) (roP.preV hK hPc (ci := 2) rfl rfl) rfl rfl hl.1 rfl (lv_room (Nat.le_of_ble_eq_true rfl)) dX2_normalStart_48 ⟨Nat.zero_le _, Nat.zero_le _⟩) ?_
        refine lv_iload_n hx hb dX2_normalStart_51 rfl (lv_at hl 2 rfl) ?_
        obtain ⟨r52, hc52, h⟩ := Ho_b h
        have hPc : va_P (dC, dI) vwCl [(h0, .inr (2, [.ref hc])), (hc, .inr (0, [.int n, .int ev]))] s.heap := hP.sub [0, 1] rfl
        refine cs_i (va_runV (As := [.int r42, .int r48, .int x2]) (rest := []) hfix (c_X2_isLesser l dC dI cI cJ h0 hc n ev r42 r48 x2 _ hc52) (cwV 3 hts gX2_normalStart_X2_isLesser rfl rfl rfl (by decide +kernel) ⟨by decide, by decide⟩) (roP.preV hK hPc (ci := 2) rfl rfl) rfl rfl hl.1 rfl (lv_room (Nat.le_of_ble_eq_true rfl)) dX2_normalStart_52 ⟨Nat.zero_le _, Nat.zero_le _⟩) ?_
        refine lv_if_eq (tgt := 61) hx hb dX2_normalStart_55 (by decide) (fun q55 => ?_) (fun q55 => ?_)
        · have h := Ho_t h q55
          refine lv_iinc (v := v4 + 1) (lv' := [(4, .int (v4 + 1)), (0, .ref h0), (1, .int x1), (2, .int x2), (3, .int v3)]) hx hb dX2_normalStart_61 hl (k := 4) rfl rfl (by decide) rfl (fun ls hl => ?_)
          refine lv_goto (tgt := 15) hx hb dX2_normalStart_64 (by decide) ?_
          exact hi15 _ (Ho_s h) ls (lv_sub hl [1, 2, 3, 4, 0] rfl)
        · have h := Ho_f h q55
          refine lv_iload hx hb dX2_normalStart_58 (lv_at hl 4 rfl) ?_
          refine lv_istore_n (lv' := [(3, .int v4), (0, .ref h0), (1, .int x1), (2, .int x2), (4, .int v4)]) hx hb dX2_normalStart_60 rfl hl (by decide) rfl (fun ls hl => ?_)
          refine lv_iinc (v := v4 + 1) (lv' := [(4, .int (v4 + 1)), (3, .int v4), (0, .ref h0), (1, .int x1), (2, .int x2)]) hx hb dX2_normalStart_61 hl (k := 4) rfl rfl (by decide) rfl (fun ls hl => ?_)
          refine lv_goto (tgt := 15) hx hb dX2_normalStart_64 (by decide) ?_
          exact hi15 _ (Ho_s h) ls (lv_sub hl [2, 3, 4, 1, 0] rfl)
  refine lv_aload_n hx hb dX2_normalStart_0 rfl (lv_at hl 0 rfl) ?_
  refine va_get (D := (dC, dI)) (ci := 2) (v := .ref hc) (C := RX2) (T := TX2) (N := 1) hx hb hts hiX2 hown hK.1 hP 0 rfl rfl 0 (by decide) hf7 (fun _ h9 => h9) rfl dX2_normalStart_1 ?_
  refine lv_iload_n hx hb dX2_normalStart_4 rfl (lv_at hl 1 rfl) ?_
  refine lv_iconst (v := (0 : Int32)) hx hb dX2_normalStart_5 (by decide) ?_
  obtain ⟨r6, hc6, h⟩ := Ho_b h
  have hPc : va_P (dC, dI) vwCl [(hc, .inr (0, [.int n, .int ev]))] s.heap := hP.sub [1] rfl
  refine cs_i (va_runV (As := [.int x1, .int (0 : Int32)]) (rest := []) hfix (c_X0_stepAt l dC dI cI cJ hc n ev x1 (0 : Int32) _ hc6) (cwV 2 hts gX2_normalStart_X0_stepAt rfl rfl rfl (by decide +kernel) ⟨by decide, by decide⟩) (roP.preV hK hPc (ci := 0) rfl rfl) rfl rfl hl.1 rfl (lv_room (Nat.le_of_ble_eq_true rfl)) dX2_normalStart_6 ⟨Nat.zero_le _, Nat.zero_le _⟩) ?_
  refine lv_istore_n (lv' := [(3, .int r6), (0, .ref h0), (1, .int x1), (2, .int x2)]) hx hb dX2_normalStart_9 rfl hl (by decide) rfl (fun ls hl => ?_)
  refine lv_iload_n hx hb dX2_normalStart_10 rfl (lv_at hl 0 rfl) ?_
  refine lv_iconst (v := (1 : Int32)) hx hb dX2_normalStart_11 (by decide) ?_
  refine lv_iadd hx hb dX2_normalStart_12 ?_
  refine lv_istore (lv' := [(4, .int (r6 + (1 : Int32))), (3, .int r6), (0, .ref h0), (1, .int x1), (2, .int x2)]) hx hb dX2_normalStart_13 hl (by decide) rfl (fun ls hl => ?_)
  exact J15 r6 (r6 + (1 : Int32)) ls (lv_sub hl [2, 3, 4, 1, 0] rfl) h
abbrev rmX2_primeDistances : Room := { frames := 3, cells := 0, slots := 0, locals := 74 }
set_option maxHeartbeats 4000000 in
set_option maxRecDepth 100000 in
theorem c_X2_primeDistances (l : Launch) (dC : Nat → ClassId) (dI : Nat → Nat → Nat) (cI cJ : ClassId) (h0 hc : Nat) (n : Int32) (ev : Int32) (x1 : Int32) (x2 : Int32) (r : Int32) (hF : FX2_primeDistances n ev x1 x2 = some r) : Met l yX2_primeDistances wsX2_primeDistances rmX2_primeDistances (roP (dC, dI) [(cI, .int), (cJ, .long)] [(h0, .inr (2, [.ref hc])), (hc, .inr (0, [.int n, .int ev]))] [.ref h0, .int x1, .int x2]) (vp_Si (fun x => x = r)) 0 0 (fun _ => False) := by
  refine ro_start (cc := cX2_primeDistances) (maxL := 6) (ret := (some .int)) (by decide) rfl (Nat.le_of_ble_eq_true rfl) ?_
  intro p e s m args below meth c ls hx hb hml hr hlk hown hts hP hK hl
  have hown : s.vm.findClass RX2 = some m.cls := hown
  have hl : lv_has ls 6 [(0, .ref h0), (1, .int x1), (2, .int x2)] := hl
  have h : Ho (FX2_primeDistances n ev x1 x2) (fun x => x = r) := ⟨r, hF, rfl⟩
  unfold FX2_primeDistances at h
  have hfix : CallFix p m c cX2_primeDistances 6 s args wsX2_primeDistances RX2 := ⟨hx, hb, hml, hown, hts⟩
  have hiX2 : ∀ w ∈ u_ws RX2 TX2 1, w ∈ wsX2_primeDistances := by decide +kernel
  have hf7 := hts (.fieldLink RX2 7 "RowClasses$Orders" "circle" "LRowClasses$Circle;") (by decide +kernel)
  refine lv_aload_n hx hb dX2_primeDistances_0 rfl (lv_at hl 0 rfl) ?_
  refine va_get (D := (dC, dI)) (ci := 2) (v := .ref hc) (C := RX2) (T := TX2) (N := 1) hx hb hts hiX2 hown hK.1 hP 0 rfl rfl 0 (by decide) hf7 (fun _ h9 => h9) rfl dX2_primeDistances_1 ?_
  refine lv_iload_n hx hb dX2_primeDistances_4 rfl (lv_at hl 1 rfl) ?_
  refine lv_iconst (v := (1 : Int32)) hx hb dX2_primeDistances_5 (by decide) ?_
  obtain ⟨r6, hc6, h⟩ := Ho_b h
  have hPc : va_P (dC, dI) vwCl [(hc, .inr (0, [.int n, .int ev]))] s.heap := hP.sub [1] rfl
  refine cs_i (va_runV (As := [.int x1, .int (1 : Int32)]) (rest := []) hfix (c_X0_mirroredIf l dC dI cI cJ hc n ev x1 (1 : Int32) _ hc6) (cwV 2 hts gX2_primeDistances_X0_mirroredIf rfl rfl rfl (by decide +kernel) ⟨by decide, by decide⟩) (roP.preV hK hPc (ci := 0) rfl rfl) rfl rfl hl.1 rfl (lv_room (Nat.le_of_ble_eq_true rfl)) dX2_primeDistances_6 ⟨Nat.zero_le _, Nat.zero_le _⟩) ?_
  refine lv_istore_n (lv' := [(3, .int r6), (0, .ref h0), (1, .int x1), (2, .int x2)]) hx hb dX2_primeDistances_9 rfl hl (by decide) rfl (fun ls hl => ?_)
  refine lv_aload_n hx hb dX2_primeDistances_10 rfl (lv_at hl 1 rfl) ?_
  refine lv_iload_n hx hb dX2_primeDistances_11 rfl (lv_at hl 2 rfl) ?_
  refine lv_aload_n hx hb dX2_primeDistances_12 rfl (lv_at hl 1 rfl) ?_
  refine lv_iload_n hx hb dX2_primeDistances_13 rfl (lv_at hl 2 rfl) ?_
  refine lv_iload_n hx hb dX2_primeDistances_14 rfl (lv_at hl 3 rfl) ?_
  obtain ⟨r15, hc15, h⟩ := Ho_b h
  have hPc : va_P (dC, dI) vwCl [(h0, .inr (2, [.ref hc])), (hc, .inr (0, [.int n, .int ev]))] s.heap := hP.sub [0, 1] rfl
  refine cs_i (va_runV (As := [.int x1, .int x2]) (rest := [.int x1, .ref h0]) hfix (c_X2_normalStart l dC dI cI cJ h0 hc n ev x1 x2 _ hc15) (cwV 2 hts gX2_primeDistances_X2_normalStart rfl rfl rfl (by decide +kernel) ⟨by decide, by decide⟩) (roP.preV hK hPc (ci := 2) rfl rfl) rfl rfl hl.1 rfl (lv_room (Nat.le_of_ble_eq_true rfl)) dX2_primeDistances_15 ⟨Nat.zero_le _, Nat.zero_le _⟩) ?_
  obtain ⟨r18, hc18, h⟩ := Ho_b h
  have hPc : va_P (dC, dI) vwCl [(h0, .inr (2, [.ref hc])), (hc, .inr (0, [.int n, .int ev]))] s.heap := hP.sub [0, 1] rfl
  refine cs_i (va_runV (As := [.int x1, .int r15]) (rest := []) hfix (c_X2_distances l dC dI cI cJ h0 hc n ev x1 r15 _ hc18) (cwV 2 hts gX2_primeDistances_X2_distances rfl rfl rfl (by decide +kernel) ⟨by decide, by decide⟩) (roP.preV hK hPc (ci := 2) rfl rfl) rfl rfl hl.1 rfl (lv_room (Nat.le_of_ble_eq_true rfl)) dX2_primeDistances_18 ⟨Nat.zero_le _, Nat.zero_le _⟩) ?_
  refine lv_istore (lv' := [(4, .int r18), (3, .int r6), (0, .ref h0), (1, .int x1), (2, .int x2)]) hx hb dX2_primeDistances_21 hl (by decide) rfl (fun ls hl => ?_)
  refine lv_aload_n hx hb dX2_primeDistances_23 rfl (lv_at hl 2 rfl) ?_
  refine lv_iload_n hx hb dX2_primeDistances_24 rfl (lv_at hl 1 rfl) ?_
  refine lv_aload_n hx hb dX2_primeDistances_25 rfl (lv_at hl 2 rfl) ?_
  refine lv_iload_n hx hb dX2_primeDistances_26 rfl (lv_at hl 1 rfl) ?_
  refine lv_iload_n hx hb dX2_primeDistances_27 rfl (lv_at hl 4 rfl) ?_
  obtain ⟨r28, hc28, h⟩ := Ho_b h
  have hPc : va_P (dC, dI) vwCl [(h0, .inr (2, [.ref hc])), (hc, .inr (0, [.int n, .int ev]))] s.heap := hP.sub [0, 1] rfl
  refine cs_i (va_runV (As := [.int r6, .int x2]) (rest := [.int r6, .ref h0]) hfix (c_X2_normalStart l dC dI cI cJ h0 hc n ev r6 x2 _ hc28) (cwV 2 hts gX2_primeDistances_X2_normalStart rfl rfl rfl (by decide +kernel) ⟨by decide, by decide⟩) (roP.preV hK hPc (ci := 2) rfl rfl) rfl rfl hl.1 rfl (lv_room (Nat.le_of_ble_eq_true rfl)) dX2_primeDistances_28 ⟨Nat.zero_le _, Nat.zero_le _⟩) ?_
  obtain ⟨r31, hc31, h⟩ := Ho_b h
  have hPc : va_P (dC, dI) vwCl [(h0, .inr (2, [.ref hc])), (hc, .inr (0, [.int n, .int ev]))] s.heap := hP.sub [0, 1] rfl
  refine cs_i (va_runV (As := [.int r6, .int r28]) (rest := []) hfix (c_X2_distances l dC dI cI cJ h0 hc n ev r6 r28 _ hc31) (cwV 2 hts gX2_primeDistances_X2_distances rfl rfl rfl (by decide +kernel) ⟨by decide, by decide⟩) (roP.preV hK hPc (ci := 2) rfl rfl) rfl rfl hl.1 rfl (lv_room (Nat.le_of_ble_eq_true rfl)) dX2_primeDistances_31 ⟨Nat.zero_le _, Nat.zero_le _⟩) ?_
  refine lv_istore (lv' := [(5, .int r31), (4, .int r18), (3, .int r6), (0, .ref h0), (1, .int x1), (2, .int x2)]) hx hb dX2_primeDistances_34 hl (by decide) rfl (fun ls hl => ?_)
  refine lv_aload_n hx hb dX2_primeDistances_36 rfl (lv_at hl 3 rfl) ?_
  refine lv_iload hx hb dX2_primeDistances_37 (lv_at hl 0 rfl) ?_
  refine lv_iload hx hb dX2_primeDistances_39 (lv_at hl 1 rfl) ?_
  refine lv_iload_n hx hb dX2_primeDistances_41 rfl (lv_at hl 5 rfl) ?_
  obtain ⟨r42, hc42, h⟩ := Ho_b h
  have hPc : va_P (dC, dI) vwCl [(h0, .inr (2, [.ref hc])), (hc, .inr (0, [.int n, .int ev]))] s.heap := hP.sub [0, 1] rfl
  refine cs_i (va_runV (As := [.int r31, .int r18, .int x2]) (rest := []) hfix (c_X2_isLesser l dC dI cI cJ h0 hc n ev r31 r18 x2 _ hc42) (cwV 3 hts gX2_primeDistances_X2_isLesser rfl rfl rfl (by decide +kernel) ⟨by decide, by decide⟩) (roP.preV hK hPc (ci := 2) rfl rfl) rfl rfl hl.1 rfl (lv_room (Nat.le_of_ble_eq_true rfl)) dX2_primeDistances_42 ⟨Nat.zero_le _, Nat.zero_le _⟩) ?_
  refine lv_if_eq (tgt := 53) hx hb dX2_primeDistances_45 (by decide) (fun q45 => ?_) (fun q45 => ?_)
  · have h := Ho_t h q45
    refine lv_iload hx hb dX2_primeDistances_53 (lv_at hl 1 rfl) ?_
    exact W.iret hx hb hr (fun t ht _ => ro_Si (Ho_e h) ht) ro_nil dX2_primeDistances_55 hlk
  · have h := Ho_f h q45
    refine lv_iload hx hb dX2_primeDistances_48 (lv_at hl 0 rfl) ?_
    refine lv_goto (tgt := 55) hx hb dX2_primeDistances_50 (by decide) ?_
    exact W.iret hx hb hr (fun t ht _ => ro_Si (Ho_e h) ht) ro_nil dX2_primeDistances_55 hlk
abbrev rmX2_primesDiffer : Room := { frames := 4, cells := 0, slots := 0, locals := 99 }
set_option maxHeartbeats 4000000 in
set_option maxRecDepth 100000 in
theorem c_X2_primesDiffer (l : Launch) (dC : Nat → ClassId) (dI : Nat → Nat → Nat) (cI cJ : ClassId) (h0 hc : Nat) (n : Int32) (ev : Int32) (x1 : Int32) (r : Int32) (hF : FX2_primesDiffer n ev x1 = some r) : Met l yX2_primesDiffer wsX2_primesDiffer rmX2_primesDiffer (roP (dC, dI) [(cI, .int), (cJ, .long)] [(h0, .inr (2, [.ref hc])), (hc, .inr (0, [.int n, .int ev]))] [.ref h0, .int x1]) (vp_Si (fun x => x = r)) 0 0 (fun _ => False) := by
  refine ro_start (cc := cX2_primesDiffer) (maxL := 2) (ret := (some .boolean)) (by decide) rfl (Nat.le_of_ble_eq_true rfl) ?_
  intro p e s m args below meth c ls hx hb hml hr hlk hown hts hP hK hl
  have hown : s.vm.findClass RX2 = some m.cls := hown
  have hl : lv_has ls 2 [(0, .ref h0), (1, .int x1)] := hl
  have h : Ho (FX2_primesDiffer n ev x1) (fun x => x = r) := ⟨r, hF, rfl⟩
  unfold FX2_primesDiffer at h
  have hfix : CallFix p m c cX2_primesDiffer 2 s args wsX2_primesDiffer RX2 := ⟨hx, hb, hml, hown, hts⟩
  refine lv_iload_n hx hb dX2_primesDiffer_0 rfl (lv_at hl 1 rfl) ?_
  refine lv_if_eq (tgt := 23) hx hb dX2_primesDiffer_1 (by decide) (fun q1 => ?_) (fun q1 => ?_)
  · have h := Ho_t h q1
    refine lv_iconst (v := (0 : Int32)) hx hb dX2_primesDiffer_23 (by decide) ?_
    exact W.zret (ty := .boolean) hx hb hr rfl (fun t ht _ => ro_Si (Ho_e h) ht) ro_nil dX2_primesDiffer_24 hlk
  · have h := Ho_f h q1
    refine lv_aload_n hx hb dX2_primesDiffer_4 rfl (lv_at hl 0 rfl) ?_
    refine lv_iload_n hx hb dX2_primesDiffer_5 rfl (lv_at hl 1 rfl) ?_
    refine lv_iconst (v := (0 : Int32)) hx hb dX2_primesDiffer_6 (by decide) ?_
    obtain ⟨r7, hc7, h⟩ := Ho_b h
    have hPc : va_P (dC, dI) vwCl [(h0, .inr (2, [.ref hc])), (hc, .inr (0, [.int n, .int ev]))] s.heap := hP.sub [0, 1] rfl
    refine cs_i (va_runV (As := [.int x1, .int (0 : Int32)]) (rest := []) hfix (c_X2_primeDistances l dC dI cI cJ h0 hc n ev x1 (0 : Int32) _ hc7) (cwV 2 hts gX2_primesDiffer_X2_primeDistances rfl rfl rfl (by decide +kernel) ⟨by decide, by decide⟩) (roP.preV hK hPc (ci := 2) rfl rfl) rfl rfl hl.1 rfl (lv_room (Nat.le_of_ble_eq_true rfl)) dX2_primesDiffer_7 ⟨Nat.zero_le _, Nat.zero_le _⟩) ?_
    refine lv_aload_n hx hb dX2_primesDiffer_10 rfl (lv_at hl 0 rfl) ?_
    refine lv_iload_n hx hb dX2_primesDiffer_11 rfl (lv_at hl 1 rfl) ?_
    refine lv_iconst (v := (1 : Int32)) hx hb dX2_primesDiffer_12 (by decide) ?_
    obtain ⟨r13, hc13, h⟩ := Ho_b h
    have hPc : va_P (dC, dI) vwCl [(h0, .inr (2, [.ref hc])), (hc, .inr (0, [.int n, .int ev]))] s.heap := hP.sub [0, 1] rfl
    refine cs_i (va_runV (As := [.int x1, .int (1 : Int32)]) (rest := [.int r7]) hfix (c_X2_primeDistances l dC dI cI cJ h0 hc n ev x1 (1 : Int32) _ hc13) (cwV 2 hts gX2_primesDiffer_X2_primeDistances rfl rfl rfl (by decide +kernel) ⟨by decide, by decide⟩) (roP.preV hK hPc (ci := 2) rfl rfl) rfl rfl hl.1 rfl (lv_room (Nat.le_of_ble_eq_true rfl)) dX2_primesDiffer_13 ⟨Nat.zero_le _, Nat.zero_le _⟩) ?_
    refine lv_icmp_eq (tgt := 23) hx hb dX2_primesDiffer_16 (by decide) (fun q16 => ?_) (fun q16 => ?_)
    · have h := Ho_t h q16
      refine lv_iconst (v := (0 : Int32)) hx hb dX2_primesDiffer_23 (by decide) ?_
      exact W.zret (ty := .boolean) hx hb hr rfl (fun t ht _ => ro_Si (Ho_e h) ht) ro_nil dX2_primesDiffer_24 hlk
    · have h := Ho_f h q16
      refine lv_iconst (v := (1 : Int32)) hx hb dX2_primesDiffer_19 (by decide) ?_
      refine lv_goto (tgt := 24) hx hb dX2_primesDiffer_20 (by decide) ?_
      exact W.zret (ty := .boolean) hx hb hr rfl (fun t ht _ => ro_Si (Ho_e h) ht) ro_nil dX2_primesDiffer_24 hlk
