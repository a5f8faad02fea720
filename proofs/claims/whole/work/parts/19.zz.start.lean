theorem hts_at {args : Array Value} {s : State} (hts : ∀ w ∈ lw_tbl, w.before args s = true) (w : Cond) (q : Nat × Nat) (h : (tk_all[q.1]?).bind (fun ch => ch[q.2]?) = some w) : w.before args s = true := by
  cases hc : tk_all[q.1]? with
  | none => rw [hc] at h; cases h
  | some ch =>
    rw [hc] at h
    exact hts w (tk_in ch (List.mem_of_getElem? hc) w (List.mem_of_getElem? h))
theorem arr_of {args : Array Value} {s : State} {ty : FieldType} (hty : ty = .int ∨ ty = .long) (h : (Cond.arrayClass ty).before args s = true) : ∃ cA : ClassId, ArrOfT s cA ty ∧ va_RA s cA ty := by
  obtain ⟨cA, kA, comp, h1, h2, h3⟩ := Cond.arrayClass_spec h
  refine ⟨cA, ?_, ?_⟩
  · intro n z
    exact ⟨fun k h => (by cases h), kA, h2, comp, h3⟩
  · rcases hty with rfl | rfl <;> exact h1
theorem nest_of {s : State} {b : Nat} (hts : ∀ w ∈ lw_tbl, w.before #[Value.ref b] s = true) : NW s := ⟨va_Nw.of rfl (hts_at hts (.methodLinkNest RX0 26 yX5_commonDivisor RX5) (1, 135) (by decide +kernel)), va_Nw.of rfl (hts_at hts (.methodLinkNest RX0 48 yX5_quotient RX5) (1, 177) (by decide +kernel)), va_Nw.of rfl (hts_at hts (.methodLinkNest RX4 27 yX5_commonDivisor RX5) (2, 213) (by decide +kernel))⟩
theorem xt_of {s : State} {b : Nat} (hts : ∀ w ∈ lw_tbl, w.before #[Value.ref b] s = true) (hgv : (Jvm.Cond.and given_1 narrow_1).before #[Value.ref b] s = true) : ∃ sa : Nat, XT (fun q : Nat => s.heap.size ≤ q) sa s s.heap := by
  have hs := flat_of_before _ hgv
  have h1 : (Cond.exactly (.string "RowClasses" 56) "java/lang/String").before #[Value.ref b] s = true := hs _ (by decide +kernel)
  obtain ⟨sa, c9, cell9, k9, he, -⟩ := Cond.exactly_spec h1
  have hini := (hts_at hts (.initialized "java/lang/Throwable") (1, 8) (by decide +kernel))
  refine ⟨sa, ⟨va_Nw.of rfl (hts_at hts (.castable "java/lang/ArithmeticException" "java/lang/ArithmeticException") (3, 29) (by decide +kernel)), va_Nw.of rfl (hts_at hts (.declares ⟨"java/lang/RuntimeException", "<init>", "(Ljava/lang/String;)V"⟩) (3, 31) (by decide +kernel)), va_Nw.of rfl (hts_at hts (.declares ⟨"java/lang/Exception", "<init>", "(Ljava/lang/String;)V"⟩) (3, 33) (by decide +kernel)), va_Nw.of rfl (hts_at hts (.declares ⟨"java/lang/Throwable", "<init>", "(Ljava/lang/String;)V"⟩) (3, 35) (by decide +kernel))⟩, ?_, ?_, ?_⟩
  · exact vx_Zqof (hts_at hts (.laysStatic "java/lang/Throwable" "UNASSIGNED_STACK" "[Ljava/lang/StackTraceElement;") (3, 54) (by decide +kernel)) hini (hs _ (by decide +kernel)) (fun a h => Nat.not_le.mpr h)
  · exact vx_Zqof (hts_at hts (.laysStatic "java/lang/Throwable" "SUPPRESSED_SENTINEL" "Ljava/util/List;") (3, 56) (by decide +kernel)) hini (hs _ (by decide +kernel)) (fun a h => Nat.not_le.mpr h)
  · exact vk_R.of (hts_at hts (.stringRef RX5 56 "there is no circle of 0 steps") (3, 66) (by decide +kernel)) he
theorem vk_of {s : State} {b : Nat} (hts : ∀ w ∈ lw_tbl, w.before #[Value.ref b] s = true) : ∃ (dC : Nat → ClassId) (dI : Nat → Nat → Nat) (cI cJ : ClassId), vK (dC, dI) [(cI, .int), (cJ, .long)] s := by
  obtain ⟨c0, iS0, hKn0⟩ := u_known (C := RX0) (T := TX0) (N := 2) (n := 2) hts (fun w h => (gk_wsX00 w h).1) (hts_at hts (.instantiable RX0 2) (1, 23) (by decide +kernel))
  obtain ⟨c1, iS1, hKn1⟩ := u_known (C := RX1) (T := TX1) (N := 4) (n := 4) hts (fun w h => (gk_wsX10 w h).1) (hts_at hts (.instantiable RX1 4) (1, 46) (by decide +kernel))
  obtain ⟨c2, iS2, hKn2⟩ := u_known (C := RX2) (T := TX2) (N := 1) (n := 1) hts (fun w h => (gk_wsX20 w h).1) (hts_at hts (.instantiable RX2 1) (1, 36) (by decide +kernel))
  obtain ⟨c3, iS3, hKn3⟩ := u_known (C := RX3) (T := TX3) (N := 4) (n := 4) hts (fun w h => (gk_wsX30 w h).1) (hts_at hts (.instantiable RX3 4) (1, 66) (by decide +kernel))
  obtain ⟨c4, iS4, hKn4⟩ := u_known (C := RX4) (T := TX4) (N := 1) (n := 1) hts (fun w h => (gk_wsX40 w h).1) (hts_at hts (.instantiable RX4 1) (1, 85) (by decide +kernel))
  obtain ⟨c5, iS5, hKn5⟩ := u_known (C := RX5) (T := TX5) (N := 7) (n := 7) hts (fun w h => (gk_wsX50 w h).1) (hts_at hts (.instantiable RX5 7) (1, 15) (by decide +kernel))
  obtain ⟨c6, iS6, hKn6⟩ := u_known (C := RX6) (T := TX6) (N := 20) (n := 20) hts (fun w h => (gk_wsX60 w h).1) (hts_at hts (.instantiable RX6 20) (3, 102) (by decide +kernel))
  obtain ⟨cI, hI1, hI2⟩ := arr_of (Or.inl rfl) (hts_at hts (.arrayClass .int) (1, 64) (by decide +kernel))
  obtain ⟨cJ, hJ1, hJ2⟩ := arr_of (Or.inr rfl) (hts_at hts (.arrayClass .long) (3, 168) (by decide +kernel))
  refine ⟨fun k => if k = 0 then c0 else if k = 1 then c1 else if k = 2 then c2 else if k = 3 then c3 else if k = 4 then c4 else if k = 5 then c5 else c6, fun k => if k = 0 then iS0 else if k = 1 then iS1 else if k = 2 then iS2 else if k = 3 then iS3 else if k = 4 then iS4 else if k = 5 then iS5 else iS6, cI, cJ, ⟨?_, ?_⟩, nest_of hts⟩
  · intro k q hq
    match k, hq with
    | 0, hq => cases hq; exact hKn0
    | 1, hq => cases hq; exact hKn1
    | 2, hq => cases hq; exact hKn2
    | 3, hq => cases hq; exact hKn3
    | 4, hq => cases hq; exact hKn4
    | 5, hq => cases hq; exact hKn5
    | 6, hq => cases hq; exact hKn6
    | k + 7, hq => simp [vwCl] at hq
  · intro k q hq
    match k, hq with
    | 0, hq => cases hq; exact ⟨hI1, hI2⟩
    | 1, hq => cases hq; exact ⟨hJ1, hJ2⟩
    | k + 2, hq => simp at hq
set_option maxHeartbeats 4000000 in
set_option maxRecDepth 100000 in
theorem whole_start (Inv : Int32 → Int32 → Int32 → Int32 → Int32 → Int32 → Int32 → (Nat → Int32) → (Nat → Int32) → (Nat → Int32) → (Nat → Int32) → (Nat → Int32) → Int32 → Int32 → Int32 → Int32 → Int32 → Int32 → (Nat → Int32) → (Nat → Int32) → (Nat → Int32) → (Nat → Int32) → (Nat → Int32) → (Nat → Int32) → (Nat → Int32) → (Nat → Int32) → (Nat → Int32) → (Nat → Int32) → (Nat → Int32) → (Nat → Int32) → (Nat → Int32) → (Nat → Int64) → Prop) (hops : OpsOK Inv) (hI0 : Inv 12 4095 0 0 0 0 0 (fun _ => 0) (fun _ => 0) (fun _ => 0) (fun _ => 0) (fun _ => 0) 0 12 0 0 0 0 (fun _ => 0) (fun _ => 0) (fun _ => 0) (fun _ => 0) (fun _ => 0) (fun _ => 0) (fun _ => 0) (fun _ => 0) (fun _ => 0) (fun _ => 0) (fun _ => 0) (fun _ => 0) (fun _ => 0) (fun _ => 0)) {p : Program} {e : Env} {s : State} {m : MethodId} {below : List Frame} {meth : Method} {c : Code} (l : Launch) (hlt : l.stackTraces = false) {b L : Nat} {xs : Nat → Int32} (hL : L ≤ 2560) (C0 : lw_At p s m meth c b L xs) : W p l e room_1 s m #[Value.ref b] below meth c s.heap [] 0 0 (lw_Z below #[Value.ref b] s) (entryFrame m ([Value.ref b] : List Value).toArray 7) := by
  have hCC := C0
  obtain ⟨hx, hb, hr, hml, hown, hts, hX, hbl, hlocks, hgv⟩ := C0
  have hA : ∀ q : Nat, s.heap.size ≤ q → (fun q : Nat => s.heap.size ≤ q) q := fun _ h => h
  have hbA : ¬ (fun q : Nat => s.heap.size ≤ q) b := Nat.not_le.mpr hbl
  obtain ⟨dC, dI, cI, cJ, hK⟩ := vk_of hts
  obtain ⟨sa, hXT⟩ := xt_of hts hgv
  have hfix : CallFix p m c cL_law 7 s #[Value.ref b] lw_tbl RL := ⟨hx, hb, hml, hown, hts⟩
  have hS : va_S (fun q : Nat => s.heap.size ≤ q) s.heap s.heap [] := va_S.rf
  have hP : va_P (dC, dI) vwCl [] s.heap := va_Pnil
  have hD : va_D (fun q : Nat => s.heap.size ≤ q) [] := ⟨fun i j p q h => by simp at h, fun k q h => by simp at h⟩
  have hl := lv_entry ([.ref b]) (n := 7) (Nat.le_of_ble_eq_true rfl)
  rw [lg_entry_eq]
  generalize (lg_sl ([.ref b]) ++ List.replicate (7 - (lg_sl ([.ref b])).length) Slot.unset).toArray = ls at hl ⊢
  have hl : lv_has ls 7 [(0, .ref b)] := hl
  refine va_new (ci := 5) (fs := [.null, .null, .null, .null, .null, .null, .null]) (C := RX5) (T := TX5) (N := 7) hx hb hts (fun w h => (gk_wsX50 w h).1) tyX5 tyX5_ok hown (hts_at hts (.classLink RL 8 RX5) (1, 14) (by decide +kernel)) (hts_at hts (.instantiable RX5 7) (1, 15) (by decide +kernel)) (hts_at hts (.initialized RX5) (1, 1) (by decide +kernel)) hK.1 hP hD hS hA rfl (fun j hj => by rcases (show j = 0 ∨ j = 1 ∨ j = 2 ∨ j = 3 ∨ j = 4 ∨ j = 5 ∨ j = 6 by omega) with rfl | rfl | rfl | rfl | rfl | rfl | rfl <;> rfl) (by decide +kernel) (by decide +kernel) dL_law_0 (fun q0v H hP hD hS => ?_)
  have hP : va_P (dC, dI) vwCl [(q0v, .inr (5, [.null, .null, .null, .null, .null, .null, .null]))] H := hP
  have hD : va_D (fun q : Nat => s.heap.size ≤ q) [(q0v, .inr (5, [.null, .null, .null, .null, .null, .null, .null]))] := hD
  refine W.widen (k := 1) (n := 7) (by decide +kernel) (by decide +kernel) ?_
  refine lv_dup hx hb dL_law_3 rfl ?_
  have hFc := va_free (wc := [(q0v, .inr (5, [.null, .null, .null, .null, .null, .null, .null]))]) hD hS hA [0] rfl
  refine va_callv (va_runI (As := []) (rest := [.ref q0v]) hfix (c_X5_init l dC dI cI cJ q0v H.size) (cwI 0 hts gk_X5_init rfl rfl rfl (hts_at hts (.initialized RX5) (1, 1) (by decide +kernel)) (hts_at hts (.methodLink RL 15 yX5_init) (1, 16) (by decide +kernel)) (hts_at hts (.instanceMethod yX5_init) (1, 17) (by decide +kernel)) rfl (by decide +kernel) ⟨by decide, by decide⟩) (rwP.preS hK hP hD rfl) rfl rfl hl.1 rfl (lv_room (Nat.le_of_ble_eq_true rfl)) dL_law_4 ⟨by decide +kernel, by decide +kernel⟩) hS (fun q _ h => hFc q h) hFc (fun u t H1 locs ht hvm hw hB hz1 hk1 hS => ?_)
  obtain ⟨ad5, hq0, hP1, -, hD1⟩ := hB
  rw [ht] at hP1
  obtain ⟨hP, hD⟩ := va_join (wr := []) (w1 := (wX5 cI cJ ad5 12 4095 0 0 0 0 0 (fun _ => 0) (fun _ => 0) (fun _ => 0) (fun _ => 0) (fun _ => 0))) hP hD [0] [] rfl rfl (by decide) (by decide) hk1 hFc hP1 hD1
  generalize H1 = H at hP hS ⊢
  rw [← hq0]
  have hP : va_P (dC, dI) vwCl (wX5 cI cJ ad5 12 4095 0 0 0 0 0 (fun _ => 0) (fun _ => 0) (fun _ => 0) (fun _ => 0) (fun _ => 0)) H := hP
  have hD : va_D (fun q : Nat => s.heap.size ≤ q) (wX5 cI cJ ad5 12 4095 0 0 0 0 0 (fun _ => 0) (fun _ => 0) (fun _ => 0) (fun _ => 0) (fun _ => 0)) := hD
  refine W.widen (k := 13) (n := 1108) (by decide +kernel) (by decide +kernel) ?_
  refine lv_astore_n (lv' := [(1, .ref (ad5 0)), (0, .ref b)]) hx hb dL_law_7 rfl hl (by decide) rfl (fun ls hl => ?_)
  refine va_new (ci := 6) (fs := [.int 0, .int 0, .int 0, .null, .null, .int 0, .null, .null, .null, .null, .null, .int 0, .int 0, .null, .null, .null, .null, .null, .null, .null]) (C := RX6) (T := TX6) (N := 20) hx hb hts (fun w h => (gk_wsX60 w h).1) tyX6 tyX6_ok hown (hts_at hts (.classLink RL 16 RX6) (3, 101) (by decide +kernel)) (hts_at hts (.instantiable RX6 20) (3, 102) (by decide +kernel)) (hts_at hts (.initialized RX6) (1, 7) (by decide +kernel)) hK.1 hP hD hS hA rfl (fun j hj => by rcases (show j = 0 ∨ j = 1 ∨ j = 2 ∨ j = 3 ∨ j = 4 ∨ j = 5 ∨ j = 6 ∨ j = 7 ∨ j = 8 ∨ j = 9 ∨ j = 10 ∨ j = 11 ∨ j = 12 ∨ j = 13 ∨ j = 14 ∨ j = 15 ∨ j = 16 ∨ j = 17 ∨ j = 18 ∨ j = 19 by omega) with rfl | rfl | rfl | rfl | rfl | rfl | rfl | rfl | rfl | rfl | rfl | rfl | rfl | rfl | rfl | rfl | rfl | rfl | rfl | rfl <;> rfl) (by decide +kernel) (by decide +kernel) dL_law_8 (fun q8v H hP hD hS => ?_)
  have hP : va_P (dC, dI) vwCl [((ad5 0), .inr (5, [.ref (ad5 1), .ref (ad5 2), .ref (ad5 3), .ref (ad5 4), .ref (ad5 5), .ref (ad5 6), .ref (ad5 7)])), ((ad5 1), .inr (0, [.int 12, .int 4095])), ((ad5 2), .inr (2, [.ref (ad5 1)])), ((ad5 3), .inr (1, [.ref (ad5 1), .int 0, .ref (ad5 8), .int 0])), ((ad5 4), .inr (1, [.ref (ad5 1), .int 1, .ref (ad5 9), .int 0])), ((ad5 5), .inr (1, [.ref (ad5 1), .int 2, .ref (ad5 10), .int 0])), ((ad5 6), .inr (3, [.ref (ad5 1), .ref (ad5 11), .int 0, .int 0])), ((ad5 7), .inr (4, [.ref (ad5 12)])), ((ad5 8), .inl (cI, 352, .inl (fun _ => 0))), ((ad5 9), .inl (cI, 352, .inl (fun _ => 0))), ((ad5 10), .inl (cI, 352, .inl (fun _ => 0))), ((ad5 11), .inl (cI, 12, .inl (fun _ => 0))), ((ad5 12), .inl (cI, 13, .inl (fun _ => 0))), (q8v, .inr (6, [.int 0, .int 0, .int 0, .null, .null, .int 0, .null, .null, .null, .null, .null, .int 0, .int 0, .null, .null, .null, .null, .null, .null, .null]))] H := hP
  have hD : va_D (fun q : Nat => s.heap.size ≤ q) [((ad5 0), .inr (5, [.ref (ad5 1), .ref (ad5 2), .ref (ad5 3), .ref (ad5 4), .ref (ad5 5), .ref (ad5 6), .ref (ad5 7)])), ((ad5 1), .inr (0, [.int 12, .int 4095])), ((ad5 2), .inr (2, [.ref (ad5 1)])), ((ad5 3), .inr (1, [.ref (ad5 1), .int 0, .ref (ad5 8), .int 0])), ((ad5 4), .inr (1, [.ref (ad5 1), .int 1, .ref (ad5 9), .int 0])), ((ad5 5), .inr (1, [.ref (ad5 1), .int 2, .ref (ad5 10), .int 0])), ((ad5 6), .inr (3, [.ref (ad5 1), .ref (ad5 11), .int 0, .int 0])), ((ad5 7), .inr (4, [.ref (ad5 12)])), ((ad5 8), .inl (cI, 352, .inl (fun _ => 0))), ((ad5 9), .inl (cI, 352, .inl (fun _ => 0))), ((ad5 10), .inl (cI, 352, .inl (fun _ => 0))), ((ad5 11), .inl (cI, 12, .inl (fun _ => 0))), ((ad5 12), .inl (cI, 13, .inl (fun _ => 0))), (q8v, .inr (6, [.int 0, .int 0, .int 0, .null, .null, .int 0, .null, .null, .null, .null, .null, .int 0, .int 0, .null, .null, .null, .null, .null, .null, .null]))] := hD
  refine W.widen (k := 14) (n := 1128) (by decide +kernel) (by decide +kernel) ?_
  refine lv_dup hx hb dL_law_11 rfl ?_
  have hPc : va_P (dC, dI) vwCl [(q8v, .inr (6, [.int 0, .int 0, .int 0, .null, .null, .int 0, .null, .null, .null, .null, .null, .int 0, .int 0, .null, .null, .null, .null, .null, .null, .null]))] H := hP.sub [13] rfl
  have hDc : va_D (fun q : Nat => s.heap.size ≤ q) [(q8v, .inr (6, [.int 0, .int 0, .int 0, .null, .null, .int 0, .null, .null, .null, .null, .null, .int 0, .int 0, .null, .null, .null, .null, .null, .null, .null]))] := hD.sub [13] (by decide) rfl
  have hFc := va_free (wc := [(q8v, .inr (6, [.int 0, .int 0, .int 0, .null, .null, .int 0, .null, .null, .null, .null, .null, .int 0, .int 0, .null, .null, .null, .null, .null, .null, .null]))]) hD hS hA [13] rfl
  refine va_callv (va_runI (As := []) (rest := [.ref q8v]) hfix (c_X6_init l dC dI cI cJ q8v H.size) (cwI 0 hts gk_X6_init rfl rfl rfl (hts_at hts (.initialized RX6) (1, 7) (by decide +kernel)) (hts_at hts (.methodLink RL 18 yX6_init) (3, 103) (by decide +kernel)) (hts_at hts (.instanceMethod yX6_init) (3, 104) (by decide +kernel)) rfl (by decide +kernel) ⟨by decide, by decide⟩) (rwP.preS hK hPc hDc rfl) rfl rfl hl.1 rfl (lv_room (Nat.le_of_ble_eq_true rfl)) dL_law_12 ⟨by decide +kernel, by decide +kernel⟩) hS (fun q _ h => hFc q h) hFc (fun u t H1 locs ht hvm hw hB hz1 hk1 hS => ?_)
  obtain ⟨ad6, hq8, hP1, -, hD1⟩ := hB
  rw [ht] at hP1
  obtain ⟨hP, hD⟩ := va_join (wr := [((ad5 0), .inr (5, [.ref (ad5 1), .ref (ad5 2), .ref (ad5 3), .ref (ad5 4), .ref (ad5 5), .ref (ad5 6), .ref (ad5 7)])), ((ad5 1), .inr (0, [.int 12, .int 4095])), ((ad5 2), .inr (2, [.ref (ad5 1)])), ((ad5 3), .inr (1, [.ref (ad5 1), .int 0, .ref (ad5 8), .int 0])), ((ad5 4), .inr (1, [.ref (ad5 1), .int 1, .ref (ad5 9), .int 0])), ((ad5 5), .inr (1, [.ref (ad5 1), .int 2, .ref (ad5 10), .int 0])), ((ad5 6), .inr (3, [.ref (ad5 1), .ref (ad5 11), .int 0, .int 0])), ((ad5 7), .inr (4, [.ref (ad5 12)])), ((ad5 8), .inl (cI, 352, .inl (fun _ => 0))), ((ad5 9), .inl (cI, 352, .inl (fun _ => 0))), ((ad5 10), .inl (cI, 352, .inl (fun _ => 0))), ((ad5 11), .inl (cI, 12, .inl (fun _ => 0))), ((ad5 12), .inl (cI, 13, .inl (fun _ => 0)))]) (w1 := (wX6 cI cJ ad6 0 12 0 0 0 0 (fun _ => 0) (fun _ => 0) (fun _ => 0) (fun _ => 0) (fun _ => 0) (fun _ => 0) (fun _ => 0) (fun _ => 0) (fun _ => 0) (fun _ => 0) (fun _ => 0) (fun _ => 0) (fun _ => 0) (fun _ => 0))) hP hD [13] [0, 1, 2, 3, 4, 5, 6, 7, 8, 9, 10, 11, 12] rfl rfl (by decide) (by decide) hk1 hFc hP1 hD1
  generalize H1 = H at hP hS ⊢
  rw [← hq8]
  have hP : va_P (dC, dI) vwCl [((ad5 0), .inr (5, [.ref (ad5 1), .ref (ad5 2), .ref (ad5 3), .ref (ad5 4), .ref (ad5 5), .ref (ad5 6), .ref (ad5 7)])), ((ad5 1), .inr (0, [.int 12, .int 4095])), ((ad5 2), .inr (2, [.ref (ad5 1)])), ((ad5 3), .inr (1, [.ref (ad5 1), .int 0, .ref (ad5 8), .int 0])), ((ad5 4), .inr (1, [.ref (ad5 1), .int 1, .ref (ad5 9), .int 0])), ((ad5 5), .inr (1, [.ref (ad5 1), .int 2, .ref (ad5 10), .int 0])), ((ad5 6), .inr (3, [.ref (ad5 1), .ref (ad5 11), .int 0, .int 0])), ((ad5 7), .inr (4, [.ref (ad5 12)])), ((ad5 8), .inl (cI, 352, .inl (fun _ => 0))), ((ad5 9), .inl (cI, 352, .inl (fun _ => 0))), ((ad5 10), .inl (cI, 352, .inl (fun _ => 0))), ((ad5 11), .inl (cI, 12, .inl (fun _ => 0))), ((ad5 12), .inl (cI, 13, .inl (fun _ => 0))), ((ad6 0), .inr (6, [.int 0, .int 12, .int 0, .ref (ad6 1), .ref (ad6 2), .int 0, .ref (ad6 3), .ref (ad6 4), .ref (ad6 5), .ref (ad6 6), .ref (ad6 7), .int 0, .int 0, .ref (ad6 8), .ref (ad6 9), .ref (ad6 10), .ref (ad6 11), .ref (ad6 12), .ref (ad6 13), .ref (ad6 14)])), ((ad6 1), .inl (cI, 12288, .inl (fun _ => 0))), ((ad6 2), .inl (cI, 12288, .inl (fun _ => 0))), ((ad6 3), .inl (cI, 12, .inl (fun _ => 0))), ((ad6 4), .inl (cI, 12, .inl (fun _ => 0))), ((ad6 5), .inl (cI, 12, .inl (fun _ => 0))), ((ad6 6), .inl (cI, 12, .inl (fun _ => 0))), ((ad6 7), .inl (cI, 12, .inl (fun _ => 0))), ((ad6 8), .inl (cI, 12, .inl (fun _ => 0))), ((ad6 9), .inl (cI, 12, .inl (fun _ => 0))), ((ad6 10), .inl (cI, 576, .inl (fun _ => 0))), ((ad6 11), .inl (cI, 13, .inl (fun _ => 0))), ((ad6 12), .inl (cI, 13, .inl (fun _ => 0))), ((ad6 13), .inl (cI, 13, .inl (fun _ => 0))), ((ad6 14), .inl (cJ, 25, .inr (.inl (fun _ => 0))))] H := hP
  have hD : va_D (fun q : Nat => s.heap.size ≤ q) [((ad5 0), .inr (5, [.ref (ad5 1), .ref (ad5 2), .ref (ad5 3), .ref (ad5 4), .ref (ad5 5), .ref (ad5 6), .ref (ad5 7)])), ((ad5 1), .inr (0, [.int 12, .int 4095])), ((ad5 2), .inr (2, [.ref (ad5 1)])), ((ad5 3), .inr (1, [.ref (ad5 1), .int 0, .ref (ad5 8), .int 0])), ((ad5 4), .inr (1, [.ref (ad5 1), .int 1, .ref (ad5 9), .int 0])), ((ad5 5), .inr (1, [.ref (ad5 1), .int 2, .ref (ad5 10), .int 0])), ((ad5 6), .inr (3, [.ref (ad5 1), .ref (ad5 11), .int 0, .int 0])), ((ad5 7), .inr (4, [.ref (ad5 12)])), ((ad5 8), .inl (cI, 352, .inl (fun _ => 0))), ((ad5 9), .inl (cI, 352, .inl (fun _ => 0))), ((ad5 10), .inl (cI, 352, .inl (fun _ => 0))), ((ad5 11), .inl (cI, 12, .inl (fun _ => 0))), ((ad5 12), .inl (cI, 13, .inl (fun _ => 0))), ((ad6 0), .inr (6, [.int 0, .int 12, .int 0, .ref (ad6 1), .ref (ad6 2), .int 0, .ref (ad6 3), .ref (ad6 4), .ref (ad6 5), .ref (ad6 6), .ref (ad6 7), .int 0, .int 0, .ref (ad6 8), .ref (ad6 9), .ref (ad6 10), .ref (ad6 11), .ref (ad6 12), .ref (ad6 13), .ref (ad6 14)])), ((ad6 1), .inl (cI, 12288, .inl (fun _ => 0))), ((ad6 2), .inl (cI, 12288, .inl (fun _ => 0))), ((ad6 3), .inl (cI, 12, .inl (fun _ => 0))), ((ad6 4), .inl (cI, 12, .inl (fun _ => 0))), ((ad6 5), .inl (cI, 12, .inl (fun _ => 0))), ((ad6 6), .inl (cI, 12, .inl (fun _ => 0))), ((ad6 7), .inl (cI, 12, .inl (fun _ => 0))), ((ad6 8), .inl (cI, 12, .inl (fun _ => 0))), ((ad6 9), .inl (cI, 12, .inl (fun _ => 0))), ((ad6 10), .inl (cI, 576, .inl (fun _ => 0))), ((ad6 11), .inl (cI, 13, .inl (fun _ => 0))), ((ad6 12), .inl (cI, 13, .inl (fun _ => 0))), ((ad6 13), .inl (cI, 13, .inl (fun _ => 0))), ((ad6 14), .inl (cJ, 25, .inr (.inl (fun _ => 0))))] := hD
  refine W.widen (k := 28) (n := 26428) (by decide +kernel) (by decide +kernel) ?_
  refine lv_astore_n (lv' := [(2, .ref (ad6 0)), (1, .ref (ad5 0)), (0, .ref b)]) hx hb dL_law_15 rfl hl (by decide) rfl (fun ls hl => ?_)
  refine lv_iconst (v := (1 : Int32)) hx hb dL_law_16 (by decide) ?_
  refine va_newa (atype := .long) (ty := .long) (N' := 1) (a0 := (1, .inr (.inl (fun _ => 0)))) hx hb (hts_at hts (.arrayClass .long) (3, 168) (by decide +kernel)) rfl hK.1 hP hD hS hA (fun cA => vp_cell_l cA 1 _) (by decide +kernel) (by decide +kernel) (by decide +kernel) (by decide +kernel) (by decide +kernel) dL_law_17 (fun qo cA H hK9 hP hD hS => ?_)
  rw [ty_l hK9] at hP hD
  have hP : va_P (dC, dI) vwCl (wLaw cI cJ ad5 ad6 qo 12 4095 0 0 0 0 0 (fun _ => 0) (fun _ => 0) (fun _ => 0) (fun _ => 0) (fun _ => 0) 0 12 0 0 0 0 (fun _ => 0) (fun _ => 0) (fun _ => 0) (fun _ => 0) (fun _ => 0) (fun _ => 0) (fun _ => 0) (fun _ => 0) (fun _ => 0) (fun _ => 0) (fun _ => 0) (fun _ => 0) (fun _ => 0) (fun _ => 0) (fun _ => 0)) H := hP
  have hD : va_D (fun q : Nat => s.heap.size ≤ q) (wLaw cI cJ ad5 ad6 qo 12 4095 0 0 0 0 0 (fun _ => 0) (fun _ => 0) (fun _ => 0) (fun _ => 0) (fun _ => 0) 0 12 0 0 0 0 (fun _ => 0) (fun _ => 0) (fun _ => 0) (fun _ => 0) (fun _ => 0) (fun _ => 0) (fun _ => 0) (fun _ => 0) (fun _ => 0) (fun _ => 0) (fun _ => 0) (fun _ => 0) (fun _ => 0) (fun _ => 0) (fun _ => 0)) := hD
  refine W.widen (k := 29 + 0) (n := 26429 + 6 * 0) (by decide +kernel) (by decide +kernel) ?_
  refine lv_astore_n (lv' := [(3, .ref qo), (2, .ref (ad6 0)), (1, .ref (ad5 0)), (0, .ref b)]) hx hb dL_law_19 rfl hl (by decide) rfl (fun ls hl => ?_)
  refine lv_iconst (v := (0 : Int32)) hx hb dL_law_20 (by decide) ?_
  refine lv_istore (lv' := [(4, .int 0), (3, .ref qo), (2, .ref (ad6 0)), (1, .ref (ad5 0)), (0, .ref b)]) hx hb dL_law_21 hl (by decide) rfl (fun ls hl => ?_)
  exact law_loop hL hCC hlt hK hXT Inv hops (L + 1) 0 (by omega) (by omega) 0 rfl 12 4095 0 0 0 0 0 (fun _ => 0) (fun _ => 0) (fun _ => 0) (fun _ => 0) (fun _ => 0) 0 12 0 0 0 0 (fun _ => 0) (fun _ => 0) (fun _ => 0) (fun _ => 0) (fun _ => 0) (fun _ => 0) (fun _ => 0) (fun _ => 0) (fun _ => 0) (fun _ => 0) (fun _ => 0) (fun _ => 0) (fun _ => 0) (fun _ => 0) (fun _ => 0) hI0 _ _ ls hP hD hS (lv_sub hl [4, 3, 2, 1, 0] rfl)
