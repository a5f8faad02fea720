def R_law : String := "RowClassesLaw"
def lw_P (b : Addr) (xs : List Int32) (args : Array Value) (s : State) : Prop := args = #[.ref b] ∧ s.IntsAt b xs ∧ xs.length ≤ 2560 ∧ (Jvm.Cond.and given_1 narrow_1).before args s = true
def lw_Q (_ : Array Value) (s : State) (o : Outcome) (t : State) : Prop := o = .returned (some (.int 1)) ∧ Framed s o t [] 601024 7293034
def lw_Z (below : List Frame) (a : Array Value) (s : State) : State → Prop := fun t => ∃ o, t.status = .running ∧ Ended t below o ∧ lw_Q a s o t
theorem lw_ret {p : Program} {l : Launch} {e : Env} {s : State} {m : MethodId} {below : List Frame} {meth : Method} {c : Code} {b : Nat} (hx : p.tables.exec = Jvm.exec) (hb : c.code = code) (hr : meth.sig.returnType = ret) (hlocks : meth.locks = false) {pc : Nat} {H : Heap} {ls : Array Slot} (hdg : decode code pc = .ok (.ireturn, 1)) : W p l e room_1 s m #[Value.ref b] below meth c H [] 601024 7293034 (lw_Z below #[Value.ref b] s) (F0 m pc ls [.int 1]) := by
  intro T hT X
  obtain ⟨fs, hret, hrun, hended, hW, hframe⟩ := X.leave (v := some (.int 1)) (hlocks := hlocks) (fun h => by rw [hr] at h; cases h)
  have hmeth' : T.vm.method? m = some meth := X.method'
  refine ⟨T.setFrames fs, ?_, .returned (some (.int 1)), hrun, hended, rfl, ⟨_, rfl⟩, hW, hframe⟩
  jvm_step X.here [X.here.top, hx, hb, hdg, hmeth', hr, ret, narrow_b1]
  (try refine ⟨rfl, ?_⟩); (try refine ⟨rfl, ?_⟩)
  first | (intro acts; rw [hret _ acts rfl rfl rfl]) | rw [hret _ _ rfl rfl rfl]
  exact Steps.refl _
def lw_At (p : Program) (s : State) (m : MethodId) (meth : Method) (c : Code) (b L : Nat) (xs : Nat → Int32) : Prop :=
  p.tables.exec = Jvm.exec ∧ c.code = code ∧ meth.sig.returnType = ret ∧ c.maxLocals = 7 ∧ s.vm.findClass R_law = some m.cls ∧ (∀ w ∈ lw_tbl, w.before #[Value.ref b] s = true) ∧ va_X b L xs s s.heap ∧ b < s.heap.size ∧ meth.locks = false ∧ (Jvm.Cond.and given_1 narrow_1).before #[Value.ref b] s = true

abbrev wLaw (cI cJ : ClassId) (ad5 ad6 : Nat → Nat) (qo : Nat) (n : Int32) (ev : Int32) (ld0 : Int32) (ld1 : Int32) (ld2 : Int32) (tk : Int32) (mb : Int32) (f0 : Nat → Int32) (f1 : Nat → Int32) (f2 : Nat → Int32) (fr : Nat → Int32) (fu : Nat → Int32) (m_code : Int32) (m_n : Int32) (m_built : Int32) (m_length : Int32) (m_begin : Int32) (m_many : Int32) (m_leastOf : Nat → Int32) (m_sizeOf : Nat → Int32) (m_own : Nat → Int32) (m_bestRow : Nat → Int32) (m_tryRow : Nat → Int32) (m_keptRow : Nat → Int32) (m_otherRow : Nat → Int32) (m_row : Nat → Int32) (m_formRow : Nat → Int32) (m_allForms : Nat → Int32) (m_rowsOf : Nat → Int32) (m_intervals : Nat → Int32) (m_places : Nat → Int32) (m_whole : Nat → Int64) (fo : Nat → Int64) : va_W := [((ad5 0), .inr (5, [.ref (ad5 1), .ref (ad5 2), .ref (ad5 3), .ref (ad5 4), .ref (ad5 5), .ref (ad5 6), .ref (ad5 7)])), ((ad5 1), .inr (0, [.int n, .int ev])), ((ad5 2), .inr (2, [.ref (ad5 1)])), ((ad5 3), .inr (1, [.ref (ad5 1), .int 0, .ref (ad5 8), .int ld0])), ((ad5 4), .inr (1, [.ref (ad5 1), .int 1, .ref (ad5 9), .int ld1])), ((ad5 5), .inr (1, [.ref (ad5 1), .int 2, .ref (ad5 10), .int ld2])), ((ad5 6), .inr (3, [.ref (ad5 1), .ref (ad5 11), .int tk, .int mb])), ((ad5 7), .inr (4, [.ref (ad5 12)])), ((ad5 8), .inl (cI, 352, .inl f0)), ((ad5 9), .inl (cI, 352, .inl f1)), ((ad5 10), .inl (cI, 352, .inl f2)), ((ad5 11), .inl (cI, 12, .inl fr)), ((ad5 12), .inl (cI, 13, .inl fu)), ((ad6 0), .inr (6, [.int m_code, .int m_n, .int m_built, .ref (ad6 1), .ref (ad6 2), .int m_length, .ref (ad6 3), .ref (ad6 4), .ref (ad6 5), .ref (ad6 6), .ref (ad6 7), .int m_begin, .int m_many, .ref (ad6 8), .ref (ad6 9), .ref (ad6 10), .ref (ad6 11), .ref (ad6 12), .ref (ad6 13), .ref (ad6 14)])), ((ad6 1), .inl (cI, 12288, .inl m_leastOf)), ((ad6 2), .inl (cI, 12288, .inl m_sizeOf)), ((ad6 3), .inl (cI, 12, .inl m_own)), ((ad6 4), .inl (cI, 12, .inl m_bestRow)), ((ad6 5), .inl (cI, 12, .inl m_tryRow)), ((ad6 6), .inl (cI, 12, .inl m_keptRow)), ((ad6 7), .inl (cI, 12, .inl m_otherRow)), ((ad6 8), .inl (cI, 12, .inl m_row)), ((ad6 9), .inl (cI, 12, .inl m_formRow)), ((ad6 10), .inl (cI, 576, .inl m_allForms)), ((ad6 11), .inl (cI, 13, .inl m_rowsOf)), ((ad6 12), .inl (cI, 13, .inl m_intervals)), ((ad6 13), .inl (cI, 13, .inl m_places)), ((ad6 14), .inl (cJ, 25, .inr (.inl m_whole))), (qo, .inl (cJ, 1, .inr (.inl fo)))]
theorem lg_cmp_self (x : Int64) : lg_cmp x x = 0 := by unfold lg_cmp; simp
set_option maxRecDepth 20000 in
theorem gv_X5_least : GoodIn lw_tbl (wsV RL 29 RX5 yX5_least wsX5_least) := goodIn_app (tk_good _ [(1, 116), (1, 117), (1, 118), (1, 1)] (by decide +kernel) (by decide +kernel)) gk_X5_least
set_option maxRecDepth 20000 in
theorem gv_X6_least : GoodIn lw_tbl (wsV RL 33 RX6 yX6_least wsX6_least) := goodIn_app (tk_good _ [(3, 177), (3, 178), (3, 179), (1, 7)] (by decide +kernel) (by decide +kernel)) gk_X6_least
set_option maxRecDepth 20000 in
theorem gv_X5_size : GoodIn lw_tbl (wsV RL 34 RX5 yX5_size wsX5_size) := goodIn_app (tk_good _ [(1, 157), (1, 158), (1, 159), (1, 1)] (by decide +kernel) (by decide +kernel)) gk_X5_size
set_option maxRecDepth 20000 in
theorem gv_X6_size : GoodIn lw_tbl (wsV RL 37 RX6 yX6_size wsX6_size) := goodIn_app (tk_good _ [(3, 211), (3, 212), (3, 213), (1, 7)] (by decide +kernel) (by decide +kernel)) gk_X6_size
set_option maxRecDepth 20000 in
theorem gv_X5_classes : GoodIn lw_tbl (wsV RL 38 RX5 yX5_classes wsX5_classes) := goodIn_app (tk_good _ [(1, 180), (1, 181), (1, 182), (1, 1)] (by decide +kernel) (by decide +kernel)) gk_X5_classes
set_option maxRecDepth 20000 in
theorem gv_X6_classes : GoodIn lw_tbl (wsV RL 41 RX6 yX6_classes wsX6_classes) := goodIn_app (tk_good _ [(3, 215), (3, 216), (3, 217), (1, 7)] (by decide +kernel) (by decide +kernel)) gk_X6_classes
set_option maxRecDepth 20000 in
theorem gv_X5_nth : GoodIn lw_tbl (wsV RL 42 RX5 yX5_nth wsX5_nth) := goodIn_app (tk_good _ [(1, 228), (1, 229), (1, 230), (1, 1)] (by decide +kernel) (by decide +kernel)) gk_X5_nth
set_option maxRecDepth 20000 in
theorem gv_X6_nth : GoodIn lw_tbl (wsV RL 46 RX6 yX6_nth wsX6_nth) := goodIn_app (tk_good _ [(3, 226), (3, 227), (3, 228), (1, 7)] (by decide +kernel) (by decide +kernel)) gk_X6_nth
set_option maxRecDepth 20000 in
theorem gv_X5_normal : GoodIn lw_tbl (wsV RL 47 RX5 yX5_normal wsX5_normal) := goodIn_app (tk_good _ [(1, 236), (1, 237), (1, 238), (1, 1)] (by decide +kernel) (by decide +kernel)) gk_X5_normal
set_option maxRecDepth 20000 in
theorem gv_X6_normal : GoodIn lw_tbl (wsV RL 50 RX6 yX6_normal wsX6_normal) := goodIn_app (tk_good _ [(3, 230), (3, 231), (3, 232), (1, 7)] (by decide +kernel) (by decide +kernel)) gk_X6_normal
set_option maxRecDepth 20000 in
theorem gv_X5_prime : GoodIn lw_tbl (wsV RL 51 RX5 yX5_prime wsX5_prime) := goodIn_app (tk_good _ [(2, 30), (2, 31), (2, 32), (1, 1)] (by decide +kernel) (by decide +kernel)) gk_X5_prime
set_option maxRecDepth 20000 in
theorem gv_X6_prime : GoodIn lw_tbl (wsV RL 54 RX6 yX6_prime wsX6_prime) := goodIn_app (tk_good _ [(4, 2), (4, 3), (4, 4), (1, 7)] (by decide +kernel) (by decide +kernel)) gk_X6_prime
set_option maxRecDepth 20000 in
theorem gv_X5_differ : GoodIn lw_tbl (wsV RL 55 RX5 yX5_differ wsX5_differ) := goodIn_app (tk_good _ [(2, 43), (2, 44), (2, 45), (1, 1)] (by decide +kernel) (by decide +kernel)) gk_X5_differ
set_option maxRecDepth 20000 in
theorem gv_X6_differ : GoodIn lw_tbl (wsV RL 58 RX6 yX6_differ wsX6_differ) := goodIn_app (tk_good _ [(4, 10), (4, 11), (4, 12), (1, 7)] (by decide +kernel) (by decide +kernel)) gk_X6_differ
set_option maxRecDepth 20000 in
theorem gv_X5_vector : GoodIn lw_tbl (wsV RL 59 RX5 yX5_vector wsX5_vector) := goodIn_app (tk_good _ [(2, 54), (2, 55), (2, 56), (1, 1)] (by decide +kernel) (by decide +kernel)) gk_X5_vector
set_option maxRecDepth 20000 in
theorem gv_X6_vector : GoodIn lw_tbl (wsV RL 62 RX6 yX6_vector wsX6_vector) := goodIn_app (tk_good _ [(4, 14), (4, 15), (4, 16), (1, 7)] (by decide +kernel) (by decide +kernel)) gk_X6_vector
set_option maxRecDepth 20000 in
theorem gv_X5_twin : GoodIn lw_tbl (wsV RL 63 RX5 yX5_twin wsX5_twin) := goodIn_app (tk_good _ [(2, 63), (2, 64), (2, 65), (1, 1)] (by decide +kernel) (by decide +kernel)) gk_X5_twin
set_option maxRecDepth 20000 in
theorem gv_X6_twin : GoodIn lw_tbl (wsV RL 66 RX6 yX6_twin wsX6_twin) := goodIn_app (tk_good _ [(4, 22), (4, 23), (4, 24), (1, 7)] (by decide +kernel) (by decide +kernel)) gk_X6_twin
set_option maxRecDepth 20000 in
theorem gv_X5_others : GoodIn lw_tbl (wsV RL 67 RX5 yX5_others wsX5_others) := goodIn_app (tk_good _ [(2, 71), (2, 72), (2, 73), (1, 1)] (by decide +kernel) (by decide +kernel)) gk_X5_others
set_option maxRecDepth 20000 in
theorem gv_X6_others : GoodIn lw_tbl (wsV RL 70 RX6 yX6_others wsX6_others) := goodIn_app (tk_good _ [(4, 30), (4, 31), (4, 32), (1, 7)] (by decide +kernel) (by decide +kernel)) gk_X6_others
set_option maxRecDepth 20000 in
theorem gv_X5_multiplied : GoodIn lw_tbl (wsV RL 71 RX5 yX5_multiplied wsX5_multiplied) := goodIn_app (tk_good _ [(2, 75), (2, 76), (2, 77), (1, 1)] (by decide +kernel) (by decide +kernel)) gk_X5_multiplied
set_option maxRecDepth 20000 in
theorem gv_X6_multiplied : GoodIn lw_tbl (wsV RL 74 RX6 yX6_multiplied wsX6_multiplied) := goodIn_app (tk_good _ [(4, 34), (4, 35), (4, 36), (1, 7)] (by decide +kernel) (by decide +kernel)) gk_X6_multiplied
set_option maxRecDepth 20000 in
theorem gv_X5_within : GoodIn lw_tbl (wsV RL 75 RX5 yX5_within wsX5_within) := goodIn_app (tk_good _ [(2, 84), (2, 85), (2, 86), (1, 1)] (by decide +kernel) (by decide +kernel)) gk_X5_within
set_option maxRecDepth 20000 in
theorem gv_X6_within : GoodIn lw_tbl (wsV RL 78 RX6 yX6_within wsX6_within) := goodIn_app (tk_good _ [(4, 42), (4, 43), (4, 44), (1, 7)] (by decide +kernel) (by decide +kernel)) gk_X6_within
set_option maxRecDepth 20000 in
theorem gv_X5_common : GoodIn lw_tbl (wsV RL 79 RX5 yX5_common wsX5_common) := goodIn_app (tk_good _ [(2, 88), (2, 89), (2, 90), (1, 1)] (by decide +kernel) (by decide +kernel)) gk_X5_common
set_option maxRecDepth 20000 in
theorem gv_X6_common_ : GoodIn lw_tbl (wsV RL 83 RX6 yX6_common_ wsX6_common_) := goodIn_app (tk_good _ [(4, 46), (4, 47), (4, 48), (1, 7)] (by decide +kernel) (by decide +kernel)) gk_X6_common_
set_option maxRecDepth 20000 in
theorem gv_X5_best : GoodIn lw_tbl (wsV RL 84 RX5 yX5_best wsX5_best) := goodIn_app (tk_good _ [(2, 94), (2, 95), (2, 96), (1, 1)] (by decide +kernel) (by decide +kernel)) gk_X5_best
set_option maxRecDepth 20000 in
theorem gv_X6_best : GoodIn lw_tbl (wsV RL 88 RX6 yX6_best wsX6_best) := goodIn_app (tk_good _ [(4, 54), (4, 55), (4, 56), (1, 7)] (by decide +kernel) (by decide +kernel)) gk_X6_best
set_option maxRecDepth 20000 in
theorem gv_X5_keeps : GoodIn lw_tbl (wsV RL 89 RX5 yX5_keeps wsX5_keeps) := goodIn_app (tk_good _ [(2, 98), (2, 99), (2, 100), (1, 1)] (by decide +kernel) (by decide +kernel)) gk_X5_keeps
set_option maxRecDepth 20000 in
theorem gv_X6_keeps : GoodIn lw_tbl (wsV RL 93 RX6 yX6_keeps wsX6_keeps) := goodIn_app (tk_good _ [(4, 58), (4, 59), (4, 60), (1, 7)] (by decide +kernel) (by decide +kernel)) gk_X6_keeps
set_option maxRecDepth 20000 in
theorem gv_X5_even : GoodIn lw_tbl (wsV RL 94 RX5 yX5_even wsX5_even) := goodIn_app (tk_good _ [(2, 102), (2, 103), (2, 104), (1, 1)] (by decide +kernel) (by decide +kernel)) gk_X5_even
set_option maxRecDepth 20000 in
theorem gv_X6_even : GoodIn lw_tbl (wsV RL 97 RX6 yX6_even wsX6_even) := goodIn_app (tk_good _ [(4, 62), (4, 63), (4, 64), (1, 7)] (by decide +kernel) (by decide +kernel)) gk_X6_even
set_option maxRecDepth 20000 in
theorem gv_X5_spread : GoodIn lw_tbl (wsV RL 98 RX5 yX5_spread wsX5_spread) := goodIn_app (tk_good _ [(2, 114), (2, 115), (2, 116), (1, 1)] (by decide +kernel) (by decide +kernel)) gk_X5_spread
set_option maxRecDepth 20000 in
theorem gv_X6_spread : GoodIn lw_tbl (wsV RL 101 RX6 yX6_spread wsX6_spread) := goodIn_app (tk_good _ [(4, 66), (4, 67), (4, 68), (1, 7)] (by decide +kernel) (by decide +kernel)) gk_X6_spread
set_option maxRecDepth 20000 in
theorem gv_X5_generator : GoodIn lw_tbl (wsV RL 102 RX5 yX5_generator wsX5_generator) := goodIn_app (tk_good _ [(2, 118), (2, 119), (2, 120), (1, 1)] (by decide +kernel) (by decide +kernel)) gk_X5_generator
set_option maxRecDepth 20000 in
theorem gv_X6_generator : GoodIn lw_tbl (wsV RL 105 RX6 yX6_generator wsX6_generator) := goodIn_app (tk_good _ [(4, 70), (4, 71), (4, 72), (1, 7)] (by decide +kernel) (by decide +kernel)) gk_X6_generator
set_option maxRecDepth 20000 in
theorem gv_X5_add : GoodIn lw_tbl (wsV RL 106 RX5 yX5_add wsX5_add) := goodIn_app (tk_good _ [(2, 126), (2, 127), (2, 128), (1, 1)] (by decide +kernel) (by decide +kernel)) gk_X5_add
set_option maxRecDepth 20000 in
theorem gv_X6_add : GoodIn lw_tbl (wsV RL 109 RX6 yX6_add wsX6_add) := goodIn_app (tk_good _ [(4, 74), (4, 75), (4, 76), (1, 7)] (by decide +kernel) (by decide +kernel)) gk_X6_add
set_option maxRecDepth 20000 in
theorem gv_X5_clear : GoodIn lw_tbl (wsV RL 110 RX5 yX5_clear wsX5_clear) := goodIn_app (tk_good _ [(2, 142), (2, 143), (2, 144), (1, 1)] (by decide +kernel) (by decide +kernel)) gk_X5_clear
set_option maxRecDepth 20000 in
theorem gv_X6_clear : GoodIn lw_tbl (wsV RL 113 RX6 yX6_clear wsX6_clear) := goodIn_app (tk_good _ [(4, 78), (4, 79), (4, 80), (1, 7)] (by decide +kernel) (by decide +kernel)) gk_X6_clear
set_option maxRecDepth 20000 in
theorem gv_X5_form : GoodIn lw_tbl (wsV RL 114 RX5 yX5_form wsX5_form) := goodIn_app (tk_good _ [(2, 150), (2, 151), (2, 152), (1, 1)] (by decide +kernel) (by decide +kernel)) gk_X5_form
set_option maxRecDepth 20000 in
theorem gv_X6_form : GoodIn lw_tbl (wsV RL 117 RX6 yX6_form wsX6_form) := goodIn_app (tk_good _ [(4, 82), (4, 83), (4, 84), (1, 7)] (by decide +kernel) (by decide +kernel)) gk_X6_form
set_option maxRecDepth 20000 in
theorem gv_X5_forms : GoodIn lw_tbl (wsV RL 118 RX5 yX5_forms wsX5_forms) := goodIn_app (tk_good _ [(2, 176), (2, 177), (2, 178), (1, 1)] (by decide +kernel) (by decide +kernel)) gk_X5_forms
set_option maxRecDepth 20000 in
theorem gv_X6_forms : GoodIn lw_tbl (wsV RL 121 RX6 yX6_forms wsX6_forms) := goodIn_app (tk_good _ [(4, 90), (4, 91), (4, 92), (1, 7)] (by decide +kernel) (by decide +kernel)) gk_X6_forms
set_option maxRecDepth 20000 in
theorem gv_X5_table : GoodIn lw_tbl (wsV RL 122 RX5 yX5_table wsX5_table) := goodIn_app (tk_good _ [(2, 186), (2, 187), (2, 188), (1, 1)] (by decide +kernel) (by decide +kernel)) gk_X5_table
set_option maxRecDepth 20000 in
theorem gv_X6_table : GoodIn lw_tbl (wsV RL 125 RX6 yX6_table wsX6_table) := goodIn_app (tk_good _ [(4, 94), (4, 95), (4, 96), (1, 7)] (by decide +kernel) (by decide +kernel)) gk_X6_table
set_option maxRecDepth 20000 in
theorem gv_X5_unlike : GoodIn lw_tbl (wsV RL 126 RX5 yX5_unlike wsX5_unlike) := goodIn_app (tk_good _ [(2, 191), (2, 192), (2, 193), (1, 1)] (by decide +kernel) (by decide +kernel)) gk_X5_unlike
set_option maxRecDepth 20000 in
theorem gv_X6_unlike : GoodIn lw_tbl (wsV RL 129 RX6 yX6_unlike wsX6_unlike) := goodIn_app (tk_good _ [(4, 98), (4, 99), (4, 100), (1, 7)] (by decide +kernel) (by decide +kernel)) gk_X6_unlike
set_option maxRecDepth 20000 in
theorem gv_X5_rows : GoodIn lw_tbl (wsV RL 130 RX5 yX5_rows wsX5_rows) := goodIn_app (tk_good _ [(2, 199), (2, 200), (2, 201), (1, 1)] (by decide +kernel) (by decide +kernel)) gk_X5_rows
set_option maxRecDepth 20000 in
theorem gv_X6_rows : GoodIn lw_tbl (wsV RL 133 RX6 yX6_rows wsX6_rows) := goodIn_app (tk_good _ [(4, 102), (4, 103), (4, 104), (1, 7)] (by decide +kernel) (by decide +kernel)) gk_X6_rows
set_option maxRecDepth 20000 in
theorem gv_X5_fills : GoodIn lw_tbl (wsV RL 134 RX5 yX5_fills wsX5_fills) := goodIn_app (tk_good _ [(2, 217), (2, 218), (2, 219), (1, 1)] (by decide +kernel) (by decide +kernel)) gk_X5_fills
set_option maxRecDepth 20000 in
theorem gv_X6_fills : GoodIn lw_tbl (wsV RL 137 RX6 yX6_fills wsX6_fills) := goodIn_app (tk_good _ [(4, 110), (4, 111), (4, 112), (1, 7)] (by decide +kernel) (by decide +kernel)) gk_X6_fills
set_option maxRecDepth 20000 in
theorem gv_X5_derived : GoodIn lw_tbl (wsV RL 138 RX5 yX5_derived wsX5_derived) := goodIn_app (tk_good _ [(2, 229), (2, 230), (2, 231), (1, 1)] (by decide +kernel) (by decide +kernel)) gk_X5_derived
set_option maxRecDepth 20000 in
theorem gv_X6_derived : GoodIn lw_tbl (wsV RL 141 RX6 yX6_derived wsX6_derived) := goodIn_app (tk_good _ [(4, 114), (4, 115), (4, 116), (1, 7)] (by decide +kernel) (by decide +kernel)) gk_X6_derived
set_option maxRecDepth 20000 in
theorem gv_X5_kept : GoodIn lw_tbl (wsV RL 142 RX5 yX5_kept wsX5_kept) := goodIn_app (tk_good _ [(2, 233), (2, 234), (2, 235), (1, 1)] (by decide +kernel) (by decide +kernel)) gk_X5_kept
set_option maxRecDepth 20000 in
theorem gv_X6_kept : GoodIn lw_tbl (wsV RL 145 RX6 yX6_kept wsX6_kept) := goodIn_app (tk_good _ [(4, 122), (4, 123), (4, 124), (1, 7)] (by decide +kernel) (by decide +kernel)) gk_X6_kept
set_option maxRecDepth 20000 in
theorem gv_X5_rounds : GoodIn lw_tbl (wsV RL 146 RX5 yX5_rounds wsX5_rounds) := goodIn_app (tk_good _ [(3, 3), (3, 4), (3, 5), (1, 1)] (by decide +kernel) (by decide +kernel)) gk_X5_rounds
set_option maxRecDepth 20000 in
theorem gv_X6_rounds : GoodIn lw_tbl (wsV RL 150 RX6 yX6_rounds wsX6_rounds) := goodIn_app (tk_good _ [(4, 126), (4, 127), (4, 128), (1, 7)] (by decide +kernel) (by decide +kernel)) gk_X6_rounds
