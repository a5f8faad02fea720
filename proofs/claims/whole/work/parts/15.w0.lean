/-! the law's words by places: (piece, place) -/
def tk_all : List (List Cond) := [k2_sels lw_privs, tables_1_1, tables_1_2, tables_1_3, tables_1_4]
theorem tk_in : ∀ ch ∈ tk_all, ∀ w ∈ ch, w ∈ lw_tbl := by
  intro ch hc w hw
  have h5 : ch = k2_sels lw_privs ∨ ch = tables_1_1 ∨ ch = tables_1_2 ∨ ch = tables_1_3 ∨ ch = tables_1_4 := by
    simpa [tk_all] using hc
  show w ∈ k2_sels lw_privs ++ (tables_1_1 ++ (tables_1_2 ++ (tables_1_3 ++ tables_1_4)))
  rcases h5 with rfl | rfl | rfl | rfl | rfl
  · exact List.mem_append_left _ hw
  · exact List.mem_append_right _ (List.mem_append_left _ hw)
  · exact List.mem_append_right _ (List.mem_append_right _ (List.mem_append_left _ hw))
  · exact List.mem_append_right _ (List.mem_append_right _ (List.mem_append_right _ (List.mem_append_left _ hw)))
  · exact List.mem_append_right _ (List.mem_append_right _ (List.mem_append_right _ (List.mem_append_right _ hw)))
theorem tk_good (ws : List Cond) (ps : List (Nat × Nat)) (hp : ws = ps.filterMap (fun q => (tk_all[q.1]?).bind (fun ch => ch[q.2]?))) (h : ws.all goodWord = true) : GoodIn lw_tbl ws := by
  intro w hw
  have h1 := List.all_eq_true.mp h w hw
  rw [hp] at hw
  obtain ⟨q, -, hq⟩ := List.mem_filterMap.mp hw
  cases hc : tk_all[q.1]? with
  | none => rw [hc] at hq; cases hq
  | some ch =>
    rw [hc] at hq
    exact ⟨tk_in ch (List.mem_of_getElem? hc) w (List.mem_of_getElem? hq), good_of_word h1⟩
theorem gk_cons {big a : List Cond} {c : Cond} (h1 : GoodIn big [c]) (h2 : GoodIn big a) : GoodIn big (c :: a) := fun w h => (List.mem_cons.mp h).elim (fun e => h1 w (by rw [e]; exact List.mem_singleton.mpr rfl)) (h2 w)
set_option maxRecDepth 20000 in
theorem gk_wsX5_init_r1 : GoodIn lw_tbl wsX5_init_r1 := tk_good _ [(1, 19), (1, 20), (1, 21), (1, 22), (1, 23), (1, 2), (1, 94), (1, 35), (1, 36), (1, 3), (1, 95), (1, 45), (1, 46), (1, 4), (1, 96), (1, 97), (1, 98), (1, 65), (1, 66), (1, 5), (1, 99), (1, 84), (1, 85), (1, 6)] (by decide +kernel) (by decide +kernel)
set_option maxRecDepth 20000 in
theorem gk_wsX5_init_r2 : GoodIn lw_tbl wsX5_init_r2 := tk_good _ [(1, 100), (1, 24), (1, 25), (1, 26), (1, 27), (1, 28), (1, 29), (1, 37), (1, 38), (1, 39), (1, 40), (1, 41), (1, 47), (1, 48), (1, 49), (1, 50), (1, 51), (1, 52), (1, 64), (1, 53), (1, 54), (1, 67), (1, 68), (1, 69)] (by decide +kernel) (by decide +kernel)
set_option maxRecDepth 20000 in
theorem gk_wsX5_init_r3 : GoodIn lw_tbl wsX5_init_r3 := tk_good _ [(1, 70), (1, 71), (1, 72), (1, 73), (1, 74), (1, 86), (1, 87), (1, 88), (1, 89), (1, 90)] (by decide +kernel) (by decide +kernel)
set_option maxRecDepth 20000 in
theorem gk_wsX00 : GoodIn lw_tbl wsX00 := goodIn_sub (by decide +kernel) (by decide +kernel)
set_option maxRecDepth 20000 in
theorem gk_wsX50 : GoodIn lw_tbl wsX50 := goodIn_sub (by decide +kernel) (by decide +kernel)
set_option maxRecDepth 20000 in
theorem gk_wsX20 : GoodIn lw_tbl wsX20 := goodIn_sub (by decide +kernel) (by decide +kernel)
set_option maxRecDepth 20000 in
theorem gk_wsX10 : GoodIn lw_tbl wsX10 := goodIn_sub (by decide +kernel) (by decide +kernel)
set_option maxRecDepth 20000 in
theorem gk_wsX30 : GoodIn lw_tbl wsX30 := goodIn_sub (by decide +kernel) (by decide +kernel)
set_option maxRecDepth 20000 in
theorem gk_wsX40 : GoodIn lw_tbl wsX40 := goodIn_sub (by decide +kernel) (by decide +kernel)
set_option maxRecDepth 20000 in
theorem gk_X5_init : GoodIn lw_tbl wsX5_init := gk_cons (tk_good [_] [(1, 18)] (by decide +kernel) (by decide +kernel)) (goodIn_app (goodIn_app (goodIn_app (goodIn_app (goodIn_app (goodIn_app (goodIn_app gk_wsX5_init_r1 (goodIn_app gk_wsX5_init_r2 gk_wsX5_init_r3)) gk_wsX00) gk_wsX50) gk_wsX20) gk_wsX10) gk_wsX30) gk_wsX40)
set_option maxRecDepth 20000 in
theorem gk_wsX60 : GoodIn lw_tbl wsX60 := goodIn_sub (by decide +kernel) (by decide +kernel)
set_option maxRecDepth 20000 in
theorem gk_X6_init : GoodIn lw_tbl wsX6_init := gk_cons (tk_good [_] [(3, 105)] (by decide +kernel) (by decide +kernel)) (goodIn_app (tk_good _ [(3, 106), (1, 20), (1, 21), (3, 108), (1, 64), (3, 110), (3, 111), (3, 113), (3, 114), (3, 115), (3, 116), (3, 117), (3, 120), (3, 121), (3, 122), (3, 123), (3, 124), (3, 125), (3, 168), (3, 126)] (by decide +kernel) (by decide +kernel)) gk_wsX60)
set_option maxRecDepth 20000 in
theorem gk_X6_thrown : GoodIn lw_tbl wsX6_thrown := gk_cons (tk_good [_] [(3, 172)] (by decide +kernel) (by decide +kernel)) (goodIn_app (tk_good _ [(3, 107)] (by decide +kernel) (by decide +kernel)) gk_wsX60)
set_option maxRecDepth 20000 in
theorem gk_wsL_steps_r1 : GoodIn lw_tbl wsL_steps_r1 := tk_good _ [(3, 22), (3, 23), (3, 24), (3, 25), (1, 1), (3, 26), (3, 27), (1, 11), (1, 94), (1, 96), (1, 97), (1, 98), (1, 99), (1, 188), (1, 189), (1, 190), (1, 2), (1, 191), (1, 28), (3, 93), (3, 94), (3, 95), (3, 96), (1, 29)] (by decide +kernel) (by decide +kernel)
set_option maxRecDepth 20000 in
theorem gk_wsL_steps_r2 : GoodIn lw_tbl wsL_steps_r2 := tk_good _ [(3, 97), (3, 98), (3, 99), (1, 4), (3, 100), (1, 54), (2, 146), (2, 147), (2, 148), (1, 5), (2, 149), (1, 73), (1, 74)] (by decide +kernel) (by decide +kernel)
set_option maxRecDepth 20000 in
theorem gk_L_steps : GoodIn lw_tbl wsL_steps := gk_cons (tk_good [_] [(3, 21)] (by decide +kernel) (by decide +kernel)) (goodIn_app (goodIn_app (goodIn_app (goodIn_app (goodIn_app (goodIn_app gk_wsL_steps_r1 gk_wsL_steps_r2) gk_wsX50) gk_wsX00) gk_wsX10) gk_wsX30) (goodIn_sub (by decide +kernel) (by decide +kernel)))
set_option maxRecDepth 20000 in
theorem gk_X6_steps : GoodIn lw_tbl wsX6_steps := gk_cons (tk_good [_] [(3, 176)] (by decide +kernel) (by decide +kernel)) (goodIn_app (tk_good _ [(3, 107), (3, 108), (3, 119), (3, 109)] (by decide +kernel) (by decide +kernel)) gk_wsX60)
set_option maxRecDepth 20000 in
theorem gk_wsX5_least_r1 : GoodIn lw_tbl wsX5_least_r1 := tk_good _ [(1, 94), (1, 120), (1, 121), (1, 122), (1, 2), (1, 123), (1, 29), (1, 124), (1, 125), (1, 1), (1, 126), (1, 127), (1, 128), (1, 129), (1, 130), (1, 28), (1, 154), (1, 155), (1, 12), (1, 156), (1, 131), (1, 132), (1, 133), (1, 134)] (by decide +kernel) (by decide +kernel)
set_option maxRecDepth 20000 in
theorem gk_wsX5_least_r2 : GoodIn lw_tbl wsX5_least_r2 := tk_good _ [(1, 136), (1, 137), (1, 138), (1, 139), (1, 140), (1, 141), (1, 142), (1, 143), (1, 144), (1, 145), (1, 146), (1, 147), (1, 148), (1, 149), (1, 150), (1, 151), (1, 152), (1, 153)] (by decide +kernel) (by decide +kernel)
set_option maxRecDepth 20000 in
theorem gk_X5_least : GoodIn lw_tbl wsX5_least := gk_cons (tk_good [_] [(1, 119)] (by decide +kernel) (by decide +kernel)) (goodIn_app (goodIn_app (goodIn_app gk_wsX5_least_r1 gk_wsX5_least_r2) gk_wsX50) gk_wsX00)
set_option maxRecDepth 20000 in
theorem gk_wsX6_least_r1 : GoodIn lw_tbl wsX6_least_r1 := tk_good _ [(3, 107), (3, 181), (3, 183), (0, 11), (1, 7), (3, 184), (3, 108), (3, 185), (3, 186), (3, 187), (3, 188), (3, 190), (0, 12), (3, 191), (3, 110), (3, 192), (3, 194), (0, 13), (3, 195), (3, 109), (3, 111), (3, 196), (3, 198), (0, 14)] (by decide +kernel) (by decide +kernel)
set_option maxRecDepth 20000 in
theorem gk_wsX6_least_r2 : GoodIn lw_tbl wsX6_least_r2 := tk_good _ [(3, 199), (3, 200), (3, 202), (0, 15), (3, 203), (3, 204), (3, 205), (3, 206), (3, 207), (3, 209), (0, 16), (3, 210)] (by decide +kernel) (by decide +kernel)
set_option maxRecDepth 20000 in
theorem gk_X6_least : GoodIn lw_tbl wsX6_least := gk_cons (tk_good [_] [(3, 180)] (by decide +kernel) (by decide +kernel)) (goodIn_app (goodIn_app gk_wsX6_least_r1 gk_wsX6_least_r2) gk_wsX60)
set_option maxRecDepth 20000 in
theorem gk_wsX5_size_r1 : GoodIn lw_tbl wsX5_size_r1 := tk_good _ [(1, 94), (1, 120), (1, 121), (1, 122), (1, 2), (1, 123), (1, 29), (1, 124), (1, 125), (1, 1), (1, 126), (1, 161), (1, 162), (1, 163), (1, 164), (1, 165), (1, 166), (1, 167), (1, 168), (1, 169), (1, 171), (0, 0), (1, 172), (1, 28)] (by decide +kernel) (by decide +kernel)
set_option maxRecDepth 20000 in
theorem gk_wsX5_size_r2 : GoodIn lw_tbl wsX5_size_r2 := tk_good _ [(1, 131), (1, 132), (1, 133), (1, 134), (1, 136), (1, 137), (1, 138), (1, 139), (1, 140), (1, 141), (1, 142), (1, 143), (1, 144), (1, 145), (1, 173), (1, 175), (0, 1), (1, 176), (1, 150), (1, 151), (1, 152), (1, 153), (1, 178), (1, 179)] (by decide +kernel) (by decide +kernel)
set_option maxRecDepth 20000 in
theorem gk_X5_size : GoodIn lw_tbl wsX5_size := gk_cons (tk_good [_] [(1, 160)] (by decide +kernel) (by decide +kernel)) (goodIn_app (goodIn_app (goodIn_app gk_wsX5_size_r1 gk_wsX5_size_r2) gk_wsX50) gk_wsX00)
set_option maxRecDepth 20000 in
theorem gk_wsX6_size_r1 : GoodIn lw_tbl wsX6_size_r1 := tk_good _ [(3, 107), (3, 111), (3, 181), (3, 183), (0, 11), (1, 7), (3, 184), (3, 108), (3, 185), (3, 186), (3, 187), (3, 188), (3, 190), (0, 12), (3, 191), (3, 110), (3, 192), (3, 194), (0, 13), (3, 195), (3, 109), (3, 196), (3, 198), (0, 14)] (by decide +kernel) (by decide +kernel)
set_option maxRecDepth 20000 in
theorem gk_wsX6_size_r2 : GoodIn lw_tbl wsX6_size_r2 := tk_good _ [(3, 199), (3, 200), (3, 202), (0, 15), (3, 203), (3, 204), (3, 205), (3, 206), (3, 207), (3, 209), (0, 16), (3, 210)] (by decide +kernel) (by decide +kernel)
set_option maxRecDepth 20000 in
theorem gk_X6_size : GoodIn lw_tbl wsX6_size := gk_cons (tk_good [_] [(3, 214)] (by decide +kernel) (by decide +kernel)) (goodIn_app (goodIn_app gk_wsX6_size_r1 gk_wsX6_size_r2) gk_wsX60)
set_option maxRecDepth 20000 in
theorem gk_wsX5_classes_r1 : GoodIn lw_tbl wsX5_classes_r1 := tk_good _ [(1, 184), (1, 186), (0, 2), (1, 1), (1, 187), (1, 94), (1, 188), (1, 189), (1, 190), (1, 2), (1, 191), (1, 28), (1, 124), (1, 125), (1, 126), (1, 192), (1, 194), (0, 3), (1, 195), (1, 96), (1, 97), (1, 98), (1, 196), (1, 197)] (by decide +kernel) (by decide +kernel)
set_option maxRecDepth 20000 in
theorem gk_wsX5_classes_r2 : GoodIn lw_tbl wsX5_classes_r2 := tk_good _ [(1, 198), (1, 4), (1, 199), (1, 200), (1, 201), (1, 202), (1, 203), (1, 54), (1, 204), (1, 206), (0, 4), (1, 207), (1, 51), (1, 52), (1, 208), (1, 210), (0, 5), (1, 211), (1, 53), (1, 212), (1, 162), (1, 163), (1, 164), (1, 29)] (by decide +kernel) (by decide +kernel)
set_option maxRecDepth 20000 in
theorem gk_wsX5_classes_r3 : GoodIn lw_tbl wsX5_classes_r3 := tk_good _ [(1, 213), (1, 214), (1, 215), (1, 216), (1, 150), (1, 151), (1, 152), (1, 153), (1, 217), (1, 128), (1, 129), (1, 130), (1, 154), (1, 155), (1, 12), (1, 156), (1, 131), (1, 132), (1, 133), (1, 134), (1, 136), (1, 137), (1, 138), (1, 139)] (by decide +kernel) (by decide +kernel)
set_option maxRecDepth 20000 in
theorem gk_wsX5_classes_r4 : GoodIn lw_tbl wsX5_classes_r4 := tk_good _ [(1, 140), (1, 141), (1, 142), (1, 143), (1, 144), (1, 145), (1, 146), (1, 147), (1, 148), (1, 149), (1, 218), (1, 219), (1, 220), (1, 221), (1, 222), (1, 223), (1, 13), (1, 224), (1, 225), (1, 226), (1, 227)] (by decide +kernel) (by decide +kernel)
set_option maxRecDepth 20000 in
theorem gk_X5_classes : GoodIn lw_tbl wsX5_classes := gk_cons (tk_good [_] [(1, 183)] (by decide +kernel) (by decide +kernel)) (goodIn_app (goodIn_app (goodIn_app (goodIn_app gk_wsX5_classes_r1 (goodIn_app gk_wsX5_classes_r2 (goodIn_app gk_wsX5_classes_r3 gk_wsX5_classes_r4))) gk_wsX50) gk_wsX00) gk_wsX10)
set_option maxRecDepth 20000 in
theorem gk_wsX6_classes_r1 : GoodIn lw_tbl wsX6_classes_r1 := tk_good _ [(3, 107), (3, 108), (3, 185), (3, 186), (1, 7), (3, 187), (3, 219), (3, 221), (0, 17), (3, 222), (3, 223), (3, 224), (3, 225), (3, 188), (3, 190), (0, 12), (3, 191), (3, 110), (3, 192), (3, 194), (0, 13), (3, 195), (3, 109), (3, 111)] (by decide +kernel) (by decide +kernel)
set_option maxRecDepth 20000 in
theorem gk_wsX6_classes_r2 : GoodIn lw_tbl wsX6_classes_r2 := tk_good _ [(3, 196), (3, 198), (0, 14), (3, 199), (3, 200), (3, 202), (0, 15), (3, 203), (3, 204), (3, 205), (3, 206), (3, 207), (3, 209), (0, 16), (3, 210)] (by decide +kernel) (by decide +kernel)
set_option maxRecDepth 20000 in
theorem gk_X6_classes : GoodIn lw_tbl wsX6_classes := gk_cons (tk_good [_] [(3, 218)] (by decide +kernel) (by decide +kernel)) (goodIn_app (goodIn_app gk_wsX6_classes_r1 gk_wsX6_classes_r2) gk_wsX60)
set_option maxRecDepth 20000 in
theorem gk_wsX5_nth_r1 : GoodIn lw_tbl wsX5_nth_r1 := tk_good _ [(1, 184), (1, 186), (0, 2), (1, 1), (1, 187), (1, 94), (1, 188), (1, 189), (1, 190), (1, 2), (1, 191), (1, 28), (1, 124), (1, 125), (1, 126), (1, 192), (1, 194), (0, 3), (1, 195), (1, 96), (1, 97), (1, 98), (1, 232), (1, 233)] (by decide +kernel) (by decide +kernel)
set_option maxRecDepth 20000 in
theorem gk_wsX5_nth_r2 : GoodIn lw_tbl wsX5_nth_r2 := tk_good _ [(1, 234), (1, 4), (1, 235), (1, 200), (1, 201), (1, 202), (1, 203), (1, 54), (1, 204), (1, 206), (0, 4), (1, 207), (1, 51), (1, 52), (1, 208), (1, 210), (0, 5), (1, 211), (1, 53), (1, 212), (1, 162), (1, 163), (1, 164), (1, 29)] (by decide +kernel) (by decide +kernel)
set_option maxRecDepth 20000 in
theorem gk_wsX5_nth_r3 : GoodIn lw_tbl wsX5_nth_r3 := tk_good _ [(1, 213), (1, 214), (1, 215), (1, 216), (1, 150), (1, 151), (1, 152), (1, 153), (1, 217), (1, 128), (1, 129), (1, 130), (1, 154), (1, 155), (1, 12), (1, 156), (1, 131), (1, 132), (1, 133), (1, 134), (1, 136), (1, 137), (1, 138), (1, 139)] (by decide +kernel) (by decide +kernel)
set_option maxRecDepth 20000 in
theorem gk_wsX5_nth_r4 : GoodIn lw_tbl wsX5_nth_r4 := tk_good _ [(1, 140), (1, 141), (1, 142), (1, 143), (1, 144), (1, 145), (1, 146), (1, 147), (1, 148), (1, 149), (1, 218), (1, 219), (1, 220), (1, 221), (1, 222), (1, 223), (1, 13), (1, 224), (1, 225), (1, 226), (1, 227)] (by decide +kernel) (by decide +kernel)
set_option maxRecDepth 20000 in
theorem gk_X5_nth : GoodIn lw_tbl wsX5_nth := gk_cons (tk_good [_] [(1, 231)] (by decide +kernel) (by decide +kernel)) (goodIn_app (goodIn_app (goodIn_app (goodIn_app gk_wsX5_nth_r1 (goodIn_app gk_wsX5_nth_r2 (goodIn_app gk_wsX5_nth_r3 gk_wsX5_nth_r4))) gk_wsX50) gk_wsX00) gk_wsX10)
set_option maxRecDepth 20000 in
theorem gk_wsX6_nth_r1 : GoodIn lw_tbl wsX6_nth_r1 := tk_good _ [(3, 107), (3, 108), (3, 185), (3, 186), (1, 7), (3, 187), (3, 219), (3, 221), (0, 17), (3, 222), (3, 223), (3, 224), (3, 225), (3, 188), (3, 190), (0, 12), (3, 191), (3, 110), (3, 192), (3, 194), (0, 13), (3, 195), (3, 109), (3, 111)] (by decide +kernel) (by decide +kernel)
set_option maxRecDepth 20000 in
theorem gk_wsX6_nth_r2 : GoodIn lw_tbl wsX6_nth_r2 := tk_good _ [(3, 196), (3, 198), (0, 14), (3, 199), (3, 200), (3, 202), (0, 15), (3, 203), (3, 204), (3, 205), (3, 206), (3, 207), (3, 209), (0, 16), (3, 210)] (by decide +kernel) (by decide +kernel)
set_option maxRecDepth 20000 in
theorem gk_X6_nth : GoodIn lw_tbl wsX6_nth := gk_cons (tk_good [_] [(3, 229)] (by decide +kernel) (by decide +kernel)) (goodIn_app (goodIn_app gk_wsX6_nth_r1 gk_wsX6_nth_r2) gk_wsX60)
set_option maxRecDepth 20000 in
theorem gk_wsX5_normal_r1 : GoodIn lw_tbl wsX5_normal_r1 := tk_good _ [(1, 95), (1, 94), (2, 0), (2, 2), (0, 6), (1, 1), (2, 3), (1, 120), (1, 121), (1, 122), (1, 2), (1, 123), (1, 29), (2, 4), (1, 223), (1, 13), (1, 224), (1, 225), (1, 226), (1, 227), (2, 5), (2, 6), (2, 7), (1, 3)] (by decide +kernel) (by decide +kernel)
set_option maxRecDepth 20000 in
theorem gk_wsX5_normal_r2 : GoodIn lw_tbl wsX5_normal_r2 := tk_good _ [(2, 8), (1, 41), (2, 9), (2, 10), (2, 11), (2, 12), (1, 28), (2, 13), (1, 189), (1, 190), (1, 191), (2, 14), (2, 15), (2, 16), (2, 17), (2, 18), (1, 151), (1, 152), (1, 153), (2, 19), (2, 21), (0, 7), (2, 22), (2, 23)] (by decide +kernel) (by decide +kernel)
set_option maxRecDepth 20000 in
theorem gk_wsX5_normal_r3 : GoodIn lw_tbl wsX5_normal_r3 := tk_good _ [(2, 24), (2, 25), (2, 26), (2, 27), (2, 28), (2, 29), (1, 139), (1, 140), (1, 141)] (by decide +kernel) (by decide +kernel)
set_option maxRecDepth 20000 in
theorem gk_X5_normal : GoodIn lw_tbl wsX5_normal := gk_cons (tk_good [_] [(1, 239)] (by decide +kernel) (by decide +kernel)) (goodIn_app (goodIn_app (goodIn_app (goodIn_app gk_wsX5_normal_r1 (goodIn_app gk_wsX5_normal_r2 gk_wsX5_normal_r3)) gk_wsX50) gk_wsX00) gk_wsX20)
set_option maxRecDepth 20000 in
theorem gk_X6_normal : GoodIn lw_tbl wsX6_normal := gk_cons (tk_good [_] [(3, 233)] (by decide +kernel) (by decide +kernel)) (goodIn_app (tk_good _ [(3, 107), (3, 112), (3, 118), (3, 114), (3, 108), (3, 181), (3, 183), (0, 11), (1, 7), (3, 184), (3, 185), (3, 186), (3, 187), (3, 234), (3, 236), (0, 18), (3, 237), (3, 113), (3, 115), (3, 238), (4, 0), (0, 19), (4, 1)] (by decide +kernel) (by decide +kernel)) gk_wsX60)
set_option maxRecDepth 20000 in
theorem gk_wsX5_prime_r1 : GoodIn lw_tbl wsX5_prime_r1 := tk_good _ [(1, 94), (1, 95), (2, 0), (2, 2), (0, 6), (1, 1), (2, 3), (1, 120), (1, 121), (1, 122), (1, 2), (1, 123), (1, 29), (2, 4), (1, 223), (1, 13), (1, 224), (1, 225), (1, 226), (1, 227), (2, 34), (2, 35), (2, 36), (1, 3)] (by decide +kernel) (by decide +kernel)
set_option maxRecDepth 20000 in
theorem gk_wsX5_prime_r2 : GoodIn lw_tbl wsX5_prime_r2 := tk_good _ [(2, 37), (1, 41), (2, 38), (2, 39), (2, 40), (2, 41), (1, 28), (1, 142), (1, 143), (1, 144), (1, 145), (1, 138), (1, 139), (1, 140), (1, 141), (2, 42), (2, 6), (2, 7), (2, 8), (2, 9), (2, 10), (2, 11), (2, 12), (2, 13)] (by decide +kernel) (by decide +kernel)
set_option maxRecDepth 20000 in
theorem gk_wsX5_prime_r3 : GoodIn lw_tbl wsX5_prime_r3 := tk_good _ [(1, 189), (1, 190), (1, 191), (2, 14), (2, 15), (2, 16), (2, 17), (2, 18), (1, 151), (1, 152), (1, 153), (2, 19), (2, 21), (0, 7), (2, 22), (2, 23), (2, 24), (2, 25), (2, 26), (2, 28)] (by decide +kernel) (by decide +kernel)
set_option maxRecDepth 20000 in
theorem gk_X5_prime : GoodIn lw_tbl wsX5_prime := gk_cons (tk_good [_] [(2, 33)] (by decide +kernel) (by decide +kernel)) (goodIn_app (goodIn_app (goodIn_app (goodIn_app gk_wsX5_prime_r1 (goodIn_app gk_wsX5_prime_r2 gk_wsX5_prime_r3)) gk_wsX50) gk_wsX00) gk_wsX20)
set_option maxRecDepth 20000 in
theorem gk_wsX6_prime_r1 : GoodIn lw_tbl wsX6_prime_r1 := tk_good _ [(3, 107), (3, 112), (3, 114), (3, 181), (3, 183), (0, 11), (1, 7), (3, 184), (3, 108), (3, 185), (3, 186), (3, 187), (4, 6), (4, 8), (0, 20), (4, 9), (3, 116), (3, 115), (3, 207), (3, 209), (0, 16), (3, 210), (3, 234), (3, 236)] (by decide +kernel) (by decide +kernel)
set_option maxRecDepth 20000 in
theorem gk_wsX6_prime_r2 : GoodIn lw_tbl wsX6_prime_r2 := tk_good _ [(0, 18), (3, 237), (3, 113), (3, 118), (3, 238), (4, 0), (0, 19), (4, 1)] (by decide +kernel) (by decide +kernel)
set_option maxRecDepth 20000 in
theorem gk_X6_prime : GoodIn lw_tbl wsX6_prime := gk_cons (tk_good [_] [(4, 5)] (by decide +kernel) (by decide +kernel)) (goodIn_app (goodIn_app gk_wsX6_prime_r1 gk_wsX6_prime_r2) gk_wsX60)
set_option maxRecDepth 20000 in
theorem gk_wsX5_differ_r1 : GoodIn lw_tbl wsX5_differ_r1 := tk_good _ [(1, 97), (1, 95), (1, 184), (1, 186), (0, 2), (1, 1), (1, 187), (1, 94), (1, 188), (1, 189), (1, 190), (1, 2), (1, 191), (1, 28), (2, 47), (1, 201), (1, 202), (1, 4), (1, 203), (1, 54), (1, 204), (1, 206), (0, 4), (1, 207)] (by decide +kernel) (by decide +kernel)
set_option maxRecDepth 20000 in
theorem gk_wsX5_differ_r2 : GoodIn lw_tbl wsX5_differ_r2 := tk_good _ [(1, 51), (1, 52), (1, 208), (1, 210), (0, 5), (1, 211), (1, 53), (1, 212), (1, 162), (1, 163), (1, 164), (1, 29), (1, 213), (1, 214), (1, 215), (1, 216), (1, 150), (1, 151), (1, 152), (1, 153), (1, 217), (1, 128), (1, 129), (1, 130)] (by decide +kernel) (by decide +kernel)
set_option maxRecDepth 20000 in
theorem gk_wsX5_differ_r3 : GoodIn lw_tbl wsX5_differ_r3 := tk_good _ [(1, 154), (1, 155), (1, 12), (1, 156), (1, 131), (1, 132), (1, 133), (1, 134), (1, 136), (1, 137), (1, 138), (1, 139), (1, 140), (1, 141), (1, 142), (1, 143), (1, 144), (1, 145), (1, 146), (1, 147), (1, 148), (1, 149), (2, 48), (1, 219)] (by decide +kernel) (by decide +kernel)
set_option maxRecDepth 20000 in
theorem gk_wsX5_differ_r4 : GoodIn lw_tbl wsX5_differ_r4 := tk_good _ [(1, 220), (1, 221), (2, 4), (1, 223), (1, 13), (1, 224), (1, 225), (1, 226), (1, 227), (2, 49), (2, 50), (2, 51), (1, 3), (2, 52), (2, 53), (2, 35), (2, 36), (2, 37), (1, 41), (2, 38), (2, 39), (2, 40), (2, 41), (2, 42)] (by decide +kernel) (by decide +kernel)
set_option maxRecDepth 20000 in
theorem gk_wsX5_differ_r5 : GoodIn lw_tbl wsX5_differ_r5 := tk_good _ [(2, 6), (2, 7), (2, 8), (2, 9), (2, 10), (2, 11), (2, 12), (2, 13), (2, 14), (2, 15), (2, 16), (2, 17), (2, 18), (2, 19), (2, 21), (0, 7), (2, 22), (2, 23), (2, 24), (2, 25), (2, 26)] (by decide +kernel) (by decide +kernel)
set_option maxRecDepth 20000 in
theorem gk_X5_differ : GoodIn lw_tbl wsX5_differ := gk_cons (tk_good [_] [(2, 46)] (by decide +kernel) (by decide +kernel)) (goodIn_app (goodIn_app (goodIn_app (goodIn_app (goodIn_app gk_wsX5_differ_r1 (goodIn_app gk_wsX5_differ_r2 (goodIn_app gk_wsX5_differ_r3 (goodIn_app gk_wsX5_differ_r4 gk_wsX5_differ_r5)))) gk_wsX50) gk_wsX00) gk_wsX10) gk_wsX20)
set_option maxRecDepth 20000 in
theorem gk_wsX6_differ_r1 : GoodIn lw_tbl wsX6_differ_r1 := tk_good _ [(3, 107), (3, 108), (3, 112), (3, 117), (3, 114), (3, 185), (3, 186), (1, 7), (3, 187), (3, 219), (3, 221), (0, 17), (3, 222), (3, 223), (3, 224), (3, 225), (3, 188), (3, 190), (0, 12), (3, 191), (3, 110), (3, 192), (3, 194), (0, 13)] (by decide +kernel) (by decide +kernel)
set_option maxRecDepth 20000 in
theorem gk_wsX6_differ_r2 : GoodIn lw_tbl wsX6_differ_r2 := tk_good _ [(3, 195), (3, 109), (3, 111), (3, 196), (3, 198), (0, 14), (3, 199), (3, 200), (3, 202), (0, 15), (3, 203), (3, 204), (3, 205), (3, 206), (3, 207), (3, 209), (0, 16), (3, 210), (4, 6), (4, 8), (0, 20), (4, 9), (3, 116), (3, 115)] (by decide +kernel) (by decide +kernel)
set_option maxRecDepth 20000 in
theorem gk_wsX6_differ_r3 : GoodIn lw_tbl wsX6_differ_r3 := tk_good _ [(3, 234), (3, 236), (0, 18), (3, 237), (3, 113), (3, 118), (3, 238), (4, 0), (0, 19), (4, 1)] (by decide +kernel) (by decide +kernel)
set_option maxRecDepth 20000 in
theorem gk_X6_differ : GoodIn lw_tbl wsX6_differ := gk_cons (tk_good [_] [(4, 13)] (by decide +kernel) (by decide +kernel)) (goodIn_app (goodIn_app gk_wsX6_differ_r1 (goodIn_app gk_wsX6_differ_r2 gk_wsX6_differ_r3)) gk_wsX60)
set_option maxRecDepth 20000 in
theorem gk_wsX5_vector_r1 : GoodIn lw_tbl wsX5_vector_r1 := tk_good _ [(1, 94), (1, 120), (1, 121), (1, 122), (1, 2), (1, 123), (1, 29), (1, 188), (1, 189), (1, 190), (1, 191), (1, 28), (2, 58), (2, 59), (2, 60), (2, 61), (1, 150), (1, 151), (1, 152), (1, 153), (2, 62), (1, 223), (1, 13), (1, 224)] (by decide +kernel) (by decide +kernel)
set_option maxRecDepth 20000 in
theorem gk_wsX5_vector_r2 : GoodIn lw_tbl wsX5_vector_r2 := tk_good _ [(1, 225), (1, 226), (1, 227)] (by decide +kernel) (by decide +kernel)
set_option maxRecDepth 20000 in
theorem gk_X5_vector : GoodIn lw_tbl wsX5_vector := gk_cons (tk_good [_] [(2, 57)] (by decide +kernel) (by decide +kernel)) (goodIn_app (goodIn_app (goodIn_app gk_wsX5_vector_r1 gk_wsX5_vector_r2) gk_wsX50) gk_wsX00)
set_option maxRecDepth 20000 in
theorem gk_X6_vector : GoodIn lw_tbl wsX6_vector := gk_cons (tk_good [_] [(4, 17)] (by decide +kernel) (by decide +kernel)) (goodIn_app (tk_good _ [(3, 107), (3, 108), (3, 181), (3, 183), (0, 11), (1, 7), (3, 184), (3, 185), (3, 186), (3, 187), (4, 18), (4, 20), (0, 21), (4, 21)] (by decide +kernel) (by decide +kernel)) gk_wsX60)
set_option maxRecDepth 20000 in
theorem gk_wsX5_twin_r1 : GoodIn lw_tbl wsX5_twin_r1 := tk_good _ [(1, 94), (1, 97), (1, 120), (1, 121), (1, 122), (1, 2), (1, 123), (1, 29), (1, 127), (1, 128), (1, 129), (1, 130), (1, 28), (1, 154), (1, 155), (1, 12), (1, 156), (1, 131), (1, 132), (1, 133), (1, 134), (1, 136), (1, 1), (1, 137)] (by decide +kernel) (by decide +kernel)
set_option maxRecDepth 20000 in
theorem gk_wsX5_twin_r2 : GoodIn lw_tbl wsX5_twin_r2 := tk_good _ [(1, 138), (1, 139), (1, 140), (1, 141), (1, 142), (1, 143), (1, 144), (1, 145), (1, 146), (1, 147), (1, 148), (1, 149), (1, 150), (1, 151), (1, 152), (1, 153), (2, 47), (1, 201), (1, 202), (1, 4), (1, 203), (1, 54), (1, 204), (1, 206)] (by decide +kernel) (by decide +kernel)
set_option maxRecDepth 20000 in
theorem gk_wsX5_twin_r3 : GoodIn lw_tbl wsX5_twin_r3 := tk_good _ [(0, 4), (1, 207), (1, 51), (1, 52), (1, 208), (1, 210), (0, 5), (1, 211), (1, 53), (1, 212), (1, 162), (1, 163), (1, 164), (1, 213), (1, 214), (1, 215), (1, 216), (1, 217), (2, 48), (1, 219), (1, 220), (1, 221), (2, 67), (2, 69)] (by decide +kernel) (by decide +kernel)
set_option maxRecDepth 20000 in
theorem gk_wsX5_twin_r4 : GoodIn lw_tbl wsX5_twin_r4 := tk_good _ [(0, 8), (2, 70), (2, 4), (1, 223), (1, 13), (1, 224), (1, 225), (1, 226), (1, 227), (1, 188), (1, 189), (1, 190), (1, 191), (2, 58), (2, 59), (2, 60), (2, 61), (2, 62)] (by decide +kernel) (by decide +kernel)
set_option maxRecDepth 20000 in
theorem gk_X5_twin : GoodIn lw_tbl wsX5_twin := gk_cons (tk_good [_] [(2, 66)] (by decide +kernel) (by decide +kernel)) (goodIn_app (goodIn_app (goodIn_app (goodIn_app gk_wsX5_twin_r1 (goodIn_app gk_wsX5_twin_r2 (goodIn_app gk_wsX5_twin_r3 gk_wsX5_twin_r4))) gk_wsX50) gk_wsX00) gk_wsX10)
set_option maxRecDepth 20000 in
theorem gk_wsX6_twin_r1 : GoodIn lw_tbl wsX6_twin_r1 := tk_good _ [(3, 107), (3, 108), (3, 181), (3, 183), (0, 11), (1, 7), (3, 184), (3, 223), (3, 224), (3, 225), (3, 188), (3, 190), (0, 12), (3, 191), (3, 110), (3, 192), (3, 194), (0, 13), (3, 195), (3, 109), (3, 111), (3, 196), (3, 198), (0, 14)] (by decide +kernel) (by decide +kernel)
set_option maxRecDepth 20000 in
theorem gk_wsX6_twin_r2 : GoodIn lw_tbl wsX6_twin_r2 := tk_good _ [(3, 199), (3, 200), (3, 202), (0, 15), (3, 203), (3, 204), (3, 205), (3, 206), (3, 207), (3, 209), (0, 16), (3, 210), (4, 26), (4, 28), (0, 22), (4, 29), (4, 18), (4, 20), (0, 21), (4, 21)] (by decide +kernel) (by decide +kernel)
set_option maxRecDepth 20000 in
theorem gk_X6_twin : GoodIn lw_tbl wsX6_twin := gk_cons (tk_good [_] [(4, 25)] (by decide +kernel) (by decide +kernel)) (goodIn_app (goodIn_app gk_wsX6_twin_r1 gk_wsX6_twin_r2) gk_wsX60)
set_option maxRecDepth 20000 in
theorem gk_X5_others : GoodIn lw_tbl wsX5_others := gk_cons (tk_good [_] [(2, 74)] (by decide +kernel) (by decide +kernel)) (goodIn_app (goodIn_app (tk_good _ [(1, 94), (1, 120), (1, 121), (1, 122), (1, 2), (1, 123), (1, 29), (1, 161), (1, 162), (1, 163), (1, 164)] (by decide +kernel) (by decide +kernel)) gk_wsX50) gk_wsX00)
set_option maxRecDepth 20000 in
theorem gk_X6_others : GoodIn lw_tbl wsX6_others := gk_cons (tk_good [_] [(4, 33)] (by decide +kernel) (by decide +kernel)) (goodIn_app (tk_good _ [(3, 107), (3, 108), (3, 181), (3, 183), (0, 11), (1, 7), (3, 184)] (by decide +kernel) (by decide +kernel)) gk_wsX60)
set_option maxRecDepth 20000 in
theorem gk_X5_multiplied : GoodIn lw_tbl wsX5_multiplied := gk_cons (tk_good [_] [(2, 78)] (by decide +kernel) (by decide +kernel)) (goodIn_app (goodIn_app (tk_good _ [(1, 94), (1, 120), (1, 121), (1, 122), (1, 2), (1, 123), (1, 29), (2, 79), (2, 80), (2, 81), (2, 82), (1, 28), (2, 83), (1, 143), (1, 144), (1, 145), (1, 138), (1, 139), (1, 140), (1, 141)] (by decide +kernel) (by decide +kernel)) gk_wsX50) gk_wsX00)
set_option maxRecDepth 20000 in
theorem gk_X6_multiplied : GoodIn lw_tbl wsX6_multiplied := gk_cons (tk_good [_] [(4, 37)] (by decide +kernel) (by decide +kernel)) (goodIn_app (tk_good _ [(3, 107), (3, 181), (3, 183), (0, 11), (1, 7), (3, 184), (3, 108), (4, 38), (4, 40), (0, 23), (4, 41), (3, 207), (3, 209), (0, 16), (3, 210)] (by decide +kernel) (by decide +kernel)) gk_wsX60)
set_option maxRecDepth 20000 in
theorem gk_wsX5_within_r1 : GoodIn lw_tbl wsX5_within_r1 := tk_good _ [(1, 94), (1, 120), (1, 121), (1, 122), (1, 2), (1, 123), (1, 29), (1, 124), (1, 125), (1, 1), (1, 126), (1, 165), (1, 166), (1, 167), (1, 168), (1, 169), (1, 171), (0, 0), (1, 172), (1, 28), (1, 131), (1, 132), (1, 133), (1, 134)] (by decide +kernel) (by decide +kernel)
set_option maxRecDepth 20000 in
theorem gk_wsX5_within_r2 : GoodIn lw_tbl wsX5_within_r2 := tk_good _ [(1, 136), (1, 137), (1, 138), (1, 139), (1, 140), (1, 141), (1, 142), (1, 143), (1, 144), (1, 145), (1, 173), (1, 175), (0, 1), (1, 176), (1, 150), (1, 151), (1, 152), (1, 153), (1, 178), (1, 179)] (by decide +kernel) (by decide +kernel)
set_option maxRecDepth 20000 in
theorem gk_X5_within : GoodIn lw_tbl wsX5_within := gk_cons (tk_good [_] [(2, 87)] (by decide +kernel) (by decide +kernel)) (goodIn_app (goodIn_app (goodIn_app gk_wsX5_within_r1 gk_wsX5_within_r2) gk_wsX50) gk_wsX00)
set_option maxRecDepth 20000 in
theorem gk_wsX6_within_r1 : GoodIn lw_tbl wsX6_within_r1 := tk_good _ [(3, 107), (3, 108), (3, 181), (3, 183), (0, 11), (1, 7), (3, 184), (3, 185), (3, 186), (3, 187), (3, 188), (3, 190), (0, 12), (3, 191), (3, 110), (3, 192), (3, 194), (0, 13), (3, 195), (3, 109), (3, 111), (3, 196), (3, 198), (0, 14)] (by decide +kernel) (by decide +kernel)
set_option maxRecDepth 20000 in
theorem gk_wsX6_within_r2 : GoodIn lw_tbl wsX6_within_r2 := tk_good _ [(3, 199), (3, 200), (3, 202), (0, 15), (3, 203), (3, 204), (3, 205), (3, 206), (3, 207), (3, 209), (0, 16), (3, 210)] (by decide +kernel) (by decide +kernel)
set_option maxRecDepth 20000 in
theorem gk_X6_within : GoodIn lw_tbl wsX6_within := gk_cons (tk_good [_] [(4, 45)] (by decide +kernel) (by decide +kernel)) (goodIn_app (goodIn_app gk_wsX6_within_r1 gk_wsX6_within_r2) gk_wsX60)
set_option maxRecDepth 20000 in
theorem gk_wsX5_common_r1 : GoodIn lw_tbl wsX5_common_r1 := tk_good _ [(1, 94), (1, 120), (1, 121), (1, 122), (1, 2), (1, 123), (1, 29), (2, 79), (2, 80), (2, 81), (2, 82), (1, 28), (2, 92), (2, 39), (2, 40), (2, 41), (1, 142), (1, 143), (1, 144), (1, 145), (1, 138), (1, 139), (1, 140), (1, 141)] (by decide +kernel) (by decide +kernel)
set_option maxRecDepth 20000 in
theorem gk_wsX5_common_r2 : GoodIn lw_tbl wsX5_common_r2 := tk_good _ [(2, 93), (1, 151), (1, 152), (1, 153), (2, 4), (1, 223), (1, 13), (1, 224), (1, 225), (1, 226), (1, 227)] (by decide +kernel) (by decide +kernel)
set_option maxRecDepth 20000 in
theorem gk_X5_common : GoodIn lw_tbl wsX5_common := gk_cons (tk_good [_] [(2, 91)] (by decide +kernel) (by decide +kernel)) (goodIn_app (goodIn_app (goodIn_app gk_wsX5_common_r1 gk_wsX5_common_r2) gk_wsX50) gk_wsX00)
set_option maxRecDepth 20000 in
theorem gk_X6_common_ : GoodIn lw_tbl wsX6_common_ := gk_cons (tk_good [_] [(4, 49)] (by decide +kernel) (by decide +kernel)) (goodIn_app (tk_good _ [(3, 107), (3, 181), (3, 183), (0, 11), (1, 7), (3, 184), (3, 108), (4, 38), (4, 40), (0, 23), (4, 41), (4, 50), (4, 52), (0, 24), (4, 53), (3, 207), (3, 209), (0, 16), (3, 210), (3, 223), (3, 224), (3, 225)] (by decide +kernel) (by decide +kernel)) gk_wsX60)
