set_option maxRecDepth 20000 in
theorem gk_wsX5_best_r1 : GoodIn lw_tbl wsX5_best_r1 := tk_good _ [(1, 94), (1, 120), (1, 121), (1, 122), (1, 2), (1, 123), (1, 29), (2, 92), (2, 39), (2, 40), (2, 41), (1, 28), (1, 142), (1, 143), (1, 144), (1, 145), (1, 138), (1, 139), (1, 140), (1, 141), (1, 188), (1, 189), (1, 190), (1, 191)] (by decide +kernel) (by decide +kernel)
set_option maxRecDepth 20000 in
theorem gk_wsX5_best_r2 : GoodIn lw_tbl wsX5_best_r2 := tk_good _ [(2, 93), (1, 151), (1, 152), (1, 153), (2, 4), (1, 223), (1, 13), (1, 224), (1, 225), (1, 226), (1, 227)] (by decide +kernel) (by decide +kernel)
set_option maxRecDepth 20000 in
theorem gk_X5_best : GoodIn lw_tbl wsX5_best := gk_cons (tk_good [_] [(2, 97)] (by decide +kernel) (by decide +kernel)) (goodIn_app (goodIn_app (goodIn_app gk_wsX5_best_r1 gk_wsX5_best_r2) gk_wsX50) gk_wsX00)
set_option maxRecDepth 20000 in
theorem gk_X6_best : GoodIn lw_tbl wsX6_best := gk_cons (tk_good [_] [(4, 57)] (by decide +kernel) (by decide +kernel)) (goodIn_app (tk_good _ [(3, 107), (3, 108), (3, 181), (3, 183), (0, 11), (1, 7), (3, 184), (4, 50), (4, 52), (0, 24), (4, 53), (3, 207), (3, 209), (0, 16), (3, 210), (3, 223), (3, 224), (3, 225)] (by decide +kernel) (by decide +kernel)) gk_wsX60)
set_option maxRecDepth 20000 in
theorem gk_wsX5_keeps_r1 : GoodIn lw_tbl wsX5_keeps_r1 := tk_good _ [(1, 94), (1, 120), (1, 121), (1, 122), (1, 2), (1, 123), (1, 29), (2, 92), (2, 39), (2, 40), (2, 41), (1, 28), (1, 142), (1, 143), (1, 144), (1, 145), (1, 138), (1, 139), (1, 140), (1, 141), (1, 188), (1, 189), (1, 190), (1, 191)] (by decide +kernel) (by decide +kernel)
set_option maxRecDepth 20000 in
theorem gk_wsX5_keeps_r2 : GoodIn lw_tbl wsX5_keeps_r2 := tk_good _ [(2, 93), (1, 151), (1, 152), (1, 153)] (by decide +kernel) (by decide +kernel)
set_option maxRecDepth 20000 in
theorem gk_X5_keeps : GoodIn lw_tbl wsX5_keeps := gk_cons (tk_good [_] [(2, 101)] (by decide +kernel) (by decide +kernel)) (goodIn_app (goodIn_app (goodIn_app gk_wsX5_keeps_r1 gk_wsX5_keeps_r2) gk_wsX50) gk_wsX00)
set_option maxRecDepth 20000 in
theorem gk_X6_keeps : GoodIn lw_tbl wsX6_keeps := gk_cons (tk_good [_] [(4, 61)] (by decide +kernel) (by decide +kernel)) (goodIn_app (tk_good _ [(3, 107), (3, 108), (3, 181), (3, 183), (0, 11), (1, 7), (3, 184), (3, 207), (3, 209), (0, 16), (3, 210)] (by decide +kernel) (by decide +kernel)) gk_wsX60)
set_option maxRecDepth 20000 in
theorem gk_wsX5_even_r1 : GoodIn lw_tbl wsX5_even_r1 := tk_good _ [(1, 94), (1, 120), (1, 121), (1, 122), (1, 2), (1, 123), (1, 29), (2, 4), (1, 223), (1, 13), (1, 224), (1, 225), (1, 226), (1, 227), (2, 106), (2, 107), (2, 108), (2, 109), (1, 28), (1, 154), (1, 155), (1, 12), (1, 156), (2, 111)] (by decide +kernel) (by decide +kernel)
set_option maxRecDepth 20000 in
theorem gk_wsX5_even_r2 : GoodIn lw_tbl wsX5_even_r2 := tk_good _ [(2, 112), (2, 113), (2, 62), (2, 110), (2, 10), (2, 11), (2, 12), (1, 138), (1, 139), (1, 140), (1, 141)] (by decide +kernel) (by decide +kernel)
set_option maxRecDepth 20000 in
theorem gk_X5_even : GoodIn lw_tbl wsX5_even := gk_cons (tk_good [_] [(2, 105)] (by decide +kernel) (by decide +kernel)) (goodIn_app (goodIn_app (goodIn_app gk_wsX5_even_r1 gk_wsX5_even_r2) gk_wsX50) gk_wsX00)
set_option maxRecDepth 20000 in
theorem gk_X6_even : GoodIn lw_tbl wsX6_even := gk_cons (tk_good [_] [(4, 65)] (by decide +kernel) (by decide +kernel)) (goodIn_app (tk_good _ [(3, 107), (3, 112), (3, 108), (3, 113), (3, 181), (3, 183), (0, 11), (1, 7), (3, 184)] (by decide +kernel) (by decide +kernel)) gk_wsX60)
set_option maxRecDepth 20000 in
theorem gk_X5_spread : GoodIn lw_tbl wsX5_spread := gk_cons (tk_good [_] [(2, 117)] (by decide +kernel) (by decide +kernel)) (goodIn_app (goodIn_app (tk_good _ [(1, 94), (1, 188), (1, 189), (1, 190), (1, 2), (1, 191), (1, 28), (2, 79), (2, 80), (2, 81), (2, 82)] (by decide +kernel) (by decide +kernel)) gk_wsX50) gk_wsX00)
set_option maxRecDepth 20000 in
theorem gk_X6_spread : GoodIn lw_tbl wsX6_spread := gk_cons (tk_good [_] [(4, 69)] (by decide +kernel) (by decide +kernel)) (goodIn_app (tk_good _ [(3, 107), (3, 108), (3, 185), (3, 186), (1, 7), (3, 187), (4, 38), (4, 40), (0, 23), (4, 41)] (by decide +kernel) (by decide +kernel)) gk_wsX60)
set_option maxRecDepth 20000 in
theorem gk_wsX5_generator_r1 : GoodIn lw_tbl wsX5_generator_r1 := tk_good _ [(1, 94), (1, 120), (1, 121), (1, 122), (1, 2), (1, 123), (1, 29), (1, 188), (1, 189), (1, 190), (1, 191), (1, 28), (2, 122), (2, 124), (0, 9), (1, 1), (2, 125), (2, 4), (1, 223), (1, 13), (1, 224), (1, 225), (1, 226), (1, 227)] (by decide +kernel) (by decide +kernel)
set_option maxRecDepth 20000 in
theorem gk_wsX5_generator_r2 : GoodIn lw_tbl wsX5_generator_r2 := tk_good _ [(2, 29), (1, 139), (1, 140), (1, 141)] (by decide +kernel) (by decide +kernel)
set_option maxRecDepth 20000 in
theorem gk_X5_generator : GoodIn lw_tbl wsX5_generator := gk_cons (tk_good [_] [(2, 121)] (by decide +kernel) (by decide +kernel)) (goodIn_app (goodIn_app (goodIn_app gk_wsX5_generator_r1 gk_wsX5_generator_r2) gk_wsX50) gk_wsX00)
set_option maxRecDepth 20000 in
theorem gk_X6_generator : GoodIn lw_tbl wsX6_generator := gk_cons (tk_good [_] [(4, 73)] (by decide +kernel) (by decide +kernel)) (goodIn_app (tk_good _ [(3, 107), (3, 108), (3, 181), (3, 183), (0, 11), (1, 7), (3, 184), (3, 223), (3, 224), (3, 225)] (by decide +kernel) (by decide +kernel)) gk_wsX60)
set_option maxRecDepth 20000 in
theorem gk_X5_add : GoodIn lw_tbl wsX5_add := gk_cons (tk_good [_] [(2, 129)] (by decide +kernel) (by decide +kernel)) (goodIn_app (goodIn_app (goodIn_app (tk_good _ [(1, 94), (1, 99), (2, 79), (2, 80), (2, 81), (1, 2), (2, 82), (1, 28), (2, 130), (2, 131), (2, 132), (1, 5), (2, 133), (1, 74), (2, 134), (2, 135), (2, 136), (2, 137), (1, 73), (1, 72), (2, 138), (2, 139), (2, 140), (2, 141)] (by decide +kernel) (by decide +kernel)) gk_wsX50) gk_wsX00) gk_wsX30)
set_option maxRecDepth 20000 in
theorem gk_X6_add : GoodIn lw_tbl wsX6_add := gk_cons (tk_good [_] [(4, 77)] (by decide +kernel) (by decide +kernel)) (goodIn_app (tk_good _ [(3, 107), (3, 119), (3, 120), (4, 38), (4, 40), (0, 23), (1, 7), (4, 41), (3, 108)] (by decide +kernel) (by decide +kernel)) gk_wsX60)
set_option maxRecDepth 20000 in
theorem gk_X5_clear : GoodIn lw_tbl wsX5_clear := gk_cons (tk_good [_] [(2, 145)] (by decide +kernel) (by decide +kernel)) (goodIn_app (goodIn_app (tk_good _ [(1, 99), (2, 138), (2, 139), (2, 140), (1, 5), (2, 141), (1, 73), (2, 146), (2, 147), (2, 148), (2, 149), (1, 74)] (by decide +kernel) (by decide +kernel)) gk_wsX50) gk_wsX30)
set_option maxRecDepth 20000 in
theorem gk_X6_clear : GoodIn lw_tbl wsX6_clear := gk_cons (tk_good [_] [(4, 81)] (by decide +kernel) (by decide +kernel)) (goodIn_app (tk_good _ [(3, 107), (3, 119)] (by decide +kernel) (by decide +kernel)) gk_wsX60)
set_option maxRecDepth 20000 in
theorem gk_wsX5_form_r1 : GoodIn lw_tbl wsX5_form_r1 := tk_good _ [(1, 94), (1, 99), (2, 154), (2, 155), (1, 1), (2, 156), (2, 79), (2, 80), (2, 81), (1, 2), (2, 82), (1, 28), (2, 157), (2, 158), (2, 159), (1, 5), (2, 160), (1, 73), (1, 71), (2, 161), (1, 189), (1, 190), (1, 191), (2, 162)] (by decide +kernel) (by decide +kernel)
set_option maxRecDepth 20000 in
theorem gk_wsX5_form_r2 : GoodIn lw_tbl wsX5_form_r2 := tk_good _ [(2, 163), (2, 164), (2, 165), (2, 166), (2, 167), (2, 168), (2, 169), (2, 170), (2, 171), (2, 172), (2, 173), (1, 72), (2, 174), (2, 175), (1, 139), (1, 140), (1, 141)] (by decide +kernel) (by decide +kernel)
set_option maxRecDepth 20000 in
theorem gk_X5_form : GoodIn lw_tbl wsX5_form := gk_cons (tk_good [_] [(2, 153)] (by decide +kernel) (by decide +kernel)) (goodIn_app (goodIn_app (goodIn_app (goodIn_app gk_wsX5_form_r1 gk_wsX5_form_r2) gk_wsX50) gk_wsX00) gk_wsX30)
set_option maxRecDepth 20000 in
theorem gk_X6_form : GoodIn lw_tbl wsX6_form := gk_cons (tk_good [_] [(4, 85)] (by decide +kernel) (by decide +kernel)) (goodIn_app (tk_good _ [(3, 107), (3, 119), (3, 108), (3, 121), (3, 185), (3, 186), (1, 7), (3, 187), (4, 38), (4, 40), (0, 23), (4, 41), (4, 86), (4, 88), (0, 25), (4, 89), (3, 120)] (by decide +kernel) (by decide +kernel)) gk_wsX60)
set_option maxRecDepth 20000 in
theorem gk_wsX5_forms_r1 : GoodIn lw_tbl wsX5_forms_r1 := tk_good _ [(1, 99), (1, 94), (2, 157), (2, 158), (2, 159), (1, 5), (2, 160), (1, 73), (1, 71), (2, 161), (1, 189), (1, 190), (1, 2), (1, 191), (1, 28), (1, 188), (2, 180), (2, 181), (2, 182), (2, 183), (2, 184), (2, 167), (2, 168), (2, 169)] (by decide +kernel) (by decide +kernel)
set_option maxRecDepth 20000 in
theorem gk_wsX5_forms_r2 : GoodIn lw_tbl wsX5_forms_r2 := tk_good _ [(2, 170), (2, 171), (2, 172), (2, 173), (1, 72), (2, 174), (2, 163), (2, 164), (2, 165), (2, 175), (1, 139), (1, 140), (1, 141), (2, 185), (1, 178), (1, 1), (1, 179)] (by decide +kernel) (by decide +kernel)
set_option maxRecDepth 20000 in
theorem gk_X5_forms : GoodIn lw_tbl wsX5_forms := gk_cons (tk_good [_] [(2, 179)] (by decide +kernel) (by decide +kernel)) (goodIn_app (goodIn_app (goodIn_app (goodIn_app gk_wsX5_forms_r1 gk_wsX5_forms_r2) gk_wsX50) gk_wsX30) gk_wsX00)
set_option maxRecDepth 20000 in
theorem gk_X6_forms : GoodIn lw_tbl wsX6_forms := gk_cons (tk_good [_] [(4, 93)] (by decide +kernel) (by decide +kernel)) (goodIn_app (tk_good _ [(3, 107), (3, 119), (3, 108), (3, 122), (3, 121), (4, 86), (4, 88), (0, 25), (1, 7), (4, 89), (3, 120)] (by decide +kernel) (by decide +kernel)) gk_wsX60)
set_option maxRecDepth 20000 in
theorem gk_wsX5_table_r1 : GoodIn lw_tbl wsX5_table_r1 := tk_good _ [(1, 99), (2, 157), (2, 158), (2, 159), (1, 5), (2, 160), (1, 73), (1, 71), (2, 161), (1, 189), (1, 190), (1, 2), (1, 191), (1, 28), (2, 162), (2, 163), (2, 164), (2, 165), (2, 190), (2, 171), (2, 172), (2, 173), (1, 72), (2, 174)] (by decide +kernel) (by decide +kernel)
set_option maxRecDepth 20000 in
theorem gk_wsX5_table_r2 : GoodIn lw_tbl wsX5_table_r2 := tk_good _ [(2, 166), (2, 167), (2, 168), (2, 169), (2, 170), (2, 175), (1, 139), (1, 140), (1, 141)] (by decide +kernel) (by decide +kernel)
set_option maxRecDepth 20000 in
theorem gk_X5_table : GoodIn lw_tbl wsX5_table := gk_cons (tk_good [_] [(2, 189)] (by decide +kernel) (by decide +kernel)) (goodIn_app (goodIn_app (goodIn_app (goodIn_app gk_wsX5_table_r1 gk_wsX5_table_r2) gk_wsX50) gk_wsX30) gk_wsX00)
set_option maxRecDepth 20000 in
theorem gk_X6_table : GoodIn lw_tbl wsX6_table := gk_cons (tk_good [_] [(4, 97)] (by decide +kernel) (by decide +kernel)) (goodIn_app (tk_good _ [(3, 107), (3, 119), (3, 108), (3, 120), (3, 121), (4, 38), (4, 40), (0, 23), (1, 7), (4, 41), (4, 86), (4, 88), (0, 25), (4, 89)] (by decide +kernel) (by decide +kernel)) gk_wsX60)
set_option maxRecDepth 20000 in
theorem gk_wsX5_unlike_r1 : GoodIn lw_tbl wsX5_unlike_r1 := tk_good _ [(1, 99), (2, 157), (2, 158), (2, 159), (1, 5), (2, 160), (1, 73), (1, 71), (2, 161), (1, 189), (1, 190), (1, 2), (1, 191), (1, 28), (2, 195), (2, 196), (2, 197), (2, 198), (2, 170), (2, 171), (2, 172), (2, 173), (1, 72), (2, 174)] (by decide +kernel) (by decide +kernel)
set_option maxRecDepth 20000 in
theorem gk_wsX5_unlike_r2 : GoodIn lw_tbl wsX5_unlike_r2 := tk_good _ [(2, 163), (2, 164), (2, 165), (2, 175), (1, 139), (1, 140), (1, 141)] (by decide +kernel) (by decide +kernel)
set_option maxRecDepth 20000 in
theorem gk_X5_unlike : GoodIn lw_tbl wsX5_unlike := gk_cons (tk_good [_] [(2, 194)] (by decide +kernel) (by decide +kernel)) (goodIn_app (goodIn_app (goodIn_app (goodIn_app gk_wsX5_unlike_r1 gk_wsX5_unlike_r2) gk_wsX50) gk_wsX30) gk_wsX00)
set_option maxRecDepth 20000 in
theorem gk_X6_unlike : GoodIn lw_tbl wsX6_unlike := gk_cons (tk_good [_] [(4, 101)] (by decide +kernel) (by decide +kernel)) (goodIn_app (tk_good _ [(3, 107), (3, 119), (3, 108), (3, 120)] (by decide +kernel) (by decide +kernel)) gk_wsX60)
set_option maxRecDepth 20000 in
theorem gk_wsX5_rows_r1 : GoodIn lw_tbl wsX5_rows_r1 := tk_good _ [(1, 100), (1, 94), (1, 188), (1, 189), (1, 190), (1, 2), (1, 191), (1, 28), (2, 203), (2, 204), (2, 205), (1, 6), (2, 206), (1, 90), (2, 207), (2, 208), (2, 209), (2, 210), (2, 211), (2, 212), (1, 136), (1, 1), (1, 137), (2, 214)] (by decide +kernel) (by decide +kernel)
set_option maxRecDepth 20000 in
theorem gk_wsX5_rows_r2 : GoodIn lw_tbl wsX5_rows_r2 := tk_good _ [(2, 215), (2, 216)] (by decide +kernel) (by decide +kernel)
set_option maxRecDepth 20000 in
theorem gk_X5_rows : GoodIn lw_tbl wsX5_rows := gk_cons (tk_good [_] [(2, 202)] (by decide +kernel) (by decide +kernel)) (goodIn_app (goodIn_app (goodIn_app (goodIn_app gk_wsX5_rows_r1 gk_wsX5_rows_r2) gk_wsX50) gk_wsX00) gk_wsX40)
set_option maxRecDepth 20000 in
theorem gk_X6_rows : GoodIn lw_tbl wsX6_rows := gk_cons (tk_good [_] [(4, 105)] (by decide +kernel) (by decide +kernel)) (goodIn_app (tk_good _ [(3, 107), (3, 123), (3, 108), (4, 106), (4, 108), (0, 26), (1, 7), (4, 109), (3, 125), (3, 124)] (by decide +kernel) (by decide +kernel)) gk_wsX60)
set_option maxRecDepth 20000 in
theorem gk_wsX5_fills_r1 : GoodIn lw_tbl wsX5_fills_r1 := tk_good _ [(1, 99), (1, 94), (2, 154), (2, 155), (1, 1), (2, 156), (2, 157), (2, 158), (2, 159), (1, 5), (2, 160), (1, 73), (1, 71), (2, 161), (1, 189), (1, 190), (1, 2), (1, 191), (1, 28), (1, 188), (2, 221), (2, 222), (2, 223), (2, 224)] (by decide +kernel) (by decide +kernel)
set_option maxRecDepth 20000 in
theorem gk_wsX5_fills_r2 : GoodIn lw_tbl wsX5_fills_r2 := tk_good _ [(2, 170), (2, 171), (2, 172), (2, 173), (1, 72), (2, 174), (2, 163), (2, 164), (2, 165), (2, 225), (2, 226), (2, 227), (2, 228), (2, 184), (2, 167), (2, 168), (2, 169), (2, 175), (1, 139), (1, 140), (1, 141)] (by decide +kernel) (by decide +kernel)
set_option maxRecDepth 20000 in
theorem gk_X5_fills : GoodIn lw_tbl wsX5_fills := gk_cons (tk_good [_] [(2, 220)] (by decide +kernel) (by decide +kernel)) (goodIn_app (goodIn_app (goodIn_app (goodIn_app gk_wsX5_fills_r1 gk_wsX5_fills_r2) gk_wsX50) gk_wsX30) gk_wsX00)
set_option maxRecDepth 20000 in
theorem gk_X6_fills : GoodIn lw_tbl wsX6_fills := gk_cons (tk_good [_] [(4, 113)] (by decide +kernel) (by decide +kernel)) (goodIn_app (tk_good _ [(3, 107), (3, 119), (3, 108), (3, 120), (3, 121), (3, 185), (3, 186), (1, 7), (3, 187), (4, 86), (4, 88), (0, 25), (4, 89)] (by decide +kernel) (by decide +kernel)) gk_wsX60)
set_option maxRecDepth 20000 in
theorem gk_wsX5_derived_r1 : GoodIn lw_tbl wsX5_derived_r1 := tk_good _ [(1, 94), (1, 99), (1, 124), (1, 125), (1, 1), (1, 126), (1, 188), (1, 189), (1, 190), (1, 2), (1, 191), (1, 28), (2, 157), (2, 158), (2, 159), (1, 5), (2, 160), (1, 73), (1, 71), (2, 161), (2, 221), (2, 222), (2, 223), (2, 224)] (by decide +kernel) (by decide +kernel)
set_option maxRecDepth 20000 in
theorem gk_wsX5_derived_r2 : GoodIn lw_tbl wsX5_derived_r2 := tk_good _ [(2, 170), (2, 171), (2, 172), (2, 173), (1, 72), (2, 174), (2, 163), (2, 164), (2, 165), (1, 127), (1, 128), (1, 129), (1, 130), (1, 154), (1, 155), (1, 12), (1, 156), (1, 131), (1, 132), (1, 133), (1, 134), (1, 136), (1, 137), (1, 138)] (by decide +kernel) (by decide +kernel)
set_option maxRecDepth 20000 in
theorem gk_wsX5_derived_r3 : GoodIn lw_tbl wsX5_derived_r3 := tk_good _ [(1, 139), (1, 140), (1, 141), (1, 142), (1, 143), (1, 144), (1, 145), (1, 146), (1, 147), (1, 148), (1, 149), (1, 150), (1, 151), (1, 152), (1, 153), (1, 29)] (by decide +kernel) (by decide +kernel)
set_option maxRecDepth 20000 in
theorem gk_X5_derived : GoodIn lw_tbl wsX5_derived := gk_cons (tk_good [_] [(2, 232)] (by decide +kernel) (by decide +kernel)) (goodIn_app (goodIn_app (goodIn_app (goodIn_app gk_wsX5_derived_r1 (goodIn_app gk_wsX5_derived_r2 gk_wsX5_derived_r3)) gk_wsX50) gk_wsX00) gk_wsX30)
set_option maxRecDepth 20000 in
theorem gk_wsX6_derived_r1 : GoodIn lw_tbl wsX6_derived_r1 := tk_good _ [(3, 107), (3, 108), (3, 119), (3, 185), (3, 186), (1, 7), (3, 187), (4, 118), (4, 120), (0, 27), (4, 121), (3, 120), (3, 188), (3, 190), (0, 12), (3, 191), (3, 110), (3, 192), (3, 194), (0, 13), (3, 195), (3, 109), (3, 111), (3, 196)] (by decide +kernel) (by decide +kernel)
set_option maxRecDepth 20000 in
theorem gk_wsX6_derived_r2 : GoodIn lw_tbl wsX6_derived_r2 := tk_good _ [(3, 198), (0, 14), (3, 199), (3, 200), (3, 202), (0, 15), (3, 203), (3, 204), (3, 205), (3, 206), (3, 207), (3, 209), (0, 16), (3, 210)] (by decide +kernel) (by decide +kernel)
set_option maxRecDepth 20000 in
theorem gk_X6_derived : GoodIn lw_tbl wsX6_derived := gk_cons (tk_good [_] [(4, 117)] (by decide +kernel) (by decide +kernel)) (goodIn_app (goodIn_app gk_wsX6_derived_r1 gk_wsX6_derived_r2) gk_wsX60)
set_option maxRecDepth 20000 in
theorem gk_wsX5_kept_r1 : GoodIn lw_tbl wsX5_kept_r1 := tk_good _ [(1, 94), (1, 99), (2, 154), (2, 155), (1, 1), (2, 156), (2, 79), (2, 80), (2, 81), (1, 2), (2, 82), (1, 28), (1, 188), (1, 189), (1, 190), (1, 191), (2, 157), (2, 158), (2, 159), (1, 5), (2, 160), (1, 73), (1, 71), (2, 161)] (by decide +kernel) (by decide +kernel)
set_option maxRecDepth 20000 in
theorem gk_wsX5_kept_r2 : GoodIn lw_tbl wsX5_kept_r2 := tk_good _ [(2, 221), (2, 222), (2, 223), (2, 224), (2, 170), (2, 171), (2, 172), (2, 173), (1, 72), (2, 174), (2, 163), (2, 164), (2, 165), (2, 237), (2, 238), (2, 239), (3, 0), (3, 1), (1, 223), (1, 13), (1, 224), (1, 225), (1, 226), (1, 227)] (by decide +kernel) (by decide +kernel)
set_option maxRecDepth 20000 in
theorem gk_wsX5_kept_r3 : GoodIn lw_tbl wsX5_kept_r3 := tk_good _ [(3, 2), (2, 226), (2, 227), (2, 228), (2, 184), (2, 167), (2, 168), (2, 169), (2, 175), (1, 139), (1, 140), (1, 141)] (by decide +kernel) (by decide +kernel)
set_option maxRecDepth 20000 in
theorem gk_X5_kept : GoodIn lw_tbl wsX5_kept := gk_cons (tk_good [_] [(2, 236)] (by decide +kernel) (by decide +kernel)) (goodIn_app (goodIn_app (goodIn_app (goodIn_app gk_wsX5_kept_r1 (goodIn_app gk_wsX5_kept_r2 gk_wsX5_kept_r3)) gk_wsX50) gk_wsX00) gk_wsX30)
set_option maxRecDepth 20000 in
theorem gk_X6_kept : GoodIn lw_tbl wsX6_kept := gk_cons (tk_good [_] [(4, 125)] (by decide +kernel) (by decide +kernel)) (goodIn_app (tk_good _ [(3, 107), (3, 108), (3, 119), (3, 121), (3, 185), (3, 186), (1, 7), (3, 187), (4, 38), (4, 40), (0, 23), (4, 41), (4, 86), (4, 88), (0, 25), (4, 89), (3, 120), (4, 118), (4, 120), (0, 27), (4, 121)] (by decide +kernel) (by decide +kernel)) gk_wsX60)
set_option maxRecDepth 20000 in
theorem gk_X5_rounds : GoodIn lw_tbl wsX5_rounds := gk_cons (tk_good [_] [(3, 6)] (by decide +kernel) (by decide +kernel)) (tk_good _ [(3, 7), (3, 18), (3, 8), (3, 9), (1, 1), (3, 10), (3, 11), (1, 136), (1, 137), (3, 12), (3, 13), (3, 14), (3, 15), (3, 16), (3, 17)] (by decide +kernel) (by decide +kernel))
set_option maxRecDepth 20000 in
theorem gk_X6_rounds : GoodIn lw_tbl wsX6_rounds := gk_cons (tk_good [_] [(4, 129)] (by decide +kernel) (by decide +kernel)) (goodIn_app (tk_good _ [(3, 107), (4, 130), (3, 126), (4, 134), (3, 185), (3, 186), (1, 7), (3, 187), (4, 131), (4, 132), (4, 133)] (by decide +kernel) (by decide +kernel)) gk_wsX60)
