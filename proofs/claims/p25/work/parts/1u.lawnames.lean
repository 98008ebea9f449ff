def lw_two : List (List Cond) := [wsL_law_r1, wsL_law_r2, wsL_law_r3, wsL_law_r4, wsL_law_r5, wsL_law_r6, wsL_law_r7, wsL_law_r8, wsL_law_r9, wsL_law_r10, wsL_law_r11, wsL_law_r12, wsL_law_r13, wsL_law_r14, wsL_law_r15, wsL_law_r16, wsL_law_r17, wsX80, wsX60, wsX20, wsX00, wsX40, wsX30, wsX10, wsX50, wsX70]
theorem lw_two_eq : lw_two.flatten = wsL_law := by simp only [lw_two, wsL_law, List.flatten_cons, List.flatten_nil, List.append_assoc, List.append_nil]
theorem goodIn_2 (ws : List Cond) (ps : List (Nat × Nat)) (hp : ws = ps.filterMap (fun i => (lw_two.getD i.1 [])[i.2]?)) (h : ws.all goodWord = true) : GoodIn wsL_law ws := by
  intro w hw
  have h1 := List.all_eq_true.mp h w hw
  rw [hp] at hw
  obtain ⟨i, -, hi⟩ := List.mem_filterMap.mp hw
  have hm : w ∈ lw_two.getD i.1 [] := List.mem_of_getElem? hi
  refine ⟨?_, good_of_word h1⟩
  rw [← lw_two_eq]
  by_cases e : i.1 < lw_two.length
  · rw [List.getD_eq_getElem?_getD, List.getElem?_eq_getElem e] at hm
    exact List.mem_flatten.mpr ⟨_, List.getElem_mem e, hm⟩
  · rw [List.getD_eq_getElem?_getD, List.getElem?_eq_none (by omega)] at hm
    exact absurd hm (List.not_mem_nil)
set_option maxRecDepth 20000 in
theorem ggL_point_X8_sheet : GoodIn wsL_point wsX8_sheet := goodIn_r _ [5, 6, 7, 8, 4, 9, 10, 11, 12, 13, 14, 15, 16, 17, 18, 19, 20, 21, 22, 23, 24, 80, 81, 82, 83, 84, 85, 86, 87, 88, 89, 90, 91] (by decide +kernel) (by decide +kernel)
set_option maxRecDepth 20000 in
theorem gL_point_X8_sheet : GoodIn wsL_point (wsV RL 9 RX8 yX8_sheet wsX8_sheet) := goodIn_app (goodIn_of _ (by decide +kernel)) ggL_point_X8_sheet
set_option maxRecDepth 20000 in
theorem ggL_point_X8_item : GoodIn wsL_point wsX8_item := goodIn_r _ [28, 6, 29, 7, 8, 4, 9, 10, 11, 12, 30, 31, 32, 16, 33, 19, 34, 35, 36, 37, 20, 38, 39, 40, 41, 18, 80, 81, 82, 83, 84, 85, 86, 87, 88, 89, 90, 91] (by decide +kernel) (by decide +kernel)
set_option maxRecDepth 20000 in
theorem gL_point_X8_item : GoodIn wsL_point (wsV RL 15 RX8 yX8_item wsX8_item) := goodIn_app (goodIn_of _ (by decide +kernel)) ggL_point_X8_item
set_option maxRecDepth 20000 in
theorem ggL_point_X8_points : GoodIn wsL_point wsX8_points := goodIn_r _ [45, 6, 29, 46, 47, 48, 49, 50, 4, 51, 7, 8, 9, 10, 11, 12, 30, 31, 32, 16, 33, 19, 34, 35, 36, 37, 20, 52, 53, 54, 55, 56, 57, 58, 59, 60, 61, 62, 63, 64, 65, 66, 67, 68, 69, 70, 71, 72, 73, 74, 75, 76, 77, 78, 79, 80, 81, 82, 83, 84, 85, 86, 87, 88, 89, 90, 91, 92, 93, 94, 95, 96, 97, 98, 99, 100, 101] (by decide +kernel) (by decide +kernel)
set_option maxRecDepth 20000 in
theorem gL_point_X8_points : GoodIn wsL_point (wsV RL 19 RX8 yX8_points wsX8_points) := goodIn_app (goodIn_of _ (by decide +kernel)) ggL_point_X8_points
set_option maxRecDepth 20000 in
theorem ggL_law_L_cell : GoodIn wsL_law wsL_cell := goodIn_2 _ [(0, 6), (0, 7)] (by decide +kernel) (by decide +kernel)
set_option maxRecDepth 20000 in
theorem gL_law_L_cell : GoodIn wsL_law (va_wsS RL 23 yL_cell wsL_cell) := goodIn_app (goodIn_of _ (by decide +kernel)) ggL_law_L_cell
set_option maxRecDepth 20000 in
theorem ggL_law_X8_init : GoodIn wsL_law wsX8_init := goodIn_2 _ [(0, 10), (0, 11), (0, 12), (0, 13), (0, 14), (0, 15), (0, 16), (0, 17), (0, 18), (0, 19), (0, 20), (0, 21), (0, 22), (0, 23), (1, 0), (1, 1), (1, 2), (1, 3), (1, 4), (1, 5), (1, 6), (1, 7), (1, 8), (1, 9), (1, 10), (1, 11), (1, 12), (1, 13), (1, 14), (1, 15), (1, 16), (1, 17), (1, 18), (1, 19), (1, 20), (1, 21), (1, 22), (1, 23), (2, 0), (2, 1), (2, 2), (2, 3), (2, 4), (2, 5), (2, 6), (2, 7), (2, 8), (2, 9), (2, 10), (2, 11), (2, 12), (2, 13), (2, 14), (2, 15), (2, 16), (2, 17), (2, 18), (2, 19), (2, 20), (2, 21), (2, 22), (2, 23), (3, 0), (3, 1), (3, 2), (3, 3), (3, 4), (3, 5), (3, 6), (3, 7), (3, 8), (3, 9), (3, 10), (3, 11), (3, 12), (3, 13), (3, 14), (3, 15), (3, 16), (3, 17), (3, 18), (3, 19), (3, 20), (3, 21), (3, 22), (3, 23), (4, 0), (4, 1), (4, 2), (4, 3), (4, 4), (4, 5), (4, 6), (4, 7), (4, 8), (4, 9), (4, 10), (4, 11), (4, 12), (4, 13), (4, 14), (4, 15), (4, 16), (4, 17), (4, 18), (4, 19), (4, 20), (4, 21), (4, 22), (4, 23), (5, 0), (17, 0), (17, 1), (17, 2), (17, 3), (17, 4), (17, 5), (17, 6), (17, 7), (17, 8), (18, 0), (18, 1), (19, 0), (19, 1), (19, 2), (19, 3), (19, 4), (19, 5), (19, 6), (19, 7), (19, 8), (20, 0), (20, 1), (20, 2), (20, 3), (21, 0), (21, 1), (21, 2), (21, 3), (21, 4), (21, 5), (21, 6), (21, 7), (21, 8), (21, 9), (21, 10), (21, 11), (21, 12), (22, 0), (22, 1), (22, 2), (23, 0), (24, 0), (24, 1), (24, 2), (25, 0), (25, 1), (25, 2), (25, 3), (25, 4), (25, 5), (25, 6), (25, 7), (25, 8), (25, 9)] (by decide +kernel) (by decide +kernel)
set_option maxRecDepth 20000 in
theorem gL_law_X8_init : GoodIn wsL_law (wsX8_init) := ggL_law_X8_init
set_option maxRecDepth 20000 in
theorem ggL_law_L_some : GoodIn wsL_law wsL_some := goodIn_2 _ [(5, 3), (5, 4)] (by decide +kernel) (by decide +kernel)
set_option maxRecDepth 20000 in
theorem gL_law_L_some : GoodIn wsL_law (va_wsS RL 30 yL_some wsL_some) := goodIn_app (goodIn_of _ (by decide +kernel)) ggL_law_L_some
set_option maxRecDepth 20000 in
theorem ggL_law_L_point : GoodIn wsL_law wsL_point := goodIn_2 _ [(5, 7), (5, 8), (5, 9), (5, 10), (0, 2), (5, 11), (0, 15), (5, 12), (5, 13), (5, 14), (5, 15), (5, 16), (5, 17), (5, 18), (5, 19), (5, 20), (1, 20), (5, 21), (4, 9), (4, 10), (4, 11), (5, 22), (5, 23), (6, 0), (6, 1), (6, 2), (6, 3), (6, 4), (6, 5), (6, 6), (6, 7), (6, 8), (6, 9), (6, 10), (6, 11), (6, 12), (6, 13), (6, 14), (6, 15), (6, 16), (6, 17), (6, 18), (6, 19), (6, 20), (6, 21), (6, 22), (0, 17), (6, 23), (7, 0), (7, 1), (7, 2), (7, 3), (7, 4), (7, 5), (7, 6), (1, 22), (7, 7), (7, 8), (7, 9), (7, 10), (7, 11), (4, 23), (7, 12), (7, 13), (7, 14), (7, 15), (7, 16), (7, 17), (4, 15), (5, 0), (4, 16), (4, 17), (4, 18), (4, 20), (7, 18), (7, 19), (7, 20), (7, 21), (4, 19), (4, 21), (17, 0), (17, 1), (17, 2), (17, 3), (17, 4), (17, 5), (17, 6), (17, 7), (17, 8), (24, 0), (24, 1), (24, 2), (25, 0), (25, 1), (25, 2), (25, 3), (25, 4), (25, 5), (25, 6), (25, 7), (25, 8), (25, 9)] (by decide +kernel) (by decide +kernel)
set_option maxRecDepth 20000 in
theorem gL_law_L_point : GoodIn wsL_law (va_wsS RL 34 yL_point wsL_point) := goodIn_app (goodIn_of _ (by decide +kernel)) ggL_law_L_point
set_option maxRecDepth 20000 in
theorem ggL_law_X8_count : GoodIn wsL_law wsX8_count := goodIn_2 _ [(8, 1), (0, 17), (7, 0), (1, 17), (7, 1), (7, 2), (0, 2), (7, 3), (8, 2), (8, 3), (8, 4), (1, 22), (8, 5), (4, 23), (8, 6), (8, 7), (8, 8), (1, 16), (8, 9), (4, 5), (8, 10), (8, 11), (8, 12), (8, 13), (8, 14), (8, 15), (8, 16), (8, 17), (5, 23), (6, 0), (6, 1), (8, 18), (8, 19), (8, 20), (8, 21), (4, 15), (4, 16), (8, 22), (8, 23), (9, 0), (9, 1), (4, 17), (4, 22), (4, 18), (9, 2), (9, 3), (9, 4), (9, 5), (9, 6), (9, 7), (9, 8), (9, 9), (5, 0), (4, 19), (17, 0), (17, 1), (17, 2), (17, 3), (17, 4), (17, 5), (17, 6), (17, 7), (17, 8), (25, 0), (25, 1), (25, 2), (25, 3), (25, 4), (25, 5), (25, 6), (25, 7), (25, 8), (25, 9), (23, 0)] (by decide +kernel) (by decide +kernel)
set_option maxRecDepth 20000 in
theorem gL_law_X8_count : GoodIn wsL_law (wsV RL 38 RX8 yX8_count wsX8_count) := goodIn_app (goodIn_of _ (by decide +kernel)) ggL_law_X8_count
set_option maxRecDepth 20000 in
theorem ggL_law_X8_grow : GoodIn wsL_law wsX8_grow := goodIn_2 _ [(9, 13), (0, 17), (7, 1), (7, 2), (0, 2), (7, 3), (9, 14), (9, 15), (9, 16), (1, 22), (9, 17), (5, 0), (9, 18), (9, 19), (9, 20), (9, 21), (4, 20), (7, 18), (7, 19), (7, 20), (7, 21), (4, 19), (4, 21), (9, 22), (9, 23), (10, 0), (10, 1), (4, 15), (4, 16), (7, 12), (7, 13), (10, 2), (8, 23), (9, 0), (9, 1), (4, 17), (4, 22), (4, 18), (10, 3), (10, 4), (10, 5), (10, 6), (10, 7), (10, 8), (10, 9), (10, 10), (10, 11), (10, 12), (10, 13), (10, 14), (10, 15), (10, 16), (10, 17), (10, 18), (10, 19), (10, 20), (10, 21), (10, 22), (10, 23), (9, 7), (9, 8), (9, 9), (17, 0), (17, 1), (17, 2), (17, 3), (17, 4), (17, 5), (17, 6), (17, 7), (17, 8), (25, 0), (25, 1), (25, 2), (25, 3), (25, 4), (25, 5), (25, 6), (25, 7), (25, 8), (25, 9)] (by decide +kernel) (by decide +kernel)
set_option maxRecDepth 20000 in
theorem gL_law_X8_grow : GoodIn wsL_law (wsV RL 41 RX8 yX8_grow wsX8_grow) := goodIn_app (goodIn_of _ (by decide +kernel)) ggL_law_X8_grow
set_option maxRecDepth 20000 in
theorem ggL_law_X8_told : GoodIn wsL_law wsX8_told := goodIn_2 _ [(11, 3), (0, 17), (11, 4), (11, 5), (11, 6), (11, 7), (11, 8), (11, 9), (7, 1), (7, 2), (0, 2), (7, 3), (11, 10), (11, 11), (11, 12), (1, 22), (11, 13), (5, 0), (11, 14), (8, 23), (9, 0), (9, 1), (4, 17), (4, 22), (4, 18), (17, 0), (17, 1), (17, 2), (17, 3), (17, 4), (17, 5), (17, 6), (17, 7), (17, 8), (25, 0), (25, 1), (25, 2), (25, 3), (25, 4), (25, 5), (25, 6), (25, 7), (25, 8), (25, 9)] (by decide +kernel) (by decide +kernel)
set_option maxRecDepth 20000 in
theorem gL_law_X8_told : GoodIn wsL_law (wsV RL 44 RX8 yX8_told wsX8_told) := goodIn_app (goodIn_of _ (by decide +kernel)) ggL_law_X8_told
set_option maxRecDepth 20000 in
theorem ggL_law_X8_grid : GoodIn wsL_law wsX8_grid := goodIn_2 _ [(11, 18), (1, 17), (0, 17), (7, 1), (7, 2), (0, 2), (7, 3), (11, 19), (11, 20), (11, 21), (8, 6), (8, 7), (8, 8), (1, 16), (8, 9), (4, 5), (8, 10), (8, 11), (8, 12), (8, 13), (8, 14), (8, 15), (8, 16), (8, 17), (5, 23), (6, 0), (6, 1), (8, 18), (8, 19), (8, 20), (1, 22), (8, 21), (4, 15), (4, 16), (8, 22), (8, 23), (9, 0), (9, 1), (4, 17), (4, 22), (4, 18), (11, 22), (11, 23), (12, 0), (12, 1), (17, 0), (17, 1), (17, 2), (17, 3), (17, 4), (17, 5), (17, 6), (17, 7), (17, 8), (23, 0), (25, 0), (25, 1), (25, 2), (25, 3), (25, 4), (25, 5), (25, 6), (25, 7), (25, 8), (25, 9)] (by decide +kernel) (by decide +kernel)
set_option maxRecDepth 20000 in
theorem gL_law_X8_grid : GoodIn wsL_law (wsV RL 47 RX8 yX8_grid wsX8_grid) := goodIn_app (goodIn_of _ (by decide +kernel)) ggL_law_X8_grid
set_option maxRecDepth 20000 in
theorem ggL_law_X8_thirds : GoodIn wsL_law wsX8_thirds := goodIn_2 _ [(12, 5), (1, 17), (0, 17), (7, 1), (7, 2), (0, 2), (7, 3), (8, 6), (8, 7), (8, 8), (1, 16), (8, 9), (4, 5), (8, 10), (8, 11), (8, 12), (8, 13), (8, 14), (8, 15), (8, 16), (8, 17), (5, 23), (6, 0), (6, 1), (8, 18), (8, 19), (8, 20), (1, 22), (8, 21), (4, 15), (4, 16), (8, 22), (8, 23), (9, 0), (9, 1), (4, 17), (4, 22), (4, 18), (12, 6), (12, 7), (12, 8), (12, 9), (12, 10), (12, 11), (12, 12), (12, 13), (12, 14), (12, 15), (12, 16), (12, 17), (17, 0), (17, 1), (17, 2), (17, 3), (17, 4), (17, 5), (17, 6), (17, 7), (17, 8), (23, 0), (25, 0), (25, 1), (25, 2), (25, 3), (25, 4), (25, 5), (25, 6), (25, 7), (25, 8), (25, 9)] (by decide +kernel) (by decide +kernel)
set_option maxRecDepth 20000 in
theorem gL_law_X8_thirds : GoodIn wsL_law (wsV RL 50 RX8 yX8_thirds wsX8_thirds) := goodIn_app (goodIn_of _ (by decide +kernel)) ggL_law_X8_thirds
set_option maxRecDepth 20000 in
theorem ggL_law_X8_volume : GoodIn wsL_law wsX8_volume := goodIn_2 _ [(12, 21), (1, 17), (0, 17), (7, 1), (7, 2), (0, 2), (7, 3), (12, 22), (12, 23), (13, 0), (8, 6), (8, 7), (8, 8), (1, 16), (8, 9), (4, 5), (8, 10), (8, 11), (8, 12), (8, 13), (8, 14), (8, 15), (8, 16), (8, 17), (5, 23), (6, 0), (6, 1), (8, 18), (8, 19), (8, 20), (1, 22), (8, 21), (4, 15), (4, 16), (8, 22), (8, 23), (9, 0), (9, 1), (4, 17), (4, 22), (4, 18), (13, 1), (13, 2), (13, 3), (13, 4), (13, 5), (13, 6), (12, 10), (12, 11), (12, 12), (12, 13), (12, 14), (12, 15), (12, 16), (12, 17), (13, 7), (13, 8), (13, 9), (13, 10), (13, 11), (11, 23), (12, 0), (12, 1), (17, 0), (17, 1), (17, 2), (17, 3), (17, 4), (17, 5), (17, 6), (17, 7), (17, 8), (23, 0), (25, 0), (25, 1), (25, 2), (25, 3), (25, 4), (25, 5), (25, 6), (25, 7), (25, 8), (25, 9)] (by decide +kernel) (by decide +kernel)
set_option maxRecDepth 20000 in
theorem gL_law_X8_volume : GoodIn wsL_law (wsV RL 54 RX8 yX8_volume wsX8_volume) := goodIn_app (goodIn_of _ (by decide +kernel)) ggL_law_X8_volume
set_option maxRecDepth 20000 in
theorem ggL_law_X8_lines : GoodIn wsL_law wsX8_lines := goodIn_2 _ [(13, 15), (1, 17), (0, 17), (1, 13), (7, 1), (7, 2), (0, 2), (7, 3), (12, 22), (12, 23), (13, 0), (8, 6), (8, 7), (8, 8), (1, 16), (8, 9), (4, 5), (8, 10), (8, 11), (8, 12), (8, 13), (8, 14), (8, 15), (8, 16), (8, 17), (5, 23), (6, 0), (6, 1), (8, 18), (8, 19), (8, 20), (1, 22), (8, 21), (4, 15), (4, 16), (8, 22), (8, 23), (9, 0), (9, 1), (4, 17), (4, 22), (4, 18), (13, 16), (13, 17), (13, 18), (1, 12), (13, 19), (3, 23), (13, 20), (13, 21), (13, 22), (13, 23), (14, 0), (14, 1), (14, 2), (14, 3), (14, 4), (14, 5), (14, 6), (14, 7), (14, 8), (12, 11), (12, 12), (12, 13), (12, 14), (12, 15), (12, 16), (12, 17), (14, 9), (14, 10), (14, 11), (14, 12), (14, 13), (14, 14), (14, 15), (14, 16), (14, 17), (11, 23), (12, 0), (12, 1), (14, 18), (14, 19), (14, 20), (14, 21), (4, 1), (4, 0), (14, 22), (14, 23), (15, 0), (15, 1), (15, 2), (15, 3), (15, 4), (15, 5), (15, 6), (15, 7), (15, 8), (15, 9), (15, 10), (15, 11), (15, 12), (15, 13), (17, 0), (17, 1), (17, 2), (17, 3), (17, 4), (17, 5), (17, 6), (17, 7), (17, 8), (23, 0), (25, 0), (25, 1), (25, 2), (25, 3), (25, 4), (25, 5), (25, 6), (25, 7), (25, 8), (25, 9), (22, 0), (22, 1), (22, 2)] (by decide +kernel) (by decide +kernel)
set_option maxRecDepth 20000 in
theorem gL_law_X8_lines : GoodIn wsL_law (wsV RL 58 RX8 yX8_lines wsX8_lines) := goodIn_app (goodIn_of _ (by decide +kernel)) ggL_law_X8_lines
set_option maxRecDepth 20000 in
theorem ggL_law_X8_changed : GoodIn wsL_law wsX8_changed := goodIn_2 _ [(15, 17), (15, 18), (1, 17), (0, 17), (1, 18), (8, 6), (8, 7), (8, 8), (1, 16), (8, 9), (4, 5), (8, 10), (8, 11), (8, 12), (8, 13), (8, 14), (8, 15), (8, 16), (8, 17), (5, 23), (6, 0), (6, 1), (8, 18), (8, 19), (8, 20), (1, 22), (8, 21), (4, 15), (4, 16), (8, 22), (8, 23), (9, 0), (9, 1), (4, 17), (4, 22), (4, 18), (15, 19), (15, 20), (15, 21), (15, 22), (15, 23), (16, 0), (16, 1), (16, 2), (16, 3), (16, 4), (16, 5), (16, 6), (16, 7), (16, 8), (16, 9), (16, 10), (17, 0), (17, 1), (17, 2), (17, 3), (17, 4), (17, 5), (17, 6), (17, 7), (17, 8), (23, 0), (25, 0), (25, 1), (25, 2), (25, 3), (25, 4), (25, 5), (25, 6), (25, 7), (25, 8), (25, 9)] (by decide +kernel) (by decide +kernel)
set_option maxRecDepth 20000 in
theorem gL_law_X8_changed : GoodIn wsL_law (wsV RL 62 RX8 yX8_changed wsX8_changed) := goodIn_app (goodIn_of _ (by decide +kernel)) ggL_law_X8_changed
