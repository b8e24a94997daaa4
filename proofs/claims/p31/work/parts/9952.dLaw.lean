def wl_ch : List (List Cond) := [wsL_law0_r1, wsL_law0_r2, wsL_law0_r3, wsL_law0_r4, wsL_law0_r5, wsL_law0_r6, wsL_law0_r7, wsL_law0_r8, wsL_law0_r9, wsL_law0_r10, wsL_law0_r11, wsL_law0_r12, wsL_law0_r13, wsL_law0_r14, wsX40, wsX30, wsX20, wsX10, wsX00]
theorem wl_in0 : ∀ l ∈ wl_ch, ∀ w ∈ l, w ∈ wsL_law0 := by
  intro l hl w hw
  have h : w ∈ wl_ch.flatten := List.mem_flatten.mpr ⟨l, hl, hw⟩
  have e : wl_ch.flatten = wsL_law0 := by
    unfold wl_ch wsL_law0
    simp only [List.flatten_cons, List.flatten_nil, List.append_assoc, List.append_nil]
  rw [← e]; exact h
theorem wl_in1 : ∀ w ∈ wsL_law0, w ∈ wsL_law := fun _ h => List.mem_append_left _ (List.mem_append_left _ (List.mem_append_left _ h))
theorem goodIn_c (ws : List Cond) (ps : List (Nat × Nat)) (hp : ws = ps.filterMap (fun q => (wl_ch[q.1]?.getD [])[q.2]?)) (h : ws.all goodWord = true) : GoodIn wsL_law ws := by
  intro w hw
  have h1 := List.all_eq_true.mp h w hw
  rw [hp] at hw
  obtain ⟨q, -, hi⟩ := List.mem_filterMap.mp hw
  refine ⟨?_, good_of_word h1⟩
  cases hl : wl_ch[q.1]? with
  | none => rw [hl] at hi; simp at hi
  | some l =>
    rw [hl] at hi
    exact wl_in1 w (wl_in0 l (List.mem_of_getElem? hl) w (List.mem_of_getElem? hi))
set_option maxRecDepth 20000 in
theorem ggL_law_X4_init : GoodIn wsL_law wsX4_init := goodIn_c _ [(0, 6), (0, 7), (0, 8), (0, 9), (0, 10), (0, 11), (0, 12), (0, 13), (0, 14), (0, 15), (0, 16), (0, 17), (0, 18), (0, 19), (0, 20), (0, 21), (0, 22), (0, 23), (1, 0), (1, 1), (1, 2), (1, 3), (1, 4), (1, 5), (0, 3), (1, 6), (1, 7), (1, 8), (1, 9), (1, 10), (1, 11), (1, 12), (1, 13), (1, 14), (1, 15), (1, 16), (1, 17), (1, 18), (1, 19), (1, 20), (1, 21), (1, 22), (1, 23), (2, 0), (2, 1), (2, 2), (2, 3), (2, 4), (2, 5), (2, 6), (2, 7), (2, 8), (2, 9), (2, 10), (2, 11), (2, 12), (2, 13), (2, 14), (15, 0), (15, 1), (14, 0), (14, 1), (14, 2), (14, 3), (14, 4), (14, 5), (14, 6), (16, 0), (16, 1), (16, 2), (16, 3), (16, 4), (16, 5), (16, 6), (16, 7), (16, 8), (16, 9), (16, 10), (16, 11), (16, 12), (16, 13), (16, 14), (16, 15), (17, 0), (17, 1), (17, 2), (18, 0), (18, 1), (18, 2), (18, 3)] (by decide +kernel) (by decide +kernel)
set_option maxRecDepth 20000 in
theorem gL_law_X4_init : GoodIn wsL_law (wsX4_init) := ggL_law_X4_init
set_option maxRecDepth 20000 in
theorem ggL_law_L_cell : GoodIn wsL_law wsL_cell := goodIn_c _ [(2, 18), (2, 19), (2, 20)] (by decide +kernel) (by decide +kernel)
set_option maxRecDepth 20000 in
theorem gL_law_L_cell : GoodIn wsL_law (va_wsS RL 77 yL_cell wsL_cell) := goodIn_app (goodIn_of _ (by decide +kernel)) ggL_law_L_cell
set_option maxRecDepth 20000 in
theorem ggL_law_L_low : GoodIn wsL_law wsL_low := goodIn_c _ [(2, 23), (3, 0)] (by decide +kernel) (by decide +kernel)
set_option maxRecDepth 20000 in
theorem gL_law_L_low : GoodIn wsL_law (va_wsS RL 81 yL_low wsL_low) := goodIn_app (goodIn_of _ (by decide +kernel)) ggL_law_L_low
set_option maxRecDepth 20000 in
theorem ggL_law_X4_setDrum : GoodIn wsL_law wsX4_setDrum := goodIn_ca (goodIn_c _ [(3, 4), (3, 5), (3, 6), (0, 23), (0, 17), (3, 7), (3, 8), (3, 9), (0, 22), (3, 10), (2, 14), (3, 11), (3, 12), (3, 13), (3, 14), (3, 15), (0, 16), (3, 16), (1, 10), (3, 17), (3, 18), (1, 11), (1, 12), (1, 13), (1, 14), (1, 15), (1, 16), (1, 17), (1, 18), (1, 19), (1, 20), (1, 21), (1, 22), (2, 2), (3, 19), (3, 20), (3, 21), (3, 22), (3, 23), (4, 0), (2, 1), (4, 1), (4, 2), (2, 6), (2, 7), (2, 8), (4, 3), (4, 4), (4, 5), (4, 6), (4, 7), (4, 8), (4, 9), (4, 10), (4, 11), (4, 12), (4, 13), (4, 14), (4, 15), (4, 16), (4, 17), (4, 18), (4, 19), (0, 2), (4, 20), (14, 0), (14, 1), (14, 2), (14, 3), (14, 4), (14, 5), (14, 6), (16, 0), (16, 1), (16, 2), (16, 3), (16, 4), (16, 5), (16, 6), (16, 7), (16, 8), (16, 9), (16, 10), (16, 11), (16, 12), (16, 13), (16, 14), (16, 15), (17, 0), (17, 1), (17, 2), (18, 0), (18, 1), (18, 2), (18, 3)] (by decide +kernel) (by decide +kernel)) (goodIn_sub (fun _ h => List.mem_append_left _ (List.mem_append_left _ (List.mem_append_right _ h))) (by decide +kernel))
set_option maxRecDepth 20000 in
theorem gL_law_X4_setDrum : GoodIn wsL_law (wsV RL 84 RX4 yX4_setDrum wsX4_setDrum) := goodIn_app (goodIn_of _ (by decide +kernel)) ggL_law_X4_setDrum
set_option maxRecDepth 20000 in
theorem ggL_law_X4_addOrder : GoodIn wsL_law wsX4_addOrder := goodIn_ca (goodIn_ca (goodIn_c _ [(5, 0), (3, 5), (3, 6), (5, 1), (5, 2), (0, 17), (0, 23), (5, 3), (4, 19), (0, 2), (4, 20), (5, 4), (5, 5), (5, 6), (5, 7), (5, 8), (5, 9), (5, 10), (5, 11), (5, 12), (3, 7), (3, 8), (3, 9), (0, 22), (3, 10), (2, 14), (3, 11), (3, 12), (3, 13), (3, 14), (3, 15), (0, 16), (3, 16), (1, 10), (3, 17), (3, 18), (1, 11), (1, 12), (1, 13), (1, 14), (1, 15), (1, 16), (1, 17), (1, 18), (1, 19), (1, 20), (1, 21), (1, 22), (2, 2), (3, 19), (3, 20), (3, 21), (3, 22), (3, 23), (4, 0), (2, 1), (4, 1), (4, 2), (2, 6), (2, 7), (2, 8), (5, 13), (5, 14), (5, 15), (5, 16), (14, 0), (14, 1), (14, 2), (14, 3), (14, 4), (14, 5), (14, 6), (16, 0), (16, 1), (16, 2), (16, 3), (16, 4), (16, 5), (16, 6), (16, 7), (16, 8), (16, 9), (16, 10), (16, 11), (16, 12), (16, 13), (16, 14), (16, 15), (17, 0), (17, 1), (17, 2), (18, 0), (18, 1), (18, 2), (18, 3)] (by decide +kernel) (by decide +kernel)) (goodIn_sub (fun _ h => List.mem_append_left _ (List.mem_append_left _ (List.mem_append_right _ h))) (by decide +kernel))) (goodIn_sub (fun _ h => List.mem_append_left _ (List.mem_append_right _ h)) (by decide +kernel))
set_option maxRecDepth 20000 in
theorem gL_law_X4_addOrder : GoodIn wsL_law (wsV RL 87 RX4 yX4_addOrder wsX4_addOrder) := goodIn_app (goodIn_of _ (by decide +kernel)) ggL_law_X4_addOrder
set_option maxRecDepth 20000 in
theorem ggL_law_X4_lay : GoodIn wsL_law wsX4_lay := goodIn_c _ [(5, 20), (0, 23), (0, 17), (3, 7), (3, 8), (3, 9), (0, 22), (3, 10), (2, 14), (3, 11), (3, 12), (3, 13), (3, 14), (3, 15), (0, 16), (3, 16), (1, 10), (3, 17), (3, 18), (1, 11), (1, 12), (1, 13), (1, 14), (1, 15), (1, 16), (1, 17), (1, 18), (1, 19), (1, 20), (1, 21), (1, 22), (2, 2), (3, 19), (3, 20), (3, 21), (3, 22), (3, 23), (4, 0), (2, 1), (4, 1), (4, 2), (2, 6), (2, 7), (2, 8), (5, 21), (5, 22), (5, 23), (6, 0), (6, 1), (4, 4), (4, 5), (4, 6), (4, 7), (4, 8), (4, 9), (4, 10), (4, 11), (4, 12), (4, 13), (4, 14), (4, 15), (4, 16), (4, 17), (4, 18), (4, 19), (0, 2), (4, 20), (6, 2), (6, 3), (6, 4), (6, 5), (6, 6), (6, 7), (6, 8), (6, 9), (6, 10), (6, 11), (6, 12), (6, 13), (6, 14), (6, 15), (6, 16), (6, 17), (6, 18), (6, 19), (6, 20), (6, 21), (6, 22), (6, 23), (7, 0), (7, 1), (7, 2), (7, 3), (7, 4), (7, 5), (14, 0), (14, 1), (14, 2), (14, 3), (14, 4), (14, 5), (14, 6), (17, 0), (17, 1), (17, 2), (16, 0), (16, 1), (16, 2), (16, 3), (16, 4), (16, 5), (16, 6), (16, 7), (16, 8), (16, 9), (16, 10), (16, 11), (16, 12), (16, 13), (16, 14), (16, 15), (18, 0), (18, 1), (18, 2), (18, 3)] (by decide +kernel) (by decide +kernel)
set_option maxRecDepth 20000 in
theorem gL_law_X4_lay : GoodIn wsL_law (wsV RL 91 RX4 yX4_lay wsX4_lay) := goodIn_app (goodIn_of _ (by decide +kernel)) ggL_law_X4_lay
set_option maxRecDepth 20000 in
theorem ggL_law_L_lay : GoodIn wsL_law wsL_lay := goodIn_c _ [(7, 8), (0, 3), (7, 9), (7, 10), (2, 17), (7, 11), (7, 12), (7, 13), (7, 14), (7, 15), (7, 16), (7, 17)] (by decide +kernel) (by decide +kernel)
set_option maxRecDepth 20000 in
theorem gL_law_L_lay : GoodIn wsL_law (va_wsS RL 63 yL_lay wsL_lay) := goodIn_app (goodIn_of _ (by decide +kernel)) ggL_law_L_lay
set_option maxRecDepth 20000 in
theorem ggL_law_L_run : GoodIn wsL_law wsL_run := goodIn_c _ [(7, 20), (7, 9), (7, 10), (2, 17), (7, 11)] (by decide +kernel) (by decide +kernel)
set_option maxRecDepth 20000 in
theorem gL_law_L_run : GoodIn wsL_law (va_wsS RL 56 yL_run wsL_run) := goodIn_app (goodIn_of _ (by decide +kernel)) ggL_law_L_run
set_option maxRecDepth 20000 in
theorem ggL_law_X4_run : GoodIn wsL_law wsX4_run := goodIn_ca (goodIn_c _ [(8, 0), (8, 1), (8, 2), (0, 17), (0, 23), (8, 3), (4, 8), (4, 9), (0, 16), (4, 10), (3, 17), (3, 7), (3, 8), (3, 9), (0, 22), (3, 10), (2, 14), (3, 11), (3, 12), (3, 13), (3, 14), (3, 15), (3, 16), (1, 10), (3, 18), (1, 11), (1, 12), (1, 13), (1, 14), (1, 15), (1, 16), (1, 17), (1, 18), (1, 19), (1, 20), (1, 21), (1, 22), (2, 2), (3, 19), (3, 20), (3, 21), (3, 22), (3, 23), (4, 0), (2, 1), (4, 1), (4, 2), (2, 6), (2, 7), (2, 8), (8, 4), (8, 5), (8, 6), (8, 7), (6, 22), (6, 23), (7, 0), (7, 1), (4, 7), (8, 8), (8, 9), (8, 10), (8, 11), (6, 14), (6, 15), (6, 16), (6, 17), (6, 18), (6, 19), (6, 20), (6, 21), (4, 15), (4, 16), (4, 17), (4, 18), (4, 19), (0, 2), (4, 20), (8, 12), (8, 13), (8, 14), (8, 15), (14, 0), (14, 1), (14, 2), (14, 3), (14, 4), (14, 5), (14, 6), (16, 0), (16, 1), (16, 2), (16, 3), (16, 4), (16, 5), (16, 6), (16, 7), (16, 8), (16, 9), (16, 10), (16, 11), (16, 12), (16, 13), (16, 14), (16, 15), (17, 0), (17, 1), (17, 2), (18, 0), (18, 1), (18, 2), (18, 3)] (by decide +kernel) (by decide +kernel)) (goodIn_sub (fun _ h => List.mem_append_right _ h) (by decide +kernel))
set_option maxRecDepth 20000 in
theorem gL_law_X4_run : GoodIn wsL_law (wsV RL 94 RX4 yX4_run wsX4_run) := goodIn_app (goodIn_of _ (by decide +kernel)) ggL_law_X4_run
set_option maxRecDepth 20000 in
theorem ggL_law_L_at : GoodIn wsL_law wsL_at := goodIn_c _ [(7, 17)] (by decide +kernel) (by decide +kernel)
set_option maxRecDepth 20000 in
theorem gL_law_L_at : GoodIn wsL_law (va_wsS RL 30 yL_at wsL_at) := goodIn_app (goodIn_of _ (by decide +kernel)) ggL_law_L_at
set_option maxRecDepth 20000 in
theorem ggL_law_L_move : GoodIn wsL_law wsL_move := goodIn_ca (goodIn_ca (goodIn_c _ [(8, 18), (8, 19), (8, 20), (8, 21), (8, 22), (8, 23), (0, 2), (9, 0), (8, 1), (8, 2), (5, 1), (5, 2), (0, 17), (0, 23), (8, 3), (4, 8), (4, 9), (0, 16), (4, 10), (3, 17), (9, 1), (9, 2), (9, 3), (9, 4), (1, 10), (9, 5), (9, 6), (9, 7), (9, 8), (7, 2), (7, 3), (7, 4), (7, 5), (1, 17), (4, 7), (3, 7), (3, 8), (3, 9), (0, 22), (3, 10), (2, 14), (3, 11), (3, 12), (3, 13), (3, 14), (3, 15), (3, 16), (3, 18), (1, 11), (1, 12), (1, 13), (1, 14), (1, 15), (1, 16), (1, 18), (1, 19), (1, 20), (1, 21), (1, 22), (2, 2), (3, 19), (3, 20), (3, 21), (3, 22), (3, 23), (4, 0), (2, 1), (4, 1), (4, 2), (2, 6), (2, 7), (2, 8), (9, 9), (4, 12), (4, 13), (4, 14), (4, 15), (4, 16), (4, 17), (4, 18), (4, 19), (4, 20), (14, 0), (14, 1), (14, 2), (14, 3), (14, 4), (14, 5), (14, 6), (16, 0), (16, 1), (16, 2), (16, 3), (16, 4), (16, 5), (16, 6), (16, 7), (16, 8), (16, 9), (16, 10), (16, 11), (16, 12), (16, 13), (16, 14), (16, 15), (17, 0), (17, 1), (17, 2), (18, 0), (18, 1), (18, 2), (18, 3)] (by decide +kernel) (by decide +kernel)) (goodIn_sub (fun _ h => List.mem_append_right _ h) (by decide +kernel))) (goodIn_sub (fun _ h => List.mem_append_left _ (List.mem_append_right _ h)) (by decide +kernel))
set_option maxRecDepth 20000 in
theorem gL_law_L_move : GoodIn wsL_law (va_wsS RL 96 yL_move wsL_move) := goodIn_app (goodIn_of _ (by decide +kernel)) ggL_law_L_move
set_option maxRecDepth 20000 in
theorem ggL_law_L_refund : GoodIn wsL_law wsL_refund := goodIn_c _ [(7, 11)] (by decide +kernel) (by decide +kernel)
set_option maxRecDepth 20000 in
theorem gL_law_L_refund : GoodIn wsL_law (va_wsS RL 20 yL_refund wsL_refund) := goodIn_app (goodIn_of _ (by decide +kernel)) ggL_law_L_refund
set_option maxRecDepth 20000 in
theorem ggL_law_X4_turn : GoodIn wsL_law wsX4_turn := goodIn_ca (goodIn_c _ [(9, 13), (3, 5), (3, 6), (0, 23), (0, 17), (9, 14), (9, 15), (0, 2), (9, 16), (3, 7), (3, 8), (3, 9), (0, 22), (3, 10), (2, 14), (3, 11), (3, 12), (3, 13), (3, 14), (3, 15), (0, 16), (3, 16), (1, 10), (3, 17), (3, 18), (1, 11), (1, 12), (1, 13), (1, 14), (1, 15), (1, 16), (1, 17), (1, 18), (1, 19), (1, 20), (1, 21), (1, 22), (2, 2), (3, 19), (3, 20), (3, 21), (3, 22), (3, 23), (4, 0), (2, 1), (4, 1), (4, 2), (2, 6), (2, 7), (2, 8), (9, 17), (6, 15), (6, 16), (6, 17), (6, 18), (6, 19), (6, 20), (6, 21), (14, 0), (14, 1), (14, 2), (14, 3), (14, 4), (14, 5), (14, 6), (16, 0), (16, 1), (16, 2), (16, 3), (16, 4), (16, 5), (16, 6), (16, 7), (16, 8), (16, 9), (16, 10), (16, 11), (16, 12), (16, 13), (16, 14), (16, 15), (17, 0), (17, 1), (17, 2), (18, 0), (18, 1), (18, 2), (18, 3)] (by decide +kernel) (by decide +kernel)) (goodIn_sub (fun _ h => List.mem_append_left _ (List.mem_append_left _ (List.mem_append_right _ h))) (by decide +kernel))
set_option maxRecDepth 20000 in
theorem gL_law_X4_turn : GoodIn wsL_law (wsV RL 99 RX4 yX4_turn wsX4_turn) := goodIn_app (goodIn_of _ (by decide +kernel)) ggL_law_X4_turn
set_option maxRecDepth 20000 in
theorem ggL_law_X4_change : GoodIn wsL_law wsX4_change := goodIn_ca (goodIn_ca (goodIn_c _ [(9, 21), (8, 1), (8, 2), (3, 5), (3, 6), (0, 17), (0, 23), (8, 3), (4, 8), (4, 9), (0, 16), (4, 10), (3, 17), (9, 22), (9, 23), (0, 2), (10, 0), (5, 3), (4, 19), (4, 20), (5, 4), (5, 5), (5, 6), (5, 7), (5, 8), (5, 9), (5, 10), (5, 11), (5, 12), (3, 7), (3, 8), (3, 9), (0, 22), (3, 10), (2, 14), (3, 11), (3, 12), (3, 13), (3, 14), (3, 15), (3, 16), (1, 10), (3, 18), (1, 11), (1, 12), (1, 13), (1, 14), (1, 15), (1, 16), (1, 17), (1, 18), (1, 19), (1, 20), (1, 21), (1, 22), (2, 2), (3, 19), (3, 20), (3, 21), (3, 22), (3, 23), (4, 0), (2, 1), (4, 1), (4, 2), (2, 6), (2, 7), (2, 8), (10, 1), (10, 2), (10, 3), (10, 4), (10, 5), (10, 6), (10, 7), (10, 8), (14, 0), (14, 1), (14, 2), (14, 3), (14, 4), (14, 5), (14, 6), (16, 0), (16, 1), (16, 2), (16, 3), (16, 4), (16, 5), (16, 6), (16, 7), (16, 8), (16, 9), (16, 10), (16, 11), (16, 12), (16, 13), (16, 14), (16, 15), (17, 0), (17, 1), (17, 2), (18, 0), (18, 1), (18, 2), (18, 3)] (by decide +kernel) (by decide +kernel)) (goodIn_sub (fun _ h => List.mem_append_right _ h) (by decide +kernel))) (goodIn_sub (fun _ h => List.mem_append_left _ (List.mem_append_left _ (List.mem_append_right _ h))) (by decide +kernel))
set_option maxRecDepth 20000 in
theorem gL_law_X4_change : GoodIn wsL_law (wsV RL 102 RX4 yX4_change wsX4_change) := goodIn_app (goodIn_of _ (by decide +kernel)) ggL_law_X4_change
set_option maxRecDepth 20000 in
theorem ggL_law_L_same : GoodIn wsL_law wsL_same := goodIn_ca (goodIn_ca (goodIn_c _ [(10, 11), (10, 12), (10, 13), (10, 14), (0, 2), (10, 15), (8, 1), (8, 2), (3, 5), (3, 6), (0, 17), (8, 3), (4, 8), (4, 9), (0, 16), (4, 10), (3, 17), (10, 16), (10, 17), (10, 18), (10, 19), (10, 20), (10, 21), (10, 22), (10, 23), (1, 17), (3, 18), (6, 22), (6, 23), (7, 0), (7, 1), (4, 7), (6, 14), (6, 15), (6, 16), (6, 17), (1, 10), (6, 18), (6, 19), (6, 20), (6, 21), (11, 0), (11, 1), (11, 2), (11, 3), (9, 1), (9, 2), (9, 3), (9, 4), (11, 4), (7, 3), (7, 4), (7, 5), (11, 5), (11, 6), (11, 7), (11, 8), (5, 3), (4, 19), (4, 20), (11, 9), (11, 10), (11, 11), (11, 12), (1, 12), (11, 13), (11, 14), (11, 15), (11, 16), (11, 17), (11, 18), (11, 19), (2, 1), (11, 20), (4, 2), (2, 6), (2, 7), (2, 8), (11, 21), (11, 22), (11, 23), (12, 0), (9, 17), (12, 1), (12, 2), (12, 3), (12, 4), (12, 5), (12, 6), (12, 7), (14, 0), (14, 1), (14, 2), (14, 3), (14, 4), (14, 5), (14, 6), (16, 0), (16, 1), (16, 2), (16, 3), (16, 4), (16, 5), (16, 6), (16, 7), (16, 8), (16, 9), (16, 10), (16, 11), (16, 12), (16, 13), (16, 14), (16, 15), (18, 0), (18, 1), (18, 2), (18, 3)] (by decide +kernel) (by decide +kernel)) (goodIn_sub (fun _ h => List.mem_append_right _ h) (by decide +kernel))) (goodIn_sub (fun _ h => List.mem_append_left _ (List.mem_append_left _ (List.mem_append_right _ h))) (by decide +kernel))
set_option maxRecDepth 20000 in
theorem gL_law_L_same : GoodIn wsL_law (va_wsS RL 106 yL_same wsL_same) := goodIn_app (goodIn_of _ (by decide +kernel)) ggL_law_L_same
set_option maxRecDepth 20000 in
theorem ggL_law_L_would : GoodIn wsL_law wsL_would := goodIn_ca (goodIn_c _ [(12, 10), (12, 11), (12, 12), (2, 17), (12, 13), (7, 18), (7, 19), (7, 20), (7, 9), (7, 10), (7, 11), (12, 14), (12, 15), (12, 16), (0, 2), (12, 17), (8, 1), (8, 2), (0, 17), (8, 3), (4, 8), (4, 9), (0, 16), (4, 10), (3, 17), (12, 18), (12, 19), (12, 20), (12, 21), (0, 19), (12, 22), (3, 14), (3, 15), (3, 16), (1, 10), (3, 18), (1, 11), (1, 12), (1, 13), (1, 14), (1, 15), (1, 16), (1, 17), (1, 18), (1, 19), (1, 20), (1, 21), (1, 22), (2, 2), (3, 19), (3, 20), (3, 21), (3, 22), (3, 23), (4, 0), (2, 1), (4, 1), (4, 2), (2, 6), (2, 7), (2, 8), (8, 4), (8, 5), (8, 6), (8, 7), (6, 22), (6, 23), (7, 0), (7, 1), (4, 7), (8, 8), (8, 9), (8, 10), (8, 11), (6, 14), (6, 15), (6, 16), (6, 17), (6, 18), (6, 19), (6, 20), (6, 21), (4, 15), (4, 16), (4, 17), (4, 18), (4, 19), (4, 20), (8, 12), (8, 13), (8, 14), (8, 15), (7, 6), (7, 7), (7, 8), (0, 3), (7, 12), (7, 13), (7, 14), (7, 15), (7, 16), (7, 17), (12, 23), (13, 0), (13, 1), (13, 2), (0, 18), (5, 21), (5, 22), (5, 23), (6, 0), (6, 1), (4, 4), (4, 5), (4, 6), (4, 11), (4, 12), (4, 13), (4, 14), (6, 2), (6, 3), (6, 4), (6, 5), (6, 6), (6, 7), (6, 8), (6, 9), (6, 10), (6, 11), (6, 12), (6, 13), (7, 2), (7, 3), (7, 4), (7, 5), (13, 3), (13, 4), (13, 5), (13, 6), (9, 5), (9, 6), (9, 7), (9, 8), (13, 7), (13, 8), (13, 9), (13, 10), (14, 0), (14, 1), (14, 2), (14, 3), (14, 4), (14, 5), (14, 6), (16, 0), (16, 1), (16, 2), (16, 3), (16, 4), (16, 5), (16, 6), (16, 7), (16, 8), (16, 9), (16, 10), (16, 11), (16, 12), (16, 13), (16, 14), (16, 15), (18, 0), (18, 1), (18, 2), (18, 3)] (by decide +kernel) (by decide +kernel)) (goodIn_sub (fun _ h => List.mem_append_right _ h) (by decide +kernel))
set_option maxRecDepth 20000 in
theorem gL_law_L_would : GoodIn wsL_law (va_wsS RL 110 yL_would wsL_would) := goodIn_app (goodIn_of _ (by decide +kernel)) ggL_law_L_would
theorem dL_law_0 : decode cL_law 0 = .ok (.new 11, 3) := by decide +kernel
theorem dL_law_3 : decode cL_law 3 = .ok (.dup, 1) := by decide +kernel
theorem dL_law_4 : decode cL_law 4 = .ok (.invokespecial 76, 3) := by decide +kernel
theorem dL_law_7 : decode cL_law 7 = .ok (.astore_n 1, 1) := by decide +kernel
theorem dL_law_8 : decode cL_law 8 = .ok (.bipush 12, 2) := by decide +kernel
theorem dL_law_10 : decode cL_law 10 = .ok (.newarray .int, 2) := by decide +kernel
theorem dL_law_12 : decode cL_law 12 = .ok (.astore_n 2, 1) := by decide +kernel
theorem dL_law_13 : decode cL_law 13 = .ok (.bipush 54, 2) := by decide +kernel
theorem dL_law_15 : decode cL_law 15 = .ok (.newarray .int, 2) := by decide +kernel
theorem dL_law_17 : decode cL_law 17 = .ok (.astore_n 3, 1) := by decide +kernel
theorem dL_law_18 : decode cL_law 18 = .ok (.bipush 64, 2) := by decide +kernel
theorem dL_law_20 : decode cL_law 20 = .ok (.newarray .int, 2) := by decide +kernel
theorem dL_law_22 : decode cL_law 22 = .ok (.astore 4, 2) := by decide +kernel
theorem dL_law_24 : decode cL_law 24 = .ok (.bipush 12, 2) := by decide +kernel
theorem dL_law_26 : decode cL_law 26 = .ok (.newarray .int, 2) := by decide +kernel
theorem dL_law_28 : decode cL_law 28 = .ok (.astore 5, 2) := by decide +kernel
theorem dL_law_30 : decode cL_law 30 = .ok (.bipush 54, 2) := by decide +kernel
theorem dL_law_32 : decode cL_law 32 = .ok (.newarray .int, 2) := by decide +kernel
theorem dL_law_34 : decode cL_law 34 = .ok (.astore 6, 2) := by decide +kernel
theorem dL_law_36 : decode cL_law 36 = .ok (.bipush 64, 2) := by decide +kernel
theorem dL_law_38 : decode cL_law 38 = .ok (.newarray .int, 2) := by decide +kernel
theorem dL_law_40 : decode cL_law 40 = .ok (.astore 7, 2) := by decide +kernel
theorem dL_law_42 : decode cL_law 42 = .ok (.aload_n 2, 1) := by decide +kernel
theorem dL_law_43 : decode cL_law 43 = .ok (.iconst 0, 1) := by decide +kernel
theorem dL_law_44 : decode cL_law 44 = .ok (.bipush 6, 2) := by decide +kernel
theorem dL_law_46 : decode cL_law 46 = .ok (.aload_n 0, 1) := by decide +kernel
theorem dL_law_47 : decode cL_law 47 = .ok (.iconst 0, 1) := by decide +kernel
theorem dL_law_48 : decode cL_law 48 = .ok (.invokestatic 77, 3) := by decide +kernel
theorem dL_law_51 : decode cL_law 51 = .ok (.bipush 20, 2) := by decide +kernel
theorem dL_law_53 : decode cL_law 53 = .ok (.invokestatic 81, 3) := by decide +kernel
theorem dL_law_56 : decode cL_law 56 = .ok (.iadd, 1) := by decide +kernel
theorem dL_law_57 : decode cL_law 57 = .ok (.iastore, 1) := by decide +kernel
theorem dL_law_58 : decode cL_law 58 = .ok (.aload_n 2, 1) := by decide +kernel
theorem dL_law_59 : decode cL_law 59 = .ok (.iconst 2, 1) := by decide +kernel
theorem dL_law_60 : decode cL_law 60 = .ok (.iconst (-1), 1) := by decide +kernel
theorem dL_law_61 : decode cL_law 61 = .ok (.iastore, 1) := by decide +kernel
theorem dL_law_62 : decode cL_law 62 = .ok (.aload_n 1, 1) := by decide +kernel
theorem dL_law_63 : decode cL_law 63 = .ok (.aload_n 2, 1) := by decide +kernel
theorem dL_law_64 : decode cL_law 64 = .ok (.iconst 0, 1) := by decide +kernel
theorem dL_law_65 : decode cL_law 65 = .ok (.iaload, 1) := by decide +kernel
theorem dL_law_66 : decode cL_law 66 = .ok (.invokevirtual 84, 3) := by decide +kernel
theorem dL_law_69 : decode cL_law 69 = .ok (.bipush 12, 2) := by decide +kernel
theorem dL_law_71 : decode cL_law 71 = .ok (.if_icmp .eq 5, 3) := by decide +kernel
theorem dL_law_74 : decode cL_law 74 = .ok (.iconst 0, 1) := by decide +kernel
theorem dL_law_75 : decode cL_law 75 = .ok (.ireturn, 1) := by decide +kernel
theorem dL_law_76 : decode cL_law 76 = .ok (.iconst 0, 1) := by decide +kernel
theorem dL_law_77 : decode cL_law 77 = .ok (.istore 8, 2) := by decide +kernel
theorem dL_law_79 : decode cL_law 79 = .ok (.iload 8, 2) := by decide +kernel
theorem dL_law_81 : decode cL_law 81 = .ok (.bipush 6, 2) := by decide +kernel
theorem dL_law_83 : decode cL_law 83 = .ok (.if_icmp .ge 213, 3) := by decide +kernel
theorem dL_law_86 : decode cL_law 86 = .ok (.aload_n 0, 1) := by decide +kernel
theorem dL_law_87 : decode cL_law 87 = .ok (.iconst 1, 1) := by decide +kernel
theorem dL_law_88 : decode cL_law 88 = .ok (.iload 8, 2) := by decide +kernel
theorem dL_law_90 : decode cL_law 90 = .ok (.iadd, 1) := by decide +kernel
theorem dL_law_91 : decode cL_law 91 = .ok (.invokestatic 77, 3) := by decide +kernel
theorem dL_law_94 : decode cL_law 94 = .ok (.istore 9, 2) := by decide +kernel
theorem dL_law_96 : decode cL_law 96 = .ok (.aload_n 3, 1) := by decide +kernel
theorem dL_law_97 : decode cL_law 97 = .ok (.bipush 9, 2) := by decide +kernel
theorem dL_law_99 : decode cL_law 99 = .ok (.iload 8, 2) := by decide +kernel
theorem dL_law_101 : decode cL_law 101 = .ok (.imul, 1) := by decide +kernel
theorem dL_law_102 : decode cL_law 102 = .ok (.iload 9, 2) := by decide +kernel
theorem dL_law_104 : decode cL_law 104 = .ok (.iconst 4, 1) := by decide +kernel
theorem dL_law_105 : decode cL_law 105 = .ok (.invokestatic 81, 3) := by decide +kernel
theorem dL_law_108 : decode cL_law 108 = .ok (.iastore, 1) := by decide +kernel
theorem dL_law_109 : decode cL_law 109 = .ok (.aload_n 3, 1) := by decide +kernel
theorem dL_law_110 : decode cL_law 110 = .ok (.bipush 9, 2) := by decide +kernel
theorem dL_law_112 : decode cL_law 112 = .ok (.iload 8, 2) := by decide +kernel
theorem dL_law_114 : decode cL_law 114 = .ok (.imul, 1) := by decide +kernel
theorem dL_law_115 : decode cL_law 115 = .ok (.iconst 1, 1) := by decide +kernel
theorem dL_law_116 : decode cL_law 116 = .ok (.iadd, 1) := by decide +kernel
theorem dL_law_117 : decode cL_law 117 = .ok (.iconst 1, 1) := by decide +kernel
theorem dL_law_118 : decode cL_law 118 = .ok (.iload 9, 2) := by decide +kernel
theorem dL_law_120 : decode cL_law 120 = .ok (.iconst 2, 1) := by decide +kernel
theorem dL_law_121 : decode cL_law 121 = .ok (.ishr, 1) := by decide +kernel
theorem dL_law_122 : decode cL_law 122 = .ok (.bipush 9, 2) := by decide +kernel
theorem dL_law_124 : decode cL_law 124 = .ok (.invokestatic 81, 3) := by decide +kernel
theorem dL_law_127 : decode cL_law 127 = .ok (.iadd, 1) := by decide +kernel
theorem dL_law_128 : decode cL_law 128 = .ok (.iastore, 1) := by decide +kernel
theorem dL_law_129 : decode cL_law 129 = .ok (.aload_n 3, 1) := by decide +kernel
theorem dL_law_130 : decode cL_law 130 = .ok (.bipush 9, 2) := by decide +kernel
theorem dL_law_132 : decode cL_law 132 = .ok (.iload 8, 2) := by decide +kernel
theorem dL_law_134 : decode cL_law 134 = .ok (.imul, 1) := by decide +kernel
theorem dL_law_135 : decode cL_law 135 = .ok (.iconst 2, 1) := by decide +kernel
theorem dL_law_136 : decode cL_law 136 = .ok (.iadd, 1) := by decide +kernel
theorem dL_law_137 : decode cL_law 137 = .ok (.iload 9, 2) := by decide +kernel
theorem dL_law_139 : decode cL_law 139 = .ok (.bipush 6, 2) := by decide +kernel
theorem dL_law_141 : decode cL_law 141 = .ok (.ishr, 1) := by decide +kernel
theorem dL_law_142 : decode cL_law 142 = .ok (.bipush 9, 2) := by decide +kernel
theorem dL_law_144 : decode cL_law 144 = .ok (.invokestatic 81, 3) := by decide +kernel
theorem dL_law_147 : decode cL_law 147 = .ok (.iconst 1, 1) := by decide +kernel
theorem dL_law_148 : decode cL_law 148 = .ok (.isub, 1) := by decide +kernel
theorem dL_law_149 : decode cL_law 149 = .ok (.iastore, 1) := by decide +kernel
theorem dL_law_150 : decode cL_law 150 = .ok (.aload_n 3, 1) := by decide +kernel
theorem dL_law_151 : decode cL_law 151 = .ok (.bipush 9, 2) := by decide +kernel
theorem dL_law_153 : decode cL_law 153 = .ok (.iload 8, 2) := by decide +kernel
theorem dL_law_155 : decode cL_law 155 = .ok (.imul, 1) := by decide +kernel
theorem dL_law_156 : decode cL_law 156 = .ok (.iconst 3, 1) := by decide +kernel
theorem dL_law_157 : decode cL_law 157 = .ok (.iadd, 1) := by decide +kernel
theorem dL_law_158 : decode cL_law 158 = .ok (.iload 9, 2) := by decide +kernel
theorem dL_law_160 : decode cL_law 160 = .ok (.bipush 10, 2) := by decide +kernel
theorem dL_law_162 : decode cL_law 162 = .ok (.ishr, 1) := by decide +kernel
theorem dL_law_163 : decode cL_law 163 = .ok (.iconst 3, 1) := by decide +kernel
theorem dL_law_164 : decode cL_law 164 = .ok (.invokestatic 81, 3) := by decide +kernel
theorem dL_law_167 : decode cL_law 167 = .ok (.ifCond .le 7, 3) := by decide +kernel
theorem dL_law_170 : decode cL_law 170 = .ok (.iconst (-1), 1) := by decide +kernel
theorem dL_law_171 : decode cL_law 171 = .ok (.goto 13, 3) := by decide +kernel
theorem dL_law_174 : decode cL_law 174 = .ok (.iload 9, 2) := by decide +kernel
theorem dL_law_176 : decode cL_law 176 = .ok (.bipush 12, 2) := by decide +kernel
theorem dL_law_178 : decode cL_law 178 = .ok (.ishr, 1) := by decide +kernel
theorem dL_law_179 : decode cL_law 179 = .ok (.bipush 7, 2) := by decide +kernel
theorem dL_law_181 : decode cL_law 181 = .ok (.invokestatic 81, 3) := by decide +kernel
theorem dL_law_184 : decode cL_law 184 = .ok (.iastore, 1) := by decide +kernel
theorem dL_law_185 : decode cL_law 185 = .ok (.aload_n 3, 1) := by decide +kernel
theorem dL_law_186 : decode cL_law 186 = .ok (.bipush 9, 2) := by decide +kernel
theorem dL_law_188 : decode cL_law 188 = .ok (.iload 8, 2) := by decide +kernel
theorem dL_law_190 : decode cL_law 190 = .ok (.imul, 1) := by decide +kernel
theorem dL_law_191 : decode cL_law 191 = .ok (.iconst 4, 1) := by decide +kernel
theorem dL_law_192 : decode cL_law 192 = .ok (.iadd, 1) := by decide +kernel
theorem dL_law_193 : decode cL_law 193 = .ok (.iload 9, 2) := by decide +kernel
theorem dL_law_195 : decode cL_law 195 = .ok (.bipush 15, 2) := by decide +kernel
theorem dL_law_197 : decode cL_law 197 = .ok (.ishr, 1) := by decide +kernel
theorem dL_law_198 : decode cL_law 198 = .ok (.bipush 100, 2) := by decide +kernel
theorem dL_law_200 : decode cL_law 200 = .ok (.invokestatic 81, 3) := by decide +kernel
theorem dL_law_203 : decode cL_law 203 = .ok (.iastore, 1) := by decide +kernel
theorem dL_law_204 : decode cL_law 204 = .ok (.aload_n 3, 1) := by decide +kernel
theorem dL_law_205 : decode cL_law 205 = .ok (.bipush 9, 2) := by decide +kernel
theorem dL_law_207 : decode cL_law 207 = .ok (.iload 8, 2) := by decide +kernel
theorem dL_law_209 : decode cL_law 209 = .ok (.imul, 1) := by decide +kernel
theorem dL_law_210 : decode cL_law 210 = .ok (.iconst 5, 1) := by decide +kernel
theorem dL_law_211 : decode cL_law 211 = .ok (.iadd, 1) := by decide +kernel
theorem dL_law_212 : decode cL_law 212 = .ok (.iconst (-1), 1) := by decide +kernel
theorem dL_law_213 : decode cL_law 213 = .ok (.iastore, 1) := by decide +kernel
theorem dL_law_214 : decode cL_law 214 = .ok (.aload_n 3, 1) := by decide +kernel
theorem dL_law_215 : decode cL_law 215 = .ok (.bipush 9, 2) := by decide +kernel
theorem dL_law_217 : decode cL_law 217 = .ok (.iload 8, 2) := by decide +kernel
theorem dL_law_219 : decode cL_law 219 = .ok (.imul, 1) := by decide +kernel
theorem dL_law_220 : decode cL_law 220 = .ok (.bipush 6, 2) := by decide +kernel
theorem dL_law_222 : decode cL_law 222 = .ok (.iadd, 1) := by decide +kernel
theorem dL_law_223 : decode cL_law 223 = .ok (.iconst (-1), 1) := by decide +kernel
theorem dL_law_224 : decode cL_law 224 = .ok (.iastore, 1) := by decide +kernel
theorem dL_law_225 : decode cL_law 225 = .ok (.aload_n 3, 1) := by decide +kernel
theorem dL_law_226 : decode cL_law 226 = .ok (.bipush 9, 2) := by decide +kernel
theorem dL_law_228 : decode cL_law 228 = .ok (.iload 8, 2) := by decide +kernel
theorem dL_law_230 : decode cL_law 230 = .ok (.imul, 1) := by decide +kernel
theorem dL_law_231 : decode cL_law 231 = .ok (.bipush 8, 2) := by decide +kernel
theorem dL_law_233 : decode cL_law 233 = .ok (.iadd, 1) := by decide +kernel
theorem dL_law_234 : decode cL_law 234 = .ok (.iconst (-1), 1) := by decide +kernel
theorem dL_law_235 : decode cL_law 235 = .ok (.iastore, 1) := by decide +kernel
theorem dL_law_236 : decode cL_law 236 = .ok (.aload_n 1, 1) := by decide +kernel
theorem dL_law_237 : decode cL_law 237 = .ok (.aload_n 3, 1) := by decide +kernel
theorem dL_law_238 : decode cL_law 238 = .ok (.bipush 9, 2) := by decide +kernel
theorem dL_law_240 : decode cL_law 240 = .ok (.iload 8, 2) := by decide +kernel
theorem dL_law_242 : decode cL_law 242 = .ok (.imul, 1) := by decide +kernel
theorem dL_law_243 : decode cL_law 243 = .ok (.iaload, 1) := by decide +kernel
theorem dL_law_244 : decode cL_law 244 = .ok (.aload_n 3, 1) := by decide +kernel
theorem dL_law_245 : decode cL_law 245 = .ok (.bipush 9, 2) := by decide +kernel
theorem dL_law_247 : decode cL_law 247 = .ok (.iload 8, 2) := by decide +kernel
theorem dL_law_249 : decode cL_law 249 = .ok (.imul, 1) := by decide +kernel
theorem dL_law_250 : decode cL_law 250 = .ok (.iconst 1, 1) := by decide +kernel
theorem dL_law_251 : decode cL_law 251 = .ok (.iadd, 1) := by decide +kernel
theorem dL_law_252 : decode cL_law 252 = .ok (.iaload, 1) := by decide +kernel
theorem dL_law_253 : decode cL_law 253 = .ok (.aload_n 3, 1) := by decide +kernel
theorem dL_law_254 : decode cL_law 254 = .ok (.bipush 9, 2) := by decide +kernel
theorem dL_law_256 : decode cL_law 256 = .ok (.iload 8, 2) := by decide +kernel
theorem dL_law_258 : decode cL_law 258 = .ok (.imul, 1) := by decide +kernel
theorem dL_law_259 : decode cL_law 259 = .ok (.iconst 2, 1) := by decide +kernel
theorem dL_law_260 : decode cL_law 260 = .ok (.iadd, 1) := by decide +kernel
theorem dL_law_261 : decode cL_law 261 = .ok (.iaload, 1) := by decide +kernel
theorem dL_law_262 : decode cL_law 262 = .ok (.aload_n 3, 1) := by decide +kernel
theorem dL_law_263 : decode cL_law 263 = .ok (.bipush 9, 2) := by decide +kernel
theorem dL_law_265 : decode cL_law 265 = .ok (.iload 8, 2) := by decide +kernel
theorem dL_law_267 : decode cL_law 267 = .ok (.imul, 1) := by decide +kernel
theorem dL_law_268 : decode cL_law 268 = .ok (.iconst 3, 1) := by decide +kernel
theorem dL_law_269 : decode cL_law 269 = .ok (.iadd, 1) := by decide +kernel
theorem dL_law_270 : decode cL_law 270 = .ok (.iaload, 1) := by decide +kernel
theorem dL_law_271 : decode cL_law 271 = .ok (.aload_n 3, 1) := by decide +kernel
theorem dL_law_272 : decode cL_law 272 = .ok (.bipush 9, 2) := by decide +kernel
theorem dL_law_274 : decode cL_law 274 = .ok (.iload 8, 2) := by decide +kernel
theorem dL_law_276 : decode cL_law 276 = .ok (.imul, 1) := by decide +kernel
theorem dL_law_277 : decode cL_law 277 = .ok (.iconst 4, 1) := by decide +kernel
theorem dL_law_278 : decode cL_law 278 = .ok (.iadd, 1) := by decide +kernel
theorem dL_law_279 : decode cL_law 279 = .ok (.iaload, 1) := by decide +kernel
theorem dL_law_280 : decode cL_law 280 = .ok (.invokevirtual 87, 3) := by decide +kernel
theorem dL_law_283 : decode cL_law 283 = .ok (.iload 8, 2) := by decide +kernel
theorem dL_law_285 : decode cL_law 285 = .ok (.if_icmp .eq 5, 3) := by decide +kernel
theorem dL_law_288 : decode cL_law 288 = .ok (.iconst 0, 1) := by decide +kernel
theorem dL_law_289 : decode cL_law 289 = .ok (.ireturn, 1) := by decide +kernel
theorem dL_law_290 : decode cL_law 290 = .ok (.iinc 8 1, 3) := by decide +kernel
theorem dL_law_293 : decode cL_law 293 = .ok (.goto (-214), 3) := by decide +kernel
theorem dL_law_296 : decode cL_law 296 = .ok (.iconst 0, 1) := by decide +kernel
theorem dL_law_297 : decode cL_law 297 = .ok (.istore 8, 2) := by decide +kernel
theorem dL_law_299 : decode cL_law 299 = .ok (.iload 8, 2) := by decide +kernel
theorem dL_law_301 : decode cL_law 301 = .ok (.bipush 9, 2) := by decide +kernel
theorem dL_law_303 : decode cL_law 303 = .ok (.if_icmp .ge 421, 3) := by decide +kernel
theorem dL_law_306 : decode cL_law 306 = .ok (.aload_n 0, 1) := by decide +kernel
theorem dL_law_307 : decode cL_law 307 = .ok (.bipush 7, 2) := by decide +kernel
theorem dL_law_309 : decode cL_law 309 = .ok (.iload 8, 2) := by decide +kernel
theorem dL_law_311 : decode cL_law 311 = .ok (.iadd, 1) := by decide +kernel
theorem dL_law_312 : decode cL_law 312 = .ok (.invokestatic 77, 3) := by decide +kernel
theorem dL_law_315 : decode cL_law 315 = .ok (.istore 9, 2) := by decide +kernel
theorem dL_law_317 : decode cL_law 317 = .ok (.iload 9, 2) := by decide +kernel
theorem dL_law_319 : decode cL_law 319 = .ok (.bipush 8, 2) := by decide +kernel
theorem dL_law_321 : decode cL_law 321 = .ok (.invokestatic 81, 3) := by decide +kernel
theorem dL_law_324 : decode cL_law 324 = .ok (.istore 10, 2) := by decide +kernel
theorem dL_law_326 : decode cL_law 326 = .ok (.iload 9, 2) := by decide +kernel
theorem dL_law_328 : decode cL_law 328 = .ok (.iconst 3, 1) := by decide +kernel
theorem dL_law_329 : decode cL_law 329 = .ok (.ishr, 1) := by decide +kernel
theorem dL_law_330 : decode cL_law 330 = .ok (.bipush 6, 2) := by decide +kernel
theorem dL_law_332 : decode cL_law 332 = .ok (.invokestatic 81, 3) := by decide +kernel
theorem dL_law_335 : decode cL_law 335 = .ok (.istore 11, 2) := by decide +kernel
theorem dL_law_337 : decode cL_law 337 = .ok (.bipush 9, 2) := by decide +kernel
theorem dL_law_339 : decode cL_law 339 = .ok (.iload 11, 2) := by decide +kernel
theorem dL_law_341 : decode cL_law 341 = .ok (.imul, 1) := by decide +kernel
theorem dL_law_342 : decode cL_law 342 = .ok (.istore 12, 2) := by decide +kernel
theorem dL_law_344 : decode cL_law 344 = .ok (.iload 10, 2) := by decide +kernel
theorem dL_law_346 : decode cL_law 346 = .ok (.iconst 2, 1) := by decide +kernel
theorem dL_law_347 : decode cL_law 347 = .ok (.if_icmp .lt 8, 3) := by decide +kernel
theorem dL_law_350 : decode cL_law 350 = .ok (.iload 8, 2) := by decide +kernel
theorem dL_law_352 : decode cL_law 352 = .ok (.ifCond .ne 17, 3) := by decide +kernel
theorem dL_law_355 : decode cL_law 355 = .ok (.aload_n 1, 1) := by decide +kernel
theorem dL_law_356 : decode cL_law 356 = .ok (.invokevirtual 91, 3) := by decide +kernel
theorem dL_law_359 : decode cL_law 359 = .ok (.aload_n 2, 1) := by decide +kernel
theorem dL_law_360 : decode cL_law 360 = .ok (.aload_n 3, 1) := by decide +kernel
theorem dL_law_361 : decode cL_law 361 = .ok (.invokestatic 63, 3) := by decide +kernel
theorem dL_law_364 : decode cL_law 364 = .ok (.if_icmp .eq 312, 3) := by decide +kernel
theorem dL_law_367 : decode cL_law 367 = .ok (.iconst 0, 1) := by decide +kernel
theorem dL_law_368 : decode cL_law 368 = .ok (.ireturn, 1) := by decide +kernel
theorem dL_law_369 : decode cL_law 369 = .ok (.iload 10, 2) := by decide +kernel
theorem dL_law_371 : decode cL_law 371 = .ok (.iconst 5, 1) := by decide +kernel
theorem dL_law_372 : decode cL_law 372 = .ok (.if_icmp .ge 35, 3) := by decide +kernel
theorem dL_law_375 : decode cL_law 375 = .ok (.iload 11, 2) := by decide +kernel
theorem dL_law_377 : decode cL_law 377 = .ok (.aload_n 2, 1) := by decide +kernel
theorem dL_law_378 : decode cL_law 378 = .ok (.aload_n 3, 1) := by decide +kernel
theorem dL_law_379 : decode cL_law 379 = .ok (.aload 4, 2) := by decide +kernel
theorem dL_law_381 : decode cL_law 381 = .ok (.invokestatic 56, 3) := by decide +kernel
theorem dL_law_384 : decode cL_law 384 = .ok (.istore 13, 2) := by decide +kernel
theorem dL_law_386 : decode cL_law 386 = .ok (.iload 13, 2) := by decide +kernel
theorem dL_law_388 : decode cL_law 388 = .ok (.ifCond .lt 14, 3) := by decide +kernel
theorem dL_law_391 : decode cL_law 391 = .ok (.aload_n 1, 1) := by decide +kernel
theorem dL_law_392 : decode cL_law 392 = .ok (.iload 11, 2) := by decide +kernel
theorem dL_law_394 : decode cL_law 394 = .ok (.invokevirtual 94, 3) := by decide +kernel
theorem dL_law_397 : decode cL_law 397 = .ok (.iload 13, 2) := by decide +kernel
theorem dL_law_399 : decode cL_law 399 = .ok (.if_icmp .eq 5, 3) := by decide +kernel
theorem dL_law_402 : decode cL_law 402 = .ok (.iconst 0, 1) := by decide +kernel
theorem dL_law_403 : decode cL_law 403 = .ok (.ireturn, 1) := by decide +kernel
theorem dL_law_404 : decode cL_law 404 = .ok (.goto 272, 3) := by decide +kernel
theorem dL_law_407 : decode cL_law 407 = .ok (.iload 10, 2) := by decide +kernel
theorem dL_law_409 : decode cL_law 409 = .ok (.iconst 5, 1) := by decide +kernel
theorem dL_law_410 : decode cL_law 410 = .ok (.if_icmp .ne 103, 3) := by decide +kernel
theorem dL_law_413 : decode cL_law 413 = .ok (.iload 9, 2) := by decide +kernel
theorem dL_law_415 : decode cL_law 415 = .ok (.bipush 6, 2) := by decide +kernel
theorem dL_law_417 : decode cL_law 417 = .ok (.ishr, 1) := by decide +kernel
theorem dL_law_418 : decode cL_law 418 = .ok (.aload_n 2, 1) := by decide +kernel
theorem dL_law_419 : decode cL_law 419 = .ok (.iconst 0, 1) := by decide +kernel
theorem dL_law_420 : decode cL_law 420 = .ok (.iaload, 1) := by decide +kernel
theorem dL_law_421 : decode cL_law 421 = .ok (.invokestatic 81, 3) := by decide +kernel
theorem dL_law_424 : decode cL_law 424 = .ok (.istore 13, 2) := by decide +kernel
theorem dL_law_426 : decode cL_law 426 = .ok (.iload 13, 2) := by decide +kernel
theorem dL_law_428 : decode cL_law 428 = .ok (.aload_n 3, 1) := by decide +kernel
theorem dL_law_429 : decode cL_law 429 = .ok (.invokestatic 30, 3) := by decide +kernel
theorem dL_law_432 : decode cL_law 432 = .ok (.istore 14, 2) := by decide +kernel
theorem dL_law_434 : decode cL_law 434 = .ok (.aload_n 3, 1) := by decide +kernel
theorem dL_law_435 : decode cL_law 435 = .ok (.iload 12, 2) := by decide +kernel
theorem dL_law_437 : decode cL_law 437 = .ok (.bipush 7, 2) := by decide +kernel
theorem dL_law_439 : decode cL_law 439 = .ok (.iadd, 1) := by decide +kernel
theorem dL_law_440 : decode cL_law 440 = .ok (.iaload, 1) := by decide +kernel
theorem dL_law_441 : decode cL_law 441 = .ok (.istore 15, 2) := by decide +kernel
theorem dL_law_443 : decode cL_law 443 = .ok (.aload_n 1, 1) := by decide +kernel
theorem dL_law_444 : decode cL_law 444 = .ok (.iload 11, 2) := by decide +kernel
theorem dL_law_446 : decode cL_law 446 = .ok (.iload 13, 2) := by decide +kernel
theorem dL_law_448 : decode cL_law 448 = .ok (.invokestatic 96, 3) := by decide +kernel
theorem dL_law_451 : decode cL_law 451 = .ok (.iload 14, 2) := by decide +kernel
theorem dL_law_453 : decode cL_law 453 = .ok (.ifCond .lt 15, 3) := by decide +kernel
theorem dL_law_456 : decode cL_law 456 = .ok (.iload 14, 2) := by decide +kernel
theorem dL_law_458 : decode cL_law 458 = .ok (.iload 11, 2) := by decide +kernel
theorem dL_law_460 : decode cL_law 460 = .ok (.if_icmp .eq 8, 3) := by decide +kernel
theorem dL_law_463 : decode cL_law 463 = .ok (.bipush (-2), 2) := by decide +kernel
theorem dL_law_465 : decode cL_law 465 = .ok (.goto 5, 3) := by decide +kernel
theorem dL_law_468 : decode cL_law 468 = .ok (.iload 15, 2) := by decide +kernel
theorem dL_law_470 : decode cL_law 470 = .ok (.if_icmp .eq 5, 3) := by decide +kernel
theorem dL_law_473 : decode cL_law 473 = .ok (.iconst 0, 1) := by decide +kernel
theorem dL_law_474 : decode cL_law 474 = .ok (.ireturn, 1) := by decide +kernel
theorem dL_law_475 : decode cL_law 475 = .ok (.iload 14, 2) := by decide +kernel
theorem dL_law_477 : decode cL_law 477 = .ok (.ifCond .lt 10, 3) := by decide +kernel
theorem dL_law_480 : decode cL_law 480 = .ok (.iload 14, 2) := by decide +kernel
theorem dL_law_482 : decode cL_law 482 = .ok (.iload 11, 2) := by decide +kernel
theorem dL_law_484 : decode cL_law 484 = .ok (.if_icmp .ne 26, 3) := by decide +kernel
theorem dL_law_487 : decode cL_law 487 = .ok (.iload 11, 2) := by decide +kernel
theorem dL_law_489 : decode cL_law 489 = .ok (.aload_n 2, 1) := by decide +kernel
theorem dL_law_490 : decode cL_law 490 = .ok (.aload_n 3, 1) := by decide +kernel
theorem dL_law_491 : decode cL_law 491 = .ok (.invokestatic 20, 3) := by decide +kernel
theorem dL_law_494 : decode cL_law 494 = .ok (.aload_n 3, 1) := by decide +kernel
theorem dL_law_495 : decode cL_law 495 = .ok (.iload 12, 2) := by decide +kernel
theorem dL_law_497 : decode cL_law 497 = .ok (.iconst 5, 1) := by decide +kernel
theorem dL_law_498 : decode cL_law 498 = .ok (.iadd, 1) := by decide +kernel
theorem dL_law_499 : decode cL_law 499 = .ok (.iload 13, 2) := by decide +kernel
theorem dL_law_501 : decode cL_law 501 = .ok (.iastore, 1) := by decide +kernel
theorem dL_law_502 : decode cL_law 502 = .ok (.aload_n 3, 1) := by decide +kernel
theorem dL_law_503 : decode cL_law 503 = .ok (.iload 12, 2) := by decide +kernel
theorem dL_law_505 : decode cL_law 505 = .ok (.bipush 6, 2) := by decide +kernel
theorem dL_law_507 : decode cL_law 507 = .ok (.iadd, 1) := by decide +kernel
theorem dL_law_508 : decode cL_law 508 = .ok (.iconst (-1), 1) := by decide +kernel
theorem dL_law_509 : decode cL_law 509 = .ok (.iastore, 1) := by decide +kernel
theorem dL_law_510 : decode cL_law 510 = .ok (.goto 166, 3) := by decide +kernel
theorem dL_law_513 : decode cL_law 513 = .ok (.iload 10, 2) := by decide +kernel
theorem dL_law_515 : decode cL_law 515 = .ok (.bipush 6, 2) := by decide +kernel
theorem dL_law_517 : decode cL_law 517 = .ok (.if_icmp .ne 46, 3) := by decide +kernel
theorem dL_law_520 : decode cL_law 520 = .ok (.iconst 1, 1) := by decide +kernel
theorem dL_law_521 : decode cL_law 521 = .ok (.iload 9, 2) := by decide +kernel
theorem dL_law_523 : decode cL_law 523 = .ok (.bipush 6, 2) := by decide +kernel
theorem dL_law_525 : decode cL_law 525 = .ok (.ishr, 1) := by decide +kernel
theorem dL_law_526 : decode cL_law 526 = .ok (.bipush 99, 2) := by decide +kernel
theorem dL_law_528 : decode cL_law 528 = .ok (.invokestatic 81, 3) := by decide +kernel
theorem dL_law_531 : decode cL_law 531 = .ok (.iadd, 1) := by decide +kernel
theorem dL_law_532 : decode cL_law 532 = .ok (.istore 13, 2) := by decide +kernel
theorem dL_law_534 : decode cL_law 534 = .ok (.aload_n 2, 1) := by decide +kernel
theorem dL_law_535 : decode cL_law 535 = .ok (.iconst 1, 1) := by decide +kernel
theorem dL_law_536 : decode cL_law 536 = .ok (.dup2, 1) := by decide +kernel
theorem dL_law_537 : decode cL_law 537 = .ok (.iaload, 1) := by decide +kernel
theorem dL_law_538 : decode cL_law 538 = .ok (.iload 13, 2) := by decide +kernel
theorem dL_law_540 : decode cL_law 540 = .ok (.iadd, 1) := by decide +kernel
theorem dL_law_541 : decode cL_law 541 = .ok (.iastore, 1) := by decide +kernel
theorem dL_law_542 : decode cL_law 542 = .ok (.aload_n 1, 1) := by decide +kernel
theorem dL_law_543 : decode cL_law 543 = .ok (.iload 13, 2) := by decide +kernel
theorem dL_law_545 : decode cL_law 545 = .ok (.invokevirtual 99, 3) := by decide +kernel
theorem dL_law_548 : decode cL_law 548 = .ok (.aload_n 2, 1) := by decide +kernel
theorem dL_law_549 : decode cL_law 549 = .ok (.iconst 1, 1) := by decide +kernel
theorem dL_law_550 : decode cL_law 550 = .ok (.iaload, 1) := by decide +kernel
theorem dL_law_551 : decode cL_law 551 = .ok (.aload_n 2, 1) := by decide +kernel
theorem dL_law_552 : decode cL_law 552 = .ok (.iconst 0, 1) := by decide +kernel
theorem dL_law_553 : decode cL_law 553 = .ok (.iaload, 1) := by decide +kernel
theorem dL_law_554 : decode cL_law 554 = .ok (.irem, 1) := by decide +kernel
theorem dL_law_555 : decode cL_law 555 = .ok (.if_icmp .eq 5, 3) := by decide +kernel
theorem dL_law_558 : decode cL_law 558 = .ok (.iconst 0, 1) := by decide +kernel
theorem dL_law_559 : decode cL_law 559 = .ok (.ireturn, 1) := by decide +kernel
theorem dL_law_560 : decode cL_law 560 = .ok (.goto 116, 3) := by decide +kernel
theorem dL_law_563 : decode cL_law 563 = .ok (.iload 9, 2) := by decide +kernel
theorem dL_law_565 : decode cL_law 565 = .ok (.bipush 6, 2) := by decide +kernel
theorem dL_law_567 : decode cL_law 567 = .ok (.ishr, 1) := by decide +kernel
theorem dL_law_568 : decode cL_law 568 = .ok (.iconst 5, 1) := by decide +kernel
theorem dL_law_569 : decode cL_law 569 = .ok (.invokestatic 81, 3) := by decide +kernel
theorem dL_law_572 : decode cL_law 572 = .ok (.istore 13, 2) := by decide +kernel
theorem dL_law_574 : decode cL_law 574 = .ok (.iload 13, 2) := by decide +kernel
theorem dL_law_576 : decode cL_law 576 = .ok (.ifCond .ne 15, 3) := by decide +kernel
theorem dL_law_579 : decode cL_law 579 = .ok (.iload 9, 2) := by decide +kernel
theorem dL_law_581 : decode cL_law 581 = .ok (.bipush 9, 2) := by decide +kernel
theorem dL_law_583 : decode cL_law 583 = .ok (.ishr, 1) := by decide +kernel
theorem dL_law_584 : decode cL_law 584 = .ok (.iconst 4, 1) := by decide +kernel
theorem dL_law_585 : decode cL_law 585 = .ok (.invokestatic 81, 3) := by decide +kernel
theorem dL_law_588 : decode cL_law 588 = .ok (.goto 55, 3) := by decide +kernel
theorem dL_law_591 : decode cL_law 591 = .ok (.iload 13, 2) := by decide +kernel
theorem dL_law_593 : decode cL_law 593 = .ok (.iconst 1, 1) := by decide +kernel
theorem dL_law_594 : decode cL_law 594 = .ok (.if_icmp .ne 18, 3) := by decide +kernel
theorem dL_law_597 : decode cL_law 597 = .ok (.iconst 1, 1) := by decide +kernel
theorem dL_law_598 : decode cL_law 598 = .ok (.iload 9, 2) := by decide +kernel
theorem dL_law_600 : decode cL_law 600 = .ok (.bipush 9, 2) := by decide +kernel
theorem dL_law_602 : decode cL_law 602 = .ok (.ishr, 1) := by decide +kernel
theorem dL_law_603 : decode cL_law 603 = .ok (.bipush 9, 2) := by decide +kernel
theorem dL_law_605 : decode cL_law 605 = .ok (.invokestatic 81, 3) := by decide +kernel
theorem dL_law_608 : decode cL_law 608 = .ok (.iadd, 1) := by decide +kernel
theorem dL_law_609 : decode cL_law 609 = .ok (.goto 34, 3) := by decide +kernel
theorem dL_law_612 : decode cL_law 612 = .ok (.iload 13, 2) := by decide +kernel
theorem dL_law_614 : decode cL_law 614 = .ok (.iconst 4, 1) := by decide +kernel
theorem dL_law_615 : decode cL_law 615 = .ok (.if_icmp .ne 16, 3) := by decide +kernel
theorem dL_law_618 : decode cL_law 618 = .ok (.iload 9, 2) := by decide +kernel
theorem dL_law_620 : decode cL_law 620 = .ok (.bipush 9, 2) := by decide +kernel
theorem dL_law_622 : decode cL_law 622 = .ok (.ishr, 1) := by decide +kernel
theorem dL_law_623 : decode cL_law 623 = .ok (.bipush 100, 2) := by decide +kernel
theorem dL_law_625 : decode cL_law 625 = .ok (.invokestatic 81, 3) := by decide +kernel
theorem dL_law_628 : decode cL_law 628 = .ok (.goto 15, 3) := by decide +kernel
theorem dL_law_631 : decode cL_law 631 = .ok (.iload 9, 2) := by decide +kernel
theorem dL_law_633 : decode cL_law 633 = .ok (.bipush 9, 2) := by decide +kernel
theorem dL_law_635 : decode cL_law 635 = .ok (.ishr, 1) := by decide +kernel
theorem dL_law_636 : decode cL_law 636 = .ok (.bipush 9, 2) := by decide +kernel
theorem dL_law_638 : decode cL_law 638 = .ok (.invokestatic 81, 3) := by decide +kernel
theorem dL_law_641 : decode cL_law 641 = .ok (.iconst 1, 1) := by decide +kernel
theorem dL_law_642 : decode cL_law 642 = .ok (.isub, 1) := by decide +kernel
theorem dL_law_643 : decode cL_law 643 = .ok (.istore 14, 2) := by decide +kernel
theorem dL_law_645 : decode cL_law 645 = .ok (.aload_n 1, 1) := by decide +kernel
theorem dL_law_646 : decode cL_law 646 = .ok (.iload 11, 2) := by decide +kernel
theorem dL_law_648 : decode cL_law 648 = .ok (.iload 13, 2) := by decide +kernel
theorem dL_law_650 : decode cL_law 650 = .ok (.iload 14, 2) := by decide +kernel
theorem dL_law_652 : decode cL_law 652 = .ok (.invokevirtual 102, 3) := by decide +kernel
theorem dL_law_655 : decode cL_law 655 = .ok (.aload_n 3, 1) := by decide +kernel
theorem dL_law_656 : decode cL_law 656 = .ok (.iload 12, 2) := by decide +kernel
theorem dL_law_658 : decode cL_law 658 = .ok (.iload 13, 2) := by decide +kernel
theorem dL_law_660 : decode cL_law 660 = .ok (.iadd, 1) := by decide +kernel
theorem dL_law_661 : decode cL_law 661 = .ok (.iaload, 1) := by decide +kernel
theorem dL_law_662 : decode cL_law 662 = .ok (.if_icmp .eq 5, 3) := by decide +kernel
theorem dL_law_665 : decode cL_law 665 = .ok (.iconst 0, 1) := by decide +kernel
theorem dL_law_666 : decode cL_law 666 = .ok (.ireturn, 1) := by decide +kernel
theorem dL_law_667 : decode cL_law 667 = .ok (.aload_n 3, 1) := by decide +kernel
theorem dL_law_668 : decode cL_law 668 = .ok (.iload 12, 2) := by decide +kernel
theorem dL_law_670 : decode cL_law 670 = .ok (.iload 13, 2) := by decide +kernel
theorem dL_law_672 : decode cL_law 672 = .ok (.iadd, 1) := by decide +kernel
theorem dL_law_673 : decode cL_law 673 = .ok (.iload 14, 2) := by decide +kernel
theorem dL_law_675 : decode cL_law 675 = .ok (.iastore, 1) := by decide +kernel
theorem dL_law_676 : decode cL_law 676 = .ok (.aload_n 1, 1) := by decide +kernel
theorem dL_law_677 : decode cL_law 677 = .ok (.aload_n 2, 1) := by decide +kernel
theorem dL_law_678 : decode cL_law 678 = .ok (.aload_n 3, 1) := by decide +kernel
theorem dL_law_679 : decode cL_law 679 = .ok (.aload 4, 2) := by decide +kernel
theorem dL_law_681 : decode cL_law 681 = .ok (.invokestatic 106, 3) := by decide +kernel
theorem dL_law_684 : decode cL_law 684 = .ok (.ifCond .eq 32, 3) := by decide +kernel
theorem dL_law_687 : decode cL_law 687 = .ok (.aload_n 1, 1) := by decide +kernel
theorem dL_law_688 : decode cL_law 688 = .ok (.iload 11, 2) := by decide +kernel
theorem dL_law_690 : decode cL_law 690 = .ok (.iload 9, 2) := by decide +kernel
theorem dL_law_692 : decode cL_law 692 = .ok (.bipush 16, 2) := by decide +kernel
theorem dL_law_694 : decode cL_law 694 = .ok (.ishr, 1) := by decide +kernel
theorem dL_law_695 : decode cL_law 695 = .ok (.bipush 6, 2) := by decide +kernel
theorem dL_law_697 : decode cL_law 697 = .ok (.invokestatic 81, 3) := by decide +kernel
theorem dL_law_700 : decode cL_law 700 = .ok (.aload_n 2, 1) := by decide +kernel
theorem dL_law_701 : decode cL_law 701 = .ok (.aload_n 3, 1) := by decide +kernel
theorem dL_law_702 : decode cL_law 702 = .ok (.aload 4, 2) := by decide +kernel
theorem dL_law_704 : decode cL_law 704 = .ok (.aload 5, 2) := by decide +kernel
theorem dL_law_706 : decode cL_law 706 = .ok (.aload 6, 2) := by decide +kernel
theorem dL_law_708 : decode cL_law 708 = .ok (.aload 7, 2) := by decide +kernel
theorem dL_law_710 : decode cL_law 710 = .ok (.invokestatic 110, 3) := by decide +kernel
theorem dL_law_713 : decode cL_law 713 = .ok (.ifCond .ne 5, 3) := by decide +kernel
theorem dL_law_716 : decode cL_law 716 = .ok (.iconst 0, 1) := by decide +kernel
theorem dL_law_717 : decode cL_law 717 = .ok (.ireturn, 1) := by decide +kernel
theorem dL_law_718 : decode cL_law 718 = .ok (.iinc 8 1, 3) := by decide +kernel
theorem dL_law_721 : decode cL_law 721 = .ok (.goto (-422), 3) := by decide +kernel
theorem dL_law_724 : decode cL_law 724 = .ok (.iconst 1, 1) := by decide +kernel
theorem dL_law_725 : decode cL_law 725 = .ok (.ireturn, 1) := by decide +kernel
