def wl_ch : List (List Cond) := [wsL_law0_r1, wsL_law0_r2, wsL_law0_r3, wsL_law0_r4, wsL_law0_r5, wsL_law0_r6, wsL_law0_r7, wsL_law0_r8, wsL_law0_r9, wsL_law0_r10, wsL_law0_r11, wsL_law0_r12, wsL_law0_r13, wsL_law0_r14, wsX40, wsX30, wsX20, wsX10, wsX00]
theorem wl_in0 : ∀ l ∈ wl_ch, ∀ w ∈ l, w ∈ wsL_law0 := by
  intro l hl w hw
  have h : w ∈ wl_ch.flatten := List.mem_flatten.mpr ⟨l, hl, hw⟩
  have e : wl_ch.flatten = wsL_law0 := by
    unfold wl_ch wsL_law0
    simp only [List.flatten_cons, List.flatten_nil, List.append_assoc, List.append_nil]
  rw [← e]; exact h
theorem wl_in1 : ∀ w ∈ wsL_law0, w ∈ wsL_law := fun _ h => List.mem_append_left _ (List.mem_append_left _ (List.mem_append_left _ h))
theorem goodIn_c (ws : List Cond) (ps : List (Nat × Nat)) (hp : ws = ps.filterMap (fun q => (wl_ch[q.1]?.getD [])[q.2]?)) (h : ws.all goodWord = true) : GoodIn wsL_law ws := by
  intro w hw
  have h1 := List.all_eq_true.mp h w hw
  rw [hp] at hw
  obtain ⟨q, -, hi⟩ := List.mem_filterMap.mp hw
  refine ⟨?_, good_of_word h1⟩
  cases hl : wl_ch[q.1]? with
  | none => rw [hl] at hi; simp at hi
  | some l =>
    rw [hl] at hi
    exact wl_in1 w (wl_in0 l (List.mem_of_getElem? hl) w (List.mem_of_getElem? hi))
set_option maxRecDepth 20000 in
theorem ggL_law_X4_init : GoodIn wsL_law wsX4_init := goodIn_c _ [(0, 6), (0, 7), (0, 8), (0, 9), (0, 10), (0, 11), (0, 12), (0, 13), (0, 14), (0, 15), (0, 16), (0, 17), (0, 18), (0, 19), (0, 20), (0, 21), (0, 22), (0, 23), (1, 0), (1, 1), (1, 2), (1, 3), (1, 4), (1, 5), (0, 3), (1, 6), (1, 7), (1, 8), (1, 9), (1, 10), (1, 11), (1, 12), (1, 13), (1, 14), (1, 15), (1, 16), (1, 17), (1, 18), (1, 19), (1, 20), (1, 21), (1, 22), (1, 23), (2, 0), (2, 1), (2, 2), (2, 3), (2, 4), (2, 5), (2, 6), (2, 7), (2, 8), (2, 9), (2, 10), (2, 11), (2, 12), (2, 13), (2, 14), (15, 0), (15, 1), (14, 0), (14, 1), (14, 2), (14, 3), (14, 4), (14, 5), (14, 6), (16, 0), (16, 1), (16, 2), (16, 3), (16, 4), (16, 5), (16, 6), (16, 7), (16, 8), (16, 9), (16, 10), (16, 11), (16, 12), (16, 13), (16, 14), (16, 15), (17, 0), (17, 1), (17, 2), (18, 0), (18, 1), (18, 2), (18, 3)] (by decide +kernel) (by decide +kernel)
set_option maxRecDepth 20000 in
theorem gL_law_X4_init : GoodIn wsL_law (wsX4_init) := ggL_law_X4_init
set_option maxRecDepth 20000 in
theorem ggL_law_L_cell : GoodIn wsL_law wsL_cell := goodIn_c _ [(2, 18), (2, 19), (2, 20)] (by decide +kernel) (by decide +kernel)
set_option maxRecDepth 20000 in
theorem gL_law_L_cell : GoodIn wsL_law (va_wsS RL 77 yL_cell wsL_cell) := goodIn_app (goodIn_of _ (by decide +kernel)) ggL_law_L_cell
set_option maxRecDepth 20000 in
theorem ggL_law_L_low : GoodIn wsL_law wsL_low := goodIn_c _ [(2, 23), (3, 0)] (by decide +kernel) (by decide +kernel)
set_option maxRecDepth 20000 in
theorem gL_law_L_low : GoodIn wsL_law (va_wsS RL 81 yL_low wsL_low) := goodIn_app (goodIn_of _ (by decide +kernel)) ggL_law_L_low
set_option maxRecDepth 20000 in
theorem ggL_law_X4_setDrum : GoodIn wsL_law wsX4_setDrum := goodIn_ca (goodIn_c _ [(3, 4), (3, 5), (3, 6), (0, 23), (0, 17), (3, 7), (3, 8), (3, 9), (0, 22), (3, 10), (2, 14), (3, 11), (3, 12), (3, 13), (3, 14), (3, 15), (0, 16), (3, 16), (1, 10), (3, 17), (3, 18), (1, 11), (1, 12), (1, 13), (1, 14), (1, 15), (1, 16), (1, 17), (1, 18), (1, 19), (1, 20), (1, 21), (1, 22), (2, 2), (3, 19), (3, 20), (3, 21), (3, 22), (3, 23), (4, 0), (2, 1), (4, 1), (4, 2), (2, 6), (2, 7), (2, 8), (4, 3), (4, 4), (4, 5), (4, 6), (4, 7), (4, 8), (4, 9), (4, 10), (4, 11), (4, 12), (4, 13), (4, 14), (4, 15), (4, 16), (4, 17), (4, 18), (4, 19), (0, 2), (4, 20), (14, 0), (14, 1), (14, 2), (14, 3), (14, 4), (14, 5), (14, 6), (16, 0), (16, 1), (16, 2), (16, 3), (16, 4), (16, 5), (16, 6), (16, 7), (16, 8), (16, 9), (16, 10), (16, 11), (16, 12), (16, 13), (16, 14), (16, 15), (17, 0), (17, 1), (17, 2), (18, 0), (18, 1), (18, 2), (18, 3)] (by decide +kernel) (by decide +kernel)) (goodIn_sub (fun _ h => List.mem_append_left _ (List.mem_append_left _ (List.mem_append_right _ h))) (by decide +kernel))
set_option maxRecDepth 20000 in
theorem gL_law_X4_setDrum : GoodIn wsL_law (wsV RL 84 RX4 yX4_setDrum wsX4_setDrum) := goodIn_app (goodIn_of _ (by decide +kernel)) ggL_law_X4_setDrum
set_option maxRecDepth 20000 in
theorem ggL_law_X4_addOrder : GoodIn wsL_law wsX4_addOrder := goodIn_ca (goodIn_ca (goodIn_c _ [(5, 0), (3, 5), (3, 6), (5, 1), (5, 2), (0, 17), (0, 23), (5, 3), (4, 19), (0, 2), (4, 20), (5, 4), (5, 5), (5, 6), (5, 7), (5, 8), (5, 9), (5, 10), (5, 11), (5, 12), (3, 7), (3, 8), (3, 9), (0, 22), (3, 10), (2, 14), (3, 11), (3, 12), (3, 13), (3, 14), (3, 15), (0, 16), (3, 16), (1, 10), (3, 17), (3, 18), (1, 11), (1, 12), (1, 13), (1, 14), (1, 15), (1, 16), (1, 17), (1, 18), (1, 19), (1, 20), (1, 21), (1, 22), (2, 2), (3, 19), (3, 20), (3, 21), (3, 22), (3, 23), (4, 0), (2, 1), (4, 1), (4, 2), (2, 6), (2, 7), (2, 8), (5, 13), (5, 14), (5, 15), (5, 16), (14, 0), (14, 1), (14, 2), (14, 3), (14, 4), (14, 5), (14, 6), (16, 0), (16, 1), (16, 2), (16, 3), (16, 4), (16, 5), (16, 6), (16, 7), (16, 8), (16, 9), (16, 10), (16, 11), (16, 12), (16, 13), (16, 14), (16, 15), (17, 0), (17, 1), (17, 2), (18, 0), (18, 1), (18, 2), (18, 3)] (by decide +kernel) (by decide +kernel)) (goodIn_sub (fun _ h => List.mem_append_left _ (List.mem_append_left _ (List.mem_append_right _ h))) (by decide +kernel))) (goodIn_sub (fun _ h => List.mem_append_left _ (List.mem_append_right _ h)) (by decide +kernel))
set_option maxRecDepth 20000 in
theorem gL_law_X4_addOrder : GoodIn wsL_law (wsV RL 87 RX4 yX4_addOrder wsX4_addOrder) := goodIn_app (goodIn_of _ (by decide +kernel)) ggL_law_X4_addOrder
set_option maxRecDepth 20000 in
theorem ggL_law_X4_lay : GoodIn wsL_law wsX4_lay := goodIn_c _ [(5, 20), (0, 23), (0, 17), (3, 7), (3, 8), (3, 9), (0, 22), (3, 10), (2, 14), (3, 11), (3, 12), (3, 13), (3, 14), (3, 15), (0, 16), (3, 16), (1, 10), (3, 17), (3, 18), (1, 11), (1, 12), (1, 13), (1, 14), (1, 15), (1, 16), (1, 17), (1, 18), (1, 19), (1, 20), (1, 21), (1, 22), (2, 2), (3, 19), (3, 20), (3, 21), (3, 22), (3, 23), (4, 0), (2, 1), (4, 1), (4, 2), (2, 6), (2, 7), (2, 8), (5, 21), (5, 22), (5, 23), (6, 0), (6, 1), (4, 4), (4, 5), (4, 6), (4, 7), (4, 8), (4, 9), (4, 10), (4, 11), (4, 12), (4, 13), (4, 14), (4, 15), (4, 16), (4, 17), (4, 18), (4, 19), (0, 2), (4, 20), (6, 2), (6, 3), (6, 4), (6, 5), (6, 6), (6, 7), (6, 8), (6, 9), (6, 10), (6, 11), (6, 12), (6, 13), (6, 14), (6, 15), (6, 16), (6, 17), (6, 18), (6, 19), (6, 20), (6, 21), (6, 22), (6, 23), (7, 0), (7, 1), (7, 2), (7, 3), (7, 4), (7, 5), (14, 0), (14, 1), (14, 2), (14, 3), (14, 4), (14, 5), (14, 6), (17, 0), (17, 1), (17, 2), (16, 0), (16, 1), (16, 2), (16, 3), (16, 4), (16, 5), (16, 6), (16, 7), (16, 8), (16, 9), (16, 10), (16, 11), (16, 12), (16, 13), (16, 14), (16, 15), (18, 0), (18, 1), (18, 2), (18, 3)] (by decide +kernel) (by decide +kernel)
set_option maxRecDepth 20000 in
theorem gL_law_X4_lay : GoodIn wsL_law (wsV RL 91 RX4 yX4_lay wsX4_lay) := goodIn_app (goodIn_of _ (by decide +kernel)) ggL_law_X4_lay
set_option maxRecDepth 20000 in
theorem ggL_law_L_lay : GoodIn wsL_law wsL_lay := goodIn_c _ [(7, 8), (0, 3), (7, 9), (7, 10), (2, 17), (7, 11), (7, 12), (7, 13), (7, 14), (7, 15), (7, 16), (7, 17)] (by decide +kernel) (by decide +kernel)
set_option maxRecDepth 20000 in
theorem gL_law_L_lay : GoodIn wsL_law (va_wsS RL 63 yL_lay wsL_lay) := goodIn_app (goodIn_of _ (by decide +kernel)) ggL_law_L_lay
set_option maxRecDepth 20000 in
theorem ggL_law_L_run : GoodIn wsL_law wsL_run := goodIn_c _ [(7, 20), (7, 9), (7, 10), (2, 17), (7, 11)] (by decide +kernel) (by decide +kernel)
set_option maxRecDepth 20000 in
theorem gL_law_L_run : GoodIn wsL_law (va_wsS RL 56 yL_run wsL_run) := goodIn_app (goodIn_of _ (by decide +kernel)) ggL_law_L_run
