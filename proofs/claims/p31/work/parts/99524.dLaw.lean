theorem goodIn_k {big A : List Cond} {c : Cond} (h1 : GoodIn big [c]) (h2 : GoodIn big A) : GoodIn big (c :: A) := fun w h => (List.mem_cons.mp h).elim (fun e => h1 w (List.mem_singleton.mpr e)) (h2 w)
theorem gw_0 : GoodIn wsL_law [Cond.code yL_would cL_would 14 (some .boolean)] := goodIn_c _ [(12, 10)] (by decide +kernel) (by decide +kernel)
set_option maxRecDepth 20000 in
theorem gw_wsL_would_r1 : GoodIn wsL_law wsL_would_r1 := goodIn_c _ [(12, 11), (12, 12), (2, 17), (12, 13), (7, 18), (7, 19), (7, 20), (7, 9), (7, 10), (7, 11), (12, 14), (12, 15), (12, 16), (0, 2), (12, 17), (8, 1), (8, 2), (0, 17), (8, 3), (4, 8), (4, 9), (0, 16), (4, 10), (3, 17)] (by decide +kernel) (by decide +kernel)
set_option maxRecDepth 20000 in
theorem gw_wsL_would_r2 : GoodIn wsL_law wsL_would_r2 := goodIn_c _ [(12, 18), (12, 19), (12, 20), (12, 21), (0, 19), (12, 22), (3, 14), (3, 15), (3, 16), (1, 10), (3, 18), (1, 11), (1, 12), (1, 13), (1, 14), (1, 15), (1, 16), (1, 17), (1, 18), (1, 19), (1, 20), (1, 21), (1, 22), (2, 2)] (by decide +kernel) (by decide +kernel)
set_option maxRecDepth 20000 in
theorem gw_wsL_would_r3 : GoodIn wsL_law wsL_would_r3 := goodIn_c _ [(3, 19), (3, 20), (3, 21), (3, 22), (3, 23), (4, 0), (2, 1), (4, 1), (4, 2), (2, 6), (2, 7), (2, 8), (8, 4), (8, 5), (8, 6), (8, 7), (6, 22), (6, 23), (7, 0), (7, 1), (4, 7), (8, 8), (8, 9), (8, 10)] (by decide +kernel) (by decide +kernel)
set_option maxRecDepth 20000 in
theorem gw_wsL_would_r4 : GoodIn wsL_law wsL_would_r4 := goodIn_c _ [(8, 11), (6, 14), (6, 15), (6, 16), (6, 17), (6, 18), (6, 19), (6, 20), (6, 21), (4, 15), (4, 16), (4, 17), (4, 18), (4, 19), (4, 20), (8, 12), (8, 13), (8, 14), (8, 15), (7, 6), (7, 7), (7, 8), (0, 3), (7, 12)] (by decide +kernel) (by decide +kernel)
set_option maxRecDepth 20000 in
theorem gw_wsL_would_r5 : GoodIn wsL_law wsL_would_r5 := goodIn_c _ [(7, 13), (7, 14), (7, 15), (7, 16), (7, 17), (12, 23), (13, 0), (13, 1), (13, 2), (0, 18), (5, 21), (5, 22), (5, 23), (6, 0), (6, 1), (4, 4), (4, 5), (4, 6), (4, 11), (4, 12), (4, 13), (4, 14), (6, 2), (6, 3)] (by decide +kernel) (by decide +kernel)
set_option maxRecDepth 20000 in
theorem gw_wsL_would_r6 : GoodIn wsL_law wsL_would_r6 := goodIn_c _ [(6, 4), (6, 5), (6, 6), (6, 7), (6, 8), (6, 9), (6, 10), (6, 11), (6, 12), (6, 13), (7, 2), (7, 3), (7, 4), (7, 5), (13, 3), (13, 4), (13, 5), (13, 6), (9, 5), (9, 6), (9, 7), (9, 8), (13, 7), (13, 8)] (by decide +kernel) (by decide +kernel)
set_option maxRecDepth 20000 in
theorem gw_wsL_would_r7 : GoodIn wsL_law wsL_would_r7 := goodIn_c _ [(13, 9), (13, 10)] (by decide +kernel) (by decide +kernel)
set_option maxRecDepth 20000 in
theorem gw_wsX40 : GoodIn wsL_law wsX40 := goodIn_c _ [(14, 0), (14, 1), (14, 2), (14, 3), (14, 4), (14, 5), (14, 6)] (by decide +kernel) (by decide +kernel)
set_option maxRecDepth 20000 in
theorem gw_wsX20 : GoodIn wsL_law wsX20 := goodIn_c _ [(16, 0), (16, 1), (16, 2), (16, 3), (16, 4), (16, 5), (16, 6), (16, 7), (16, 8), (16, 9), (16, 10), (16, 11), (16, 12), (16, 13), (16, 14), (16, 15)] (by decide +kernel) (by decide +kernel)
set_option maxRecDepth 20000 in
theorem gw_wsX00 : GoodIn wsL_law wsX00 := goodIn_c _ [(18, 0), (18, 1), (18, 2), (18, 3)] (by decide +kernel) (by decide +kernel)
theorem ggL_law_L_would : GoodIn wsL_law wsL_would := goodIn_ca (goodIn_k gw_0 (goodIn_app (goodIn_app (goodIn_app (goodIn_app gw_wsL_would_r1 (goodIn_app gw_wsL_would_r2 (goodIn_app gw_wsL_would_r3 (goodIn_app gw_wsL_would_r4 (goodIn_app gw_wsL_would_r5 (goodIn_app gw_wsL_would_r6 gw_wsL_would_r7)))))) gw_wsX40) gw_wsX20) gw_wsX00)) (goodIn_sub (fun _ h => List.mem_append_right _ h) (by decide +kernel))
set_option maxRecDepth 20000 in
theorem gL_law_L_would : GoodIn wsL_law (va_wsS RL 110 yL_would wsL_would) := goodIn_app (goodIn_of _ (by decide +kernel)) ggL_law_L_would
