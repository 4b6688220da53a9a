set_option maxRecDepth 20000 in
theorem gL_law_X12_gauge : GoodIn wsL_law (wsV RL 61 RX12 yX12_gauge wsX12_gauge) := goodIn_app (goodIn_of _ (by decide +kernel)) ggL_law_X12_gauge
set_option maxRecDepth 100000 in
theorem ggL_law_X11_mover : GoodIn wsL_law wsX11_mover := (gi_cons (g_wsL_law_r25 _ (List.mem_of_getElem? (i := 14) rfl)) (gi_app (gi_app (gi_cons (g_wsL_law_r1 _ (List.mem_of_getElem? (i := 23) rfl)) (gi_cons (g_wsL_law_r25 _ (List.mem_of_getElem? (i := 6) rfl)) (gi_cons (g_wsL_law_r25 _ (List.mem_of_getElem? (i := 15) rfl)) (gi_cons (g_wsL_law_r7 _ (List.mem_of_getElem? (i := 4) rfl)) (gi_cons (g_wsL_law_r7 _ (List.mem_of_getElem? (i := 5) rfl)) (gi_cons (g_wsL_law_r1 _ (List.mem_of_getElem? (i := 2) rfl)) (gi_cons (g_wsL_law_r7 _ (List.mem_of_getElem? (i := 6) rfl)) (gi_cons (g_wsL_law_r10 _ (List.mem_of_getElem? (i := 16) rfl)) (gi_cons (g_wsL_law_r10 _ (List.mem_of_getElem? (i := 17) rfl)) (gi_cons (g_wsL_law_r10 _ (List.mem_of_getElem? (i := 18) rfl)) gi_nil)))))))))) g_wsX110) g_wsX10))
set_option maxRecDepth 20000 in
theorem gL_law_X11_mover : GoodIn wsL_law (wsV RL 62 RX11 yX11_mover wsX11_mover) := goodIn_app (goodIn_of _ (by decide +kernel)) ggL_law_X11_mover
set_option maxRecDepth 100000 in
theorem ggL_law_X12_mover : GoodIn wsL_law wsX12_mover := (gi_cons (g_wsL_law_r25 _ (List.mem_of_getElem? (i := 19) rfl)) (gi_app (gi_cons (g_wsL_law_r23 _ (List.mem_of_getElem? (i := 19) rfl)) (gi_cons (g_wsL_law_r5 _ (List.mem_of_getElem? (i := 23) rfl)) (gi_cons (g_wsL_law_r7 _ (List.mem_of_getElem? (i := 13) rfl)) (gi_cons (g_wsL_law_r7 _ (List.mem_of_getElem? (i := 14) rfl)) (gi_cons (g_wsL_law_r1 _ (List.mem_of_getElem? (i := 5) rfl)) (gi_cons (g_wsL_law_r7 _ (List.mem_of_getElem? (i := 15) rfl)) gi_nil)))))) g_wsX120))
set_option maxRecDepth 20000 in
theorem gL_law_X12_mover : GoodIn wsL_law (wsV RL 65 RX12 yX12_mover wsX12_mover) := goodIn_app (goodIn_of _ (by decide +kernel)) ggL_law_X12_mover
set_option maxRecDepth 100000 in
theorem ggL_law_X11_sum : GoodIn wsL_law wsX11_sum := (gi_cons (g_wsL_law_r25 _ (List.mem_of_getElem? (i := 23) rfl)) (gi_app (gi_app (gi_app (gi_app (gi_cons (g_wsL_law_r1 _ (List.mem_of_getElem? (i := 23) rfl)) (gi_cons (g_wsL_law_r26 _ (List.mem_of_getElem? (i := 0) rfl)) (gi_cons (g_wsL_law_r26 _ (List.mem_of_getElem? (i := 1) rfl)) (gi_cons (g_wsL_law_r26 _ (List.mem_of_getElem? (i := 2) rfl)) (gi_cons (g_wsL_law_r1 _ (List.mem_of_getElem? (i := 19) rfl)) (gi_cons (g_wsL_law_r15 _ (List.mem_of_getElem? (i := 17) rfl)) (gi_cons (g_wsL_law_r15 _ (List.mem_of_getElem? (i := 18) rfl)) (gi_cons (g_wsL_law_r26 _ (List.mem_of_getElem? (i := 3) rfl)) (gi_cons (g_wsL_law_r26 _ (List.mem_of_getElem? (i := 4) rfl)) (gi_cons (g_wsL_law_r22 _ (List.mem_of_getElem? (i := 14) rfl)) (gi_cons (g_wsL_law_r22 _ (List.mem_of_getElem? (i := 15) rfl)) (gi_cons (g_wsL_law_r3 _ (List.mem_of_getElem? (i := 12) rfl)) (gi_cons (g_wsL_law_r22 _ (List.mem_of_getElem? (i := 16) rfl)) (gi_cons (g_wsL_law_r3 _ (List.mem_of_getElem? (i := 17) rfl)) (gi_cons (g_wsL_law_r22 _ (List.mem_of_getElem? (i := 17) rfl)) (gi_cons (g_wsL_law_r22 _ (List.mem_of_getElem? (i := 18) rfl)) gi_nil)))))))))))))))) g_wsX110) g_wsX10) g_wsX70) g_wsX80))
set_option maxRecDepth 20000 in
theorem gL_law_X11_sum : GoodIn wsL_law (wsV RL 66 RX11 yX11_sum wsX11_sum) := goodIn_app (goodIn_of _ (by decide +kernel)) ggL_law_X11_sum
set_option maxRecDepth 100000 in
theorem ggL_law_X12_sum : GoodIn wsL_law wsX12_sum := (gi_cons (g_wsL_law_r26 _ (List.mem_of_getElem? (i := 8) rfl)) (gi_app (gi_cons (g_wsL_law_r23 _ (List.mem_of_getElem? (i := 23) rfl)) (gi_cons (g_wsL_law_r24 _ (List.mem_of_getElem? (i := 0) rfl)) (gi_cons (g_wsL_law_r24 _ (List.mem_of_getElem? (i := 1) rfl)) (gi_cons (g_wsL_law_r16 _ (List.mem_of_getElem? (i := 3) rfl)) (gi_cons (g_wsL_law_r24 _ (List.mem_of_getElem? (i := 19) rfl)) (gi_cons (g_wsL_law_r24 _ (List.mem_of_getElem? (i := 20) rfl)) (gi_cons (g_wsL_law_r24 _ (List.mem_of_getElem? (i := 21) rfl)) (gi_cons (g_wsL_law_r1 _ (List.mem_of_getElem? (i := 5) rfl)) (gi_cons (g_wsL_law_r24 _ (List.mem_of_getElem? (i := 22) rfl)) (gi_cons (g_wsL_law_r16 _ (List.mem_of_getElem? (i := 5) rfl)) (gi_cons (g_wsL_law_r6 _ (List.mem_of_getElem? (i := 20) rfl)) (gi_cons (g_wsL_law_r26 _ (List.mem_of_getElem? (i := 9) rfl)) (gi_cons (g_wsL_law_r26 _ (List.mem_of_getElem? (i := 10) rfl)) (gi_cons (g_wsL_law_r26 _ (List.mem_of_getElem? (i := 11) rfl)) (gi_cons (g_wsL_law_r26 _ (List.mem_of_getElem? (i := 12) rfl)) gi_nil))))))))))))))) g_wsX120))
set_option maxRecDepth 20000 in
theorem gL_law_X12_sum : GoodIn wsL_law (wsV RL 70 RX12 yX12_sum wsX12_sum) := goodIn_app (goodIn_of _ (by decide +kernel)) ggL_law_X12_sum
set_option maxRecDepth 100000 in
theorem ggL_law_X11_order : GoodIn wsL_law wsX11_order := (gi_cons (g_wsL_law_r26 _ (List.mem_of_getElem? (i := 16) rfl)) (gi_app (gi_app (gi_app (gi_app (gi_cons (g_wsL_law_r1 _ (List.mem_of_getElem? (i := 15) rfl)) (gi_cons (g_wsL_law_r2 _ (List.mem_of_getElem? (i := 3) rfl)) (gi_cons (g_wsL_law_r26 _ (List.mem_of_getElem? (i := 17) rfl)) (gi_cons (g_wsL_law_r9 _ (List.mem_of_getElem? (i := 16) rfl)) (gi_cons (g_wsL_law_r9 _ (List.mem_of_getElem? (i := 17) rfl)) (gi_cons (g_wsL_law_r9 _ (List.mem_of_getElem? (i := 18) rfl)) (gi_cons (g_wsL_law_r1 _ (List.mem_of_getElem? (i := 14) rfl)) (gi_cons (g_wsL_law_r9 _ (List.mem_of_getElem? (i := 19) rfl)) (gi_cons (g_wsL_law_r8 _ (List.mem_of_getElem? (i := 1) rfl)) (gi_cons (g_wsL_law_r3 _ (List.mem_of_getElem? (i := 2) rfl)) (gi_cons (g_wsL_law_r7 _ (List.mem_of_getElem? (i := 4) rfl)) (gi_cons (g_wsL_law_r7 _ (List.mem_of_getElem? (i := 5) rfl)) (gi_cons (g_wsL_law_r1 _ (List.mem_of_getElem? (i := 2) rfl)) (gi_cons (g_wsL_law_r7 _ (List.mem_of_getElem? (i := 6) rfl)) (gi_cons (g_wsL_law_r26 _ (List.mem_of_getElem? (i := 18) rfl)) (gi_cons (g_wsL_law_r26 _ (List.mem_of_getElem? (i := 19) rfl)) (gi_cons (g_wsL_law_r26 _ (List.mem_of_getElem? (i := 20) rfl)) (gi_cons (g_wsL_law_r2 _ (List.mem_of_getElem? (i := 2) rfl)) (gi_cons (g_wsL_law_r26 _ (List.mem_of_getElem? (i := 21) rfl)) (gi_cons (g_wsL_law_r19 _ (List.mem_of_getElem? (i := 16) rfl)) (gi_cons (g_wsL_law_r4 _ (List.mem_of_getElem? (i := 5) rfl)) (gi_cons (g_wsL_law_r4 _ (List.mem_of_getElem? (i := 6) rfl)) (gi_cons (g_wsL_law_r4 _ (List.mem_of_getElem? (i := 7) rfl)) (gi_cons (g_wsL_law_r4 _ (List.mem_of_getElem? (i := 8) rfl)) gi_nil)))))))))))))))))))))))) (gi_cons (g_wsL_law_r10 _ (List.mem_of_getElem? (i := 20) rfl)) (gi_cons (g_wsL_law_r10 _ (List.mem_of_getElem? (i := 21) rfl)) gi_nil))) g_wsX110) g_wsX30) g_wsX40))
set_option maxRecDepth 20000 in
theorem gL_law_X11_order : GoodIn wsL_law (wsV RL 71 RX11 yX11_order wsX11_order) := goodIn_app (goodIn_of _ (by decide +kernel)) ggL_law_X11_order
set_option maxRecDepth 100000 in
theorem ggL_law_X12_order : GoodIn wsL_law wsX12_order := (gi_cons (g_wsL_law_r27 _ (List.mem_of_getElem? (i := 1) rfl)) (gi_app (gi_cons (g_wsL_law_r9 _ (List.mem_of_getElem? (i := 8) rfl)) (gi_cons (g_wsL_law_r23 _ (List.mem_of_getElem? (i := 17) rfl)) (gi_cons (g_wsL_law_r5 _ (List.mem_of_getElem? (i := 19) rfl)) (gi_cons (g_wsL_law_r5 _ (List.mem_of_getElem? (i := 20) rfl)) (gi_cons (g_wsL_law_r5 _ (List.mem_of_getElem? (i := 21) rfl)) (gi_cons (g_wsL_law_r5 _ (List.mem_of_getElem? (i := 22) rfl)) (gi_cons (g_wsL_law_r11 _ (List.mem_of_getElem? (i := 3) rfl)) (gi_cons (g_wsL_law_r11 _ (List.mem_of_getElem? (i := 4) rfl)) (gi_cons (g_wsL_law_r11 _ (List.mem_of_getElem? (i := 5) rfl)) (gi_cons (g_wsL_law_r1 _ (List.mem_of_getElem? (i := 5) rfl)) (gi_cons (g_wsL_law_r11 _ (List.mem_of_getElem? (i := 6) rfl)) (gi_cons (g_wsL_law_r9 _ (List.mem_of_getElem? (i := 10) rfl)) (gi_cons (g_wsL_law_r7 _ (List.mem_of_getElem? (i := 13) rfl)) (gi_cons (g_wsL_law_r7 _ (List.mem_of_getElem? (i := 14) rfl)) (gi_cons (g_wsL_law_r7 _ (List.mem_of_getElem? (i := 15) rfl)) gi_nil))))))))))))))) g_wsX120))
set_option maxRecDepth 20000 in
theorem gL_law_X12_order : GoodIn wsL_law (wsV RL 75 RX12 yX12_order wsX12_order) := goodIn_app (goodIn_of _ (by decide +kernel)) ggL_law_X12_order
set_option maxRecDepth 100000 in
theorem ggL_law_X11_waits : GoodIn wsL_law wsX11_waits := (gi_cons (g_wsL_law_r27 _ (List.mem_of_getElem? (i := 5) rfl)) (gi_app (gi_app (gi_cons (g_wsL_law_r1 _ (List.mem_of_getElem? (i := 19) rfl)) (gi_cons (g_wsL_law_r27 _ (List.mem_of_getElem? (i := 6) rfl)) gi_nil)) g_wsX110) g_wsX70))
set_option maxRecDepth 20000 in
theorem gL_law_X11_waits : GoodIn wsL_law (wsV RL 76 RX11 yX11_waits wsX11_waits) := goodIn_app (goodIn_of _ (by decide +kernel)) ggL_law_X11_waits
set_option maxRecDepth 100000 in
theorem ggL_law_X12_waits : GoodIn wsL_law wsX12_waits := (gi_cons (g_wsL_law_r27 _ (List.mem_of_getElem? (i := 10) rfl)) (gi_app (gi_cons (g_wsL_law_r23 _ (List.mem_of_getElem? (i := 16) rfl)) gi_nil) g_wsX120))
set_option maxRecDepth 20000 in
theorem gL_law_X12_waits : GoodIn wsL_law (wsV RL 80 RX12 yX12_waits wsX12_waits) := goodIn_app (goodIn_of _ (by decide +kernel)) ggL_law_X12_waits
set_option maxRecDepth 100000 in
theorem ggL_law_X11_start : GoodIn wsL_law wsX11_start := (gi_cons (g_wsL_law_r27 _ (List.mem_of_getElem? (i := 14) rfl)) (gi_app (gi_app (gi_app (gi_app (gi_cons (g_wsL_law_r2 _ (List.mem_of_getElem? (i := 4) rfl)) (gi_cons (g_wsL_law_r1 _ (List.mem_of_getElem? (i := 19) rfl)) (gi_cons (g_wsL_law_r27 _ (List.mem_of_getElem? (i := 15) rfl)) (gi_cons (g_wsL_law_r19 _ (List.mem_of_getElem? (i := 9) rfl)) (gi_cons (g_wsL_law_r27 _ (List.mem_of_getElem? (i := 16) rfl)) (gi_cons (g_wsL_law_r27 _ (List.mem_of_getElem? (i := 17) rfl)) (gi_cons (g_wsL_law_r27 _ (List.mem_of_getElem? (i := 18) rfl)) (gi_cons (g_wsL_law_r1 _ (List.mem_of_getElem? (i := 18) rfl)) (gi_cons (g_wsL_law_r27 _ (List.mem_of_getElem? (i := 19) rfl)) (gi_cons (g_wsL_law_r3 _ (List.mem_of_getElem? (i := 7) rfl)) (gi_cons (g_wsL_law_r3 _ (List.mem_of_getElem? (i := 8) rfl)) (gi_cons (g_wsL_law_r3 _ (List.mem_of_getElem? (i := 9) rfl)) (gi_cons (g_wsL_law_r3 _ (List.mem_of_getElem? (i := 13) rfl)) (gi_cons (g_wsL_law_r27 _ (List.mem_of_getElem? (i := 20) rfl)) (gi_cons (g_wsL_law_r10 _ (List.mem_of_getElem? (i := 17) rfl)) (gi_cons (g_wsL_law_r1 _ (List.mem_of_getElem? (i := 2) rfl)) (gi_cons (g_wsL_law_r10 _ (List.mem_of_getElem? (i := 18) rfl)) (gi_cons (g_wsL_law_r10 _ (List.mem_of_getElem? (i := 20) rfl)) (gi_cons (g_wsL_law_r10 _ (List.mem_of_getElem? (i := 21) rfl)) (gi_cons (g_wsL_law_r27 _ (List.mem_of_getElem? (i := 21) rfl)) (gi_cons (g_wsL_law_r27 _ (List.mem_of_getElem? (i := 22) rfl)) (gi_cons (g_wsL_law_r27 _ (List.mem_of_getElem? (i := 23) rfl)) (gi_cons (g_wsL_law_r3 _ (List.mem_of_getElem? (i := 12) rfl)) (gi_cons (g_wsL_law_r28 _ (List.mem_of_getElem? (i := 0) rfl)) gi_nil)))))))))))))))))))))))) (gi_cons (g_wsL_law_r28 _ (List.mem_of_getElem? (i := 1) rfl)) (gi_cons (g_wsL_law_r22 _ (List.mem_of_getElem? (i := 17) rfl)) (gi_cons (g_wsL_law_r3 _ (List.mem_of_getElem? (i := 17) rfl)) (gi_cons (g_wsL_law_r22 _ (List.mem_of_getElem? (i := 18) rfl)) gi_nil))))) g_wsX110) g_wsX70) g_wsX80))
set_option maxRecDepth 20000 in
theorem gL_law_X11_start : GoodIn wsL_law (wsV RL 81 RX11 yX11_start wsX11_start) := goodIn_app (goodIn_of _ (by decide +kernel)) ggL_law_X11_start
set_option maxRecDepth 100000 in
theorem ggL_law_X12_start : GoodIn wsL_law wsX12_start := (gi_cons (g_wsL_law_r28 _ (List.mem_of_getElem? (i := 5) rfl)) (gi_app (gi_cons (g_wsL_law_r28 _ (List.mem_of_getElem? (i := 6) rfl)) (gi_cons (g_wsL_law_r9 _ (List.mem_of_getElem? (i := 10) rfl)) (gi_cons (g_wsL_law_r28 _ (List.mem_of_getElem? (i := 7) rfl)) (gi_cons (g_wsL_law_r6 _ (List.mem_of_getElem? (i := 4) rfl)) (gi_cons (g_wsL_law_r5 _ (List.mem_of_getElem? (i := 9) rfl)) (gi_cons (g_wsL_law_r6 _ (List.mem_of_getElem? (i := 5) rfl)) (gi_cons (g_wsL_law_r5 _ (List.mem_of_getElem? (i := 15) rfl)) (gi_cons (g_wsL_law_r6 _ (List.mem_of_getElem? (i := 6) rfl)) (gi_cons (g_wsL_law_r5 _ (List.mem_of_getElem? (i := 17) rfl)) (gi_cons (g_wsL_law_r16 _ (List.mem_of_getElem? (i := 3) rfl)) (gi_cons (g_wsL_law_r28 _ (List.mem_of_getElem? (i := 8) rfl)) (gi_cons (g_wsL_law_r23 _ (List.mem_of_getElem? (i := 16) rfl)) (gi_cons (g_wsL_law_r28 _ (List.mem_of_getElem? (i := 9) rfl)) (gi_cons (g_wsL_law_r6 _ (List.mem_of_getElem? (i := 21) rfl)) gi_nil)))))))))))))) g_wsX120))
set_option maxRecDepth 20000 in
theorem gL_law_X12_start : GoodIn wsL_law (wsV RL 84 RX12 yX12_start wsX12_start) := goodIn_app (goodIn_of _ (by decide +kernel)) ggL_law_X12_start
set_option maxRecDepth 100000 in
theorem ggL_law_X11_reading : GoodIn wsL_law wsX11_reading := (gi_cons (g_wsL_law_r28 _ (List.mem_of_getElem? (i := 13) rfl)) (gi_app (gi_app (gi_app (gi_app (gi_app (gi_app (gi_app (gi_cons (g_wsL_law_r1 _ (List.mem_of_getElem? (i := 15) rfl)) (gi_cons (g_wsL_law_r2 _ (List.mem_of_getElem? (i := 12) rfl)) (gi_cons (g_wsL_law_r28 _ (List.mem_of_getElem? (i := 14) rfl)) (gi_cons (g_wsL_law_r9 _ (List.mem_of_getElem? (i := 16) rfl)) (gi_cons (g_wsL_law_r9 _ (List.mem_of_getElem? (i := 17) rfl)) (gi_cons (g_wsL_law_r9 _ (List.mem_of_getElem? (i := 18) rfl)) (gi_cons (g_wsL_law_r1 _ (List.mem_of_getElem? (i := 14) rfl)) (gi_cons (g_wsL_law_r9 _ (List.mem_of_getElem? (i := 19) rfl)) (gi_cons (g_wsL_law_r8 _ (List.mem_of_getElem? (i := 1) rfl)) (gi_cons (g_wsL_law_r3 _ (List.mem_of_getElem? (i := 2) rfl)) (gi_cons (g_wsL_law_r7 _ (List.mem_of_getElem? (i := 4) rfl)) (gi_cons (g_wsL_law_r7 _ (List.mem_of_getElem? (i := 5) rfl)) (gi_cons (g_wsL_law_r1 _ (List.mem_of_getElem? (i := 2) rfl)) (gi_cons (g_wsL_law_r7 _ (List.mem_of_getElem? (i := 6) rfl)) (gi_cons (g_wsL_law_r14 _ (List.mem_of_getElem? (i := 12) rfl)) (gi_cons (g_wsL_law_r14 _ (List.mem_of_getElem? (i := 13) rfl)) (gi_cons (g_wsL_law_r14 _ (List.mem_of_getElem? (i := 14) rfl)) (gi_cons (g_wsL_law_r8 _ (List.mem_of_getElem? (i := 3) rfl)) (gi_cons (g_wsL_law_r14 _ (List.mem_of_getElem? (i := 15) rfl)) (gi_cons (g_wsL_law_r8 _ (List.mem_of_getElem? (i := 18) rfl)) (gi_cons (g_wsL_law_r8 _ (List.mem_of_getElem? (i := 19) rfl)) (gi_cons (g_wsL_law_r14 _ (List.mem_of_getElem? (i := 12) rfl)) (gi_cons (g_wsL_law_r14 _ (List.mem_of_getElem? (i := 17) rfl)) (gi_cons (g_wsL_law_r14 _ (List.mem_of_getElem? (i := 18) rfl)) gi_nil)))))))))))))))))))))))) (gi_cons (g_wsL_law_r14 _ (List.mem_of_getElem? (i := 19) rfl)) (gi_cons (g_wsL_law_r28 _ (List.mem_of_getElem? (i := 15) rfl)) (gi_cons (g_wsL_law_r28 _ (List.mem_of_getElem? (i := 16) rfl)) (gi_cons (g_wsL_law_r28 _ (List.mem_of_getElem? (i := 17) rfl)) (gi_cons (g_wsL_law_r2 _ (List.mem_of_getElem? (i := 11) rfl)) (gi_cons (g_wsL_law_r28 _ (List.mem_of_getElem? (i := 18) rfl)) (gi_cons (g_wsL_law_r28 _ (List.mem_of_getElem? (i := 19) rfl)) (gi_cons (g_wsL_law_r4 _ (List.mem_of_getElem? (i := 12) rfl)) (gi_cons (g_wsL_law_r4 _ (List.mem_of_getElem? (i := 13) rfl)) (gi_cons (g_wsL_law_r4 _ (List.mem_of_getElem? (i := 14) rfl)) (gi_cons (g_wsL_law_r10 _ (List.mem_of_getElem? (i := 20) rfl)) (gi_cons (g_wsL_law_r10 _ (List.mem_of_getElem? (i := 21) rfl)) gi_nil))))))))))))) g_wsX110) g_wsX50) g_wsX40) g_wsX00) g_wsX20) g_wsX100))
set_option maxRecDepth 20000 in
theorem gL_law_X11_reading : GoodIn wsL_law (wsV RL 85 RX11 yX11_reading wsX11_reading) := goodIn_app (goodIn_of _ (by decide +kernel)) ggL_law_X11_reading
set_option maxRecDepth 100000 in
theorem ggL_law_X12_reading : GoodIn wsL_law wsX12_reading := (gi_cons (g_wsL_law_r28 _ (List.mem_of_getElem? (i := 23) rfl)) (gi_app (gi_cons (g_wsL_law_r23 _ (List.mem_of_getElem? (i := 10) rfl)) (gi_cons (g_wsL_law_r29 _ (List.mem_of_getElem? (i := 0) rfl)) (gi_cons (g_wsL_law_r6 _ (List.mem_of_getElem? (i := 7) rfl)) (gi_cons (g_wsL_law_r6 _ (List.mem_of_getElem? (i := 8) rfl)) (gi_cons (g_wsL_law_r6 _ (List.mem_of_getElem? (i := 9) rfl)) (gi_cons (g_wsL_law_r11 _ (List.mem_of_getElem? (i := 3) rfl)) (gi_cons (g_wsL_law_r11 _ (List.mem_of_getElem? (i := 4) rfl)) (gi_cons (g_wsL_law_r11 _ (List.mem_of_getElem? (i := 5) rfl)) (gi_cons (g_wsL_law_r1 _ (List.mem_of_getElem? (i := 5) rfl)) (gi_cons (g_wsL_law_r11 _ (List.mem_of_getElem? (i := 6) rfl)) (gi_cons (g_wsL_law_r9 _ (List.mem_of_getElem? (i := 10) rfl)) (gi_cons (g_wsL_law_r7 _ (List.mem_of_getElem? (i := 13) rfl)) (gi_cons (g_wsL_law_r7 _ (List.mem_of_getElem? (i := 14) rfl)) (gi_cons (g_wsL_law_r7 _ (List.mem_of_getElem? (i := 15) rfl)) (gi_cons (g_wsL_law_r15 _ (List.mem_of_getElem? (i := 0) rfl)) (gi_cons (g_wsL_law_r15 _ (List.mem_of_getElem? (i := 1) rfl)) (gi_cons (g_wsL_law_r15 _ (List.mem_of_getElem? (i := 2) rfl)) (gi_cons (g_wsL_law_r15 _ (List.mem_of_getElem? (i := 3) rfl)) (gi_cons (g_wsL_law_r5 _ (List.mem_of_getElem? (i := 7) rfl)) (gi_cons (g_wsL_law_r5 _ (List.mem_of_getElem? (i := 8) rfl)) gi_nil)))))))))))))))))))) g_wsX120))
set_option maxRecDepth 20000 in
theorem gL_law_X12_reading : GoodIn wsL_law (wsV RL 88 RX12 yX12_reading wsX12_reading) := goodIn_app (goodIn_of _ (by decide +kernel)) ggL_law_X12_reading
set_option maxRecDepth 100000 in
theorem ggL_law_X11_forget : GoodIn wsL_law wsX11_forget := (gi_cons (g_wsL_law_r29 _ (List.mem_of_getElem? (i := 4) rfl)) (gi_app (gi_app (gi_cons (g_wsL_law_r2 _ (List.mem_of_getElem? (i := 12) rfl)) (gi_cons (g_wsL_law_r28 _ (List.mem_of_getElem? (i := 14) rfl)) gi_nil)) g_wsX110) g_wsX50))
set_option maxRecDepth 20000 in
theorem gL_law_X11_forget : GoodIn wsL_law (wsV RL 89 RX11 yX11_forget wsX11_forget) := goodIn_app (goodIn_of _ (by decide +kernel)) ggL_law_X11_forget
set_option maxRecDepth 100000 in
theorem ggL_law_X12_forget : GoodIn wsL_law wsX12_forget := (gi_cons (g_wsL_law_r29 _ (List.mem_of_getElem? (i := 8) rfl)) (gi_app (gi_cons (g_wsL_law_r29 _ (List.mem_of_getElem? (i := 0) rfl)) gi_nil) g_wsX120))
set_option maxRecDepth 20000 in
theorem gL_law_X12_forget : GoodIn wsL_law (wsV RL 92 RX12 yX12_forget wsX12_forget) := goodIn_app (goodIn_of _ (by decide +kernel)) ggL_law_X12_forget
set_option maxRecDepth 100000 in
theorem ggL_law_X11_leak : GoodIn wsL_law wsX11_leak := (gi_cons (g_wsL_law_r29 _ (List.mem_of_getElem? (i := 12) rfl)) (gi_app (gi_app (gi_app (gi_app (gi_app (gi_app (gi_app (gi_app (gi_app (gi_app (gi_app (gi_cons (g_wsL_law_r27 _ (List.mem_of_getElem? (i := 15) rfl)) (gi_cons (g_wsL_law_r19 _ (List.mem_of_getElem? (i := 9) rfl)) (gi_cons (g_wsL_law_r2 _ (List.mem_of_getElem? (i := 12) rfl)) (gi_cons (g_wsL_law_r1 _ (List.mem_of_getElem? (i := 15) rfl)) (gi_cons (g_wsL_law_r7 _ (List.mem_of_getElem? (i := 20) rfl)) (gi_cons (g_wsL_law_r29 _ (List.mem_of_getElem? (i := 13) rfl)) (gi_cons (g_wsL_law_r29 _ (List.mem_of_getElem? (i := 14) rfl)) (gi_cons (g_wsL_law_r29 _ (List.mem_of_getElem? (i := 15) rfl)) (gi_cons (g_wsL_law_r2 _ (List.mem_of_getElem? (i := 11) rfl)) (gi_cons (g_wsL_law_r29 _ (List.mem_of_getElem? (i := 16) rfl)) (gi_cons (g_wsL_law_r28 _ (List.mem_of_getElem? (i := 19) rfl)) (gi_cons (g_wsL_law_r4 _ (List.mem_of_getElem? (i := 12) rfl)) (gi_cons (g_wsL_law_r29 _ (List.mem_of_getElem? (i := 17) rfl)) (gi_cons (g_wsL_law_r20 _ (List.mem_of_getElem? (i := 19) rfl)) (gi_cons (g_wsL_law_r17 _ (List.mem_of_getElem? (i := 9) rfl)) (gi_cons (g_wsL_law_r20 _ (List.mem_of_getElem? (i := 20) rfl)) (gi_cons (g_wsL_law_r10 _ (List.mem_of_getElem? (i := 17) rfl)) (gi_cons (g_wsL_law_r1 _ (List.mem_of_getElem? (i := 2) rfl)) (gi_cons (g_wsL_law_r10 _ (List.mem_of_getElem? (i := 18) rfl)) (gi_cons (g_wsL_law_r29 _ (List.mem_of_getElem? (i := 18) rfl)) (gi_cons (g_wsL_law_r29 _ (List.mem_of_getElem? (i := 19) rfl)) (gi_cons (g_wsL_law_r29 _ (List.mem_of_getElem? (i := 20) rfl)) (gi_cons (g_wsL_law_r1 _ (List.mem_of_getElem? (i := 14) rfl)) (gi_cons (g_wsL_law_r29 _ (List.mem_of_getElem? (i := 21) rfl)) gi_nil)))))))))))))))))))))))) (gi_app (gi_cons (g_wsL_law_r8 _ (List.mem_of_getElem? (i := 4) rfl)) (gi_cons (g_wsL_law_r29 _ (List.mem_of_getElem? (i := 23) rfl)) (gi_cons (g_wsL_law_r9 _ (List.mem_of_getElem? (i := 17) rfl)) (gi_cons (g_wsL_law_r9 _ (List.mem_of_getElem? (i := 18) rfl)) (gi_cons (g_wsL_law_r9 _ (List.mem_of_getElem? (i := 19) rfl)) (gi_cons (g_wsL_law_r8 _ (List.mem_of_getElem? (i := 1) rfl)) (gi_cons (g_wsL_law_r3 _ (List.mem_of_getElem? (i := 2) rfl)) (gi_cons (g_wsL_law_r30 _ (List.mem_of_getElem? (i := 0) rfl)) (gi_cons (g_wsL_law_r30 _ (List.mem_of_getElem? (i := 1) rfl)) (gi_cons (g_wsL_law_r30 _ (List.mem_of_getElem? (i := 2) rfl)) (gi_cons (g_wsL_law_r30 _ (List.mem_of_getElem? (i := 3) rfl)) (gi_cons (g_wsL_law_r2 _ (List.mem_of_getElem? (i := 5) rfl)) (gi_cons (g_wsL_law_r2 _ (List.mem_of_getElem? (i := 4) rfl)) (gi_cons (g_wsL_law_r2 _ (List.mem_of_getElem? (i := 8) rfl)) (gi_cons (g_wsL_law_r2 _ (List.mem_of_getElem? (i := 3) rfl)) (gi_cons (g_wsL_law_r2 _ (List.mem_of_getElem? (i := 6) rfl)) (gi_cons (g_wsL_law_r27 _ (List.mem_of_getElem? (i := 16) rfl)) (gi_cons (g_wsL_law_r27 _ (List.mem_of_getElem? (i := 17) rfl)) (gi_cons (g_wsL_law_r27 _ (List.mem_of_getElem? (i := 18) rfl)) (gi_cons (g_wsL_law_r1 _ (List.mem_of_getElem? (i := 18) rfl)) (gi_cons (g_wsL_law_r27 _ (List.mem_of_getElem? (i := 19) rfl)) (gi_cons (g_wsL_law_r3 _ (List.mem_of_getElem? (i := 7) rfl)) (gi_cons (g_wsL_law_r3 _ (List.mem_of_getElem? (i := 8) rfl)) (gi_cons (g_wsL_law_r3 _ (List.mem_of_getElem? (i := 9) rfl)) gi_nil)))))))))))))))))))))))) (gi_app (gi_cons (g_wsL_law_r3 _ (List.mem_of_getElem? (i := 13) rfl)) (gi_cons (g_wsL_law_r27 _ (List.mem_of_getElem? (i := 20) rfl)) (gi_cons (g_wsL_law_r10 _ (List.mem_of_getElem? (i := 20) rfl)) (gi_cons (g_wsL_law_r10 _ (List.mem_of_getElem? (i := 21) rfl)) (gi_cons (g_wsL_law_r27 _ (List.mem_of_getElem? (i := 21) rfl)) (gi_cons (g_wsL_law_r27 _ (List.mem_of_getElem? (i := 22) rfl)) (gi_cons (g_wsL_law_r27 _ (List.mem_of_getElem? (i := 23) rfl)) (gi_cons (g_wsL_law_r3 _ (List.mem_of_getElem? (i := 12) rfl)) (gi_cons (g_wsL_law_r28 _ (List.mem_of_getElem? (i := 0) rfl)) (gi_cons (g_wsL_law_r28 _ (List.mem_of_getElem? (i := 1) rfl)) (gi_cons (g_wsL_law_r22 _ (List.mem_of_getElem? (i := 17) rfl)) (gi_cons (g_wsL_law_r3 _ (List.mem_of_getElem? (i := 17) rfl)) (gi_cons (g_wsL_law_r22 _ (List.mem_of_getElem? (i := 18) rfl)) (gi_cons (g_wsL_law_r10 _ (List.mem_of_getElem? (i := 19) rfl)) (gi_cons (g_wsL_law_r30 _ (List.mem_of_getElem? (i := 4) rfl)) (gi_cons (g_wsL_law_r30 _ (List.mem_of_getElem? (i := 5) rfl)) (gi_cons (g_wsL_law_r30 _ (List.mem_of_getElem? (i := 6) rfl)) (gi_cons (g_wsL_law_r30 _ (List.mem_of_getElem? (i := 7) rfl)) (gi_cons (g_wsL_law_r30 _ (List.mem_of_getElem? (i := 8) rfl)) (gi_cons (g_wsL_law_r4 _ (List.mem_of_getElem? (i := 13) rfl)) (gi_cons (g_wsL_law_r4 _ (List.mem_of_getElem? (i := 14) rfl)) (gi_cons (g_wsL_law_r19 _ (List.mem_of_getElem? (i := 11) rfl)) (gi_cons (g_wsL_law_r19 _ (List.mem_of_getElem? (i := 12) rfl)) (gi_cons (g_wsL_law_r19 _ (List.mem_of_getElem? (i := 13) rfl)) gi_nil)))))))))))))))))))))))) (gi_app (gi_cons (g_wsL_law_r2 _ (List.mem_of_getElem? (i := 2) rfl)) (gi_cons (g_wsL_law_r19 _ (List.mem_of_getElem? (i := 14) rfl)) (gi_cons (g_wsL_law_r19 _ (List.mem_of_getElem? (i := 15) rfl)) (gi_cons (g_wsL_law_r19 _ (List.mem_of_getElem? (i := 16) rfl)) (gi_cons (g_wsL_law_r4 _ (List.mem_of_getElem? (i := 5) rfl)) (gi_cons (g_wsL_law_r4 _ (List.mem_of_getElem? (i := 6) rfl)) (gi_cons (g_wsL_law_r19 _ (List.mem_of_getElem? (i := 17) rfl)) (gi_cons (g_wsL_law_r19 _ (List.mem_of_getElem? (i := 18) rfl)) (gi_cons (g_wsL_law_r19 _ (List.mem_of_getElem? (i := 19) rfl)) (gi_cons (g_wsL_law_r4 _ (List.mem_of_getElem? (i := 7) rfl)) (gi_cons (g_wsL_law_r4 _ (List.mem_of_getElem? (i := 8) rfl)) (gi_cons (g_wsL_law_r19 _ (List.mem_of_getElem? (i := 20) rfl)) (gi_cons (g_wsL_law_r19 _ (List.mem_of_getElem? (i := 21) rfl)) (gi_cons (g_wsL_law_r19 _ (List.mem_of_getElem? (i := 22) rfl)) (gi_cons (g_wsL_law_r19 _ (List.mem_of_getElem? (i := 23) rfl)) (gi_cons (g_wsL_law_r8 _ (List.mem_of_getElem? (i := 3) rfl)) (gi_cons (g_wsL_law_r20 _ (List.mem_of_getElem? (i := 0) rfl)) (gi_cons (g_wsL_law_r17 _ (List.mem_of_getElem? (i := 11) rfl)) (gi_cons (g_wsL_law_r14 _ (List.mem_of_getElem? (i := 13) rfl)) (gi_cons (g_wsL_law_r14 _ (List.mem_of_getElem? (i := 14) rfl)) (gi_cons (g_wsL_law_r14 _ (List.mem_of_getElem? (i := 15) rfl)) (gi_cons (g_wsL_law_r8 _ (List.mem_of_getElem? (i := 18) rfl)) (gi_cons (g_wsL_law_r8 _ (List.mem_of_getElem? (i := 19) rfl)) (gi_cons (g_wsL_law_r17 _ (List.mem_of_getElem? (i := 11) rfl)) gi_nil)))))))))))))))))))))))) (gi_app (gi_cons (g_wsL_law_r14 _ (List.mem_of_getElem? (i := 17) rfl)) (gi_cons (g_wsL_law_r14 _ (List.mem_of_getElem? (i := 18) rfl)) (gi_cons (g_wsL_law_r14 _ (List.mem_of_getElem? (i := 19) rfl)) (gi_cons (g_wsL_law_r19 _ (List.mem_of_getElem? (i := 21) rfl)) (gi_cons (g_wsL_law_r20 _ (List.mem_of_getElem? (i := 2) rfl)) (gi_cons (g_wsL_law_r20 _ (List.mem_of_getElem? (i := 3) rfl)) (gi_cons (g_wsL_law_r20 _ (List.mem_of_getElem? (i := 4) rfl)) (gi_cons (g_wsL_law_r20 _ (List.mem_of_getElem? (i := 5) rfl)) (gi_cons (g_wsL_law_r20 _ (List.mem_of_getElem? (i := 6) rfl)) (gi_cons (g_wsL_law_r20 _ (List.mem_of_getElem? (i := 7) rfl)) (gi_cons (g_wsL_law_r1 _ (List.mem_of_getElem? (i := 22) rfl)) (gi_cons (g_wsL_law_r20 _ (List.mem_of_getElem? (i := 8) rfl)) (gi_cons (g_wsL_law_r3 _ (List.mem_of_getElem? (i := 21) rfl)) (gi_cons (g_wsL_law_r20 _ (List.mem_of_getElem? (i := 9) rfl)) (gi_cons (g_wsL_law_r20 _ (List.mem_of_getElem? (i := 10) rfl)) (gi_cons (g_wsL_law_r20 _ (List.mem_of_getElem? (i := 11) rfl)) (gi_cons (g_wsL_law_r20 _ (List.mem_of_getElem? (i := 12) rfl)) (gi_cons (g_wsL_law_r20 _ (List.mem_of_getElem? (i := 13) rfl)) (gi_cons (g_wsL_law_r20 _ (List.mem_of_getElem? (i := 14) rfl)) (gi_cons (g_wsL_law_r17 _ (List.mem_of_getElem? (i := 8) rfl)) (gi_cons (g_wsL_law_r17 _ (List.mem_of_getElem? (i := 10) rfl)) (gi_cons (g_wsL_law_r20 _ (List.mem_of_getElem? (i := 15) rfl)) (gi_cons (g_wsL_law_r20 _ (List.mem_of_getElem? (i := 16) rfl)) (gi_cons (g_wsL_law_r20 _ (List.mem_of_getElem? (i := 17) rfl)) gi_nil)))))))))))))))))))))))) (gi_app (gi_cons (g_wsL_law_r20 _ (List.mem_of_getElem? (i := 18) rfl)) (gi_cons (g_wsL_law_r20 _ (List.mem_of_getElem? (i := 21) rfl)) (gi_cons (g_wsL_law_r20 _ (List.mem_of_getElem? (i := 22) rfl)) (gi_cons (g_wsL_law_r20 _ (List.mem_of_getElem? (i := 23) rfl)) (gi_cons (g_wsL_law_r21 _ (List.mem_of_getElem? (i := 0) rfl)) (gi_cons (g_wsL_law_r21 _ (List.mem_of_getElem? (i := 1) rfl)) (gi_cons (g_wsL_law_r21 _ (List.mem_of_getElem? (i := 2) rfl)) (gi_cons (g_wsL_law_r21 _ (List.mem_of_getElem? (i := 3) rfl)) (gi_cons (g_wsL_law_r21 _ (List.mem_of_getElem? (i := 4) rfl)) (gi_cons (g_wsL_law_r21 _ (List.mem_of_getElem? (i := 5) rfl)) (gi_cons (g_wsL_law_r21 _ (List.mem_of_getElem? (i := 6) rfl)) (gi_cons (g_wsL_law_r21 _ (List.mem_of_getElem? (i := 7) rfl)) (gi_cons (g_wsL_law_r21 _ (List.mem_of_getElem? (i := 8) rfl)) (gi_cons (g_wsL_law_r21 _ (List.mem_of_getElem? (i := 9) rfl)) (gi_cons (g_wsL_law_r21 _ (List.mem_of_getElem? (i := 10) rfl)) (gi_cons (g_wsL_law_r21 _ (List.mem_of_getElem? (i := 11) rfl)) (gi_cons (g_wsL_law_r21 _ (List.mem_of_getElem? (i := 12) rfl)) (gi_cons (g_wsL_law_r17 _ (List.mem_of_getElem? (i := 4) rfl)) (gi_cons (g_wsL_law_r17 _ (List.mem_of_getElem? (i := 5) rfl)) (gi_cons (g_wsL_law_r17 _ (List.mem_of_getElem? (i := 6) rfl)) (gi_cons (g_wsL_law_r8 _ (List.mem_of_getElem? (i := 14) rfl)) (gi_cons (g_wsL_law_r8 _ (List.mem_of_getElem? (i := 15) rfl)) (gi_cons (g_wsL_law_r17 _ (List.mem_of_getElem? (i := 7) rfl)) (gi_cons (g_wsL_law_r21 _ (List.mem_of_getElem? (i := 12) rfl)) gi_nil)))))))))))))))))))))))) (gi_app (gi_cons (g_wsL_law_r17 _ (List.mem_of_getElem? (i := 14) rfl)) (gi_cons (g_wsL_law_r17 _ (List.mem_of_getElem? (i := 15) rfl)) (gi_cons (g_wsL_law_r17 _ (List.mem_of_getElem? (i := 16) rfl)) (gi_cons (g_wsL_law_r21 _ (List.mem_of_getElem? (i := 14) rfl)) (gi_cons (g_wsL_law_r21 _ (List.mem_of_getElem? (i := 15) rfl)) (gi_cons (g_wsL_law_r21 _ (List.mem_of_getElem? (i := 16) rfl)) (gi_cons (g_wsL_law_r21 _ (List.mem_of_getElem? (i := 17) rfl)) (gi_cons (g_wsL_law_r21 _ (List.mem_of_getElem? (i := 18) rfl)) (gi_cons (g_wsL_law_r21 _ (List.mem_of_getElem? (i := 19) rfl)) (gi_cons (g_wsL_law_r3 _ (List.mem_of_getElem? (i := 23) rfl)) (gi_cons (g_wsL_law_r4 _ (List.mem_of_getElem? (i := 0) rfl)) (gi_cons (g_wsL_law_r21 _ (List.mem_of_getElem? (i := 20) rfl)) (gi_cons (g_wsL_law_r17 _ (List.mem_of_getElem? (i := 18) rfl)) (gi_cons (g_wsL_law_r17 _ (List.mem_of_getElem? (i := 19) rfl)) (gi_cons (g_wsL_law_r17 _ (List.mem_of_getElem? (i := 20) rfl)) (gi_cons (g_wsL_law_r10 _ (List.mem_of_getElem? (i := 0) rfl)) (gi_cons (g_wsL_law_r17 _ (List.mem_of_getElem? (i := 21) rfl)) (gi_cons (g_wsL_law_r17 _ (List.mem_of_getElem? (i := 21) rfl)) (gi_cons (g_wsL_law_r17 _ (List.mem_of_getElem? (i := 23) rfl)) (gi_cons (g_wsL_law_r18 _ (List.mem_of_getElem? (i := 0) rfl)) (gi_cons (g_wsL_law_r18 _ (List.mem_of_getElem? (i := 1) rfl)) (gi_cons (g_wsL_law_r18 _ (List.mem_of_getElem? (i := 2) rfl)) (gi_cons (g_wsL_law_r17 _ (List.mem_of_getElem? (i := 23) rfl)) (gi_cons (g_wsL_law_r18 _ (List.mem_of_getElem? (i := 4) rfl)) gi_nil)))))))))))))))))))))))) (gi_app (gi_cons (g_wsL_law_r18 _ (List.mem_of_getElem? (i := 5) rfl)) (gi_cons (g_wsL_law_r18 _ (List.mem_of_getElem? (i := 0) rfl)) (gi_cons (g_wsL_law_r18 _ (List.mem_of_getElem? (i := 7) rfl)) (gi_cons (g_wsL_law_r18 _ (List.mem_of_getElem? (i := 8) rfl)) (gi_cons (g_wsL_law_r8 _ (List.mem_of_getElem? (i := 9) rfl)) (gi_cons (g_wsL_law_r18 _ (List.mem_of_getElem? (i := 9) rfl)) (gi_cons (g_wsL_law_r21 _ (List.mem_of_getElem? (i := 20) rfl)) (gi_cons (g_wsL_law_r18 _ (List.mem_of_getElem? (i := 11) rfl)) (gi_cons (g_wsL_law_r18 _ (List.mem_of_getElem? (i := 12) rfl)) (gi_cons (g_wsL_law_r18 _ (List.mem_of_getElem? (i := 13) rfl)) (gi_cons (g_wsL_law_r21 _ (List.mem_of_getElem? (i := 22) rfl)) (gi_cons (g_wsL_law_r21 _ (List.mem_of_getElem? (i := 22) rfl)) (gi_cons (g_wsL_law_r22 _ (List.mem_of_getElem? (i := 0) rfl)) (gi_cons (g_wsL_law_r22 _ (List.mem_of_getElem? (i := 1) rfl)) (gi_cons (g_wsL_law_r22 _ (List.mem_of_getElem? (i := 2) rfl)) (gi_cons (g_wsL_law_r22 _ (List.mem_of_getElem? (i := 3) rfl)) (gi_cons (g_wsL_law_r3 _ (List.mem_of_getElem? (i := 22) rfl)) (gi_cons (g_wsL_law_r22 _ (List.mem_of_getElem? (i := 4) rfl)) (gi_cons (g_wsL_law_r22 _ (List.mem_of_getElem? (i := 5) rfl)) (gi_cons (g_wsL_law_r22 _ (List.mem_of_getElem? (i := 6) rfl)) (gi_cons (g_wsL_law_r22 _ (List.mem_of_getElem? (i := 7) rfl)) (gi_cons (g_wsL_law_r22 _ (List.mem_of_getElem? (i := 8) rfl)) (gi_cons (g_wsL_law_r4 _ (List.mem_of_getElem? (i := 1) rfl)) (gi_cons (g_wsL_law_r22 _ (List.mem_of_getElem? (i := 9) rfl)) gi_nil)))))))))))))))))))))))) (gi_cons (g_wsL_law_r22 _ (List.mem_of_getElem? (i := 10) rfl)) (gi_cons (g_wsL_law_r22 _ (List.mem_of_getElem? (i := 11) rfl)) (gi_cons (g_wsL_law_r22 _ (List.mem_of_getElem? (i := 12) rfl)) (gi_cons (g_wsL_law_r22 _ (List.mem_of_getElem? (i := 13) rfl)) (gi_cons (g_wsL_law_r22 _ (List.mem_of_getElem? (i := 14) rfl)) (gi_cons (g_wsL_law_r22 _ (List.mem_of_getElem? (i := 15) rfl)) (gi_cons (g_wsL_law_r22 _ (List.mem_of_getElem? (i := 16) rfl)) (gi_cons (g_wsL_law_r22 _ (List.mem_of_getElem? (i := 19) rfl)) (gi_cons (g_wsL_law_r22 _ (List.mem_of_getElem? (i := 20) rfl)) (gi_cons (g_wsL_law_r22 _ (List.mem_of_getElem? (i := 21) rfl)) (gi_cons (g_wsL_law_r22 _ (List.mem_of_getElem? (i := 22) rfl)) (gi_cons (g_wsL_law_r22 _ (List.mem_of_getElem? (i := 23) rfl)) (gi_cons (g_wsL_law_r23 _ (List.mem_of_getElem? (i := 0) rfl)) (gi_cons (g_wsL_law_r23 _ (List.mem_of_getElem? (i := 1) rfl)) (gi_cons (g_wsL_law_r23 _ (List.mem_of_getElem? (i := 2) rfl)) (gi_cons (g_wsL_law_r23 _ (List.mem_of_getElem? (i := 3) rfl)) (gi_cons (g_wsL_law_r23 _ (List.mem_of_getElem? (i := 4) rfl)) (gi_cons (g_wsL_law_r23 _ (List.mem_of_getElem? (i := 5) rfl)) gi_nil)))))))))))))))))))))))))) g_wsX110) g_wsX40) g_wsX50) g_wsX70) g_wsX80) g_wsX30) g_wsX00) g_wsX20) g_wsX100) g_wsX10))
set_option maxRecDepth 20000 in
theorem gL_law_X11_leak : GoodIn wsL_law (wsV RL 93 RX11 yX11_leak wsX11_leak) := goodIn_app (goodIn_of _ (by decide +kernel)) ggL_law_X11_leak
set_option maxRecDepth 100000 in
theorem ggL_law_X12_leak : GoodIn wsL_law wsX12_leak := (gi_cons (g_wsL_law_r30 _ (List.mem_of_getElem? (i := 12) rfl)) (gi_app (gi_app (gi_cons (g_wsL_law_r28 _ (List.mem_of_getElem? (i := 6) rfl)) (gi_cons (g_wsL_law_r6 _ (List.mem_of_getElem? (i := 21) rfl)) (gi_cons (g_wsL_law_r9 _ (List.mem_of_getElem? (i := 10) rfl)) (gi_cons (g_wsL_law_r5 _ (List.mem_of_getElem? (i := 6) rfl)) (gi_cons (g_wsL_law_r7 _ (List.mem_of_getElem? (i := 13) rfl)) (gi_cons (g_wsL_law_r7 _ (List.mem_of_getElem? (i := 14) rfl)) (gi_cons (g_wsL_law_r1 _ (List.mem_of_getElem? (i := 5) rfl)) (gi_cons (g_wsL_law_r7 _ (List.mem_of_getElem? (i := 15) rfl)) (gi_cons (g_wsL_law_r30 _ (List.mem_of_getElem? (i := 13) rfl)) (gi_cons (g_wsL_law_r30 _ (List.mem_of_getElem? (i := 14) rfl)) (gi_cons (g_wsL_law_r30 _ (List.mem_of_getElem? (i := 15) rfl)) (gi_cons (g_wsL_law_r30 _ (List.mem_of_getElem? (i := 16) rfl)) (gi_cons (g_wsL_law_r29 _ (List.mem_of_getElem? (i := 0) rfl)) (gi_cons (g_wsL_law_r6 _ (List.mem_of_getElem? (i := 7) rfl)) (gi_cons (g_wsL_law_r30 _ (List.mem_of_getElem? (i := 17) rfl)) (gi_cons (g_wsL_law_r30 _ (List.mem_of_getElem? (i := 18) rfl)) (gi_cons (g_wsL_law_r30 _ (List.mem_of_getElem? (i := 19) rfl)) (gi_cons (g_wsL_law_r30 _ (List.mem_of_getElem? (i := 20) rfl)) (gi_cons (g_wsL_law_r6 _ (List.mem_of_getElem? (i := 10) rfl)) (gi_cons (g_wsL_law_r5 _ (List.mem_of_getElem? (i := 9) rfl)) (gi_cons (g_wsL_law_r6 _ (List.mem_of_getElem? (i := 11) rfl)) (gi_cons (g_wsL_law_r5 _ (List.mem_of_getElem? (i := 15) rfl)) (gi_cons (g_wsL_law_r6 _ (List.mem_of_getElem? (i := 12) rfl)) (gi_cons (g_wsL_law_r5 _ (List.mem_of_getElem? (i := 14) rfl)) gi_nil)))))))))))))))))))))))) (gi_app (gi_cons (g_wsL_law_r6 _ (List.mem_of_getElem? (i := 13) rfl)) (gi_cons (g_wsL_law_r5 _ (List.mem_of_getElem? (i := 18) rfl)) (gi_cons (g_wsL_law_r6 _ (List.mem_of_getElem? (i := 14) rfl)) (gi_cons (g_wsL_law_r5 _ (List.mem_of_getElem? (i := 23) rfl)) (gi_cons (g_wsL_law_r6 _ (List.mem_of_getElem? (i := 15) rfl)) (gi_cons (g_wsL_law_r5 _ (List.mem_of_getElem? (i := 17) rfl)) (gi_cons (g_wsL_law_r6 _ (List.mem_of_getElem? (i := 16) rfl)) (gi_cons (g_wsL_law_r16 _ (List.mem_of_getElem? (i := 3) rfl)) (gi_cons (g_wsL_law_r23 _ (List.mem_of_getElem? (i := 16) rfl)) (gi_cons (g_wsL_law_r23 _ (List.mem_of_getElem? (i := 18) rfl)) (gi_cons (g_wsL_law_r23 _ (List.mem_of_getElem? (i := 22) rfl)) (gi_cons (g_wsL_law_r23 _ (List.mem_of_getElem? (i := 21) rfl)) (gi_cons (g_wsL_law_r23 _ (List.mem_of_getElem? (i := 19) rfl)) (gi_cons (g_wsL_law_r6 _ (List.mem_of_getElem? (i := 18) rfl)) (gi_cons (g_wsL_law_r23 _ (List.mem_of_getElem? (i := 23) rfl)) (gi_cons (g_wsL_law_r24 _ (List.mem_of_getElem? (i := 0) rfl)) (gi_cons (g_wsL_law_r24 _ (List.mem_of_getElem? (i := 1) rfl)) (gi_cons (g_wsL_law_r24 _ (List.mem_of_getElem? (i := 2) rfl)) (gi_cons (g_wsL_law_r30 _ (List.mem_of_getElem? (i := 21) rfl)) (gi_cons (g_wsL_law_r30 _ (List.mem_of_getElem? (i := 22) rfl)) (gi_cons (g_wsL_law_r30 _ (List.mem_of_getElem? (i := 23) rfl)) (gi_cons (g_wsL_law_r31 _ (List.mem_of_getElem? (i := 0) rfl)) (gi_cons (g_wsL_law_r31 _ (List.mem_of_getElem? (i := 1) rfl)) (gi_cons (g_wsL_law_r28 _ (List.mem_of_getElem? (i := 7) rfl)) gi_nil)))))))))))))))))))))))) (gi_app (gi_cons (g_wsL_law_r6 _ (List.mem_of_getElem? (i := 4) rfl)) (gi_cons (g_wsL_law_r6 _ (List.mem_of_getElem? (i := 5) rfl)) (gi_cons (g_wsL_law_r6 _ (List.mem_of_getElem? (i := 6) rfl)) (gi_cons (g_wsL_law_r28 _ (List.mem_of_getElem? (i := 8) rfl)) (gi_cons (g_wsL_law_r28 _ (List.mem_of_getElem? (i := 9) rfl)) (gi_cons (g_wsL_law_r31 _ (List.mem_of_getElem? (i := 2) rfl)) (gi_cons (g_wsL_law_r31 _ (List.mem_of_getElem? (i := 3) rfl)) (gi_cons (g_wsL_law_r31 _ (List.mem_of_getElem? (i := 4) rfl)) (gi_cons (g_wsL_law_r31 _ (List.mem_of_getElem? (i := 5) rfl)) (gi_cons (g_wsL_law_r6 _ (List.mem_of_getElem? (i := 8) rfl)) (gi_cons (g_wsL_law_r6 _ (List.mem_of_getElem? (i := 9) rfl)) (gi_cons (g_wsL_law_r23 _ (List.mem_of_getElem? (i := 12) rfl)) (gi_cons (g_wsL_law_r23 _ (List.mem_of_getElem? (i := 13) rfl)) (gi_cons (g_wsL_law_r23 _ (List.mem_of_getElem? (i := 14) rfl)) (gi_cons (g_wsL_law_r23 _ (List.mem_of_getElem? (i := 15) rfl)) (gi_cons (g_wsL_law_r23 _ (List.mem_of_getElem? (i := 17) rfl)) (gi_cons (g_wsL_law_r5 _ (List.mem_of_getElem? (i := 21) rfl)) (gi_cons (g_wsL_law_r5 _ (List.mem_of_getElem? (i := 22) rfl)) (gi_cons (g_wsL_law_r7 _ (List.mem_of_getElem? (i := 12) rfl)) (gi_cons (g_wsL_law_r23 _ (List.mem_of_getElem? (i := 20) rfl)) (gi_cons (g_wsL_law_r6 _ (List.mem_of_getElem? (i := 0) rfl)) (gi_cons (g_wsL_law_r6 _ (List.mem_of_getElem? (i := 3) rfl)) (gi_cons (g_wsL_law_r6 _ (List.mem_of_getElem? (i := 2) rfl)) (gi_cons (g_wsL_law_r6 _ (List.mem_of_getElem? (i := 1) rfl)) gi_nil)))))))))))))))))))))))) (gi_app (gi_cons (g_wsL_law_r6 _ (List.mem_of_getElem? (i := 19) rfl)) (gi_cons (g_wsL_law_r16 _ (List.mem_of_getElem? (i := 4) rfl)) (gi_cons (g_wsL_law_r24 _ (List.mem_of_getElem? (i := 3) rfl)) (gi_cons (g_wsL_law_r24 _ (List.mem_of_getElem? (i := 4) rfl)) (gi_cons (g_wsL_law_r24 _ (List.mem_of_getElem? (i := 5) rfl)) (gi_cons (g_wsL_law_r24 _ (List.mem_of_getElem? (i := 6) rfl)) (gi_cons (g_wsL_law_r5 _ (List.mem_of_getElem? (i := 19) rfl)) (gi_cons (g_wsL_law_r5 _ (List.mem_of_getElem? (i := 20) rfl)) (gi_cons (g_wsL_law_r15 _ (List.mem_of_getElem? (i := 0) rfl)) (gi_cons (g_wsL_law_r15 _ (List.mem_of_getElem? (i := 1) rfl)) (gi_cons (g_wsL_law_r15 _ (List.mem_of_getElem? (i := 2) rfl)) (gi_cons (g_wsL_law_r15 _ (List.mem_of_getElem? (i := 3) rfl)) (gi_cons (g_wsL_law_r5 _ (List.mem_of_getElem? (i := 7) rfl)) (gi_cons (g_wsL_law_r5 _ (List.mem_of_getElem? (i := 8) rfl)) (gi_cons (g_wsL_law_r24 _ (List.mem_of_getElem? (i := 7) rfl)) (gi_cons (g_wsL_law_r24 _ (List.mem_of_getElem? (i := 8) rfl)) (gi_cons (g_wsL_law_r24 _ (List.mem_of_getElem? (i := 9) rfl)) (gi_cons (g_wsL_law_r24 _ (List.mem_of_getElem? (i := 10) rfl)) (gi_cons (g_wsL_law_r5 _ (List.mem_of_getElem? (i := 13) rfl)) (gi_cons (g_wsL_law_r24 _ (List.mem_of_getElem? (i := 11) rfl)) (gi_cons (g_wsL_law_r24 _ (List.mem_of_getElem? (i := 12) rfl)) (gi_cons (g_wsL_law_r24 _ (List.mem_of_getElem? (i := 13) rfl)) (gi_cons (g_wsL_law_r24 _ (List.mem_of_getElem? (i := 14) rfl)) (gi_cons (g_wsL_law_r18 _ (List.mem_of_getElem? (i := 22) rfl)) gi_nil)))))))))))))))))))))))) (gi_app (gi_cons (g_wsL_law_r18 _ (List.mem_of_getElem? (i := 23) rfl)) (gi_cons (g_wsL_law_r19 _ (List.mem_of_getElem? (i := 0) rfl)) (gi_cons (g_wsL_law_r18 _ (List.mem_of_getElem? (i := 18) rfl)) (gi_cons (g_wsL_law_r18 _ (List.mem_of_getElem? (i := 19) rfl)) (gi_cons (g_wsL_law_r18 _ (List.mem_of_getElem? (i := 20) rfl)) (gi_cons (g_wsL_law_r18 _ (List.mem_of_getElem? (i := 21) rfl)) (gi_cons (g_wsL_law_r5 _ (List.mem_of_getElem? (i := 10) rfl)) (gi_cons (g_wsL_law_r5 _ (List.mem_of_getElem? (i := 11) rfl)) (gi_cons (g_wsL_law_r24 _ (List.mem_of_getElem? (i := 15) rfl)) (gi_cons (g_wsL_law_r24 _ (List.mem_of_getElem? (i := 16) rfl)) (gi_cons (g_wsL_law_r24 _ (List.mem_of_getElem? (i := 17) rfl)) (gi_cons (g_wsL_law_r24 _ (List.mem_of_getElem? (i := 18) rfl)) (gi_cons (g_wsL_law_r19 _ (List.mem_of_getElem? (i := 1) rfl)) (gi_cons (g_wsL_law_r19 _ (List.mem_of_getElem? (i := 2) rfl)) (gi_cons (g_wsL_law_r19 _ (List.mem_of_getElem? (i := 3) rfl)) (gi_cons (g_wsL_law_r19 _ (List.mem_of_getElem? (i := 4) rfl)) (gi_cons (g_wsL_law_r5 _ (List.mem_of_getElem? (i := 12) rfl)) (gi_cons (g_wsL_law_r24 _ (List.mem_of_getElem? (i := 19) rfl)) (gi_cons (g_wsL_law_r24 _ (List.mem_of_getElem? (i := 20) rfl)) (gi_cons (g_wsL_law_r24 _ (List.mem_of_getElem? (i := 21) rfl)) (gi_cons (g_wsL_law_r24 _ (List.mem_of_getElem? (i := 22) rfl)) (gi_cons (g_wsL_law_r16 _ (List.mem_of_getElem? (i := 5) rfl)) (gi_cons (g_wsL_law_r6 _ (List.mem_of_getElem? (i := 20) rfl)) (gi_cons (g_wsL_law_r31 _ (List.mem_of_getElem? (i := 6) rfl)) gi_nil)))))))))))))))))))))))) (gi_cons (g_wsL_law_r31 _ (List.mem_of_getElem? (i := 7) rfl)) (gi_cons (g_wsL_law_r31 _ (List.mem_of_getElem? (i := 8) rfl)) (gi_cons (g_wsL_law_r31 _ (List.mem_of_getElem? (i := 9) rfl)) gi_nil)))))))) g_wsX120))
set_option maxRecDepth 20000 in
theorem gL_law_X12_leak : GoodIn wsL_law (wsV RL 96 RX12 yX12_leak wsX12_leak) := goodIn_app (goodIn_of _ (by decide +kernel)) ggL_law_X12_leak
set_option maxRecDepth 100000 in
theorem ggL_law_X11_sheet : GoodIn wsL_law wsX11_sheet := (gi_cons (g_wsL_law_r31 _ (List.mem_of_getElem? (i := 13) rfl)) (gi_app (gi_app (gi_app (gi_cons (g_wsL_law_r11 _ (List.mem_of_getElem? (i := 11) rfl)) (gi_cons (g_wsL_law_r11 _ (List.mem_of_getElem? (i := 14) rfl)) (gi_cons (g_wsL_law_r11 _ (List.mem_of_getElem? (i := 15) rfl)) (gi_cons (g_wsL_law_r11 _ (List.mem_of_getElem? (i := 16) rfl)) (gi_cons (g_wsL_law_r1 _ (List.mem_of_getElem? (i := 2) rfl)) (gi_cons (g_wsL_law_r11 _ (List.mem_of_getElem? (i := 17) rfl)) (gi_cons (g_wsL_law_r2 _ (List.mem_of_getElem? (i := 14) rfl)) (gi_cons (g_wsL_law_r11 _ (List.mem_of_getElem? (i := 18) rfl)) (gi_cons (g_wsL_law_r11 _ (List.mem_of_getElem? (i := 19) rfl)) (gi_cons (g_wsL_law_r11 _ (List.mem_of_getElem? (i := 20) rfl)) (gi_cons (g_wsL_law_r7 _ (List.mem_of_getElem? (i := 4) rfl)) (gi_cons (g_wsL_law_r7 _ (List.mem_of_getElem? (i := 5) rfl)) (gi_cons (g_wsL_law_r7 _ (List.mem_of_getElem? (i := 6) rfl)) (gi_cons (g_wsL_law_r12 _ (List.mem_of_getElem? (i := 3) rfl)) (gi_cons (g_wsL_law_r12 _ (List.mem_of_getElem? (i := 4) rfl)) (gi_cons (g_wsL_law_r12 _ (List.mem_of_getElem? (i := 5) rfl)) (gi_cons (g_wsL_law_r12 _ (List.mem_of_getElem? (i := 6) rfl)) (gi_cons (g_wsL_law_r31 _ (List.mem_of_getElem? (i := 14) rfl)) (gi_cons (g_wsL_law_r31 _ (List.mem_of_getElem? (i := 15) rfl)) (gi_cons (g_wsL_law_r31 _ (List.mem_of_getElem? (i := 16) rfl)) (gi_cons (g_wsL_law_r2 _ (List.mem_of_getElem? (i := 20) rfl)) (gi_cons (g_wsL_law_r31 _ (List.mem_of_getElem? (i := 17) rfl)) (gi_cons (g_wsL_law_r4 _ (List.mem_of_getElem? (i := 21) rfl)) (gi_cons (g_wsL_law_r12 _ (List.mem_of_getElem? (i := 1) rfl)) gi_nil)))))))))))))))))))))))) (gi_cons (g_wsL_law_r12 _ (List.mem_of_getElem? (i := 2) rfl)) (gi_cons (g_wsL_law_r31 _ (List.mem_of_getElem? (i := 18) rfl)) (gi_cons (g_wsL_law_r17 _ (List.mem_of_getElem? (i := 8) rfl)) (gi_cons (g_wsL_law_r17 _ (List.mem_of_getElem? (i := 9) rfl)) (gi_cons (g_wsL_law_r17 _ (List.mem_of_getElem? (i := 10) rfl)) (gi_cons (g_wsL_law_r12 _ (List.mem_of_getElem? (i := 11) rfl)) (gi_cons (g_wsL_law_r31 _ (List.mem_of_getElem? (i := 19) rfl)) (gi_cons (g_wsL_law_r31 _ (List.mem_of_getElem? (i := 20) rfl)) (gi_cons (g_wsL_law_r31 _ (List.mem_of_getElem? (i := 21) rfl)) (gi_cons (g_wsL_law_r31 _ (List.mem_of_getElem? (i := 22) rfl)) gi_nil))))))))))) g_wsX110) g_wsX60))
set_option maxRecDepth 20000 in
theorem gL_law_X11_sheet : GoodIn wsL_law (wsV RL 97 RX11 yX11_sheet wsX11_sheet) := goodIn_app (goodIn_of _ (by decide +kernel)) ggL_law_X11_sheet
set_option maxRecDepth 100000 in
theorem ggL_law_X12_sheet : GoodIn wsL_law wsX12_sheet := (gi_cons (g_wsL_law_r32 _ (List.mem_of_getElem? (i := 2) rfl)) (gi_app (gi_cons (g_wsL_law_r9 _ (List.mem_of_getElem? (i := 8) rfl)) (gi_cons (g_wsL_law_r5 _ (List.mem_of_getElem? (i := 2) rfl)) (gi_cons (g_wsL_law_r5 _ (List.mem_of_getElem? (i := 3) rfl)) (gi_cons (g_wsL_law_r5 _ (List.mem_of_getElem? (i := 4) rfl)) (gi_cons (g_wsL_law_r13 _ (List.mem_of_getElem? (i := 6) rfl)) (gi_cons (g_wsL_law_r13 _ (List.mem_of_getElem? (i := 7) rfl)) (gi_cons (g_wsL_law_r1 _ (List.mem_of_getElem? (i := 5) rfl)) (gi_cons (g_wsL_law_r13 _ (List.mem_of_getElem? (i := 8) rfl)) (gi_cons (g_wsL_law_r13 _ (List.mem_of_getElem? (i := 9) rfl)) (gi_cons (g_wsL_law_r7 _ (List.mem_of_getElem? (i := 13) rfl)) (gi_cons (g_wsL_law_r7 _ (List.mem_of_getElem? (i := 14) rfl)) (gi_cons (g_wsL_law_r7 _ (List.mem_of_getElem? (i := 15) rfl)) (gi_cons (g_wsL_law_r13 _ (List.mem_of_getElem? (i := 10) rfl)) (gi_cons (g_wsL_law_r13 _ (List.mem_of_getElem? (i := 11) rfl)) (gi_cons (g_wsL_law_r13 _ (List.mem_of_getElem? (i := 12) rfl)) (gi_cons (g_wsL_law_r13 _ (List.mem_of_getElem? (i := 13) rfl)) (gi_cons (g_wsL_law_r13 _ (List.mem_of_getElem? (i := 14) rfl)) (gi_cons (g_wsL_law_r13 _ (List.mem_of_getElem? (i := 15) rfl)) (gi_cons (g_wsL_law_r13 _ (List.mem_of_getElem? (i := 16) rfl)) (gi_cons (g_wsL_law_r13 _ (List.mem_of_getElem? (i := 17) rfl)) (gi_cons (g_wsL_law_r13 _ (List.mem_of_getElem? (i := 18) rfl)) gi_nil))))))))))))))))))))) g_wsX120))
set_option maxRecDepth 20000 in
theorem gL_law_X12_sheet : GoodIn wsL_law (wsV RL 100 RX12 yX12_sheet wsX12_sheet) := goodIn_app (goodIn_of _ (by decide +kernel)) ggL_law_X12_sheet
set_option maxRecDepth 100000 in
theorem ggL_law_X11_lose : GoodIn wsL_law wsX11_lose := (gi_cons (g_wsL_law_r32 _ (List.mem_of_getElem? (i := 6) rfl)) (gi_app (gi_app (gi_cons (g_wsL_law_r32 _ (List.mem_of_getElem? (i := 7) rfl)) (gi_cons (g_wsL_law_r11 _ (List.mem_of_getElem? (i := 14) rfl)) (gi_cons (g_wsL_law_r11 _ (List.mem_of_getElem? (i := 15) rfl)) (gi_cons (g_wsL_law_r11 _ (List.mem_of_getElem? (i := 16) rfl)) (gi_cons (g_wsL_law_r1 _ (List.mem_of_getElem? (i := 2) rfl)) (gi_cons (g_wsL_law_r11 _ (List.mem_of_getElem? (i := 17) rfl)) (gi_cons (g_wsL_law_r2 _ (List.mem_of_getElem? (i := 14) rfl)) gi_nil))))))) g_wsX60) g_wsX110))
set_option maxRecDepth 20000 in
theorem gL_law_X11_lose : GoodIn wsL_law (wsV RL 101 RX11 yX11_lose wsX11_lose) := goodIn_app (goodIn_of _ (by decide +kernel)) ggL_law_X11_lose
set_option maxRecDepth 100000 in
theorem ggL_law_X12_lose : GoodIn wsL_law wsX12_lose := (gi_cons (g_wsL_law_r32 _ (List.mem_of_getElem? (i := 11) rfl)) (gi_app (gi_cons (g_wsL_law_r5 _ (List.mem_of_getElem? (i := 2) rfl)) (gi_cons (g_wsL_law_r13 _ (List.mem_of_getElem? (i := 6) rfl)) (gi_cons (g_wsL_law_r13 _ (List.mem_of_getElem? (i := 7) rfl)) (gi_cons (g_wsL_law_r1 _ (List.mem_of_getElem? (i := 5) rfl)) (gi_cons (g_wsL_law_r13 _ (List.mem_of_getElem? (i := 8) rfl)) (gi_cons (g_wsL_law_r13 _ (List.mem_of_getElem? (i := 9) rfl)) (gi_cons (g_wsL_law_r7 _ (List.mem_of_getElem? (i := 13) rfl)) (gi_cons (g_wsL_law_r7 _ (List.mem_of_getElem? (i := 14) rfl)) (gi_cons (g_wsL_law_r7 _ (List.mem_of_getElem? (i := 15) rfl)) gi_nil))))))))) g_wsX120))
set_option maxRecDepth 20000 in
theorem gL_law_X12_lose : GoodIn wsL_law (wsV RL 104 RX12 yX12_lose wsX12_lose) := goodIn_app (goodIn_of _ (by decide +kernel)) ggL_law_X12_lose
set_option maxRecDepth 100000 in
theorem ggL_law_X11_put : GoodIn wsL_law wsX11_put := (gi_cons (g_wsL_law_r32 _ (List.mem_of_getElem? (i := 15) rfl)) (gi_app (gi_app (gi_app (gi_cons (g_wsL_law_r11 _ (List.mem_of_getElem? (i := 11) rfl)) (gi_cons (g_wsL_law_r32 _ (List.mem_of_getElem? (i := 7) rfl)) (gi_cons (g_wsL_law_r11 _ (List.mem_of_getElem? (i := 14) rfl)) (gi_cons (g_wsL_law_r11 _ (List.mem_of_getElem? (i := 15) rfl)) (gi_cons (g_wsL_law_r11 _ (List.mem_of_getElem? (i := 16) rfl)) (gi_cons (g_wsL_law_r1 _ (List.mem_of_getElem? (i := 2) rfl)) (gi_cons (g_wsL_law_r11 _ (List.mem_of_getElem? (i := 17) rfl)) (gi_cons (g_wsL_law_r2 _ (List.mem_of_getElem? (i := 14) rfl)) (gi_cons (g_wsL_law_r12 _ (List.mem_of_getElem? (i := 3) rfl)) (gi_cons (g_wsL_law_r12 _ (List.mem_of_getElem? (i := 4) rfl)) (gi_cons (g_wsL_law_r12 _ (List.mem_of_getElem? (i := 5) rfl)) (gi_cons (g_wsL_law_r12 _ (List.mem_of_getElem? (i := 6) rfl)) (gi_cons (g_wsL_law_r12 _ (List.mem_of_getElem? (i := 7) rfl)) (gi_cons (g_wsL_law_r12 _ (List.mem_of_getElem? (i := 8) rfl)) (gi_cons (g_wsL_law_r12 _ (List.mem_of_getElem? (i := 9) rfl)) (gi_cons (g_wsL_law_r2 _ (List.mem_of_getElem? (i := 20) rfl)) (gi_cons (g_wsL_law_r12 _ (List.mem_of_getElem? (i := 10) rfl)) (gi_cons (g_wsL_law_r12 _ (List.mem_of_getElem? (i := 11) rfl)) (gi_cons (g_wsL_law_r32 _ (List.mem_of_getElem? (i := 16) rfl)) (gi_cons (g_wsL_law_r32 _ (List.mem_of_getElem? (i := 17) rfl)) (gi_cons (g_wsL_law_r32 _ (List.mem_of_getElem? (i := 18) rfl)) (gi_cons (g_wsL_law_r32 _ (List.mem_of_getElem? (i := 19) rfl)) (gi_cons (g_wsL_law_r4 _ (List.mem_of_getElem? (i := 21) rfl)) (gi_cons (g_wsL_law_r12 _ (List.mem_of_getElem? (i := 2) rfl)) gi_nil)))))))))))))))))))))))) (gi_cons (g_wsL_law_r10 _ (List.mem_of_getElem? (i := 20) rfl)) (gi_cons (g_wsL_law_r10 _ (List.mem_of_getElem? (i := 21) rfl)) gi_nil))) g_wsX110) g_wsX60))
set_option maxRecDepth 20000 in
theorem gL_law_X11_put : GoodIn wsL_law (wsV RL 105 RX11 yX11_put wsX11_put) := goodIn_app (goodIn_of _ (by decide +kernel)) ggL_law_X11_put
set_option maxRecDepth 100000 in
theorem ggL_law_X12_put : GoodIn wsL_law wsX12_put := (gi_cons (g_wsL_law_r32 _ (List.mem_of_getElem? (i := 23) rfl)) (gi_app (gi_cons (g_wsL_law_r5 _ (List.mem_of_getElem? (i := 4) rfl)) (gi_cons (g_wsL_law_r5 _ (List.mem_of_getElem? (i := 3) rfl)) (gi_cons (g_wsL_law_r13 _ (List.mem_of_getElem? (i := 6) rfl)) (gi_cons (g_wsL_law_r13 _ (List.mem_of_getElem? (i := 7) rfl)) (gi_cons (g_wsL_law_r1 _ (List.mem_of_getElem? (i := 5) rfl)) (gi_cons (g_wsL_law_r13 _ (List.mem_of_getElem? (i := 8) rfl)) (gi_cons (g_wsL_law_r13 _ (List.mem_of_getElem? (i := 9) rfl)) (gi_cons (g_wsL_law_r7 _ (List.mem_of_getElem? (i := 13) rfl)) (gi_cons (g_wsL_law_r7 _ (List.mem_of_getElem? (i := 14) rfl)) (gi_cons (g_wsL_law_r7 _ (List.mem_of_getElem? (i := 15) rfl)) (gi_cons (g_wsL_law_r13 _ (List.mem_of_getElem? (i := 10) rfl)) (gi_cons (g_wsL_law_r13 _ (List.mem_of_getElem? (i := 11) rfl)) (gi_cons (g_wsL_law_r13 _ (List.mem_of_getElem? (i := 12) rfl)) (gi_cons (g_wsL_law_r13 _ (List.mem_of_getElem? (i := 13) rfl)) (gi_cons (g_wsL_law_r13 _ (List.mem_of_getElem? (i := 14) rfl)) (gi_cons (g_wsL_law_r33 _ (List.mem_of_getElem? (i := 0) rfl)) (gi_cons (g_wsL_law_r33 _ (List.mem_of_getElem? (i := 1) rfl)) (gi_cons (g_wsL_law_r33 _ (List.mem_of_getElem? (i := 2) rfl)) (gi_cons (g_wsL_law_r33 _ (List.mem_of_getElem? (i := 3) rfl)) (gi_cons (g_wsL_law_r5 _ (List.mem_of_getElem? (i := 2) rfl)) (gi_cons (g_wsL_law_r13 _ (List.mem_of_getElem? (i := 15) rfl)) (gi_cons (g_wsL_law_r13 _ (List.mem_of_getElem? (i := 16) rfl)) (gi_cons (g_wsL_law_r13 _ (List.mem_of_getElem? (i := 17) rfl)) (gi_cons (g_wsL_law_r13 _ (List.mem_of_getElem? (i := 18) rfl)) gi_nil)))))))))))))))))))))))) g_wsX120))
set_option maxRecDepth 20000 in
theorem gL_law_X12_put : GoodIn wsL_law (wsV RL 108 RX12 yX12_put wsX12_put) := goodIn_app (goodIn_of _ (by decide +kernel)) ggL_law_X12_put
set_option maxRecDepth 100000 in
theorem ggL_law_X11_cell : GoodIn wsL_law wsX11_cell := (gi_cons (g_wsL_law_r33 _ (List.mem_of_getElem? (i := 7) rfl)) (gi_app (gi_app (gi_app (gi_cons (g_wsL_law_r11 _ (List.mem_of_getElem? (i := 11) rfl)) (gi_cons (g_wsL_law_r26 _ (List.mem_of_getElem? (i := 3) rfl)) (gi_cons (g_wsL_law_r11 _ (List.mem_of_getElem? (i := 13) rfl)) (gi_cons (g_wsL_law_r11 _ (List.mem_of_getElem? (i := 14) rfl)) (gi_cons (g_wsL_law_r11 _ (List.mem_of_getElem? (i := 15) rfl)) (gi_cons (g_wsL_law_r11 _ (List.mem_of_getElem? (i := 16) rfl)) (gi_cons (g_wsL_law_r1 _ (List.mem_of_getElem? (i := 2) rfl)) (gi_cons (g_wsL_law_r11 _ (List.mem_of_getElem? (i := 17) rfl)) (gi_cons (g_wsL_law_r2 _ (List.mem_of_getElem? (i := 14) rfl)) (gi_cons (g_wsL_law_r11 _ (List.mem_of_getElem? (i := 18) rfl)) (gi_cons (g_wsL_law_r11 _ (List.mem_of_getElem? (i := 19) rfl)) (gi_cons (g_wsL_law_r11 _ (List.mem_of_getElem? (i := 20) rfl)) (gi_cons (g_wsL_law_r7 _ (List.mem_of_getElem? (i := 4) rfl)) (gi_cons (g_wsL_law_r7 _ (List.mem_of_getElem? (i := 5) rfl)) (gi_cons (g_wsL_law_r7 _ (List.mem_of_getElem? (i := 6) rfl)) (gi_cons (g_wsL_law_r11 _ (List.mem_of_getElem? (i := 21) rfl)) (gi_cons (g_wsL_law_r11 _ (List.mem_of_getElem? (i := 22) rfl)) (gi_cons (g_wsL_law_r11 _ (List.mem_of_getElem? (i := 23) rfl)) (gi_cons (g_wsL_law_r2 _ (List.mem_of_getElem? (i := 20) rfl)) (gi_cons (g_wsL_law_r12 _ (List.mem_of_getElem? (i := 0) rfl)) (gi_cons (g_wsL_law_r12 _ (List.mem_of_getElem? (i := 1) rfl)) (gi_cons (g_wsL_law_r12 _ (List.mem_of_getElem? (i := 2) rfl)) (gi_cons (g_wsL_law_r12 _ (List.mem_of_getElem? (i := 7) rfl)) (gi_cons (g_wsL_law_r12 _ (List.mem_of_getElem? (i := 8) rfl)) gi_nil)))))))))))))))))))))))) (gi_cons (g_wsL_law_r12 _ (List.mem_of_getElem? (i := 9) rfl)) (gi_cons (g_wsL_law_r12 _ (List.mem_of_getElem? (i := 10) rfl)) (gi_cons (g_wsL_law_r12 _ (List.mem_of_getElem? (i := 11) rfl)) (gi_cons (g_wsL_law_r10 _ (List.mem_of_getElem? (i := 16) rfl)) (gi_cons (g_wsL_law_r10 _ (List.mem_of_getElem? (i := 17) rfl)) (gi_cons (g_wsL_law_r10 _ (List.mem_of_getElem? (i := 18) rfl)) gi_nil))))))) g_wsX110) g_wsX60))
set_option maxRecDepth 20000 in
theorem gL_law_X11_cell : GoodIn wsL_law (wsV RL 109 RX11 yX11_cell wsX11_cell) := goodIn_app (goodIn_of _ (by decide +kernel)) ggL_law_X11_cell
set_option maxRecDepth 100000 in
theorem ggL_law_X12_cell : GoodIn wsL_law wsX12_cell := (gi_cons (g_wsL_law_r33 _ (List.mem_of_getElem? (i := 11) rfl)) (gi_app (gi_app (gi_cons (g_wsL_law_r13 _ (List.mem_of_getElem? (i := 14) rfl)) (gi_cons (g_wsL_law_r9 _ (List.mem_of_getElem? (i := 8) rfl)) (gi_cons (g_wsL_law_r5 _ (List.mem_of_getElem? (i := 2) rfl)) (gi_cons (g_wsL_law_r5 _ (List.mem_of_getElem? (i := 3) rfl)) (gi_cons (g_wsL_law_r5 _ (List.mem_of_getElem? (i := 4) rfl)) (gi_cons (g_wsL_law_r13 _ (List.mem_of_getElem? (i := 6) rfl)) (gi_cons (g_wsL_law_r13 _ (List.mem_of_getElem? (i := 7) rfl)) (gi_cons (g_wsL_law_r1 _ (List.mem_of_getElem? (i := 5) rfl)) (gi_cons (g_wsL_law_r13 _ (List.mem_of_getElem? (i := 8) rfl)) (gi_cons (g_wsL_law_r13 _ (List.mem_of_getElem? (i := 9) rfl)) (gi_cons (g_wsL_law_r7 _ (List.mem_of_getElem? (i := 13) rfl)) (gi_cons (g_wsL_law_r7 _ (List.mem_of_getElem? (i := 14) rfl)) (gi_cons (g_wsL_law_r7 _ (List.mem_of_getElem? (i := 15) rfl)) (gi_cons (g_wsL_law_r26 _ (List.mem_of_getElem? (i := 9) rfl)) (gi_cons (g_wsL_law_r26 _ (List.mem_of_getElem? (i := 10) rfl)) (gi_cons (g_wsL_law_r26 _ (List.mem_of_getElem? (i := 11) rfl)) (gi_cons (g_wsL_law_r26 _ (List.mem_of_getElem? (i := 12) rfl)) (gi_cons (g_wsL_law_r33 _ (List.mem_of_getElem? (i := 12) rfl)) (gi_cons (g_wsL_law_r33 _ (List.mem_of_getElem? (i := 13) rfl)) (gi_cons (g_wsL_law_r33 _ (List.mem_of_getElem? (i := 14) rfl)) (gi_cons (g_wsL_law_r33 _ (List.mem_of_getElem? (i := 15) rfl)) (gi_cons (g_wsL_law_r33 _ (List.mem_of_getElem? (i := 0) rfl)) (gi_cons (g_wsL_law_r33 _ (List.mem_of_getElem? (i := 1) rfl)) (gi_cons (g_wsL_law_r33 _ (List.mem_of_getElem? (i := 2) rfl)) gi_nil)))))))))))))))))))))))) (gi_cons (g_wsL_law_r33 _ (List.mem_of_getElem? (i := 3) rfl)) gi_nil)) g_wsX120))
set_option maxRecDepth 20000 in
theorem gL_law_X12_cell : GoodIn wsL_law (wsV RL 113 RX12 yX12_cell wsX12_cell) := goodIn_app (goodIn_of _ (by decide +kernel)) ggL_law_X12_cell
set_option maxRecDepth 100000 in
theorem ggL_law_X11_copy : GoodIn wsL_law wsX11_copy := (gi_cons (g_wsL_law_r33 _ (List.mem_of_getElem? (i := 19) rfl)) (gi_app (gi_app (gi_cons (g_wsL_law_r11 _ (List.mem_of_getElem? (i := 11) rfl)) (gi_cons (g_wsL_law_r32 _ (List.mem_of_getElem? (i := 7) rfl)) (gi_cons (g_wsL_law_r33 _ (List.mem_of_getElem? (i := 20) rfl)) (gi_cons (g_wsL_law_r11 _ (List.mem_of_getElem? (i := 13) rfl)) (gi_cons (g_wsL_law_r33 _ (List.mem_of_getElem? (i := 21) rfl)) (gi_cons (g_wsL_law_r33 _ (List.mem_of_getElem? (i := 22) rfl)) (gi_cons (g_wsL_law_r33 _ (List.mem_of_getElem? (i := 23) rfl)) (gi_cons (g_wsL_law_r34 _ (List.mem_of_getElem? (i := 0) rfl)) (gi_cons (g_wsL_law_r11 _ (List.mem_of_getElem? (i := 14) rfl)) (gi_cons (g_wsL_law_r11 _ (List.mem_of_getElem? (i := 15) rfl)) (gi_cons (g_wsL_law_r11 _ (List.mem_of_getElem? (i := 16) rfl)) (gi_cons (g_wsL_law_r1 _ (List.mem_of_getElem? (i := 2) rfl)) (gi_cons (g_wsL_law_r11 _ (List.mem_of_getElem? (i := 17) rfl)) (gi_cons (g_wsL_law_r2 _ (List.mem_of_getElem? (i := 14) rfl)) (gi_cons (g_wsL_law_r12 _ (List.mem_of_getElem? (i := 3) rfl)) (gi_cons (g_wsL_law_r12 _ (List.mem_of_getElem? (i := 4) rfl)) (gi_cons (g_wsL_law_r12 _ (List.mem_of_getElem? (i := 5) rfl)) (gi_cons (g_wsL_law_r12 _ (List.mem_of_getElem? (i := 6) rfl)) (gi_cons (g_wsL_law_r12 _ (List.mem_of_getElem? (i := 7) rfl)) (gi_cons (g_wsL_law_r12 _ (List.mem_of_getElem? (i := 8) rfl)) (gi_cons (g_wsL_law_r12 _ (List.mem_of_getElem? (i := 9) rfl)) (gi_cons (g_wsL_law_r2 _ (List.mem_of_getElem? (i := 20) rfl)) (gi_cons (g_wsL_law_r12 _ (List.mem_of_getElem? (i := 10) rfl)) (gi_cons (g_wsL_law_r12 _ (List.mem_of_getElem? (i := 11) rfl)) gi_nil)))))))))))))))))))))))) g_wsX110) g_wsX60))
set_option maxRecDepth 20000 in
theorem gL_law_X11_copy : GoodIn wsL_law (wsV RL 114 RX11 yX11_copy wsX11_copy) := goodIn_app (goodIn_of _ (by decide +kernel)) ggL_law_X11_copy
set_option maxRecDepth 100000 in
theorem ggL_law_X12_copy : GoodIn wsL_law wsX12_copy := (gi_cons (g_wsL_law_r34 _ (List.mem_of_getElem? (i := 4) rfl)) (gi_app (gi_cons (g_wsL_law_r5 _ (List.mem_of_getElem? (i := 2) rfl)) (gi_cons (g_wsL_law_r5 _ (List.mem_of_getElem? (i := 3) rfl)) (gi_cons (g_wsL_law_r5 _ (List.mem_of_getElem? (i := 5) rfl)) (gi_cons (g_wsL_law_r5 _ (List.mem_of_getElem? (i := 4) rfl)) (gi_cons (g_wsL_law_r13 _ (List.mem_of_getElem? (i := 6) rfl)) (gi_cons (g_wsL_law_r13 _ (List.mem_of_getElem? (i := 7) rfl)) (gi_cons (g_wsL_law_r1 _ (List.mem_of_getElem? (i := 5) rfl)) (gi_cons (g_wsL_law_r13 _ (List.mem_of_getElem? (i := 8) rfl)) (gi_cons (g_wsL_law_r13 _ (List.mem_of_getElem? (i := 9) rfl)) (gi_cons (g_wsL_law_r7 _ (List.mem_of_getElem? (i := 13) rfl)) (gi_cons (g_wsL_law_r7 _ (List.mem_of_getElem? (i := 14) rfl)) (gi_cons (g_wsL_law_r7 _ (List.mem_of_getElem? (i := 15) rfl)) (gi_cons (g_wsL_law_r13 _ (List.mem_of_getElem? (i := 10) rfl)) (gi_cons (g_wsL_law_r13 _ (List.mem_of_getElem? (i := 11) rfl)) (gi_cons (g_wsL_law_r13 _ (List.mem_of_getElem? (i := 12) rfl)) (gi_cons (g_wsL_law_r13 _ (List.mem_of_getElem? (i := 13) rfl)) (gi_cons (g_wsL_law_r13 _ (List.mem_of_getElem? (i := 14) rfl)) (gi_cons (g_wsL_law_r13 _ (List.mem_of_getElem? (i := 15) rfl)) (gi_cons (g_wsL_law_r13 _ (List.mem_of_getElem? (i := 16) rfl)) (gi_cons (g_wsL_law_r13 _ (List.mem_of_getElem? (i := 17) rfl)) (gi_cons (g_wsL_law_r13 _ (List.mem_of_getElem? (i := 18) rfl)) (gi_cons (g_wsL_law_r13 _ (List.mem_of_getElem? (i := 19) rfl)) (gi_cons (g_wsL_law_r13 _ (List.mem_of_getElem? (i := 20) rfl)) (gi_cons (g_wsL_law_r13 _ (List.mem_of_getElem? (i := 21) rfl)) gi_nil)))))))))))))))))))))))) g_wsX120))
set_option maxRecDepth 20000 in
theorem gL_law_X12_copy : GoodIn wsL_law (wsV RL 117 RX12 yX12_copy wsX12_copy) := goodIn_app (goodIn_of _ (by decide +kernel)) ggL_law_X12_copy
set_option maxRecDepth 100000 in
theorem ggL_law_X11_tell : GoodIn wsL_law wsX11_tell := (gi_cons (g_wsL_law_r34 _ (List.mem_of_getElem? (i := 8) rfl)) (gi_app (gi_app (gi_app (gi_app (gi_app (gi_cons (g_wsL_law_r1 _ (List.mem_of_getElem? (i := 15) rfl)) (gi_cons (g_wsL_law_r2 _ (List.mem_of_getElem? (i := 18) rfl)) (gi_cons (g_wsL_law_r1 _ (List.mem_of_getElem? (i := 19) rfl)) (gi_cons (g_wsL_law_r14 _ (List.mem_of_getElem? (i := 11) rfl)) (gi_cons (g_wsL_law_r9 _ (List.mem_of_getElem? (i := 16) rfl)) (gi_cons (g_wsL_law_r9 _ (List.mem_of_getElem? (i := 17) rfl)) (gi_cons (g_wsL_law_r9 _ (List.mem_of_getElem? (i := 18) rfl)) (gi_cons (g_wsL_law_r1 _ (List.mem_of_getElem? (i := 14) rfl)) (gi_cons (g_wsL_law_r9 _ (List.mem_of_getElem? (i := 19) rfl)) (gi_cons (g_wsL_law_r8 _ (List.mem_of_getElem? (i := 1) rfl)) (gi_cons (g_wsL_law_r3 _ (List.mem_of_getElem? (i := 2) rfl)) (gi_cons (g_wsL_law_r10 _ (List.mem_of_getElem? (i := 16) rfl)) (gi_cons (g_wsL_law_r10 _ (List.mem_of_getElem? (i := 17) rfl)) (gi_cons (g_wsL_law_r1 _ (List.mem_of_getElem? (i := 2) rfl)) (gi_cons (g_wsL_law_r10 _ (List.mem_of_getElem? (i := 18) rfl)) (gi_cons (g_wsL_law_r34 _ (List.mem_of_getElem? (i := 9) rfl)) (gi_cons (g_wsL_law_r34 _ (List.mem_of_getElem? (i := 10) rfl)) (gi_cons (g_wsL_law_r34 _ (List.mem_of_getElem? (i := 11) rfl)) (gi_cons (g_wsL_law_r8 _ (List.mem_of_getElem? (i := 3) rfl)) (gi_cons (g_wsL_law_r34 _ (List.mem_of_getElem? (i := 12) rfl)) (gi_cons (g_wsL_law_r34 _ (List.mem_of_getElem? (i := 13) rfl)) (gi_cons (g_wsL_law_r34 _ (List.mem_of_getElem? (i := 14) rfl)) (gi_cons (g_wsL_law_r34 _ (List.mem_of_getElem? (i := 15) rfl)) (gi_cons (g_wsL_law_r34 _ (List.mem_of_getElem? (i := 16) rfl)) gi_nil)))))))))))))))))))))))) (gi_app (gi_cons (g_wsL_law_r34 _ (List.mem_of_getElem? (i := 17) rfl)) (gi_cons (g_wsL_law_r34 _ (List.mem_of_getElem? (i := 18) rfl)) (gi_cons (g_wsL_law_r34 _ (List.mem_of_getElem? (i := 19) rfl)) (gi_cons (g_wsL_law_r2 _ (List.mem_of_getElem? (i := 17) rfl)) (gi_cons (g_wsL_law_r34 _ (List.mem_of_getElem? (i := 20) rfl)) (gi_cons (g_wsL_law_r34 _ (List.mem_of_getElem? (i := 21) rfl)) (gi_cons (g_wsL_law_r34 _ (List.mem_of_getElem? (i := 13) rfl)) (gi_cons (g_wsL_law_r34 _ (List.mem_of_getElem? (i := 23) rfl)) (gi_cons (g_wsL_law_r35 _ (List.mem_of_getElem? (i := 0) rfl)) (gi_cons (g_wsL_law_r35 _ (List.mem_of_getElem? (i := 1) rfl)) (gi_cons (g_wsL_law_r34 _ (List.mem_of_getElem? (i := 9) rfl)) (gi_cons (g_wsL_law_r35 _ (List.mem_of_getElem? (i := 3) rfl)) (gi_cons (g_wsL_law_r34 _ (List.mem_of_getElem? (i := 10) rfl)) (gi_cons (g_wsL_law_r35 _ (List.mem_of_getElem? (i := 5) rfl)) (gi_cons (g_wsL_law_r35 _ (List.mem_of_getElem? (i := 6) rfl)) (gi_cons (g_wsL_law_r8 _ (List.mem_of_getElem? (i := 6) rfl)) (gi_cons (g_wsL_law_r35 _ (List.mem_of_getElem? (i := 7) rfl)) (gi_cons (g_wsL_law_r35 _ (List.mem_of_getElem? (i := 8) rfl)) (gi_cons (g_wsL_law_r35 _ (List.mem_of_getElem? (i := 9) rfl)) (gi_cons (g_wsL_law_r35 _ (List.mem_of_getElem? (i := 10) rfl)) (gi_cons (g_wsL_law_r35 _ (List.mem_of_getElem? (i := 11) rfl)) (gi_cons (g_wsL_law_r35 _ (List.mem_of_getElem? (i := 12) rfl)) (gi_cons (g_wsL_law_r35 _ (List.mem_of_getElem? (i := 13) rfl)) (gi_cons (g_wsL_law_r35 _ (List.mem_of_getElem? (i := 14) rfl)) gi_nil)))))))))))))))))))))))) (gi_cons (g_wsL_law_r35 _ (List.mem_of_getElem? (i := 15) rfl)) (gi_cons (g_wsL_law_r8 _ (List.mem_of_getElem? (i := 9) rfl)) (gi_cons (g_wsL_law_r35 _ (List.mem_of_getElem? (i := 16) rfl)) (gi_cons (g_wsL_law_r35 _ (List.mem_of_getElem? (i := 17) rfl)) (gi_cons (g_wsL_law_r35 _ (List.mem_of_getElem? (i := 18) rfl)) (gi_cons (g_wsL_law_r35 _ (List.mem_of_getElem? (i := 19) rfl)) (gi_cons (g_wsL_law_r35 _ (List.mem_of_getElem? (i := 20) rfl)) gi_nil))))))))) g_wsX110) g_wsX70) g_wsX40) g_wsX90))
set_option maxRecDepth 20000 in
theorem gL_law_X11_tell : GoodIn wsL_law (wsV RL 118 RX11 yX11_tell wsX11_tell) := goodIn_app (goodIn_of _ (by decide +kernel)) ggL_law_X11_tell
set_option maxRecDepth 100000 in
theorem ggL_law_X12_tell : GoodIn wsL_law wsX12_tell := (gi_cons (g_wsL_law_r36 _ (List.mem_of_getElem? (i := 0) rfl)) (gi_app (gi_cons (g_wsL_law_r5 _ (List.mem_of_getElem? (i := 6) rfl)) (gi_cons (g_wsL_law_r5 _ (List.mem_of_getElem? (i := 9) rfl)) (gi_cons (g_wsL_law_r36 _ (List.mem_of_getElem? (i := 1) rfl)) (gi_cons (g_wsL_law_r11 _ (List.mem_of_getElem? (i := 3) rfl)) (gi_cons (g_wsL_law_r11 _ (List.mem_of_getElem? (i := 4) rfl)) (gi_cons (g_wsL_law_r11 _ (List.mem_of_getElem? (i := 5) rfl)) (gi_cons (g_wsL_law_r1 _ (List.mem_of_getElem? (i := 5) rfl)) (gi_cons (g_wsL_law_r11 _ (List.mem_of_getElem? (i := 6) rfl)) (gi_cons (g_wsL_law_r9 _ (List.mem_of_getElem? (i := 10) rfl)) (gi_cons (g_wsL_law_r7 _ (List.mem_of_getElem? (i := 13) rfl)) (gi_cons (g_wsL_law_r7 _ (List.mem_of_getElem? (i := 14) rfl)) (gi_cons (g_wsL_law_r7 _ (List.mem_of_getElem? (i := 15) rfl)) (gi_cons (g_wsL_law_r36 _ (List.mem_of_getElem? (i := 2) rfl)) (gi_cons (g_wsL_law_r36 _ (List.mem_of_getElem? (i := 3) rfl)) (gi_cons (g_wsL_law_r36 _ (List.mem_of_getElem? (i := 4) rfl)) (gi_cons (g_wsL_law_r36 _ (List.mem_of_getElem? (i := 5) rfl)) (gi_cons (g_wsL_law_r36 _ (List.mem_of_getElem? (i := 6) rfl)) gi_nil))))))))))))))))) g_wsX120))
set_option maxRecDepth 20000 in
theorem gL_law_X12_tell : GoodIn wsL_law (wsV RL 121 RX12 yX12_tell wsX12_tell) := goodIn_app (goodIn_of _ (by decide +kernel)) ggL_law_X12_tell
set_option maxRecDepth 100000 in
theorem ggL_law_X11_look : GoodIn wsL_law wsX11_look := (gi_cons (g_wsL_law_r36 _ (List.mem_of_getElem? (i := 10) rfl)) (gi_app (gi_app (gi_app (gi_app (gi_app (gi_app (gi_app (gi_cons (g_wsL_law_r1 _ (List.mem_of_getElem? (i := 15) rfl)) (gi_cons (g_wsL_law_r2 _ (List.mem_of_getElem? (i := 18) rfl)) (gi_cons (g_wsL_law_r9 _ (List.mem_of_getElem? (i := 16) rfl)) (gi_cons (g_wsL_law_r9 _ (List.mem_of_getElem? (i := 17) rfl)) (gi_cons (g_wsL_law_r9 _ (List.mem_of_getElem? (i := 18) rfl)) (gi_cons (g_wsL_law_r1 _ (List.mem_of_getElem? (i := 14) rfl)) (gi_cons (g_wsL_law_r9 _ (List.mem_of_getElem? (i := 19) rfl)) (gi_cons (g_wsL_law_r8 _ (List.mem_of_getElem? (i := 1) rfl)) (gi_cons (g_wsL_law_r3 _ (List.mem_of_getElem? (i := 2) rfl)) (gi_cons (g_wsL_law_r36 _ (List.mem_of_getElem? (i := 11) rfl)) (gi_cons (g_wsL_law_r36 _ (List.mem_of_getElem? (i := 12) rfl)) (gi_cons (g_wsL_law_r36 _ (List.mem_of_getElem? (i := 13) rfl)) (gi_cons (g_wsL_law_r8 _ (List.mem_of_getElem? (i := 3) rfl)) (gi_cons (g_wsL_law_r36 _ (List.mem_of_getElem? (i := 14) rfl)) (gi_cons (g_wsL_law_r8 _ (List.mem_of_getElem? (i := 17) rfl)) (gi_cons (g_wsL_law_r34 _ (List.mem_of_getElem? (i := 17) rfl)) (gi_cons (g_wsL_law_r34 _ (List.mem_of_getElem? (i := 18) rfl)) (gi_cons (g_wsL_law_r34 _ (List.mem_of_getElem? (i := 19) rfl)) (gi_cons (g_wsL_law_r2 _ (List.mem_of_getElem? (i := 17) rfl)) (gi_cons (g_wsL_law_r34 _ (List.mem_of_getElem? (i := 20) rfl)) (gi_cons (g_wsL_law_r34 _ (List.mem_of_getElem? (i := 21) rfl)) (gi_cons (g_wsL_law_r36 _ (List.mem_of_getElem? (i := 11) rfl)) (gi_cons (g_wsL_law_r36 _ (List.mem_of_getElem? (i := 16) rfl)) (gi_cons (g_wsL_law_r36 _ (List.mem_of_getElem? (i := 17) rfl)) gi_nil)))))))))))))))))))))))) (gi_cons (g_wsL_law_r36 _ (List.mem_of_getElem? (i := 12) rfl)) (gi_cons (g_wsL_law_r36 _ (List.mem_of_getElem? (i := 19) rfl)) (gi_cons (g_wsL_law_r36 _ (List.mem_of_getElem? (i := 20) rfl)) (gi_cons (g_wsL_law_r8 _ (List.mem_of_getElem? (i := 9) rfl)) (gi_cons (g_wsL_law_r36 _ (List.mem_of_getElem? (i := 21) rfl)) (gi_cons (g_wsL_law_r35 _ (List.mem_of_getElem? (i := 17) rfl)) gi_nil))))))) g_wsX110) g_wsX40) g_wsX00) g_wsX20) g_wsX100) g_wsX90))
set_option maxRecDepth 20000 in
theorem gL_law_X11_look : GoodIn wsL_law (wsV RL 122 RX11 yX11_look wsX11_look) := goodIn_app (goodIn_of _ (by decide +kernel)) ggL_law_X11_look
set_option maxRecDepth 100000 in
theorem ggL_law_X12_look : GoodIn wsL_law wsX12_look := (gi_cons (g_wsL_law_r37 _ (List.mem_of_getElem? (i := 1) rfl)) (gi_app (gi_cons (g_wsL_law_r5 _ (List.mem_of_getElem? (i := 6) rfl)) (gi_cons (g_wsL_law_r11 _ (List.mem_of_getElem? (i := 3) rfl)) (gi_cons (g_wsL_law_r11 _ (List.mem_of_getElem? (i := 4) rfl)) (gi_cons (g_wsL_law_r11 _ (List.mem_of_getElem? (i := 5) rfl)) (gi_cons (g_wsL_law_r1 _ (List.mem_of_getElem? (i := 5) rfl)) (gi_cons (g_wsL_law_r11 _ (List.mem_of_getElem? (i := 6) rfl)) (gi_cons (g_wsL_law_r9 _ (List.mem_of_getElem? (i := 10) rfl)) (gi_cons (g_wsL_law_r7 _ (List.mem_of_getElem? (i := 13) rfl)) (gi_cons (g_wsL_law_r7 _ (List.mem_of_getElem? (i := 14) rfl)) (gi_cons (g_wsL_law_r7 _ (List.mem_of_getElem? (i := 15) rfl)) (gi_cons (g_wsL_law_r36 _ (List.mem_of_getElem? (i := 2) rfl)) (gi_cons (g_wsL_law_r36 _ (List.mem_of_getElem? (i := 3) rfl)) (gi_cons (g_wsL_law_r36 _ (List.mem_of_getElem? (i := 4) rfl)) (gi_cons (g_wsL_law_r36 _ (List.mem_of_getElem? (i := 5) rfl)) (gi_cons (g_wsL_law_r36 _ (List.mem_of_getElem? (i := 6) rfl)) gi_nil))))))))))))))) g_wsX120))
set_option maxRecDepth 20000 in
theorem gL_law_X12_look : GoodIn wsL_law (wsV RL 125 RX12 yX12_look wsX12_look) := goodIn_app (goodIn_of _ (by decide +kernel)) ggL_law_X12_look
set_option maxRecDepth 100000 in
theorem ggL_law_X11_as : GoodIn wsL_law wsX11_as := (gi_cons (g_wsL_law_r37 _ (List.mem_of_getElem? (i := 5) rfl)) (gi_app (gi_app (gi_cons (g_wsL_law_r11 _ (List.mem_of_getElem? (i := 11) rfl)) (gi_cons (g_wsL_law_r1 _ (List.mem_of_getElem? (i := 15) rfl)) (gi_cons (g_wsL_law_r37 _ (List.mem_of_getElem? (i := 6) rfl)) (gi_cons (g_wsL_law_r37 _ (List.mem_of_getElem? (i := 7) rfl)) (gi_cons (g_wsL_law_r9 _ (List.mem_of_getElem? (i := 16) rfl)) (gi_cons (g_wsL_law_r9 _ (List.mem_of_getElem? (i := 17) rfl)) (gi_cons (g_wsL_law_r9 _ (List.mem_of_getElem? (i := 18) rfl)) (gi_cons (g_wsL_law_r1 _ (List.mem_of_getElem? (i := 14) rfl)) (gi_cons (g_wsL_law_r9 _ (List.mem_of_getElem? (i := 19) rfl)) (gi_cons (g_wsL_law_r8 _ (List.mem_of_getElem? (i := 1) rfl)) (gi_cons (g_wsL_law_r3 _ (List.mem_of_getElem? (i := 2) rfl)) (gi_cons (g_wsL_law_r7 _ (List.mem_of_getElem? (i := 4) rfl)) (gi_cons (g_wsL_law_r7 _ (List.mem_of_getElem? (i := 5) rfl)) (gi_cons (g_wsL_law_r1 _ (List.mem_of_getElem? (i := 2) rfl)) (gi_cons (g_wsL_law_r7 _ (List.mem_of_getElem? (i := 6) rfl)) (gi_cons (g_wsL_law_r12 _ (List.mem_of_getElem? (i := 3) rfl)) (gi_cons (g_wsL_law_r12 _ (List.mem_of_getElem? (i := 4) rfl)) (gi_cons (g_wsL_law_r12 _ (List.mem_of_getElem? (i := 5) rfl)) (gi_cons (g_wsL_law_r12 _ (List.mem_of_getElem? (i := 6) rfl)) gi_nil))))))))))))))))))) g_wsX110) g_wsX40))
set_option maxRecDepth 20000 in
theorem gL_law_X11_as : GoodIn wsL_law (wsV RL 126 RX11 yX11_as wsX11_as) := goodIn_app (goodIn_of _ (by decide +kernel)) ggL_law_X11_as
set_option maxRecDepth 100000 in
theorem ggL_law_X12_as : GoodIn wsL_law wsX12_as := (gi_cons (g_wsL_law_r37 _ (List.mem_of_getElem? (i := 11) rfl)) (gi_app (gi_cons (g_wsL_law_r9 _ (List.mem_of_getElem? (i := 8) rfl)) (gi_cons (g_wsL_law_r5 _ (List.mem_of_getElem? (i := 6) rfl)) (gi_cons (g_wsL_law_r11 _ (List.mem_of_getElem? (i := 3) rfl)) (gi_cons (g_wsL_law_r11 _ (List.mem_of_getElem? (i := 4) rfl)) (gi_cons (g_wsL_law_r11 _ (List.mem_of_getElem? (i := 5) rfl)) (gi_cons (g_wsL_law_r1 _ (List.mem_of_getElem? (i := 5) rfl)) (gi_cons (g_wsL_law_r11 _ (List.mem_of_getElem? (i := 6) rfl)) (gi_cons (g_wsL_law_r9 _ (List.mem_of_getElem? (i := 10) rfl)) (gi_cons (g_wsL_law_r7 _ (List.mem_of_getElem? (i := 13) rfl)) (gi_cons (g_wsL_law_r7 _ (List.mem_of_getElem? (i := 14) rfl)) (gi_cons (g_wsL_law_r7 _ (List.mem_of_getElem? (i := 15) rfl)) (gi_cons (g_wsL_law_r13 _ (List.mem_of_getElem? (i := 10) rfl)) (gi_cons (g_wsL_law_r13 _ (List.mem_of_getElem? (i := 11) rfl)) (gi_cons (g_wsL_law_r13 _ (List.mem_of_getElem? (i := 12) rfl)) (gi_cons (g_wsL_law_r13 _ (List.mem_of_getElem? (i := 13) rfl)) (gi_cons (g_wsL_law_r13 _ (List.mem_of_getElem? (i := 14) rfl)) (gi_cons (g_wsL_law_r13 _ (List.mem_of_getElem? (i := 15) rfl)) (gi_cons (g_wsL_law_r13 _ (List.mem_of_getElem? (i := 16) rfl)) (gi_cons (g_wsL_law_r13 _ (List.mem_of_getElem? (i := 17) rfl)) (gi_cons (g_wsL_law_r13 _ (List.mem_of_getElem? (i := 18) rfl)) gi_nil)))))))))))))))))))) g_wsX120))
set_option maxRecDepth 20000 in
theorem gL_law_X12_as : GoodIn wsL_law (wsV RL 129 RX12 yX12_as wsX12_as) := goodIn_app (goodIn_of _ (by decide +kernel)) ggL_law_X12_as
set_option maxRecDepth 100000 in
theorem ggL_law_X11_trace : GoodIn wsL_law wsX11_trace := (gi_cons (g_wsL_law_r37 _ (List.mem_of_getElem? (i := 15) rfl)) (gi_app (gi_app (gi_cons (g_wsL_law_r2 _ (List.mem_of_getElem? (i := 18) rfl)) (gi_cons (g_wsL_law_r37 _ (List.mem_of_getElem? (i := 16) rfl)) gi_nil)) g_wsX110) g_wsX90))
set_option maxRecDepth 20000 in
theorem gL_law_X11_trace : GoodIn wsL_law (wsV RL 130 RX11 yX11_trace wsX11_trace) := goodIn_app (goodIn_of _ (by decide +kernel)) ggL_law_X11_trace
set_option maxRecDepth 100000 in
theorem ggL_law_X12_trace : GoodIn wsL_law wsX12_trace := (gi_cons (g_wsL_law_r37 _ (List.mem_of_getElem? (i := 20) rfl)) (gi_app (gi_cons (g_wsL_law_r36 _ (List.mem_of_getElem? (i := 6) rfl)) gi_nil) g_wsX120))
set_option maxRecDepth 20000 in
theorem gL_law_X12_trace : GoodIn wsL_law (wsV RL 133 RX12 yX12_trace wsX12_trace) := goodIn_app (goodIn_of _ (by decide +kernel)) ggL_law_X12_trace
set_option maxRecDepth 100000 in
theorem ggL_law_X11_fault : GoodIn wsL_law wsX11_fault := (gi_cons (g_wsL_law_r38 _ (List.mem_of_getElem? (i := 0) rfl)) (gi_app (gi_cons (g_wsL_law_r11 _ (List.mem_of_getElem? (i := 11) rfl)) gi_nil) g_wsX110))
set_option maxRecDepth 20000 in
theorem gL_law_X11_fault : GoodIn wsL_law (wsV RL 134 RX11 yX11_fault wsX11_fault) := goodIn_app (goodIn_of _ (by decide +kernel)) ggL_law_X11_fault
set_option maxRecDepth 100000 in
theorem ggL_law_X12_fault : GoodIn wsL_law wsX12_fault := (gi_cons (g_wsL_law_r38 _ (List.mem_of_getElem? (i := 4) rfl)) (gi_app (gi_cons (g_wsL_law_r13 _ (List.mem_of_getElem? (i := 14) rfl)) gi_nil) g_wsX120))
set_option maxRecDepth 20000 in
theorem gL_law_X12_fault : GoodIn wsL_law (wsV RL 137 RX12 yX12_fault wsX12_fault) := goodIn_app (goodIn_of _ (by decide +kernel)) ggL_law_X12_fault
set_option maxRecDepth 100000 in
theorem ggL_law_X11_told : GoodIn wsL_law wsX11_told := (gi_cons (g_wsL_law_r38 _ (List.mem_of_getElem? (i := 8) rfl)) (gi_app (gi_app (gi_app (gi_app (gi_app (gi_app (gi_app (gi_app (gi_app (gi_cons (g_wsL_law_r1 _ (List.mem_of_getElem? (i := 15) rfl)) (gi_cons (g_wsL_law_r7 _ (List.mem_of_getElem? (i := 20) rfl)) (gi_cons (g_wsL_law_r2 _ (List.mem_of_getElem? (i := 3) rfl)) (gi_cons (g_wsL_law_r26 _ (List.mem_of_getElem? (i := 17) rfl)) (gi_cons (g_wsL_law_r2 _ (List.mem_of_getElem? (i := 12) rfl)) (gi_cons (g_wsL_law_r28 _ (List.mem_of_getElem? (i := 14) rfl)) (gi_cons (g_wsL_law_r19 _ (List.mem_of_getElem? (i := 9) rfl)) (gi_cons (g_wsL_law_r1 _ (List.mem_of_getElem? (i := 19) rfl)) (gi_cons (g_wsL_law_r38 _ (List.mem_of_getElem? (i := 9) rfl)) (gi_cons (g_wsL_law_r38 _ (List.mem_of_getElem? (i := 10) rfl)) (gi_cons (g_wsL_law_r38 _ (List.mem_of_getElem? (i := 11) rfl)) (gi_cons (g_wsL_law_r1 _ (List.mem_of_getElem? (i := 14) rfl)) (gi_cons (g_wsL_law_r38 _ (List.mem_of_getElem? (i := 12) rfl)) (gi_cons (g_wsL_law_r8 _ (List.mem_of_getElem? (i := 1) rfl)) (gi_cons (g_wsL_law_r38 _ (List.mem_of_getElem? (i := 13) rfl)) (gi_cons (g_wsL_law_r29 _ (List.mem_of_getElem? (i := 23) rfl)) (gi_cons (g_wsL_law_r9 _ (List.mem_of_getElem? (i := 17) rfl)) (gi_cons (g_wsL_law_r9 _ (List.mem_of_getElem? (i := 18) rfl)) (gi_cons (g_wsL_law_r9 _ (List.mem_of_getElem? (i := 19) rfl)) (gi_cons (g_wsL_law_r3 _ (List.mem_of_getElem? (i := 2) rfl)) (gi_cons (g_wsL_law_r10 _ (List.mem_of_getElem? (i := 17) rfl)) (gi_cons (g_wsL_law_r1 _ (List.mem_of_getElem? (i := 2) rfl)) (gi_cons (g_wsL_law_r10 _ (List.mem_of_getElem? (i := 18) rfl)) (gi_cons (g_wsL_law_r38 _ (List.mem_of_getElem? (i := 14) rfl)) gi_nil)))))))))))))))))))))))) (gi_cons (g_wsL_law_r19 _ (List.mem_of_getElem? (i := 22) rfl)) (gi_cons (g_wsL_law_r19 _ (List.mem_of_getElem? (i := 23) rfl)) (gi_cons (g_wsL_law_r8 _ (List.mem_of_getElem? (i := 3) rfl)) (gi_cons (g_wsL_law_r20 _ (List.mem_of_getElem? (i := 0) rfl)) (gi_cons (g_wsL_law_r17 _ (List.mem_of_getElem? (i := 11) rfl)) (gi_cons (g_wsL_law_r14 _ (List.mem_of_getElem? (i := 13) rfl)) (gi_cons (g_wsL_law_r14 _ (List.mem_of_getElem? (i := 14) rfl)) (gi_cons (g_wsL_law_r14 _ (List.mem_of_getElem? (i := 15) rfl)) (gi_cons (g_wsL_law_r8 _ (List.mem_of_getElem? (i := 18) rfl)) (gi_cons (g_wsL_law_r8 _ (List.mem_of_getElem? (i := 19) rfl)) (gi_cons (g_wsL_law_r17 _ (List.mem_of_getElem? (i := 11) rfl)) (gi_cons (g_wsL_law_r14 _ (List.mem_of_getElem? (i := 17) rfl)) (gi_cons (g_wsL_law_r14 _ (List.mem_of_getElem? (i := 18) rfl)) (gi_cons (g_wsL_law_r14 _ (List.mem_of_getElem? (i := 19) rfl)) (gi_cons (g_wsL_law_r38 _ (List.mem_of_getElem? (i := 14) rfl)) (gi_cons (g_wsL_law_r20 _ (List.mem_of_getElem? (i := 2) rfl)) (gi_cons (g_wsL_law_r20 _ (List.mem_of_getElem? (i := 3) rfl)) (gi_cons (g_wsL_law_r20 _ (List.mem_of_getElem? (i := 4) rfl)) gi_nil))))))))))))))))))) g_wsX110) g_wsX40) g_wsX30) g_wsX50) g_wsX70) g_wsX00) g_wsX20) g_wsX100))
set_option maxRecDepth 20000 in
theorem gL_law_X11_told : GoodIn wsL_law (wsV RL 138 RX11 yX11_told wsX11_told) := goodIn_app (goodIn_of _ (by decide +kernel)) ggL_law_X11_told
set_option maxRecDepth 100000 in
theorem ggL_law_X12_told : GoodIn wsL_law wsX12_told := (gi_cons (g_wsL_law_r38 _ (List.mem_of_getElem? (i := 19) rfl)) (gi_app (gi_cons (g_wsL_law_r9 _ (List.mem_of_getElem? (i := 10) rfl)) (gi_cons (g_wsL_law_r5 _ (List.mem_of_getElem? (i := 9) rfl)) (gi_cons (g_wsL_law_r23 _ (List.mem_of_getElem? (i := 17) rfl)) (gi_cons (g_wsL_law_r29 _ (List.mem_of_getElem? (i := 0) rfl)) (gi_cons (g_wsL_law_r6 _ (List.mem_of_getElem? (i := 21) rfl)) (gi_cons (g_wsL_law_r15 _ (List.mem_of_getElem? (i := 0) rfl)) (gi_cons (g_wsL_law_r15 _ (List.mem_of_getElem? (i := 1) rfl)) (gi_cons (g_wsL_law_r15 _ (List.mem_of_getElem? (i := 2) rfl)) (gi_cons (g_wsL_law_r1 _ (List.mem_of_getElem? (i := 5) rfl)) (gi_cons (g_wsL_law_r15 _ (List.mem_of_getElem? (i := 3) rfl)) (gi_cons (g_wsL_law_r5 _ (List.mem_of_getElem? (i := 7) rfl)) (gi_cons (g_wsL_law_r5 _ (List.mem_of_getElem? (i := 8) rfl)) gi_nil)))))))))))) g_wsX120))
set_option maxRecDepth 20000 in
theorem gL_law_X12_told : GoodIn wsL_law (wsV RL 141 RX12 yX12_told wsX12_told) := goodIn_app (goodIn_of _ (by decide +kernel)) ggL_law_X12_told
theorem edL_law_0 : (decode cL_law 0 = .ok (.new 7, 3)) ∧ (decode cL_law 3 = .ok (.dup, 1)) ∧ (decode cL_law 4 = .ok (.invokespecial 9, 3)) ∧ (decode cL_law 7 = .ok (.astore_n 1, 1)) ∧ (decode cL_law 8 = .ok (.new 10, 3)) ∧ (decode cL_law 11 = .ok (.dup, 1)) ∧ (decode cL_law 12 = .ok (.invokespecial 12, 3)) ∧ (decode cL_law 15 = .ok (.astore_n 2, 1)) ∧ (decode cL_law 16 = .ok (.iconst 0, 1)) ∧ (decode cL_law 17 = .ok (.istore_n 3, 1)) ∧ (decode cL_law 18 = .ok (.iload_n 3, 1)) ∧ (decode cL_law 19 = .ok (.aload_n 0, 1)) ∧ (decode cL_law 20 = .ok (.arraylength, 1)) ∧ (decode cL_law 21 = .ok (.bipush 6, 2)) ∧ (decode cL_law 23 = .ok (.isub, 1)) ∧ (decode cL_law 24 = .ok (.if_icmp .gt 1116, 3)) := by decide +kernel
def dL_law_0 := edL_law_0.1
def dL_law_3 := edL_law_0.2.1
def dL_law_4 := edL_law_0.2.2.1
def dL_law_7 := edL_law_0.2.2.2.1
def dL_law_8 := edL_law_0.2.2.2.2.1
def dL_law_11 := edL_law_0.2.2.2.2.2.1
def dL_law_12 := edL_law_0.2.2.2.2.2.2.1
def dL_law_15 := edL_law_0.2.2.2.2.2.2.2.1
def dL_law_16 := edL_law_0.2.2.2.2.2.2.2.2.1
def dL_law_17 := edL_law_0.2.2.2.2.2.2.2.2.2.1
def dL_law_18 := edL_law_0.2.2.2.2.2.2.2.2.2.2.1
def dL_law_19 := edL_law_0.2.2.2.2.2.2.2.2.2.2.2.1
def dL_law_20 := edL_law_0.2.2.2.2.2.2.2.2.2.2.2.2.1
def dL_law_21 := edL_law_0.2.2.2.2.2.2.2.2.2.2.2.2.2.1
def dL_law_23 := edL_law_0.2.2.2.2.2.2.2.2.2.2.2.2.2.2.1
def dL_law_24 := edL_law_0.2.2.2.2.2.2.2.2.2.2.2.2.2.2.2
theorem edL_law_27 : (decode cL_law 27 = .ok (.aload_n 0, 1)) ∧ (decode cL_law 28 = .ok (.iload_n 3, 1)) ∧ (decode cL_law 29 = .ok (.iaload, 1)) ∧ (decode cL_law 30 = .ok (.bipush 31, 2)) ∧ (decode cL_law 32 = .ok (.iand, 1)) ∧ (decode cL_law 33 = .ok (.tableswitch 1101 0 29 #[135, 168, 211, 254, 317, 350, 383, 432, 475, 508, 531, 554, 577, 600, 653, 666, 679, 722, 735, 758, 801, 824, 867, 910, 973, 996, 1019, 1052, 1065, 1078], 135)) ∧ (decode cL_law 168 = .ok (.aload_n 1, 1)) ∧ (decode cL_law 169 = .ok (.aload_n 0, 1)) ∧ (decode cL_law 170 = .ok (.iload_n 3, 1)) ∧ (decode cL_law 171 = .ok (.iconst 1, 1)) ∧ (decode cL_law 172 = .ok (.iadd, 1)) ∧ (decode cL_law 173 = .ok (.iaload, 1)) ∧ (decode cL_law 174 = .ok (.aload_n 0, 1)) ∧ (decode cL_law 175 = .ok (.iload_n 3, 1)) ∧ (decode cL_law 176 = .ok (.iconst 2, 1)) ∧ (decode cL_law 177 = .ok (.iadd, 1)) := by decide +kernel
def dL_law_27 := edL_law_27.1
def dL_law_28 := edL_law_27.2.1
def dL_law_29 := edL_law_27.2.2.1
def dL_law_30 := edL_law_27.2.2.2.1
def dL_law_32 := edL_law_27.2.2.2.2.1
def dL_law_33 := edL_law_27.2.2.2.2.2.1
def dL_law_168 := edL_law_27.2.2.2.2.2.2.1
def dL_law_169 := edL_law_27.2.2.2.2.2.2.2.1
def dL_law_170 := edL_law_27.2.2.2.2.2.2.2.2.1
def dL_law_171 := edL_law_27.2.2.2.2.2.2.2.2.2.1
def dL_law_172 := edL_law_27.2.2.2.2.2.2.2.2.2.2.1
def dL_law_173 := edL_law_27.2.2.2.2.2.2.2.2.2.2.2.1
def dL_law_174 := edL_law_27.2.2.2.2.2.2.2.2.2.2.2.2.1
def dL_law_175 := edL_law_27.2.2.2.2.2.2.2.2.2.2.2.2.2.1
def dL_law_176 := edL_law_27.2.2.2.2.2.2.2.2.2.2.2.2.2.2.1
def dL_law_177 := edL_law_27.2.2.2.2.2.2.2.2.2.2.2.2.2.2.2
theorem edL_law_178 : (decode cL_law 178 = .ok (.iaload, 1)) ∧ (decode cL_law 179 = .ok (.invokevirtual 13, 3)) ∧ (decode cL_law 182 = .ok (.pop, 1)) ∧ (decode cL_law 183 = .ok (.aload_n 2, 1)) ∧ (decode cL_law 184 = .ok (.aload_n 0, 1)) ∧ (decode cL_law 185 = .ok (.iload_n 3, 1)) ∧ (decode cL_law 186 = .ok (.iconst 1, 1)) ∧ (decode cL_law 187 = .ok (.iadd, 1)) ∧ (decode cL_law 188 = .ok (.iaload, 1)) ∧ (decode cL_law 189 = .ok (.aload_n 0, 1)) ∧ (decode cL_law 190 = .ok (.iload_n 3, 1)) ∧ (decode cL_law 191 = .ok (.iconst 2, 1)) ∧ (decode cL_law 192 = .ok (.iadd, 1)) ∧ (decode cL_law 193 = .ok (.iaload, 1)) ∧ (decode cL_law 194 = .ok (.invokevirtual 17, 3)) ∧ (decode cL_law 197 = .ok (.pop, 1)) := by decide +kernel
def dL_law_178 := edL_law_178.1
def dL_law_179 := edL_law_178.2.1
def dL_law_182 := edL_law_178.2.2.1
def dL_law_183 := edL_law_178.2.2.2.1
def dL_law_184 := edL_law_178.2.2.2.2.1
def dL_law_185 := edL_law_178.2.2.2.2.2.1
def dL_law_186 := edL_law_178.2.2.2.2.2.2.1
def dL_law_187 := edL_law_178.2.2.2.2.2.2.2.1
def dL_law_188 := edL_law_178.2.2.2.2.2.2.2.2.1
def dL_law_189 := edL_law_178.2.2.2.2.2.2.2.2.2.1
def dL_law_190 := edL_law_178.2.2.2.2.2.2.2.2.2.2.1
def dL_law_191 := edL_law_178.2.2.2.2.2.2.2.2.2.2.2.1
def dL_law_192 := edL_law_178.2.2.2.2.2.2.2.2.2.2.2.2.1
def dL_law_193 := edL_law_178.2.2.2.2.2.2.2.2.2.2.2.2.2.1
def dL_law_194 := edL_law_178.2.2.2.2.2.2.2.2.2.2.2.2.2.2.1
def dL_law_197 := edL_law_178.2.2.2.2.2.2.2.2.2.2.2.2.2.2.2
theorem edL_law_198 : (decode cL_law 198 = .ok (.goto 936, 3)) ∧ (decode cL_law 201 = .ok (.aload_n 1, 1)) ∧ (decode cL_law 202 = .ok (.aload_n 0, 1)) ∧ (decode cL_law 203 = .ok (.iload_n 3, 1)) ∧ (decode cL_law 204 = .ok (.iconst 1, 1)) ∧ (decode cL_law 205 = .ok (.iadd, 1)) ∧ (decode cL_law 206 = .ok (.iaload, 1)) ∧ (decode cL_law 207 = .ok (.aload_n 0, 1)) ∧ (decode cL_law 208 = .ok (.iload_n 3, 1)) ∧ (decode cL_law 209 = .ok (.iconst 2, 1)) ∧ (decode cL_law 210 = .ok (.iadd, 1)) ∧ (decode cL_law 211 = .ok (.iaload, 1)) ∧ (decode cL_law 212 = .ok (.aload_n 0, 1)) ∧ (decode cL_law 213 = .ok (.iload_n 3, 1)) ∧ (decode cL_law 214 = .ok (.iconst 3, 1)) ∧ (decode cL_law 215 = .ok (.iadd, 1)) := by decide +kernel
def dL_law_198 := edL_law_198.1
def dL_law_201 := edL_law_198.2.1
def dL_law_202 := edL_law_198.2.2.1
def dL_law_203 := edL_law_198.2.2.2.1
def dL_law_204 := edL_law_198.2.2.2.2.1
def dL_law_205 := edL_law_198.2.2.2.2.2.1
def dL_law_206 := edL_law_198.2.2.2.2.2.2.1
def dL_law_207 := edL_law_198.2.2.2.2.2.2.2.1
def dL_law_208 := edL_law_198.2.2.2.2.2.2.2.2.1
def dL_law_209 := edL_law_198.2.2.2.2.2.2.2.2.2.1
def dL_law_210 := edL_law_198.2.2.2.2.2.2.2.2.2.2.1
def dL_law_211 := edL_law_198.2.2.2.2.2.2.2.2.2.2.2.1
def dL_law_212 := edL_law_198.2.2.2.2.2.2.2.2.2.2.2.2.1
def dL_law_213 := edL_law_198.2.2.2.2.2.2.2.2.2.2.2.2.2.1
def dL_law_214 := edL_law_198.2.2.2.2.2.2.2.2.2.2.2.2.2.2.1
def dL_law_215 := edL_law_198.2.2.2.2.2.2.2.2.2.2.2.2.2.2.2
theorem edL_law_216 : (decode cL_law 216 = .ok (.iaload, 1)) ∧ (decode cL_law 217 = .ok (.invokevirtual 18, 3)) ∧ (decode cL_law 220 = .ok (.pop, 1)) ∧ (decode cL_law 221 = .ok (.aload_n 2, 1)) ∧ (decode cL_law 222 = .ok (.aload_n 0, 1)) ∧ (decode cL_law 223 = .ok (.iload_n 3, 1)) ∧ (decode cL_law 224 = .ok (.iconst 1, 1)) ∧ (decode cL_law 225 = .ok (.iadd, 1)) ∧ (decode cL_law 226 = .ok (.iaload, 1)) ∧ (decode cL_law 227 = .ok (.aload_n 0, 1)) ∧ (decode cL_law 228 = .ok (.iload_n 3, 1)) ∧ (decode cL_law 229 = .ok (.iconst 2, 1)) ∧ (decode cL_law 230 = .ok (.iadd, 1)) ∧ (decode cL_law 231 = .ok (.iaload, 1)) ∧ (decode cL_law 232 = .ok (.aload_n 0, 1)) ∧ (decode cL_law 233 = .ok (.iload_n 3, 1)) := by decide +kernel
def dL_law_216 := edL_law_216.1
def dL_law_217 := edL_law_216.2.1
def dL_law_220 := edL_law_216.2.2.1
def dL_law_221 := edL_law_216.2.2.2.1
def dL_law_222 := edL_law_216.2.2.2.2.1
def dL_law_223 := edL_law_216.2.2.2.2.2.1
def dL_law_224 := edL_law_216.2.2.2.2.2.2.1
def dL_law_225 := edL_law_216.2.2.2.2.2.2.2.1
def dL_law_226 := edL_law_216.2.2.2.2.2.2.2.2.1
def dL_law_227 := edL_law_216.2.2.2.2.2.2.2.2.2.1
def dL_law_228 := edL_law_216.2.2.2.2.2.2.2.2.2.2.1
def dL_law_229 := edL_law_216.2.2.2.2.2.2.2.2.2.2.2.1
def dL_law_230 := edL_law_216.2.2.2.2.2.2.2.2.2.2.2.2.1
def dL_law_231 := edL_law_216.2.2.2.2.2.2.2.2.2.2.2.2.2.1
def dL_law_232 := edL_law_216.2.2.2.2.2.2.2.2.2.2.2.2.2.2.1
def dL_law_233 := edL_law_216.2.2.2.2.2.2.2.2.2.2.2.2.2.2.2
theorem edL_law_234 : (decode cL_law 234 = .ok (.iconst 3, 1)) ∧ (decode cL_law 235 = .ok (.iadd, 1)) ∧ (decode cL_law 236 = .ok (.iaload, 1)) ∧ (decode cL_law 237 = .ok (.invokevirtual 22, 3)) ∧ (decode cL_law 240 = .ok (.pop, 1)) ∧ (decode cL_law 241 = .ok (.goto 893, 3)) ∧ (decode cL_law 244 = .ok (.aload_n 1, 1)) ∧ (decode cL_law 245 = .ok (.aload_n 0, 1)) ∧ (decode cL_law 246 = .ok (.iload_n 3, 1)) ∧ (decode cL_law 247 = .ok (.iconst 1, 1)) ∧ (decode cL_law 248 = .ok (.iadd, 1)) ∧ (decode cL_law 249 = .ok (.iaload, 1)) ∧ (decode cL_law 250 = .ok (.aload_n 0, 1)) ∧ (decode cL_law 251 = .ok (.iload_n 3, 1)) ∧ (decode cL_law 252 = .ok (.iconst 2, 1)) ∧ (decode cL_law 253 = .ok (.iadd, 1)) := by decide +kernel
def dL_law_234 := edL_law_234.1
def dL_law_235 := edL_law_234.2.1
def dL_law_236 := edL_law_234.2.2.1
def dL_law_237 := edL_law_234.2.2.2.1
def dL_law_240 := edL_law_234.2.2.2.2.1
def dL_law_241 := edL_law_234.2.2.2.2.2.1
def dL_law_244 := edL_law_234.2.2.2.2.2.2.1
def dL_law_245 := edL_law_234.2.2.2.2.2.2.2.1
def dL_law_246 := edL_law_234.2.2.2.2.2.2.2.2.1
def dL_law_247 := edL_law_234.2.2.2.2.2.2.2.2.2.1
def dL_law_248 := edL_law_234.2.2.2.2.2.2.2.2.2.2.1
def dL_law_249 := edL_law_234.2.2.2.2.2.2.2.2.2.2.2.1
def dL_law_250 := edL_law_234.2.2.2.2.2.2.2.2.2.2.2.2.1
def dL_law_251 := edL_law_234.2.2.2.2.2.2.2.2.2.2.2.2.2.1
def dL_law_252 := edL_law_234.2.2.2.2.2.2.2.2.2.2.2.2.2.2.1
def dL_law_253 := edL_law_234.2.2.2.2.2.2.2.2.2.2.2.2.2.2.2
theorem edL_law_254 : (decode cL_law 254 = .ok (.iaload, 1)) ∧ (decode cL_law 255 = .ok (.aload_n 0, 1)) ∧ (decode cL_law 256 = .ok (.iload_n 3, 1)) ∧ (decode cL_law 257 = .ok (.iconst 3, 1)) ∧ (decode cL_law 258 = .ok (.iadd, 1)) ∧ (decode cL_law 259 = .ok (.iaload, 1)) ∧ (decode cL_law 260 = .ok (.invokevirtual 23, 3)) ∧ (decode cL_law 263 = .ok (.aload_n 2, 1)) ∧ (decode cL_law 264 = .ok (.aload_n 0, 1)) ∧ (decode cL_law 265 = .ok (.iload_n 3, 1)) ∧ (decode cL_law 266 = .ok (.iconst 1, 1)) ∧ (decode cL_law 267 = .ok (.iadd, 1)) ∧ (decode cL_law 268 = .ok (.iaload, 1)) ∧ (decode cL_law 269 = .ok (.aload_n 0, 1)) ∧ (decode cL_law 270 = .ok (.iload_n 3, 1)) ∧ (decode cL_law 271 = .ok (.iconst 2, 1)) := by decide +kernel
def dL_law_254 := edL_law_254.1
def dL_law_255 := edL_law_254.2.1
def dL_law_256 := edL_law_254.2.2.1
def dL_law_257 := edL_law_254.2.2.2.1
def dL_law_258 := edL_law_254.2.2.2.2.1
def dL_law_259 := edL_law_254.2.2.2.2.2.1
def dL_law_260 := edL_law_254.2.2.2.2.2.2.1
def dL_law_263 := edL_law_254.2.2.2.2.2.2.2.1
def dL_law_264 := edL_law_254.2.2.2.2.2.2.2.2.1
def dL_law_265 := edL_law_254.2.2.2.2.2.2.2.2.2.1
def dL_law_266 := edL_law_254.2.2.2.2.2.2.2.2.2.2.1
def dL_law_267 := edL_law_254.2.2.2.2.2.2.2.2.2.2.2.1
def dL_law_268 := edL_law_254.2.2.2.2.2.2.2.2.2.2.2.2.1
def dL_law_269 := edL_law_254.2.2.2.2.2.2.2.2.2.2.2.2.2.1
def dL_law_270 := edL_law_254.2.2.2.2.2.2.2.2.2.2.2.2.2.2.1
def dL_law_271 := edL_law_254.2.2.2.2.2.2.2.2.2.2.2.2.2.2.2
theorem edL_law_272 : (decode cL_law 272 = .ok (.iadd, 1)) ∧ (decode cL_law 273 = .ok (.iaload, 1)) ∧ (decode cL_law 274 = .ok (.aload_n 0, 1)) ∧ (decode cL_law 275 = .ok (.iload_n 3, 1)) ∧ (decode cL_law 276 = .ok (.iconst 3, 1)) ∧ (decode cL_law 277 = .ok (.iadd, 1)) ∧ (decode cL_law 278 = .ok (.iaload, 1)) ∧ (decode cL_law 279 = .ok (.invokevirtual 26, 3)) ∧ (decode cL_law 282 = .ok (.if_icmp .eq 852, 3)) ∧ (decode cL_law 285 = .ok (.iconst 0, 1)) ∧ (decode cL_law 286 = .ok (.ireturn, 1)) ∧ (decode cL_law 287 = .ok (.aload_n 1, 1)) ∧ (decode cL_law 288 = .ok (.aload_n 0, 1)) ∧ (decode cL_law 289 = .ok (.iload_n 3, 1)) ∧ (decode cL_law 290 = .ok (.iconst 1, 1)) ∧ (decode cL_law 291 = .ok (.iadd, 1)) := by decide +kernel
def dL_law_272 := edL_law_272.1
def dL_law_273 := edL_law_272.2.1
def dL_law_274 := edL_law_272.2.2.1
def dL_law_275 := edL_law_272.2.2.2.1
def dL_law_276 := edL_law_272.2.2.2.2.1
def dL_law_277 := edL_law_272.2.2.2.2.2.1
def dL_law_278 := edL_law_272.2.2.2.2.2.2.1
def dL_law_279 := edL_law_272.2.2.2.2.2.2.2.1
def dL_law_282 := edL_law_272.2.2.2.2.2.2.2.2.1
def dL_law_287 := edL_law_272.2.2.2.2.2.2.2.2.2.2.2.1
def dL_law_288 := edL_law_272.2.2.2.2.2.2.2.2.2.2.2.2.1
def dL_law_289 := edL_law_272.2.2.2.2.2.2.2.2.2.2.2.2.2.1
def dL_law_290 := edL_law_272.2.2.2.2.2.2.2.2.2.2.2.2.2.2.1
def dL_law_291 := edL_law_272.2.2.2.2.2.2.2.2.2.2.2.2.2.2.2
theorem edL_law_292 : (decode cL_law 292 = .ok (.iaload, 1)) ∧ (decode cL_law 293 = .ok (.aload_n 0, 1)) ∧ (decode cL_law 294 = .ok (.iload_n 3, 1)) ∧ (decode cL_law 295 = .ok (.iconst 2, 1)) ∧ (decode cL_law 296 = .ok (.iadd, 1)) ∧ (decode cL_law 297 = .ok (.iaload, 1)) ∧ (decode cL_law 298 = .ok (.aload_n 0, 1)) ∧ (decode cL_law 299 = .ok (.iload_n 3, 1)) ∧ (decode cL_law 300 = .ok (.iconst 3, 1)) ∧ (decode cL_law 301 = .ok (.iadd, 1)) ∧ (decode cL_law 302 = .ok (.iaload, 1)) ∧ (decode cL_law 303 = .ok (.aload_n 0, 1)) ∧ (decode cL_law 304 = .ok (.iload_n 3, 1)) ∧ (decode cL_law 305 = .ok (.iconst 4, 1)) ∧ (decode cL_law 306 = .ok (.iadd, 1)) ∧ (decode cL_law 307 = .ok (.iaload, 1)) := by decide +kernel
def dL_law_292 := edL_law_292.1
def dL_law_293 := edL_law_292.2.1
def dL_law_294 := edL_law_292.2.2.1
def dL_law_295 := edL_law_292.2.2.2.1
def dL_law_296 := edL_law_292.2.2.2.2.1
def dL_law_297 := edL_law_292.2.2.2.2.2.1
def dL_law_298 := edL_law_292.2.2.2.2.2.2.1
def dL_law_299 := edL_law_292.2.2.2.2.2.2.2.1
def dL_law_300 := edL_law_292.2.2.2.2.2.2.2.2.1
def dL_law_301 := edL_law_292.2.2.2.2.2.2.2.2.2.1
def dL_law_302 := edL_law_292.2.2.2.2.2.2.2.2.2.2.1
def dL_law_303 := edL_law_292.2.2.2.2.2.2.2.2.2.2.2.1
def dL_law_304 := edL_law_292.2.2.2.2.2.2.2.2.2.2.2.2.1
def dL_law_305 := edL_law_292.2.2.2.2.2.2.2.2.2.2.2.2.2.1
def dL_law_306 := edL_law_292.2.2.2.2.2.2.2.2.2.2.2.2.2.2.1
def dL_law_307 := edL_law_292.2.2.2.2.2.2.2.2.2.2.2.2.2.2.2
theorem edL_law_308 : (decode cL_law 308 = .ok (.aload_n 0, 1)) ∧ (decode cL_law 309 = .ok (.iload_n 3, 1)) ∧ (decode cL_law 310 = .ok (.iconst 5, 1)) ∧ (decode cL_law 311 = .ok (.iadd, 1)) ∧ (decode cL_law 312 = .ok (.iaload, 1)) ∧ (decode cL_law 313 = .ok (.invokevirtual 27, 3)) ∧ (decode cL_law 316 = .ok (.pop, 1)) ∧ (decode cL_law 317 = .ok (.aload_n 2, 1)) ∧ (decode cL_law 318 = .ok (.aload_n 0, 1)) ∧ (decode cL_law 319 = .ok (.iload_n 3, 1)) ∧ (decode cL_law 320 = .ok (.iconst 1, 1)) ∧ (decode cL_law 321 = .ok (.iadd, 1)) ∧ (decode cL_law 322 = .ok (.iaload, 1)) ∧ (decode cL_law 323 = .ok (.aload_n 0, 1)) ∧ (decode cL_law 324 = .ok (.iload_n 3, 1)) ∧ (decode cL_law 325 = .ok (.iconst 2, 1)) := by decide +kernel
def dL_law_308 := edL_law_308.1
def dL_law_309 := edL_law_308.2.1
def dL_law_310 := edL_law_308.2.2.1
def dL_law_311 := edL_law_308.2.2.2.1
def dL_law_312 := edL_law_308.2.2.2.2.1
def dL_law_313 := edL_law_308.2.2.2.2.2.1
def dL_law_316 := edL_law_308.2.2.2.2.2.2.1
def dL_law_317 := edL_law_308.2.2.2.2.2.2.2.1
def dL_law_318 := edL_law_308.2.2.2.2.2.2.2.2.1
def dL_law_319 := edL_law_308.2.2.2.2.2.2.2.2.2.1
def dL_law_320 := edL_law_308.2.2.2.2.2.2.2.2.2.2.1
def dL_law_321 := edL_law_308.2.2.2.2.2.2.2.2.2.2.2.1
def dL_law_322 := edL_law_308.2.2.2.2.2.2.2.2.2.2.2.2.1
def dL_law_323 := edL_law_308.2.2.2.2.2.2.2.2.2.2.2.2.2.1
def dL_law_324 := edL_law_308.2.2.2.2.2.2.2.2.2.2.2.2.2.2.1
def dL_law_325 := edL_law_308.2.2.2.2.2.2.2.2.2.2.2.2.2.2.2
theorem edL_law_326 : (decode cL_law 326 = .ok (.iadd, 1)) ∧ (decode cL_law 327 = .ok (.iaload, 1)) ∧ (decode cL_law 328 = .ok (.aload_n 0, 1)) ∧ (decode cL_law 329 = .ok (.iload_n 3, 1)) ∧ (decode cL_law 330 = .ok (.iconst 3, 1)) ∧ (decode cL_law 331 = .ok (.iadd, 1)) ∧ (decode cL_law 332 = .ok (.iaload, 1)) ∧ (decode cL_law 333 = .ok (.aload_n 0, 1)) ∧ (decode cL_law 334 = .ok (.iload_n 3, 1)) ∧ (decode cL_law 335 = .ok (.iconst 4, 1)) ∧ (decode cL_law 336 = .ok (.iadd, 1)) ∧ (decode cL_law 337 = .ok (.iaload, 1)) ∧ (decode cL_law 338 = .ok (.aload_n 0, 1)) ∧ (decode cL_law 339 = .ok (.iload_n 3, 1)) ∧ (decode cL_law 340 = .ok (.iconst 5, 1)) ∧ (decode cL_law 341 = .ok (.iadd, 1)) := by decide +kernel
def dL_law_326 := edL_law_326.1
def dL_law_327 := edL_law_326.2.1
def dL_law_328 := edL_law_326.2.2.1
def dL_law_329 := edL_law_326.2.2.2.1
def dL_law_330 := edL_law_326.2.2.2.2.1
def dL_law_331 := edL_law_326.2.2.2.2.2.1
def dL_law_332 := edL_law_326.2.2.2.2.2.2.1
def dL_law_333 := edL_law_326.2.2.2.2.2.2.2.1
def dL_law_334 := edL_law_326.2.2.2.2.2.2.2.2.1
def dL_law_335 := edL_law_326.2.2.2.2.2.2.2.2.2.1
def dL_law_336 := edL_law_326.2.2.2.2.2.2.2.2.2.2.1
def dL_law_337 := edL_law_326.2.2.2.2.2.2.2.2.2.2.2.1
def dL_law_338 := edL_law_326.2.2.2.2.2.2.2.2.2.2.2.2.1
def dL_law_339 := edL_law_326.2.2.2.2.2.2.2.2.2.2.2.2.2.1
def dL_law_340 := edL_law_326.2.2.2.2.2.2.2.2.2.2.2.2.2.2.1
def dL_law_341 := edL_law_326.2.2.2.2.2.2.2.2.2.2.2.2.2.2.2
theorem edL_law_342 : (decode cL_law 342 = .ok (.iaload, 1)) ∧ (decode cL_law 343 = .ok (.invokevirtual 31, 3)) ∧ (decode cL_law 346 = .ok (.pop, 1)) ∧ (decode cL_law 347 = .ok (.goto 787, 3)) ∧ (decode cL_law 350 = .ok (.aload_n 1, 1)) ∧ (decode cL_law 351 = .ok (.aload_n 0, 1)) ∧ (decode cL_law 352 = .ok (.iload_n 3, 1)) ∧ (decode cL_law 353 = .ok (.iconst 1, 1)) ∧ (decode cL_law 354 = .ok (.iadd, 1)) ∧ (decode cL_law 355 = .ok (.iaload, 1)) ∧ (decode cL_law 356 = .ok (.aload_n 0, 1)) ∧ (decode cL_law 357 = .ok (.iload_n 3, 1)) ∧ (decode cL_law 358 = .ok (.iconst 2, 1)) ∧ (decode cL_law 359 = .ok (.iadd, 1)) ∧ (decode cL_law 360 = .ok (.iaload, 1)) ∧ (decode cL_law 361 = .ok (.invokevirtual 32, 3)) := by decide +kernel
def dL_law_342 := edL_law_342.1
def dL_law_343 := edL_law_342.2.1
def dL_law_346 := edL_law_342.2.2.1
def dL_law_347 := edL_law_342.2.2.2.1
def dL_law_350 := edL_law_342.2.2.2.2.1
def dL_law_351 := edL_law_342.2.2.2.2.2.1
def dL_law_352 := edL_law_342.2.2.2.2.2.2.1
def dL_law_353 := edL_law_342.2.2.2.2.2.2.2.1
def dL_law_354 := edL_law_342.2.2.2.2.2.2.2.2.1
def dL_law_355 := edL_law_342.2.2.2.2.2.2.2.2.2.1
def dL_law_356 := edL_law_342.2.2.2.2.2.2.2.2.2.2.1
def dL_law_357 := edL_law_342.2.2.2.2.2.2.2.2.2.2.2.1
def dL_law_358 := edL_law_342.2.2.2.2.2.2.2.2.2.2.2.2.1
def dL_law_359 := edL_law_342.2.2.2.2.2.2.2.2.2.2.2.2.2.1
def dL_law_360 := edL_law_342.2.2.2.2.2.2.2.2.2.2.2.2.2.2.1
def dL_law_361 := edL_law_342.2.2.2.2.2.2.2.2.2.2.2.2.2.2.2
theorem edL_law_364 : (decode cL_law 364 = .ok (.pop, 1)) ∧ (decode cL_law 365 = .ok (.aload_n 2, 1)) ∧ (decode cL_law 366 = .ok (.aload_n 0, 1)) ∧ (decode cL_law 367 = .ok (.iload_n 3, 1)) ∧ (decode cL_law 368 = .ok (.iconst 1, 1)) ∧ (decode cL_law 369 = .ok (.iadd, 1)) ∧ (decode cL_law 370 = .ok (.iaload, 1)) ∧ (decode cL_law 371 = .ok (.aload_n 0, 1)) ∧ (decode cL_law 372 = .ok (.iload_n 3, 1)) ∧ (decode cL_law 373 = .ok (.iconst 2, 1)) ∧ (decode cL_law 374 = .ok (.iadd, 1)) ∧ (decode cL_law 375 = .ok (.iaload, 1)) ∧ (decode cL_law 376 = .ok (.invokevirtual 35, 3)) ∧ (decode cL_law 379 = .ok (.pop, 1)) ∧ (decode cL_law 380 = .ok (.goto 754, 3)) ∧ (decode cL_law 383 = .ok (.aload_n 1, 1)) := by decide +kernel
def dL_law_364 := edL_law_364.1
def dL_law_365 := edL_law_364.2.1
def dL_law_366 := edL_law_364.2.2.1
def dL_law_367 := edL_law_364.2.2.2.1
def dL_law_368 := edL_law_364.2.2.2.2.1
def dL_law_369 := edL_law_364.2.2.2.2.2.1
def dL_law_370 := edL_law_364.2.2.2.2.2.2.1
def dL_law_371 := edL_law_364.2.2.2.2.2.2.2.1
def dL_law_372 := edL_law_364.2.2.2.2.2.2.2.2.1
def dL_law_373 := edL_law_364.2.2.2.2.2.2.2.2.2.1
def dL_law_374 := edL_law_364.2.2.2.2.2.2.2.2.2.2.1
def dL_law_375 := edL_law_364.2.2.2.2.2.2.2.2.2.2.2.1
def dL_law_376 := edL_law_364.2.2.2.2.2.2.2.2.2.2.2.2.1
def dL_law_379 := edL_law_364.2.2.2.2.2.2.2.2.2.2.2.2.2.1
def dL_law_380 := edL_law_364.2.2.2.2.2.2.2.2.2.2.2.2.2.2.1
def dL_law_383 := edL_law_364.2.2.2.2.2.2.2.2.2.2.2.2.2.2.2
theorem edL_law_384 : (decode cL_law 384 = .ok (.aload_n 0, 1)) ∧ (decode cL_law 385 = .ok (.iload_n 3, 1)) ∧ (decode cL_law 386 = .ok (.iconst 1, 1)) ∧ (decode cL_law 387 = .ok (.iadd, 1)) ∧ (decode cL_law 388 = .ok (.iaload, 1)) ∧ (decode cL_law 389 = .ok (.aload_n 0, 1)) ∧ (decode cL_law 390 = .ok (.iload_n 3, 1)) ∧ (decode cL_law 391 = .ok (.iconst 2, 1)) ∧ (decode cL_law 392 = .ok (.iadd, 1)) ∧ (decode cL_law 393 = .ok (.iaload, 1)) ∧ (decode cL_law 394 = .ok (.invokevirtual 36, 3)) ∧ (decode cL_law 397 = .ok (.pop, 1)) ∧ (decode cL_law 398 = .ok (.aload_n 2, 1)) ∧ (decode cL_law 399 = .ok (.aload_n 0, 1)) ∧ (decode cL_law 400 = .ok (.iload_n 3, 1)) ∧ (decode cL_law 401 = .ok (.iconst 1, 1)) := by decide +kernel
def dL_law_384 := edL_law_384.1
def dL_law_385 := edL_law_384.2.1
def dL_law_386 := edL_law_384.2.2.1
def dL_law_387 := edL_law_384.2.2.2.1
def dL_law_388 := edL_law_384.2.2.2.2.1
def dL_law_389 := edL_law_384.2.2.2.2.2.1
def dL_law_390 := edL_law_384.2.2.2.2.2.2.1
def dL_law_391 := edL_law_384.2.2.2.2.2.2.2.1
def dL_law_392 := edL_law_384.2.2.2.2.2.2.2.2.1
def dL_law_393 := edL_law_384.2.2.2.2.2.2.2.2.2.1
def dL_law_394 := edL_law_384.2.2.2.2.2.2.2.2.2.2.1
def dL_law_397 := edL_law_384.2.2.2.2.2.2.2.2.2.2.2.1
def dL_law_398 := edL_law_384.2.2.2.2.2.2.2.2.2.2.2.2.1
def dL_law_399 := edL_law_384.2.2.2.2.2.2.2.2.2.2.2.2.2.1
def dL_law_400 := edL_law_384.2.2.2.2.2.2.2.2.2.2.2.2.2.2.1
def dL_law_401 := edL_law_384.2.2.2.2.2.2.2.2.2.2.2.2.2.2.2
theorem edL_law_402 : (decode cL_law 402 = .ok (.iadd, 1)) ∧ (decode cL_law 403 = .ok (.iaload, 1)) ∧ (decode cL_law 404 = .ok (.aload_n 0, 1)) ∧ (decode cL_law 405 = .ok (.iload_n 3, 1)) ∧ (decode cL_law 406 = .ok (.iconst 2, 1)) ∧ (decode cL_law 407 = .ok (.iadd, 1)) ∧ (decode cL_law 408 = .ok (.iaload, 1)) ∧ (decode cL_law 409 = .ok (.invokevirtual 39, 3)) ∧ (decode cL_law 412 = .ok (.pop, 1)) ∧ (decode cL_law 413 = .ok (.goto 721, 3)) ∧ (decode cL_law 416 = .ok (.aload_n 1, 1)) ∧ (decode cL_law 417 = .ok (.aload_n 0, 1)) ∧ (decode cL_law 418 = .ok (.iload_n 3, 1)) ∧ (decode cL_law 419 = .ok (.iconst 1, 1)) ∧ (decode cL_law 420 = .ok (.iadd, 1)) ∧ (decode cL_law 421 = .ok (.iaload, 1)) := by decide +kernel
def dL_law_402 := edL_law_402.1
def dL_law_403 := edL_law_402.2.1
def dL_law_404 := edL_law_402.2.2.1
def dL_law_405 := edL_law_402.2.2.2.1
def dL_law_406 := edL_law_402.2.2.2.2.1
def dL_law_407 := edL_law_402.2.2.2.2.2.1
def dL_law_408 := edL_law_402.2.2.2.2.2.2.1
def dL_law_409 := edL_law_402.2.2.2.2.2.2.2.1
def dL_law_412 := edL_law_402.2.2.2.2.2.2.2.2.1
def dL_law_413 := edL_law_402.2.2.2.2.2.2.2.2.2.1
def dL_law_416 := edL_law_402.2.2.2.2.2.2.2.2.2.2.1
def dL_law_417 := edL_law_402.2.2.2.2.2.2.2.2.2.2.2.1
def dL_law_418 := edL_law_402.2.2.2.2.2.2.2.2.2.2.2.2.1
def dL_law_419 := edL_law_402.2.2.2.2.2.2.2.2.2.2.2.2.2.1
def dL_law_420 := edL_law_402.2.2.2.2.2.2.2.2.2.2.2.2.2.2.1
def dL_law_421 := edL_law_402.2.2.2.2.2.2.2.2.2.2.2.2.2.2.2
theorem edL_law_422 : (decode cL_law 422 = .ok (.aload_n 0, 1)) ∧ (decode cL_law 423 = .ok (.iload_n 3, 1)) ∧ (decode cL_law 424 = .ok (.iconst 2, 1)) ∧ (decode cL_law 425 = .ok (.iadd, 1)) ∧ (decode cL_law 426 = .ok (.iaload, 1)) ∧ (decode cL_law 427 = .ok (.ifCond .eq 7, 3)) ∧ (decode cL_law 430 = .ok (.iconst 1, 1)) ∧ (decode cL_law 431 = .ok (.goto 4, 3)) ∧ (decode cL_law 434 = .ok (.iconst 0, 1)) ∧ (decode cL_law 435 = .ok (.invokevirtual 40, 3)) ∧ (decode cL_law 438 = .ok (.pop, 1)) ∧ (decode cL_law 439 = .ok (.aload_n 2, 1)) ∧ (decode cL_law 440 = .ok (.aload_n 0, 1)) ∧ (decode cL_law 441 = .ok (.iload_n 3, 1)) ∧ (decode cL_law 442 = .ok (.iconst 1, 1)) ∧ (decode cL_law 443 = .ok (.iadd, 1)) := by decide +kernel
def dL_law_422 := edL_law_422.1
def dL_law_423 := edL_law_422.2.1
def dL_law_424 := edL_law_422.2.2.1
def dL_law_425 := edL_law_422.2.2.2.1
def dL_law_426 := edL_law_422.2.2.2.2.1
def dL_law_427 := edL_law_422.2.2.2.2.2.1
def dL_law_430 := edL_law_422.2.2.2.2.2.2.1
def dL_law_431 := edL_law_422.2.2.2.2.2.2.2.1
def dL_law_434 := edL_law_422.2.2.2.2.2.2.2.2.1
def dL_law_435 := edL_law_422.2.2.2.2.2.2.2.2.2.1
def dL_law_438 := edL_law_422.2.2.2.2.2.2.2.2.2.2.1
def dL_law_439 := edL_law_422.2.2.2.2.2.2.2.2.2.2.2.1
def dL_law_440 := edL_law_422.2.2.2.2.2.2.2.2.2.2.2.2.1
def dL_law_441 := edL_law_422.2.2.2.2.2.2.2.2.2.2.2.2.2.1
def dL_law_442 := edL_law_422.2.2.2.2.2.2.2.2.2.2.2.2.2.2.1
def dL_law_443 := edL_law_422.2.2.2.2.2.2.2.2.2.2.2.2.2.2.2
theorem edL_law_444 : (decode cL_law 444 = .ok (.iaload, 1)) ∧ (decode cL_law 445 = .ok (.aload_n 0, 1)) ∧ (decode cL_law 446 = .ok (.iload_n 3, 1)) ∧ (decode cL_law 447 = .ok (.iconst 2, 1)) ∧ (decode cL_law 448 = .ok (.iadd, 1)) ∧ (decode cL_law 449 = .ok (.iaload, 1)) ∧ (decode cL_law 450 = .ok (.ifCond .eq 7, 3)) ∧ (decode cL_law 453 = .ok (.iconst 1, 1)) ∧ (decode cL_law 454 = .ok (.goto 4, 3)) ∧ (decode cL_law 457 = .ok (.iconst 0, 1)) ∧ (decode cL_law 458 = .ok (.invokevirtual 44, 3)) ∧ (decode cL_law 461 = .ok (.pop, 1)) ∧ (decode cL_law 462 = .ok (.goto 672, 3)) ∧ (decode cL_law 465 = .ok (.aload_n 1, 1)) ∧ (decode cL_law 466 = .ok (.aload_n 0, 1)) ∧ (decode cL_law 467 = .ok (.iload_n 3, 1)) := by decide +kernel
def dL_law_444 := edL_law_444.1
def dL_law_445 := edL_law_444.2.1
def dL_law_446 := edL_law_444.2.2.1
def dL_law_447 := edL_law_444.2.2.2.1
def dL_law_448 := edL_law_444.2.2.2.2.1
def dL_law_449 := edL_law_444.2.2.2.2.2.1
def dL_law_450 := edL_law_444.2.2.2.2.2.2.1
def dL_law_453 := edL_law_444.2.2.2.2.2.2.2.1
def dL_law_454 := edL_law_444.2.2.2.2.2.2.2.2.1
def dL_law_457 := edL_law_444.2.2.2.2.2.2.2.2.2.1
def dL_law_458 := edL_law_444.2.2.2.2.2.2.2.2.2.2.1
def dL_law_461 := edL_law_444.2.2.2.2.2.2.2.2.2.2.2.1
def dL_law_462 := edL_law_444.2.2.2.2.2.2.2.2.2.2.2.2.1
def dL_law_465 := edL_law_444.2.2.2.2.2.2.2.2.2.2.2.2.2.1
def dL_law_466 := edL_law_444.2.2.2.2.2.2.2.2.2.2.2.2.2.2.1
def dL_law_467 := edL_law_444.2.2.2.2.2.2.2.2.2.2.2.2.2.2.2
theorem edL_law_468 : (decode cL_law 468 = .ok (.iconst 1, 1)) ∧ (decode cL_law 469 = .ok (.iadd, 1)) ∧ (decode cL_law 470 = .ok (.iaload, 1)) ∧ (decode cL_law 471 = .ok (.aload_n 0, 1)) ∧ (decode cL_law 472 = .ok (.iload_n 3, 1)) ∧ (decode cL_law 473 = .ok (.iconst 2, 1)) ∧ (decode cL_law 474 = .ok (.iadd, 1)) ∧ (decode cL_law 475 = .ok (.iaload, 1)) ∧ (decode cL_law 476 = .ok (.aload_n 0, 1)) ∧ (decode cL_law 477 = .ok (.iload_n 3, 1)) ∧ (decode cL_law 478 = .ok (.iconst 3, 1)) ∧ (decode cL_law 479 = .ok (.iadd, 1)) ∧ (decode cL_law 480 = .ok (.iaload, 1)) ∧ (decode cL_law 481 = .ok (.invokevirtual 45, 3)) ∧ (decode cL_law 484 = .ok (.pop, 1)) ∧ (decode cL_law 485 = .ok (.aload_n 2, 1)) := by decide +kernel
def dL_law_468 := edL_law_468.1
def dL_law_469 := edL_law_468.2.1
def dL_law_470 := edL_law_468.2.2.1
def dL_law_471 := edL_law_468.2.2.2.1
def dL_law_472 := edL_law_468.2.2.2.2.1
def dL_law_473 := edL_law_468.2.2.2.2.2.1
def dL_law_474 := edL_law_468.2.2.2.2.2.2.1
def dL_law_475 := edL_law_468.2.2.2.2.2.2.2.1
def dL_law_476 := edL_law_468.2.2.2.2.2.2.2.2.1
def dL_law_477 := edL_law_468.2.2.2.2.2.2.2.2.2.1
def dL_law_478 := edL_law_468.2.2.2.2.2.2.2.2.2.2.1
def dL_law_479 := edL_law_468.2.2.2.2.2.2.2.2.2.2.2.1
def dL_law_480 := edL_law_468.2.2.2.2.2.2.2.2.2.2.2.2.1
def dL_law_481 := edL_law_468.2.2.2.2.2.2.2.2.2.2.2.2.2.1
def dL_law_484 := edL_law_468.2.2.2.2.2.2.2.2.2.2.2.2.2.2.1
def dL_law_485 := edL_law_468.2.2.2.2.2.2.2.2.2.2.2.2.2.2.2
theorem edL_law_486 : (decode cL_law 486 = .ok (.aload_n 0, 1)) ∧ (decode cL_law 487 = .ok (.iload_n 3, 1)) ∧ (decode cL_law 488 = .ok (.iconst 1, 1)) ∧ (decode cL_law 489 = .ok (.iadd, 1)) ∧ (decode cL_law 490 = .ok (.iaload, 1)) ∧ (decode cL_law 491 = .ok (.aload_n 0, 1)) ∧ (decode cL_law 492 = .ok (.iload_n 3, 1)) ∧ (decode cL_law 493 = .ok (.iconst 2, 1)) ∧ (decode cL_law 494 = .ok (.iadd, 1)) ∧ (decode cL_law 495 = .ok (.iaload, 1)) ∧ (decode cL_law 496 = .ok (.aload_n 0, 1)) ∧ (decode cL_law 497 = .ok (.iload_n 3, 1)) ∧ (decode cL_law 498 = .ok (.iconst 3, 1)) ∧ (decode cL_law 499 = .ok (.iadd, 1)) ∧ (decode cL_law 500 = .ok (.iaload, 1)) ∧ (decode cL_law 501 = .ok (.invokevirtual 48, 3)) := by decide +kernel
def dL_law_486 := edL_law_486.1
def dL_law_487 := edL_law_486.2.1
def dL_law_488 := edL_law_486.2.2.1
def dL_law_489 := edL_law_486.2.2.2.1
def dL_law_490 := edL_law_486.2.2.2.2.1
def dL_law_491 := edL_law_486.2.2.2.2.2.1
def dL_law_492 := edL_law_486.2.2.2.2.2.2.1
def dL_law_493 := edL_law_486.2.2.2.2.2.2.2.1
def dL_law_494 := edL_law_486.2.2.2.2.2.2.2.2.1
def dL_law_495 := edL_law_486.2.2.2.2.2.2.2.2.2.1
def dL_law_496 := edL_law_486.2.2.2.2.2.2.2.2.2.2.1
def dL_law_497 := edL_law_486.2.2.2.2.2.2.2.2.2.2.2.1
def dL_law_498 := edL_law_486.2.2.2.2.2.2.2.2.2.2.2.2.1
def dL_law_499 := edL_law_486.2.2.2.2.2.2.2.2.2.2.2.2.2.1
def dL_law_500 := edL_law_486.2.2.2.2.2.2.2.2.2.2.2.2.2.2.1
def dL_law_501 := edL_law_486.2.2.2.2.2.2.2.2.2.2.2.2.2.2.2
theorem edL_law_504 : (decode cL_law 504 = .ok (.pop, 1)) ∧ (decode cL_law 505 = .ok (.goto 629, 3)) ∧ (decode cL_law 508 = .ok (.aload_n 1, 1)) ∧ (decode cL_law 509 = .ok (.aload_n 0, 1)) ∧ (decode cL_law 510 = .ok (.iload_n 3, 1)) ∧ (decode cL_law 511 = .ok (.iconst 1, 1)) ∧ (decode cL_law 512 = .ok (.iadd, 1)) ∧ (decode cL_law 513 = .ok (.iaload, 1)) ∧ (decode cL_law 514 = .ok (.aload_n 0, 1)) ∧ (decode cL_law 515 = .ok (.iload_n 3, 1)) ∧ (decode cL_law 516 = .ok (.iconst 2, 1)) ∧ (decode cL_law 517 = .ok (.iadd, 1)) ∧ (decode cL_law 518 = .ok (.iaload, 1)) ∧ (decode cL_law 519 = .ok (.invokevirtual 49, 3)) ∧ (decode cL_law 522 = .ok (.pop, 1)) ∧ (decode cL_law 523 = .ok (.aload_n 2, 1)) := by decide +kernel
def dL_law_504 := edL_law_504.1
def dL_law_505 := edL_law_504.2.1
def dL_law_508 := edL_law_504.2.2.1
def dL_law_509 := edL_law_504.2.2.2.1
def dL_law_510 := edL_law_504.2.2.2.2.1
def dL_law_511 := edL_law_504.2.2.2.2.2.1
def dL_law_512 := edL_law_504.2.2.2.2.2.2.1
def dL_law_513 := edL_law_504.2.2.2.2.2.2.2.1
def dL_law_514 := edL_law_504.2.2.2.2.2.2.2.2.1
def dL_law_515 := edL_law_504.2.2.2.2.2.2.2.2.2.1
def dL_law_516 := edL_law_504.2.2.2.2.2.2.2.2.2.2.1
def dL_law_517 := edL_law_504.2.2.2.2.2.2.2.2.2.2.2.1
def dL_law_518 := edL_law_504.2.2.2.2.2.2.2.2.2.2.2.2.1
def dL_law_519 := edL_law_504.2.2.2.2.2.2.2.2.2.2.2.2.2.1
def dL_law_522 := edL_law_504.2.2.2.2.2.2.2.2.2.2.2.2.2.2.1
def dL_law_523 := edL_law_504.2.2.2.2.2.2.2.2.2.2.2.2.2.2.2
theorem edL_law_524 : (decode cL_law 524 = .ok (.aload_n 0, 1)) ∧ (decode cL_law 525 = .ok (.iload_n 3, 1)) ∧ (decode cL_law 526 = .ok (.iconst 1, 1)) ∧ (decode cL_law 527 = .ok (.iadd, 1)) ∧ (decode cL_law 528 = .ok (.iaload, 1)) ∧ (decode cL_law 529 = .ok (.aload_n 0, 1)) ∧ (decode cL_law 530 = .ok (.iload_n 3, 1)) ∧ (decode cL_law 531 = .ok (.iconst 2, 1)) ∧ (decode cL_law 532 = .ok (.iadd, 1)) ∧ (decode cL_law 533 = .ok (.iaload, 1)) ∧ (decode cL_law 534 = .ok (.invokevirtual 52, 3)) ∧ (decode cL_law 537 = .ok (.pop, 1)) ∧ (decode cL_law 538 = .ok (.goto 596, 3)) ∧ (decode cL_law 541 = .ok (.aload_n 1, 1)) ∧ (decode cL_law 542 = .ok (.aload_n 0, 1)) ∧ (decode cL_law 543 = .ok (.iload_n 3, 1)) := by decide +kernel
def dL_law_524 := edL_law_524.1
def dL_law_525 := edL_law_524.2.1
def dL_law_526 := edL_law_524.2.2.1
def dL_law_527 := edL_law_524.2.2.2.1
def dL_law_528 := edL_law_524.2.2.2.2.1
def dL_law_529 := edL_law_524.2.2.2.2.2.1
def dL_law_530 := edL_law_524.2.2.2.2.2.2.1
def dL_law_531 := edL_law_524.2.2.2.2.2.2.2.1
def dL_law_532 := edL_law_524.2.2.2.2.2.2.2.2.1
def dL_law_533 := edL_law_524.2.2.2.2.2.2.2.2.2.1
def dL_law_534 := edL_law_524.2.2.2.2.2.2.2.2.2.2.1
def dL_law_537 := edL_law_524.2.2.2.2.2.2.2.2.2.2.2.1
def dL_law_538 := edL_law_524.2.2.2.2.2.2.2.2.2.2.2.2.1
def dL_law_541 := edL_law_524.2.2.2.2.2.2.2.2.2.2.2.2.2.1
def dL_law_542 := edL_law_524.2.2.2.2.2.2.2.2.2.2.2.2.2.2.1
def dL_law_543 := edL_law_524.2.2.2.2.2.2.2.2.2.2.2.2.2.2.2
theorem edL_law_544 : (decode cL_law 544 = .ok (.iconst 1, 1)) ∧ (decode cL_law 545 = .ok (.iadd, 1)) ∧ (decode cL_law 546 = .ok (.iaload, 1)) ∧ (decode cL_law 547 = .ok (.invokevirtual 53, 3)) ∧ (decode cL_law 550 = .ok (.pop, 1)) ∧ (decode cL_law 551 = .ok (.aload_n 2, 1)) ∧ (decode cL_law 552 = .ok (.aload_n 0, 1)) ∧ (decode cL_law 553 = .ok (.iload_n 3, 1)) ∧ (decode cL_law 554 = .ok (.iconst 1, 1)) ∧ (decode cL_law 555 = .ok (.iadd, 1)) ∧ (decode cL_law 556 = .ok (.iaload, 1)) ∧ (decode cL_law 557 = .ok (.invokevirtual 57, 3)) ∧ (decode cL_law 560 = .ok (.pop, 1)) ∧ (decode cL_law 561 = .ok (.goto 573, 3)) ∧ (decode cL_law 564 = .ok (.aload_n 1, 1)) ∧ (decode cL_law 565 = .ok (.aload_n 0, 1)) := by decide +kernel
def dL_law_544 := edL_law_544.1
def dL_law_545 := edL_law_544.2.1
def dL_law_546 := edL_law_544.2.2.1
def dL_law_547 := edL_law_544.2.2.2.1
def dL_law_550 := edL_law_544.2.2.2.2.1
def dL_law_551 := edL_law_544.2.2.2.2.2.1
def dL_law_552 := edL_law_544.2.2.2.2.2.2.1
def dL_law_553 := edL_law_544.2.2.2.2.2.2.2.1
def dL_law_554 := edL_law_544.2.2.2.2.2.2.2.2.1
def dL_law_555 := edL_law_544.2.2.2.2.2.2.2.2.2.1
def dL_law_556 := edL_law_544.2.2.2.2.2.2.2.2.2.2.1
def dL_law_557 := edL_law_544.2.2.2.2.2.2.2.2.2.2.2.1
def dL_law_560 := edL_law_544.2.2.2.2.2.2.2.2.2.2.2.2.1
def dL_law_561 := edL_law_544.2.2.2.2.2.2.2.2.2.2.2.2.2.1
def dL_law_564 := edL_law_544.2.2.2.2.2.2.2.2.2.2.2.2.2.2.1
def dL_law_565 := edL_law_544.2.2.2.2.2.2.2.2.2.2.2.2.2.2.2
theorem edL_law_566 : (decode cL_law 566 = .ok (.iload_n 3, 1)) ∧ (decode cL_law 567 = .ok (.iconst 1, 1)) ∧ (decode cL_law 568 = .ok (.iadd, 1)) ∧ (decode cL_law 569 = .ok (.iaload, 1)) ∧ (decode cL_law 570 = .ok (.invokevirtual 58, 3)) ∧ (decode cL_law 573 = .ok (.pop, 1)) ∧ (decode cL_law 574 = .ok (.aload_n 2, 1)) ∧ (decode cL_law 575 = .ok (.aload_n 0, 1)) ∧ (decode cL_law 576 = .ok (.iload_n 3, 1)) ∧ (decode cL_law 577 = .ok (.iconst 1, 1)) ∧ (decode cL_law 578 = .ok (.iadd, 1)) ∧ (decode cL_law 579 = .ok (.iaload, 1)) ∧ (decode cL_law 580 = .ok (.invokevirtual 61, 3)) ∧ (decode cL_law 583 = .ok (.pop, 1)) ∧ (decode cL_law 584 = .ok (.goto 550, 3)) ∧ (decode cL_law 587 = .ok (.aload_n 1, 1)) := by decide +kernel
def dL_law_566 := edL_law_566.1
def dL_law_567 := edL_law_566.2.1
def dL_law_568 := edL_law_566.2.2.1
def dL_law_569 := edL_law_566.2.2.2.1
def dL_law_570 := edL_law_566.2.2.2.2.1
def dL_law_573 := edL_law_566.2.2.2.2.2.1
def dL_law_574 := edL_law_566.2.2.2.2.2.2.1
def dL_law_575 := edL_law_566.2.2.2.2.2.2.2.1
def dL_law_576 := edL_law_566.2.2.2.2.2.2.2.2.1
def dL_law_577 := edL_law_566.2.2.2.2.2.2.2.2.2.1
def dL_law_578 := edL_law_566.2.2.2.2.2.2.2.2.2.2.1
def dL_law_579 := edL_law_566.2.2.2.2.2.2.2.2.2.2.2.1
def dL_law_580 := edL_law_566.2.2.2.2.2.2.2.2.2.2.2.2.1
def dL_law_583 := edL_law_566.2.2.2.2.2.2.2.2.2.2.2.2.2.1
def dL_law_584 := edL_law_566.2.2.2.2.2.2.2.2.2.2.2.2.2.2.1
def dL_law_587 := edL_law_566.2.2.2.2.2.2.2.2.2.2.2.2.2.2.2
theorem edL_law_588 : (decode cL_law 588 = .ok (.aload_n 0, 1)) ∧ (decode cL_law 589 = .ok (.iload_n 3, 1)) ∧ (decode cL_law 590 = .ok (.iconst 1, 1)) ∧ (decode cL_law 591 = .ok (.iadd, 1)) ∧ (decode cL_law 592 = .ok (.iaload, 1)) ∧ (decode cL_law 593 = .ok (.invokevirtual 62, 3)) ∧ (decode cL_law 596 = .ok (.pop, 1)) ∧ (decode cL_law 597 = .ok (.aload_n 2, 1)) ∧ (decode cL_law 598 = .ok (.aload_n 0, 1)) ∧ (decode cL_law 599 = .ok (.iload_n 3, 1)) ∧ (decode cL_law 600 = .ok (.iconst 1, 1)) ∧ (decode cL_law 601 = .ok (.iadd, 1)) ∧ (decode cL_law 602 = .ok (.iaload, 1)) ∧ (decode cL_law 603 = .ok (.invokevirtual 65, 3)) ∧ (decode cL_law 606 = .ok (.pop, 1)) ∧ (decode cL_law 607 = .ok (.goto 527, 3)) := by decide +kernel
def dL_law_588 := edL_law_588.1
def dL_law_589 := edL_law_588.2.1
def dL_law_590 := edL_law_588.2.2.1
def dL_law_591 := edL_law_588.2.2.2.1
def dL_law_592 := edL_law_588.2.2.2.2.1
def dL_law_593 := edL_law_588.2.2.2.2.2.1
def dL_law_596 := edL_law_588.2.2.2.2.2.2.1
def dL_law_597 := edL_law_588.2.2.2.2.2.2.2.1
def dL_law_598 := edL_law_588.2.2.2.2.2.2.2.2.1
def dL_law_599 := edL_law_588.2.2.2.2.2.2.2.2.2.1
def dL_law_600 := edL_law_588.2.2.2.2.2.2.2.2.2.2.1
def dL_law_601 := edL_law_588.2.2.2.2.2.2.2.2.2.2.2.1
def dL_law_602 := edL_law_588.2.2.2.2.2.2.2.2.2.2.2.2.1
def dL_law_603 := edL_law_588.2.2.2.2.2.2.2.2.2.2.2.2.2.1
def dL_law_606 := edL_law_588.2.2.2.2.2.2.2.2.2.2.2.2.2.2.1
def dL_law_607 := edL_law_588.2.2.2.2.2.2.2.2.2.2.2.2.2.2.2
theorem edL_law_610 : (decode cL_law 610 = .ok (.aload_n 1, 1)) ∧ (decode cL_law 611 = .ok (.aload_n 0, 1)) ∧ (decode cL_law 612 = .ok (.iload_n 3, 1)) ∧ (decode cL_law 613 = .ok (.iconst 1, 1)) ∧ (decode cL_law 614 = .ok (.iadd, 1)) ∧ (decode cL_law 615 = .ok (.iaload, 1)) ∧ (decode cL_law 616 = .ok (.invokevirtual 66, 3)) ∧ (decode cL_law 619 = .ok (.pop2, 1)) ∧ (decode cL_law 620 = .ok (.aload_n 2, 1)) ∧ (decode cL_law 621 = .ok (.aload_n 0, 1)) ∧ (decode cL_law 622 = .ok (.iload_n 3, 1)) ∧ (decode cL_law 623 = .ok (.iconst 1, 1)) ∧ (decode cL_law 624 = .ok (.iadd, 1)) ∧ (decode cL_law 625 = .ok (.iaload, 1)) ∧ (decode cL_law 626 = .ok (.invokevirtual 70, 3)) ∧ (decode cL_law 629 = .ok (.pop2, 1)) := by decide +kernel
def dL_law_610 := edL_law_610.1
def dL_law_611 := edL_law_610.2.1
def dL_law_612 := edL_law_610.2.2.1
def dL_law_613 := edL_law_610.2.2.2.1
def dL_law_614 := edL_law_610.2.2.2.2.1
def dL_law_615 := edL_law_610.2.2.2.2.2.1
def dL_law_616 := edL_law_610.2.2.2.2.2.2.1
def dL_law_619 := edL_law_610.2.2.2.2.2.2.2.1
def dL_law_620 := edL_law_610.2.2.2.2.2.2.2.2.1
def dL_law_621 := edL_law_610.2.2.2.2.2.2.2.2.2.1
def dL_law_622 := edL_law_610.2.2.2.2.2.2.2.2.2.2.1
def dL_law_623 := edL_law_610.2.2.2.2.2.2.2.2.2.2.2.1
def dL_law_624 := edL_law_610.2.2.2.2.2.2.2.2.2.2.2.2.1
def dL_law_625 := edL_law_610.2.2.2.2.2.2.2.2.2.2.2.2.2.1
def dL_law_626 := edL_law_610.2.2.2.2.2.2.2.2.2.2.2.2.2.2.1
def dL_law_629 := edL_law_610.2.2.2.2.2.2.2.2.2.2.2.2.2.2.2
theorem edL_law_630 : (decode cL_law 630 = .ok (.goto 504, 3)) ∧ (decode cL_law 633 = .ok (.aload_n 1, 1)) ∧ (decode cL_law 634 = .ok (.aload_n 0, 1)) ∧ (decode cL_law 635 = .ok (.iload_n 3, 1)) ∧ (decode cL_law 636 = .ok (.iconst 1, 1)) ∧ (decode cL_law 637 = .ok (.iadd, 1)) ∧ (decode cL_law 638 = .ok (.iaload, 1)) ∧ (decode cL_law 639 = .ok (.aload_n 0, 1)) ∧ (decode cL_law 640 = .ok (.iload_n 3, 1)) ∧ (decode cL_law 641 = .ok (.iconst 2, 1)) ∧ (decode cL_law 642 = .ok (.iadd, 1)) ∧ (decode cL_law 643 = .ok (.iaload, 1)) ∧ (decode cL_law 644 = .ok (.aload_n 0, 1)) ∧ (decode cL_law 645 = .ok (.iload_n 3, 1)) ∧ (decode cL_law 646 = .ok (.iconst 3, 1)) ∧ (decode cL_law 647 = .ok (.iadd, 1)) := by decide +kernel
def dL_law_630 := edL_law_630.1
def dL_law_633 := edL_law_630.2.1
def dL_law_634 := edL_law_630.2.2.1
def dL_law_635 := edL_law_630.2.2.2.1
def dL_law_636 := edL_law_630.2.2.2.2.1
def dL_law_637 := edL_law_630.2.2.2.2.2.1
def dL_law_638 := edL_law_630.2.2.2.2.2.2.1
def dL_law_639 := edL_law_630.2.2.2.2.2.2.2.1
def dL_law_640 := edL_law_630.2.2.2.2.2.2.2.2.1
def dL_law_641 := edL_law_630.2.2.2.2.2.2.2.2.2.1
def dL_law_642 := edL_law_630.2.2.2.2.2.2.2.2.2.2.1
def dL_law_643 := edL_law_630.2.2.2.2.2.2.2.2.2.2.2.1
def dL_law_644 := edL_law_630.2.2.2.2.2.2.2.2.2.2.2.2.1
def dL_law_645 := edL_law_630.2.2.2.2.2.2.2.2.2.2.2.2.2.1
def dL_law_646 := edL_law_630.2.2.2.2.2.2.2.2.2.2.2.2.2.2.1
def dL_law_647 := edL_law_630.2.2.2.2.2.2.2.2.2.2.2.2.2.2.2
theorem edL_law_648 : (decode cL_law 648 = .ok (.iaload, 1)) ∧ (decode cL_law 649 = .ok (.aload_n 0, 1)) ∧ (decode cL_law 650 = .ok (.iload_n 3, 1)) ∧ (decode cL_law 651 = .ok (.iconst 4, 1)) ∧ (decode cL_law 652 = .ok (.iadd, 1)) ∧ (decode cL_law 653 = .ok (.iaload, 1)) ∧ (decode cL_law 654 = .ok (.invokevirtual 71, 3)) ∧ (decode cL_law 657 = .ok (.pop, 1)) ∧ (decode cL_law 658 = .ok (.aload_n 2, 1)) ∧ (decode cL_law 659 = .ok (.aload_n 0, 1)) ∧ (decode cL_law 660 = .ok (.iload_n 3, 1)) ∧ (decode cL_law 661 = .ok (.iconst 1, 1)) ∧ (decode cL_law 662 = .ok (.iadd, 1)) ∧ (decode cL_law 663 = .ok (.iaload, 1)) ∧ (decode cL_law 664 = .ok (.aload_n 0, 1)) ∧ (decode cL_law 665 = .ok (.iload_n 3, 1)) := by decide +kernel
def dL_law_648 := edL_law_648.1
def dL_law_649 := edL_law_648.2.1
def dL_law_650 := edL_law_648.2.2.1
def dL_law_651 := edL_law_648.2.2.2.1
def dL_law_652 := edL_law_648.2.2.2.2.1
def dL_law_653 := edL_law_648.2.2.2.2.2.1
def dL_law_654 := edL_law_648.2.2.2.2.2.2.1
def dL_law_657 := edL_law_648.2.2.2.2.2.2.2.1
def dL_law_658 := edL_law_648.2.2.2.2.2.2.2.2.1
def dL_law_659 := edL_law_648.2.2.2.2.2.2.2.2.2.1
def dL_law_660 := edL_law_648.2.2.2.2.2.2.2.2.2.2.1
def dL_law_661 := edL_law_648.2.2.2.2.2.2.2.2.2.2.2.1
def dL_law_662 := edL_law_648.2.2.2.2.2.2.2.2.2.2.2.2.1
def dL_law_663 := edL_law_648.2.2.2.2.2.2.2.2.2.2.2.2.2.1
def dL_law_664 := edL_law_648.2.2.2.2.2.2.2.2.2.2.2.2.2.2.1
def dL_law_665 := edL_law_648.2.2.2.2.2.2.2.2.2.2.2.2.2.2.2
theorem edL_law_666 : (decode cL_law 666 = .ok (.iconst 2, 1)) ∧ (decode cL_law 667 = .ok (.iadd, 1)) ∧ (decode cL_law 668 = .ok (.iaload, 1)) ∧ (decode cL_law 669 = .ok (.aload_n 0, 1)) ∧ (decode cL_law 670 = .ok (.iload_n 3, 1)) ∧ (decode cL_law 671 = .ok (.iconst 3, 1)) ∧ (decode cL_law 672 = .ok (.iadd, 1)) ∧ (decode cL_law 673 = .ok (.iaload, 1)) ∧ (decode cL_law 674 = .ok (.aload_n 0, 1)) ∧ (decode cL_law 675 = .ok (.iload_n 3, 1)) ∧ (decode cL_law 676 = .ok (.iconst 4, 1)) ∧ (decode cL_law 677 = .ok (.iadd, 1)) ∧ (decode cL_law 678 = .ok (.iaload, 1)) ∧ (decode cL_law 679 = .ok (.invokevirtual 75, 3)) ∧ (decode cL_law 682 = .ok (.pop, 1)) ∧ (decode cL_law 683 = .ok (.goto 451, 3)) := by decide +kernel
def dL_law_666 := edL_law_666.1
def dL_law_667 := edL_law_666.2.1
def dL_law_668 := edL_law_666.2.2.1
def dL_law_669 := edL_law_666.2.2.2.1
def dL_law_670 := edL_law_666.2.2.2.2.1
def dL_law_671 := edL_law_666.2.2.2.2.2.1
def dL_law_672 := edL_law_666.2.2.2.2.2.2.1
def dL_law_673 := edL_law_666.2.2.2.2.2.2.2.1
def dL_law_674 := edL_law_666.2.2.2.2.2.2.2.2.1
def dL_law_675 := edL_law_666.2.2.2.2.2.2.2.2.2.1
def dL_law_676 := edL_law_666.2.2.2.2.2.2.2.2.2.2.1
def dL_law_677 := edL_law_666.2.2.2.2.2.2.2.2.2.2.2.1
def dL_law_678 := edL_law_666.2.2.2.2.2.2.2.2.2.2.2.2.1
def dL_law_679 := edL_law_666.2.2.2.2.2.2.2.2.2.2.2.2.2.1
def dL_law_682 := edL_law_666.2.2.2.2.2.2.2.2.2.2.2.2.2.2.1
def dL_law_683 := edL_law_666.2.2.2.2.2.2.2.2.2.2.2.2.2.2.2
theorem edL_law_686 : (decode cL_law 686 = .ok (.aload_n 1, 1)) ∧ (decode cL_law 687 = .ok (.invokevirtual 76, 3)) ∧ (decode cL_law 690 = .ok (.pop, 1)) ∧ (decode cL_law 691 = .ok (.aload_n 2, 1)) ∧ (decode cL_law 692 = .ok (.invokevirtual 80, 3)) ∧ (decode cL_law 695 = .ok (.pop, 1)) ∧ (decode cL_law 696 = .ok (.goto 438, 3)) ∧ (decode cL_law 699 = .ok (.aload_n 1, 1)) ∧ (decode cL_law 700 = .ok (.invokevirtual 81, 3)) ∧ (decode cL_law 703 = .ok (.pop, 1)) ∧ (decode cL_law 704 = .ok (.aload_n 2, 1)) ∧ (decode cL_law 705 = .ok (.invokevirtual 84, 3)) ∧ (decode cL_law 708 = .ok (.pop, 1)) ∧ (decode cL_law 709 = .ok (.goto 425, 3)) ∧ (decode cL_law 712 = .ok (.aload_n 1, 1)) ∧ (decode cL_law 713 = .ok (.aload_n 0, 1)) := by decide +kernel
def dL_law_686 := edL_law_686.1
def dL_law_687 := edL_law_686.2.1
def dL_law_690 := edL_law_686.2.2.1
def dL_law_691 := edL_law_686.2.2.2.1
def dL_law_692 := edL_law_686.2.2.2.2.1
def dL_law_695 := edL_law_686.2.2.2.2.2.1
def dL_law_696 := edL_law_686.2.2.2.2.2.2.1
def dL_law_699 := edL_law_686.2.2.2.2.2.2.2.1
def dL_law_700 := edL_law_686.2.2.2.2.2.2.2.2.1
def dL_law_703 := edL_law_686.2.2.2.2.2.2.2.2.2.1
def dL_law_704 := edL_law_686.2.2.2.2.2.2.2.2.2.2.1
def dL_law_705 := edL_law_686.2.2.2.2.2.2.2.2.2.2.2.1
def dL_law_708 := edL_law_686.2.2.2.2.2.2.2.2.2.2.2.2.1
def dL_law_709 := edL_law_686.2.2.2.2.2.2.2.2.2.2.2.2.2.1
def dL_law_712 := edL_law_686.2.2.2.2.2.2.2.2.2.2.2.2.2.2.1
def dL_law_713 := edL_law_686.2.2.2.2.2.2.2.2.2.2.2.2.2.2.2
theorem edL_law_714 : (decode cL_law 714 = .ok (.iload_n 3, 1)) ∧ (decode cL_law 715 = .ok (.iconst 1, 1)) ∧ (decode cL_law 716 = .ok (.iadd, 1)) ∧ (decode cL_law 717 = .ok (.iaload, 1)) ∧ (decode cL_law 718 = .ok (.aload_n 0, 1)) ∧ (decode cL_law 719 = .ok (.iload_n 3, 1)) ∧ (decode cL_law 720 = .ok (.iconst 2, 1)) ∧ (decode cL_law 721 = .ok (.iadd, 1)) ∧ (decode cL_law 722 = .ok (.iaload, 1)) ∧ (decode cL_law 723 = .ok (.aload_n 0, 1)) ∧ (decode cL_law 724 = .ok (.iload_n 3, 1)) ∧ (decode cL_law 725 = .ok (.iconst 3, 1)) ∧ (decode cL_law 726 = .ok (.iadd, 1)) ∧ (decode cL_law 727 = .ok (.iaload, 1)) ∧ (decode cL_law 728 = .ok (.invokevirtual 85, 3)) ∧ (decode cL_law 731 = .ok (.pop, 1)) := by decide +kernel
def dL_law_714 := edL_law_714.1
def dL_law_715 := edL_law_714.2.1
def dL_law_716 := edL_law_714.2.2.1
def dL_law_717 := edL_law_714.2.2.2.1
def dL_law_718 := edL_law_714.2.2.2.2.1
def dL_law_719 := edL_law_714.2.2.2.2.2.1
def dL_law_720 := edL_law_714.2.2.2.2.2.2.1
def dL_law_721 := edL_law_714.2.2.2.2.2.2.2.1
def dL_law_722 := edL_law_714.2.2.2.2.2.2.2.2.1
def dL_law_723 := edL_law_714.2.2.2.2.2.2.2.2.2.1
def dL_law_724 := edL_law_714.2.2.2.2.2.2.2.2.2.2.1
def dL_law_725 := edL_law_714.2.2.2.2.2.2.2.2.2.2.2.1
def dL_law_726 := edL_law_714.2.2.2.2.2.2.2.2.2.2.2.2.1
def dL_law_727 := edL_law_714.2.2.2.2.2.2.2.2.2.2.2.2.2.1
def dL_law_728 := edL_law_714.2.2.2.2.2.2.2.2.2.2.2.2.2.2.1
def dL_law_731 := edL_law_714.2.2.2.2.2.2.2.2.2.2.2.2.2.2.2
theorem edL_law_732 : (decode cL_law 732 = .ok (.aload_n 2, 1)) ∧ (decode cL_law 733 = .ok (.aload_n 0, 1)) ∧ (decode cL_law 734 = .ok (.iload_n 3, 1)) ∧ (decode cL_law 735 = .ok (.iconst 1, 1)) ∧ (decode cL_law 736 = .ok (.iadd, 1)) ∧ (decode cL_law 737 = .ok (.iaload, 1)) ∧ (decode cL_law 738 = .ok (.aload_n 0, 1)) ∧ (decode cL_law 739 = .ok (.iload_n 3, 1)) ∧ (decode cL_law 740 = .ok (.iconst 2, 1)) ∧ (decode cL_law 741 = .ok (.iadd, 1)) ∧ (decode cL_law 742 = .ok (.iaload, 1)) ∧ (decode cL_law 743 = .ok (.aload_n 0, 1)) ∧ (decode cL_law 744 = .ok (.iload_n 3, 1)) ∧ (decode cL_law 745 = .ok (.iconst 3, 1)) ∧ (decode cL_law 746 = .ok (.iadd, 1)) ∧ (decode cL_law 747 = .ok (.iaload, 1)) := by decide +kernel
def dL_law_732 := edL_law_732.1
def dL_law_733 := edL_law_732.2.1
def dL_law_734 := edL_law_732.2.2.1
def dL_law_735 := edL_law_732.2.2.2.1
def dL_law_736 := edL_law_732.2.2.2.2.1
def dL_law_737 := edL_law_732.2.2.2.2.2.1
def dL_law_738 := edL_law_732.2.2.2.2.2.2.1
def dL_law_739 := edL_law_732.2.2.2.2.2.2.2.1
def dL_law_740 := edL_law_732.2.2.2.2.2.2.2.2.1
def dL_law_741 := edL_law_732.2.2.2.2.2.2.2.2.2.1
def dL_law_742 := edL_law_732.2.2.2.2.2.2.2.2.2.2.1
def dL_law_743 := edL_law_732.2.2.2.2.2.2.2.2.2.2.2.1
def dL_law_744 := edL_law_732.2.2.2.2.2.2.2.2.2.2.2.2.1
def dL_law_745 := edL_law_732.2.2.2.2.2.2.2.2.2.2.2.2.2.1
def dL_law_746 := edL_law_732.2.2.2.2.2.2.2.2.2.2.2.2.2.2.1
def dL_law_747 := edL_law_732.2.2.2.2.2.2.2.2.2.2.2.2.2.2.2
theorem edL_law_748 : (decode cL_law 748 = .ok (.invokevirtual 88, 3)) ∧ (decode cL_law 751 = .ok (.pop, 1)) ∧ (decode cL_law 752 = .ok (.goto 382, 3)) ∧ (decode cL_law 755 = .ok (.aload_n 1, 1)) ∧ (decode cL_law 756 = .ok (.invokevirtual 89, 3)) ∧ (decode cL_law 759 = .ok (.pop, 1)) ∧ (decode cL_law 760 = .ok (.aload_n 2, 1)) ∧ (decode cL_law 761 = .ok (.invokevirtual 92, 3)) ∧ (decode cL_law 764 = .ok (.pop, 1)) ∧ (decode cL_law 765 = .ok (.goto 369, 3)) ∧ (decode cL_law 768 = .ok (.aload_n 1, 1)) ∧ (decode cL_law 769 = .ok (.aload_n 0, 1)) ∧ (decode cL_law 770 = .ok (.iload_n 3, 1)) ∧ (decode cL_law 771 = .ok (.iconst 1, 1)) ∧ (decode cL_law 772 = .ok (.iadd, 1)) ∧ (decode cL_law 773 = .ok (.iaload, 1)) := by decide +kernel
def dL_law_748 := edL_law_748.1
def dL_law_751 := edL_law_748.2.1
def dL_law_752 := edL_law_748.2.2.1
def dL_law_755 := edL_law_748.2.2.2.1
def dL_law_756 := edL_law_748.2.2.2.2.1
def dL_law_759 := edL_law_748.2.2.2.2.2.1
def dL_law_760 := edL_law_748.2.2.2.2.2.2.1
def dL_law_761 := edL_law_748.2.2.2.2.2.2.2.1
def dL_law_764 := edL_law_748.2.2.2.2.2.2.2.2.1
def dL_law_765 := edL_law_748.2.2.2.2.2.2.2.2.2.1
def dL_law_768 := edL_law_748.2.2.2.2.2.2.2.2.2.2.1
def dL_law_769 := edL_law_748.2.2.2.2.2.2.2.2.2.2.2.1
def dL_law_770 := edL_law_748.2.2.2.2.2.2.2.2.2.2.2.2.1
def dL_law_771 := edL_law_748.2.2.2.2.2.2.2.2.2.2.2.2.2.1
def dL_law_772 := edL_law_748.2.2.2.2.2.2.2.2.2.2.2.2.2.2.1
def dL_law_773 := edL_law_748.2.2.2.2.2.2.2.2.2.2.2.2.2.2.2
theorem edL_law_774 : (decode cL_law 774 = .ok (.invokevirtual 93, 3)) ∧ (decode cL_law 777 = .ok (.pop, 1)) ∧ (decode cL_law 778 = .ok (.aload_n 2, 1)) ∧ (decode cL_law 779 = .ok (.aload_n 0, 1)) ∧ (decode cL_law 780 = .ok (.iload_n 3, 1)) ∧ (decode cL_law 781 = .ok (.iconst 1, 1)) ∧ (decode cL_law 782 = .ok (.iadd, 1)) ∧ (decode cL_law 783 = .ok (.iaload, 1)) ∧ (decode cL_law 784 = .ok (.invokevirtual 96, 3)) ∧ (decode cL_law 787 = .ok (.pop, 1)) ∧ (decode cL_law 788 = .ok (.goto 346, 3)) ∧ (decode cL_law 791 = .ok (.aload_n 1, 1)) ∧ (decode cL_law 792 = .ok (.aload_n 0, 1)) ∧ (decode cL_law 793 = .ok (.iload_n 3, 1)) ∧ (decode cL_law 794 = .ok (.iconst 1, 1)) ∧ (decode cL_law 795 = .ok (.iadd, 1)) := by decide +kernel
def dL_law_774 := edL_law_774.1
def dL_law_777 := edL_law_774.2.1
def dL_law_778 := edL_law_774.2.2.1
def dL_law_779 := edL_law_774.2.2.2.1
def dL_law_780 := edL_law_774.2.2.2.2.1
def dL_law_781 := edL_law_774.2.2.2.2.2.1
def dL_law_782 := edL_law_774.2.2.2.2.2.2.1
def dL_law_783 := edL_law_774.2.2.2.2.2.2.2.1
def dL_law_784 := edL_law_774.2.2.2.2.2.2.2.2.1
def dL_law_787 := edL_law_774.2.2.2.2.2.2.2.2.2.1
def dL_law_788 := edL_law_774.2.2.2.2.2.2.2.2.2.2.1
def dL_law_791 := edL_law_774.2.2.2.2.2.2.2.2.2.2.2.1
def dL_law_792 := edL_law_774.2.2.2.2.2.2.2.2.2.2.2.2.1
def dL_law_793 := edL_law_774.2.2.2.2.2.2.2.2.2.2.2.2.2.1
def dL_law_794 := edL_law_774.2.2.2.2.2.2.2.2.2.2.2.2.2.2.1
def dL_law_795 := edL_law_774.2.2.2.2.2.2.2.2.2.2.2.2.2.2.2
theorem edL_law_796 : (decode cL_law 796 = .ok (.iaload, 1)) ∧ (decode cL_law 797 = .ok (.aload_n 0, 1)) ∧ (decode cL_law 798 = .ok (.iload_n 3, 1)) ∧ (decode cL_law 799 = .ok (.iconst 2, 1)) ∧ (decode cL_law 800 = .ok (.iadd, 1)) ∧ (decode cL_law 801 = .ok (.iaload, 1)) ∧ (decode cL_law 802 = .ok (.aload_n 0, 1)) ∧ (decode cL_law 803 = .ok (.iload_n 3, 1)) ∧ (decode cL_law 804 = .ok (.iconst 3, 1)) ∧ (decode cL_law 805 = .ok (.iadd, 1)) ∧ (decode cL_law 806 = .ok (.iaload, 1)) ∧ (decode cL_law 807 = .ok (.invokevirtual 97, 3)) ∧ (decode cL_law 810 = .ok (.pop, 1)) ∧ (decode cL_law 811 = .ok (.aload_n 2, 1)) ∧ (decode cL_law 812 = .ok (.aload_n 0, 1)) ∧ (decode cL_law 813 = .ok (.iload_n 3, 1)) := by decide +kernel
def dL_law_796 := edL_law_796.1
def dL_law_797 := edL_law_796.2.1
def dL_law_798 := edL_law_796.2.2.1
def dL_law_799 := edL_law_796.2.2.2.1
def dL_law_800 := edL_law_796.2.2.2.2.1
def dL_law_801 := edL_law_796.2.2.2.2.2.1
def dL_law_802 := edL_law_796.2.2.2.2.2.2.1
def dL_law_803 := edL_law_796.2.2.2.2.2.2.2.1
def dL_law_804 := edL_law_796.2.2.2.2.2.2.2.2.1
def dL_law_805 := edL_law_796.2.2.2.2.2.2.2.2.2.1
def dL_law_806 := edL_law_796.2.2.2.2.2.2.2.2.2.2.1
def dL_law_807 := edL_law_796.2.2.2.2.2.2.2.2.2.2.2.1
def dL_law_810 := edL_law_796.2.2.2.2.2.2.2.2.2.2.2.2.1
def dL_law_811 := edL_law_796.2.2.2.2.2.2.2.2.2.2.2.2.2.1
def dL_law_812 := edL_law_796.2.2.2.2.2.2.2.2.2.2.2.2.2.2.1
def dL_law_813 := edL_law_796.2.2.2.2.2.2.2.2.2.2.2.2.2.2.2
theorem edL_law_814 : (decode cL_law 814 = .ok (.iconst 1, 1)) ∧ (decode cL_law 815 = .ok (.iadd, 1)) ∧ (decode cL_law 816 = .ok (.iaload, 1)) ∧ (decode cL_law 817 = .ok (.aload_n 0, 1)) ∧ (decode cL_law 818 = .ok (.iload_n 3, 1)) ∧ (decode cL_law 819 = .ok (.iconst 2, 1)) ∧ (decode cL_law 820 = .ok (.iadd, 1)) ∧ (decode cL_law 821 = .ok (.iaload, 1)) ∧ (decode cL_law 822 = .ok (.aload_n 0, 1)) ∧ (decode cL_law 823 = .ok (.iload_n 3, 1)) ∧ (decode cL_law 824 = .ok (.iconst 3, 1)) ∧ (decode cL_law 825 = .ok (.iadd, 1)) ∧ (decode cL_law 826 = .ok (.iaload, 1)) ∧ (decode cL_law 827 = .ok (.invokevirtual 100, 3)) ∧ (decode cL_law 830 = .ok (.pop, 1)) ∧ (decode cL_law 831 = .ok (.goto 303, 3)) := by decide +kernel
def dL_law_814 := edL_law_814.1
def dL_law_815 := edL_law_814.2.1
def dL_law_816 := edL_law_814.2.2.1
def dL_law_817 := edL_law_814.2.2.2.1
def dL_law_818 := edL_law_814.2.2.2.2.1
def dL_law_819 := edL_law_814.2.2.2.2.2.1
def dL_law_820 := edL_law_814.2.2.2.2.2.2.1
def dL_law_821 := edL_law_814.2.2.2.2.2.2.2.1
def dL_law_822 := edL_law_814.2.2.2.2.2.2.2.2.1
def dL_law_823 := edL_law_814.2.2.2.2.2.2.2.2.2.1
def dL_law_824 := edL_law_814.2.2.2.2.2.2.2.2.2.2.1
def dL_law_825 := edL_law_814.2.2.2.2.2.2.2.2.2.2.2.1
def dL_law_826 := edL_law_814.2.2.2.2.2.2.2.2.2.2.2.2.1
def dL_law_827 := edL_law_814.2.2.2.2.2.2.2.2.2.2.2.2.2.1
def dL_law_830 := edL_law_814.2.2.2.2.2.2.2.2.2.2.2.2.2.2.1
def dL_law_831 := edL_law_814.2.2.2.2.2.2.2.2.2.2.2.2.2.2.2
theorem edL_law_834 : (decode cL_law 834 = .ok (.aload_n 1, 1)) ∧ (decode cL_law 835 = .ok (.aload_n 0, 1)) ∧ (decode cL_law 836 = .ok (.iload_n 3, 1)) ∧ (decode cL_law 837 = .ok (.iconst 1, 1)) ∧ (decode cL_law 838 = .ok (.iadd, 1)) ∧ (decode cL_law 839 = .ok (.iaload, 1)) ∧ (decode cL_law 840 = .ok (.invokevirtual 101, 3)) ∧ (decode cL_law 843 = .ok (.pop, 1)) ∧ (decode cL_law 844 = .ok (.aload_n 2, 1)) ∧ (decode cL_law 845 = .ok (.aload_n 0, 1)) ∧ (decode cL_law 846 = .ok (.iload_n 3, 1)) ∧ (decode cL_law 847 = .ok (.iconst 1, 1)) ∧ (decode cL_law 848 = .ok (.iadd, 1)) ∧ (decode cL_law 849 = .ok (.iaload, 1)) ∧ (decode cL_law 850 = .ok (.invokevirtual 104, 3)) ∧ (decode cL_law 853 = .ok (.pop, 1)) := by decide +kernel
def dL_law_834 := edL_law_834.1
def dL_law_835 := edL_law_834.2.1
def dL_law_836 := edL_law_834.2.2.1
def dL_law_837 := edL_law_834.2.2.2.1
def dL_law_838 := edL_law_834.2.2.2.2.1
def dL_law_839 := edL_law_834.2.2.2.2.2.1
def dL_law_840 := edL_law_834.2.2.2.2.2.2.1
def dL_law_843 := edL_law_834.2.2.2.2.2.2.2.1
def dL_law_844 := edL_law_834.2.2.2.2.2.2.2.2.1
def dL_law_845 := edL_law_834.2.2.2.2.2.2.2.2.2.1
def dL_law_846 := edL_law_834.2.2.2.2.2.2.2.2.2.2.1
def dL_law_847 := edL_law_834.2.2.2.2.2.2.2.2.2.2.2.1
def dL_law_848 := edL_law_834.2.2.2.2.2.2.2.2.2.2.2.2.1
def dL_law_849 := edL_law_834.2.2.2.2.2.2.2.2.2.2.2.2.2.1
def dL_law_850 := edL_law_834.2.2.2.2.2.2.2.2.2.2.2.2.2.2.1
def dL_law_853 := edL_law_834.2.2.2.2.2.2.2.2.2.2.2.2.2.2.2
theorem edL_law_854 : (decode cL_law 854 = .ok (.goto 280, 3)) ∧ (decode cL_law 857 = .ok (.aload_n 1, 1)) ∧ (decode cL_law 858 = .ok (.aload_n 0, 1)) ∧ (decode cL_law 859 = .ok (.iload_n 3, 1)) ∧ (decode cL_law 860 = .ok (.iconst 1, 1)) ∧ (decode cL_law 861 = .ok (.iadd, 1)) ∧ (decode cL_law 862 = .ok (.iaload, 1)) ∧ (decode cL_law 863 = .ok (.aload_n 0, 1)) ∧ (decode cL_law 864 = .ok (.iload_n 3, 1)) ∧ (decode cL_law 865 = .ok (.iconst 2, 1)) ∧ (decode cL_law 866 = .ok (.iadd, 1)) ∧ (decode cL_law 867 = .ok (.iaload, 1)) ∧ (decode cL_law 868 = .ok (.aload_n 0, 1)) ∧ (decode cL_law 869 = .ok (.iload_n 3, 1)) ∧ (decode cL_law 870 = .ok (.iconst 3, 1)) ∧ (decode cL_law 871 = .ok (.iadd, 1)) := by decide +kernel
def dL_law_854 := edL_law_854.1
def dL_law_857 := edL_law_854.2.1
def dL_law_858 := edL_law_854.2.2.1
def dL_law_859 := edL_law_854.2.2.2.1
def dL_law_860 := edL_law_854.2.2.2.2.1
def dL_law_861 := edL_law_854.2.2.2.2.2.1
def dL_law_862 := edL_law_854.2.2.2.2.2.2.1
def dL_law_863 := edL_law_854.2.2.2.2.2.2.2.1
def dL_law_864 := edL_law_854.2.2.2.2.2.2.2.2.1
def dL_law_865 := edL_law_854.2.2.2.2.2.2.2.2.2.1
def dL_law_866 := edL_law_854.2.2.2.2.2.2.2.2.2.2.1
def dL_law_867 := edL_law_854.2.2.2.2.2.2.2.2.2.2.2.1
def dL_law_868 := edL_law_854.2.2.2.2.2.2.2.2.2.2.2.2.1
def dL_law_869 := edL_law_854.2.2.2.2.2.2.2.2.2.2.2.2.2.1
def dL_law_870 := edL_law_854.2.2.2.2.2.2.2.2.2.2.2.2.2.2.1
def dL_law_871 := edL_law_854.2.2.2.2.2.2.2.2.2.2.2.2.2.2.2
theorem edL_law_872 : (decode cL_law 872 = .ok (.iaload, 1)) ∧ (decode cL_law 873 = .ok (.invokevirtual 105, 3)) ∧ (decode cL_law 876 = .ok (.pop, 1)) ∧ (decode cL_law 877 = .ok (.aload_n 2, 1)) ∧ (decode cL_law 878 = .ok (.aload_n 0, 1)) ∧ (decode cL_law 879 = .ok (.iload_n 3, 1)) ∧ (decode cL_law 880 = .ok (.iconst 1, 1)) ∧ (decode cL_law 881 = .ok (.iadd, 1)) ∧ (decode cL_law 882 = .ok (.iaload, 1)) ∧ (decode cL_law 883 = .ok (.aload_n 0, 1)) ∧ (decode cL_law 884 = .ok (.iload_n 3, 1)) ∧ (decode cL_law 885 = .ok (.iconst 2, 1)) ∧ (decode cL_law 886 = .ok (.iadd, 1)) ∧ (decode cL_law 887 = .ok (.iaload, 1)) ∧ (decode cL_law 888 = .ok (.aload_n 0, 1)) ∧ (decode cL_law 889 = .ok (.iload_n 3, 1)) := by decide +kernel
def dL_law_872 := edL_law_872.1
def dL_law_873 := edL_law_872.2.1
def dL_law_876 := edL_law_872.2.2.1
def dL_law_877 := edL_law_872.2.2.2.1
def dL_law_878 := edL_law_872.2.2.2.2.1
def dL_law_879 := edL_law_872.2.2.2.2.2.1
def dL_law_880 := edL_law_872.2.2.2.2.2.2.1
def dL_law_881 := edL_law_872.2.2.2.2.2.2.2.1
def dL_law_882 := edL_law_872.2.2.2.2.2.2.2.2.1
def dL_law_883 := edL_law_872.2.2.2.2.2.2.2.2.2.1
def dL_law_884 := edL_law_872.2.2.2.2.2.2.2.2.2.2.1
def dL_law_885 := edL_law_872.2.2.2.2.2.2.2.2.2.2.2.1
def dL_law_886 := edL_law_872.2.2.2.2.2.2.2.2.2.2.2.2.1
def dL_law_887 := edL_law_872.2.2.2.2.2.2.2.2.2.2.2.2.2.1
def dL_law_888 := edL_law_872.2.2.2.2.2.2.2.2.2.2.2.2.2.2.1
def dL_law_889 := edL_law_872.2.2.2.2.2.2.2.2.2.2.2.2.2.2.2
theorem edL_law_890 : (decode cL_law 890 = .ok (.iconst 3, 1)) ∧ (decode cL_law 891 = .ok (.iadd, 1)) ∧ (decode cL_law 892 = .ok (.iaload, 1)) ∧ (decode cL_law 893 = .ok (.invokevirtual 108, 3)) ∧ (decode cL_law 896 = .ok (.pop, 1)) ∧ (decode cL_law 897 = .ok (.goto 237, 3)) ∧ (decode cL_law 900 = .ok (.aload_n 1, 1)) ∧ (decode cL_law 901 = .ok (.aload_n 0, 1)) ∧ (decode cL_law 902 = .ok (.iload_n 3, 1)) ∧ (decode cL_law 903 = .ok (.iconst 1, 1)) ∧ (decode cL_law 904 = .ok (.iadd, 1)) ∧ (decode cL_law 905 = .ok (.iaload, 1)) ∧ (decode cL_law 906 = .ok (.aload_n 0, 1)) ∧ (decode cL_law 907 = .ok (.iload_n 3, 1)) ∧ (decode cL_law 908 = .ok (.iconst 2, 1)) ∧ (decode cL_law 909 = .ok (.iadd, 1)) := by decide +kernel
def dL_law_890 := edL_law_890.1
def dL_law_891 := edL_law_890.2.1
def dL_law_892 := edL_law_890.2.2.1
def dL_law_893 := edL_law_890.2.2.2.1
def dL_law_896 := edL_law_890.2.2.2.2.1
def dL_law_897 := edL_law_890.2.2.2.2.2.1
def dL_law_900 := edL_law_890.2.2.2.2.2.2.1
def dL_law_901 := edL_law_890.2.2.2.2.2.2.2.1
def dL_law_902 := edL_law_890.2.2.2.2.2.2.2.2.1
def dL_law_903 := edL_law_890.2.2.2.2.2.2.2.2.2.1
def dL_law_904 := edL_law_890.2.2.2.2.2.2.2.2.2.2.1
def dL_law_905 := edL_law_890.2.2.2.2.2.2.2.2.2.2.2.1
def dL_law_906 := edL_law_890.2.2.2.2.2.2.2.2.2.2.2.2.1
def dL_law_907 := edL_law_890.2.2.2.2.2.2.2.2.2.2.2.2.2.1
def dL_law_908 := edL_law_890.2.2.2.2.2.2.2.2.2.2.2.2.2.2.1
def dL_law_909 := edL_law_890.2.2.2.2.2.2.2.2.2.2.2.2.2.2.2
theorem edL_law_910 : (decode cL_law 910 = .ok (.iaload, 1)) ∧ (decode cL_law 911 = .ok (.aload_n 0, 1)) ∧ (decode cL_law 912 = .ok (.iload_n 3, 1)) ∧ (decode cL_law 913 = .ok (.iconst 3, 1)) ∧ (decode cL_law 914 = .ok (.iadd, 1)) ∧ (decode cL_law 915 = .ok (.iaload, 1)) ∧ (decode cL_law 916 = .ok (.invokevirtual 109, 3)) ∧ (decode cL_law 919 = .ok (.pop2, 1)) ∧ (decode cL_law 920 = .ok (.aload_n 2, 1)) ∧ (decode cL_law 921 = .ok (.aload_n 0, 1)) ∧ (decode cL_law 922 = .ok (.iload_n 3, 1)) ∧ (decode cL_law 923 = .ok (.iconst 1, 1)) ∧ (decode cL_law 924 = .ok (.iadd, 1)) ∧ (decode cL_law 925 = .ok (.iaload, 1)) ∧ (decode cL_law 926 = .ok (.aload_n 0, 1)) ∧ (decode cL_law 927 = .ok (.iload_n 3, 1)) := by decide +kernel
def dL_law_910 := edL_law_910.1
def dL_law_911 := edL_law_910.2.1
def dL_law_912 := edL_law_910.2.2.1
def dL_law_913 := edL_law_910.2.2.2.1
def dL_law_914 := edL_law_910.2.2.2.2.1
def dL_law_915 := edL_law_910.2.2.2.2.2.1
def dL_law_916 := edL_law_910.2.2.2.2.2.2.1
def dL_law_919 := edL_law_910.2.2.2.2.2.2.2.1
def dL_law_920 := edL_law_910.2.2.2.2.2.2.2.2.1
def dL_law_921 := edL_law_910.2.2.2.2.2.2.2.2.2.1
def dL_law_922 := edL_law_910.2.2.2.2.2.2.2.2.2.2.1
def dL_law_923 := edL_law_910.2.2.2.2.2.2.2.2.2.2.2.1
def dL_law_924 := edL_law_910.2.2.2.2.2.2.2.2.2.2.2.2.1
def dL_law_925 := edL_law_910.2.2.2.2.2.2.2.2.2.2.2.2.2.1
def dL_law_926 := edL_law_910.2.2.2.2.2.2.2.2.2.2.2.2.2.2.1
def dL_law_927 := edL_law_910.2.2.2.2.2.2.2.2.2.2.2.2.2.2.2
theorem edL_law_928 : (decode cL_law 928 = .ok (.iconst 2, 1)) ∧ (decode cL_law 929 = .ok (.iadd, 1)) ∧ (decode cL_law 930 = .ok (.iaload, 1)) ∧ (decode cL_law 931 = .ok (.aload_n 0, 1)) ∧ (decode cL_law 932 = .ok (.iload_n 3, 1)) ∧ (decode cL_law 933 = .ok (.iconst 3, 1)) ∧ (decode cL_law 934 = .ok (.iadd, 1)) ∧ (decode cL_law 935 = .ok (.iaload, 1)) ∧ (decode cL_law 936 = .ok (.invokevirtual 113, 3)) ∧ (decode cL_law 939 = .ok (.pop2, 1)) ∧ (decode cL_law 940 = .ok (.goto 194, 3)) ∧ (decode cL_law 943 = .ok (.aload_n 1, 1)) ∧ (decode cL_law 944 = .ok (.aload_n 0, 1)) ∧ (decode cL_law 945 = .ok (.iload_n 3, 1)) ∧ (decode cL_law 946 = .ok (.iconst 1, 1)) ∧ (decode cL_law 947 = .ok (.iadd, 1)) := by decide +kernel
def dL_law_928 := edL_law_928.1
def dL_law_929 := edL_law_928.2.1
def dL_law_930 := edL_law_928.2.2.1
def dL_law_931 := edL_law_928.2.2.2.1
def dL_law_932 := edL_law_928.2.2.2.2.1
def dL_law_933 := edL_law_928.2.2.2.2.2.1
def dL_law_934 := edL_law_928.2.2.2.2.2.2.1
def dL_law_935 := edL_law_928.2.2.2.2.2.2.2.1
def dL_law_936 := edL_law_928.2.2.2.2.2.2.2.2.1
def dL_law_939 := edL_law_928.2.2.2.2.2.2.2.2.2.1
def dL_law_940 := edL_law_928.2.2.2.2.2.2.2.2.2.2.1
def dL_law_943 := edL_law_928.2.2.2.2.2.2.2.2.2.2.2.1
def dL_law_944 := edL_law_928.2.2.2.2.2.2.2.2.2.2.2.2.1
def dL_law_945 := edL_law_928.2.2.2.2.2.2.2.2.2.2.2.2.2.1
def dL_law_946 := edL_law_928.2.2.2.2.2.2.2.2.2.2.2.2.2.2.1
def dL_law_947 := edL_law_928.2.2.2.2.2.2.2.2.2.2.2.2.2.2.2
theorem edL_law_948 : (decode cL_law 948 = .ok (.iaload, 1)) ∧ (decode cL_law 949 = .ok (.aload_n 0, 1)) ∧ (decode cL_law 950 = .ok (.iload_n 3, 1)) ∧ (decode cL_law 951 = .ok (.iconst 2, 1)) ∧ (decode cL_law 952 = .ok (.iadd, 1)) ∧ (decode cL_law 953 = .ok (.iaload, 1)) ∧ (decode cL_law 954 = .ok (.aload_n 0, 1)) ∧ (decode cL_law 955 = .ok (.iload_n 3, 1)) ∧ (decode cL_law 956 = .ok (.iconst 3, 1)) ∧ (decode cL_law 957 = .ok (.iadd, 1)) ∧ (decode cL_law 958 = .ok (.iaload, 1)) ∧ (decode cL_law 959 = .ok (.aload_n 0, 1)) ∧ (decode cL_law 960 = .ok (.iload_n 3, 1)) ∧ (decode cL_law 961 = .ok (.iconst 4, 1)) ∧ (decode cL_law 962 = .ok (.iadd, 1)) ∧ (decode cL_law 963 = .ok (.iaload, 1)) := by decide +kernel
def dL_law_948 := edL_law_948.1
def dL_law_949 := edL_law_948.2.1
def dL_law_950 := edL_law_948.2.2.1
def dL_law_951 := edL_law_948.2.2.2.1
def dL_law_952 := edL_law_948.2.2.2.2.1
def dL_law_953 := edL_law_948.2.2.2.2.2.1
def dL_law_954 := edL_law_948.2.2.2.2.2.2.1
def dL_law_955 := edL_law_948.2.2.2.2.2.2.2.1
def dL_law_956 := edL_law_948.2.2.2.2.2.2.2.2.1
def dL_law_957 := edL_law_948.2.2.2.2.2.2.2.2.2.1
def dL_law_958 := edL_law_948.2.2.2.2.2.2.2.2.2.2.1
def dL_law_959 := edL_law_948.2.2.2.2.2.2.2.2.2.2.2.1
def dL_law_960 := edL_law_948.2.2.2.2.2.2.2.2.2.2.2.2.1
def dL_law_961 := edL_law_948.2.2.2.2.2.2.2.2.2.2.2.2.2.1
def dL_law_962 := edL_law_948.2.2.2.2.2.2.2.2.2.2.2.2.2.2.1
def dL_law_963 := edL_law_948.2.2.2.2.2.2.2.2.2.2.2.2.2.2.2
theorem edL_law_964 : (decode cL_law 964 = .ok (.aload_n 0, 1)) ∧ (decode cL_law 965 = .ok (.iload_n 3, 1)) ∧ (decode cL_law 966 = .ok (.iconst 5, 1)) ∧ (decode cL_law 967 = .ok (.iadd, 1)) ∧ (decode cL_law 968 = .ok (.iaload, 1)) ∧ (decode cL_law 969 = .ok (.invokevirtual 114, 3)) ∧ (decode cL_law 972 = .ok (.pop, 1)) ∧ (decode cL_law 973 = .ok (.aload_n 2, 1)) ∧ (decode cL_law 974 = .ok (.aload_n 0, 1)) ∧ (decode cL_law 975 = .ok (.iload_n 3, 1)) ∧ (decode cL_law 976 = .ok (.iconst 1, 1)) ∧ (decode cL_law 977 = .ok (.iadd, 1)) ∧ (decode cL_law 978 = .ok (.iaload, 1)) ∧ (decode cL_law 979 = .ok (.aload_n 0, 1)) ∧ (decode cL_law 980 = .ok (.iload_n 3, 1)) ∧ (decode cL_law 981 = .ok (.iconst 2, 1)) := by decide +kernel
def dL_law_964 := edL_law_964.1
def dL_law_965 := edL_law_964.2.1
def dL_law_966 := edL_law_964.2.2.1
def dL_law_967 := edL_law_964.2.2.2.1
def dL_law_968 := edL_law_964.2.2.2.2.1
def dL_law_969 := edL_law_964.2.2.2.2.2.1
def dL_law_972 := edL_law_964.2.2.2.2.2.2.1
def dL_law_973 := edL_law_964.2.2.2.2.2.2.2.1
def dL_law_974 := edL_law_964.2.2.2.2.2.2.2.2.1
def dL_law_975 := edL_law_964.2.2.2.2.2.2.2.2.2.1
def dL_law_976 := edL_law_964.2.2.2.2.2.2.2.2.2.2.1
def dL_law_977 := edL_law_964.2.2.2.2.2.2.2.2.2.2.2.1
def dL_law_978 := edL_law_964.2.2.2.2.2.2.2.2.2.2.2.2.1
def dL_law_979 := edL_law_964.2.2.2.2.2.2.2.2.2.2.2.2.2.1
def dL_law_980 := edL_law_964.2.2.2.2.2.2.2.2.2.2.2.2.2.2.1
def dL_law_981 := edL_law_964.2.2.2.2.2.2.2.2.2.2.2.2.2.2.2
theorem edL_law_982 : (decode cL_law 982 = .ok (.iadd, 1)) ∧ (decode cL_law 983 = .ok (.iaload, 1)) ∧ (decode cL_law 984 = .ok (.aload_n 0, 1)) ∧ (decode cL_law 985 = .ok (.iload_n 3, 1)) ∧ (decode cL_law 986 = .ok (.iconst 3, 1)) ∧ (decode cL_law 987 = .ok (.iadd, 1)) ∧ (decode cL_law 988 = .ok (.iaload, 1)) ∧ (decode cL_law 989 = .ok (.aload_n 0, 1)) ∧ (decode cL_law 990 = .ok (.iload_n 3, 1)) ∧ (decode cL_law 991 = .ok (.iconst 4, 1)) ∧ (decode cL_law 992 = .ok (.iadd, 1)) ∧ (decode cL_law 993 = .ok (.iaload, 1)) ∧ (decode cL_law 994 = .ok (.aload_n 0, 1)) ∧ (decode cL_law 995 = .ok (.iload_n 3, 1)) ∧ (decode cL_law 996 = .ok (.iconst 5, 1)) ∧ (decode cL_law 997 = .ok (.iadd, 1)) := by decide +kernel
def dL_law_982 := edL_law_982.1
def dL_law_983 := edL_law_982.2.1
def dL_law_984 := edL_law_982.2.2.1
def dL_law_985 := edL_law_982.2.2.2.1
def dL_law_986 := edL_law_982.2.2.2.2.1
def dL_law_987 := edL_law_982.2.2.2.2.2.1
def dL_law_988 := edL_law_982.2.2.2.2.2.2.1
def dL_law_989 := edL_law_982.2.2.2.2.2.2.2.1
def dL_law_990 := edL_law_982.2.2.2.2.2.2.2.2.1
def dL_law_991 := edL_law_982.2.2.2.2.2.2.2.2.2.1
def dL_law_992 := edL_law_982.2.2.2.2.2.2.2.2.2.2.1
def dL_law_993 := edL_law_982.2.2.2.2.2.2.2.2.2.2.2.1
def dL_law_994 := edL_law_982.2.2.2.2.2.2.2.2.2.2.2.2.1
def dL_law_995 := edL_law_982.2.2.2.2.2.2.2.2.2.2.2.2.2.1
def dL_law_996 := edL_law_982.2.2.2.2.2.2.2.2.2.2.2.2.2.2.1
def dL_law_997 := edL_law_982.2.2.2.2.2.2.2.2.2.2.2.2.2.2.2
theorem edL_law_998 : (decode cL_law 998 = .ok (.iaload, 1)) ∧ (decode cL_law 999 = .ok (.invokevirtual 117, 3)) ∧ (decode cL_law 1002 = .ok (.pop, 1)) ∧ (decode cL_law 1003 = .ok (.goto 131, 3)) ∧ (decode cL_law 1006 = .ok (.aload_n 1, 1)) ∧ (decode cL_law 1007 = .ok (.aload_n 0, 1)) ∧ (decode cL_law 1008 = .ok (.iload_n 3, 1)) ∧ (decode cL_law 1009 = .ok (.iconst 1, 1)) ∧ (decode cL_law 1010 = .ok (.iadd, 1)) ∧ (decode cL_law 1011 = .ok (.iaload, 1)) ∧ (decode cL_law 1012 = .ok (.invokevirtual 118, 3)) ∧ (decode cL_law 1015 = .ok (.pop, 1)) ∧ (decode cL_law 1016 = .ok (.aload_n 2, 1)) ∧ (decode cL_law 1017 = .ok (.aload_n 0, 1)) ∧ (decode cL_law 1018 = .ok (.iload_n 3, 1)) ∧ (decode cL_law 1019 = .ok (.iconst 1, 1)) := by decide +kernel
def dL_law_998 := edL_law_998.1
def dL_law_999 := edL_law_998.2.1
def dL_law_1002 := edL_law_998.2.2.1
def dL_law_1003 := edL_law_998.2.2.2.1
def dL_law_1006 := edL_law_998.2.2.2.2.1
def dL_law_1007 := edL_law_998.2.2.2.2.2.1
def dL_law_1008 := edL_law_998.2.2.2.2.2.2.1
def dL_law_1009 := edL_law_998.2.2.2.2.2.2.2.1
def dL_law_1010 := edL_law_998.2.2.2.2.2.2.2.2.1
def dL_law_1011 := edL_law_998.2.2.2.2.2.2.2.2.2.1
def dL_law_1012 := edL_law_998.2.2.2.2.2.2.2.2.2.2.1
def dL_law_1015 := edL_law_998.2.2.2.2.2.2.2.2.2.2.2.1
def dL_law_1016 := edL_law_998.2.2.2.2.2.2.2.2.2.2.2.2.1
def dL_law_1017 := edL_law_998.2.2.2.2.2.2.2.2.2.2.2.2.2.1
def dL_law_1018 := edL_law_998.2.2.2.2.2.2.2.2.2.2.2.2.2.2.1
def dL_law_1019 := edL_law_998.2.2.2.2.2.2.2.2.2.2.2.2.2.2.2
theorem edL_law_1020 : (decode cL_law 1020 = .ok (.iadd, 1)) ∧ (decode cL_law 1021 = .ok (.iaload, 1)) ∧ (decode cL_law 1022 = .ok (.invokevirtual 121, 3)) ∧ (decode cL_law 1025 = .ok (.pop, 1)) ∧ (decode cL_law 1026 = .ok (.goto 108, 3)) ∧ (decode cL_law 1029 = .ok (.aload_n 1, 1)) ∧ (decode cL_law 1030 = .ok (.aload_n 0, 1)) ∧ (decode cL_law 1031 = .ok (.iload_n 3, 1)) ∧ (decode cL_law 1032 = .ok (.iconst 1, 1)) ∧ (decode cL_law 1033 = .ok (.iadd, 1)) ∧ (decode cL_law 1034 = .ok (.iaload, 1)) ∧ (decode cL_law 1035 = .ok (.invokevirtual 122, 3)) ∧ (decode cL_law 1038 = .ok (.pop, 1)) ∧ (decode cL_law 1039 = .ok (.aload_n 2, 1)) ∧ (decode cL_law 1040 = .ok (.aload_n 0, 1)) ∧ (decode cL_law 1041 = .ok (.iload_n 3, 1)) := by decide +kernel
def dL_law_1020 := edL_law_1020.1
def dL_law_1021 := edL_law_1020.2.1
def dL_law_1022 := edL_law_1020.2.2.1
def dL_law_1025 := edL_law_1020.2.2.2.1
def dL_law_1026 := edL_law_1020.2.2.2.2.1
def dL_law_1029 := edL_law_1020.2.2.2.2.2.1
def dL_law_1030 := edL_law_1020.2.2.2.2.2.2.1
def dL_law_1031 := edL_law_1020.2.2.2.2.2.2.2.1
def dL_law_1032 := edL_law_1020.2.2.2.2.2.2.2.2.1
def dL_law_1033 := edL_law_1020.2.2.2.2.2.2.2.2.2.1
def dL_law_1034 := edL_law_1020.2.2.2.2.2.2.2.2.2.2.1
def dL_law_1035 := edL_law_1020.2.2.2.2.2.2.2.2.2.2.2.1
def dL_law_1038 := edL_law_1020.2.2.2.2.2.2.2.2.2.2.2.2.1
def dL_law_1039 := edL_law_1020.2.2.2.2.2.2.2.2.2.2.2.2.2.1
def dL_law_1040 := edL_law_1020.2.2.2.2.2.2.2.2.2.2.2.2.2.2.1
def dL_law_1041 := edL_law_1020.2.2.2.2.2.2.2.2.2.2.2.2.2.2.2
theorem edL_law_1042 : (decode cL_law 1042 = .ok (.iconst 1, 1)) ∧ (decode cL_law 1043 = .ok (.iadd, 1)) ∧ (decode cL_law 1044 = .ok (.iaload, 1)) ∧ (decode cL_law 1045 = .ok (.invokevirtual 125, 3)) ∧ (decode cL_law 1048 = .ok (.pop, 1)) ∧ (decode cL_law 1049 = .ok (.goto 85, 3)) ∧ (decode cL_law 1052 = .ok (.aload_n 1, 1)) ∧ (decode cL_law 1053 = .ok (.aload_n 0, 1)) ∧ (decode cL_law 1054 = .ok (.iload_n 3, 1)) ∧ (decode cL_law 1055 = .ok (.iconst 1, 1)) ∧ (decode cL_law 1056 = .ok (.iadd, 1)) ∧ (decode cL_law 1057 = .ok (.iaload, 1)) ∧ (decode cL_law 1058 = .ok (.aload_n 0, 1)) ∧ (decode cL_law 1059 = .ok (.iload_n 3, 1)) ∧ (decode cL_law 1060 = .ok (.iconst 2, 1)) ∧ (decode cL_law 1061 = .ok (.iadd, 1)) := by decide +kernel
def dL_law_1042 := edL_law_1042.1
def dL_law_1043 := edL_law_1042.2.1
def dL_law_1044 := edL_law_1042.2.2.1
def dL_law_1045 := edL_law_1042.2.2.2.1
def dL_law_1048 := edL_law_1042.2.2.2.2.1
def dL_law_1049 := edL_law_1042.2.2.2.2.2.1
def dL_law_1052 := edL_law_1042.2.2.2.2.2.2.1
def dL_law_1053 := edL_law_1042.2.2.2.2.2.2.2.1
def dL_law_1054 := edL_law_1042.2.2.2.2.2.2.2.2.1
def dL_law_1055 := edL_law_1042.2.2.2.2.2.2.2.2.2.1
def dL_law_1056 := edL_law_1042.2.2.2.2.2.2.2.2.2.2.1
def dL_law_1057 := edL_law_1042.2.2.2.2.2.2.2.2.2.2.2.1
def dL_law_1058 := edL_law_1042.2.2.2.2.2.2.2.2.2.2.2.2.1
def dL_law_1059 := edL_law_1042.2.2.2.2.2.2.2.2.2.2.2.2.2.1
def dL_law_1060 := edL_law_1042.2.2.2.2.2.2.2.2.2.2.2.2.2.2.1
def dL_law_1061 := edL_law_1042.2.2.2.2.2.2.2.2.2.2.2.2.2.2.2
theorem edL_law_1062 : (decode cL_law 1062 = .ok (.iaload, 1)) ∧ (decode cL_law 1063 = .ok (.invokevirtual 126, 3)) ∧ (decode cL_law 1066 = .ok (.pop, 1)) ∧ (decode cL_law 1067 = .ok (.aload_n 2, 1)) ∧ (decode cL_law 1068 = .ok (.aload_n 0, 1)) ∧ (decode cL_law 1069 = .ok (.iload_n 3, 1)) ∧ (decode cL_law 1070 = .ok (.iconst 1, 1)) ∧ (decode cL_law 1071 = .ok (.iadd, 1)) ∧ (decode cL_law 1072 = .ok (.iaload, 1)) ∧ (decode cL_law 1073 = .ok (.aload_n 0, 1)) ∧ (decode cL_law 1074 = .ok (.iload_n 3, 1)) ∧ (decode cL_law 1075 = .ok (.iconst 2, 1)) ∧ (decode cL_law 1076 = .ok (.iadd, 1)) ∧ (decode cL_law 1077 = .ok (.iaload, 1)) ∧ (decode cL_law 1078 = .ok (.invokevirtual 129, 3)) ∧ (decode cL_law 1081 = .ok (.pop, 1)) := by decide +kernel
def dL_law_1062 := edL_law_1062.1
def dL_law_1063 := edL_law_1062.2.1
def dL_law_1066 := edL_law_1062.2.2.1
def dL_law_1067 := edL_law_1062.2.2.2.1
def dL_law_1068 := edL_law_1062.2.2.2.2.1
def dL_law_1069 := edL_law_1062.2.2.2.2.2.1
def dL_law_1070 := edL_law_1062.2.2.2.2.2.2.1
def dL_law_1071 := edL_law_1062.2.2.2.2.2.2.2.1
def dL_law_1072 := edL_law_1062.2.2.2.2.2.2.2.2.1
def dL_law_1073 := edL_law_1062.2.2.2.2.2.2.2.2.2.1
def dL_law_1074 := edL_law_1062.2.2.2.2.2.2.2.2.2.2.1
def dL_law_1075 := edL_law_1062.2.2.2.2.2.2.2.2.2.2.2.1
def dL_law_1076 := edL_law_1062.2.2.2.2.2.2.2.2.2.2.2.2.1
def dL_law_1077 := edL_law_1062.2.2.2.2.2.2.2.2.2.2.2.2.2.1
def dL_law_1078 := edL_law_1062.2.2.2.2.2.2.2.2.2.2.2.2.2.2.1
def dL_law_1081 := edL_law_1062.2.2.2.2.2.2.2.2.2.2.2.2.2.2.2
theorem edL_law_1082 : (decode cL_law 1082 = .ok (.goto 52, 3)) ∧ (decode cL_law 1085 = .ok (.aload_n 1, 1)) ∧ (decode cL_law 1086 = .ok (.invokevirtual 130, 3)) ∧ (decode cL_law 1089 = .ok (.pop, 1)) ∧ (decode cL_law 1090 = .ok (.aload_n 2, 1)) ∧ (decode cL_law 1091 = .ok (.invokevirtual 133, 3)) ∧ (decode cL_law 1094 = .ok (.pop, 1)) ∧ (decode cL_law 1095 = .ok (.goto 39, 3)) ∧ (decode cL_law 1098 = .ok (.aload_n 1, 1)) ∧ (decode cL_law 1099 = .ok (.invokevirtual 134, 3)) ∧ (decode cL_law 1102 = .ok (.pop, 1)) ∧ (decode cL_law 1103 = .ok (.aload_n 2, 1)) ∧ (decode cL_law 1104 = .ok (.invokevirtual 137, 3)) ∧ (decode cL_law 1107 = .ok (.pop, 1)) ∧ (decode cL_law 1108 = .ok (.goto 26, 3)) ∧ (decode cL_law 1111 = .ok (.aload_n 1, 1)) := by decide +kernel
def dL_law_1082 := edL_law_1082.1
def dL_law_1085 := edL_law_1082.2.1
def dL_law_1086 := edL_law_1082.2.2.1
def dL_law_1089 := edL_law_1082.2.2.2.1
def dL_law_1090 := edL_law_1082.2.2.2.2.1
def dL_law_1091 := edL_law_1082.2.2.2.2.2.1
def dL_law_1094 := edL_law_1082.2.2.2.2.2.2.1
def dL_law_1095 := edL_law_1082.2.2.2.2.2.2.2.1
def dL_law_1098 := edL_law_1082.2.2.2.2.2.2.2.2.1
def dL_law_1099 := edL_law_1082.2.2.2.2.2.2.2.2.2.1
def dL_law_1102 := edL_law_1082.2.2.2.2.2.2.2.2.2.2.1
def dL_law_1103 := edL_law_1082.2.2.2.2.2.2.2.2.2.2.2.1
def dL_law_1104 := edL_law_1082.2.2.2.2.2.2.2.2.2.2.2.2.1
def dL_law_1107 := edL_law_1082.2.2.2.2.2.2.2.2.2.2.2.2.2.1
def dL_law_1108 := edL_law_1082.2.2.2.2.2.2.2.2.2.2.2.2.2.2.1
def dL_law_1111 := edL_law_1082.2.2.2.2.2.2.2.2.2.2.2.2.2.2.2
theorem edL_law_1112 : (decode cL_law 1112 = .ok (.aload_n 0, 1)) ∧ (decode cL_law 1113 = .ok (.iload_n 3, 1)) ∧ (decode cL_law 1114 = .ok (.iconst 1, 1)) ∧ (decode cL_law 1115 = .ok (.iadd, 1)) ∧ (decode cL_law 1116 = .ok (.iaload, 1)) ∧ (decode cL_law 1117 = .ok (.invokevirtual 138, 3)) ∧ (decode cL_law 1120 = .ok (.pop, 1)) ∧ (decode cL_law 1121 = .ok (.aload_n 2, 1)) ∧ (decode cL_law 1122 = .ok (.aload_n 0, 1)) ∧ (decode cL_law 1123 = .ok (.iload_n 3, 1)) ∧ (decode cL_law 1124 = .ok (.iconst 1, 1)) ∧ (decode cL_law 1125 = .ok (.iadd, 1)) ∧ (decode cL_law 1126 = .ok (.iaload, 1)) ∧ (decode cL_law 1127 = .ok (.invokevirtual 141, 3)) ∧ (decode cL_law 1130 = .ok (.pop, 1)) ∧ (decode cL_law 1131 = .ok (.goto 3, 3)) := by decide +kernel
def dL_law_1112 := edL_law_1112.1
def dL_law_1113 := edL_law_1112.2.1
def dL_law_1114 := edL_law_1112.2.2.1
def dL_law_1115 := edL_law_1112.2.2.2.1
def dL_law_1116 := edL_law_1112.2.2.2.2.1
def dL_law_1117 := edL_law_1112.2.2.2.2.2.1
def dL_law_1120 := edL_law_1112.2.2.2.2.2.2.1
def dL_law_1121 := edL_law_1112.2.2.2.2.2.2.2.1
def dL_law_1122 := edL_law_1112.2.2.2.2.2.2.2.2.1
def dL_law_1123 := edL_law_1112.2.2.2.2.2.2.2.2.2.1
def dL_law_1124 := edL_law_1112.2.2.2.2.2.2.2.2.2.2.1
def dL_law_1125 := edL_law_1112.2.2.2.2.2.2.2.2.2.2.2.1
def dL_law_1126 := edL_law_1112.2.2.2.2.2.2.2.2.2.2.2.2.1
def dL_law_1127 := edL_law_1112.2.2.2.2.2.2.2.2.2.2.2.2.2.1
def dL_law_1130 := edL_law_1112.2.2.2.2.2.2.2.2.2.2.2.2.2.2.1
def dL_law_1131 := edL_law_1112.2.2.2.2.2.2.2.2.2.2.2.2.2.2.2
theorem edL_law_1134 : (decode cL_law 1134 = .ok (.iinc 3 6, 3)) ∧ (decode cL_law 1137 = .ok (.goto (-1119), 3)) ∧ (decode cL_law 1140 = .ok (.iconst 1, 1)) ∧ (decode cL_law 1141 = .ok (.ireturn, 1)) := by decide +kernel
def dL_law_1134 := edL_law_1134.1
def dL_law_1137 := edL_law_1134.2.1
def dL_law_1140 := edL_law_1134.2.2.1
def dL_law_1141 := edL_law_1134.2.2.2
