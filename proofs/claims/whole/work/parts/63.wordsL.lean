def WX_0 : List Cond := [.classLink RL 8 RX9, .instantiable RX9 6, .classLink RL 80 RX10, .instantiable RX10 53, .arrayClass .long, .methodLink RL 71 yL_cell, .static yL_cell, .initialized RL, .code yL_cell cL_cell 2 (some .int), .methodLink RL 77 yX9_init, .instanceMethod yX9_init, .code yX9_init cX9_init 2 none, .methodLink RX9 1 objectInit, .instanceMethod objectInit, .code objectInit ⟨#[0xb1]⟩ 1 none, .classLink RX9 7 RX4, .instantiable RX4 8, .fieldLink RX9 18 "LoopGroup$Runner" "scheduler" "LLoopGroup$Scheduler;", .fieldLink RX9 23 "LoopGroup$Scheduler" "trace" "LLoopGroup$Trace;", .fieldLink RX9 30 "LoopGroup$Runner" "tasks" "LLoopGroup$Tasks;", .fieldLink RX9 35 "LoopGroup$Runner" "promises" "LLoopGroup$Promises;", .fieldLink RX9 40 "LoopGroup$Runner" "channels" "LLoopGroup$Channels;", .methodLink RX9 11 yX4_init, .instanceMethod yX4_init, .code yX4_init cX4_init 2 none, .methodLink RX4 3 objectInit, .classLink RX4 9 RX6, .instantiable RX6 5, .classLink RX4 18 RX2, .instantiable RX2 7, .classLink RX4 25 RX0, .instantiable RX0 7, .classLink RX4 32 RX5, .instantiable RX5 5, .fieldLink RX4 41 "LoopGroup$Scheduler" "trace" "LLoopGroup$Trace;", .instanceMethod yX6_init, .code yX6_init cX6_init 1 none, .methodLink RX6 1 objectInit, .arrayClass .int, .instanceMethod yX2_init, .code yX2_init cX2_init 1 none, .methodLink RX2 1 objectInit, .arrayClass .boolean, .instanceMethod yX0_init, .code yX0_init cX0_init 1 none, .methodLink RX0 1 objectInit, .methodLink RX4 34 yX5_init, .instanceMethod yX5_init, .code yX5_init cX5_init 3 none, .methodLink RX5 3 objectInit, .classLink RX5 9 RX8, .instantiable RX8 2, .classLink RX5 18 RX1, .instantiable RX1 11, .instanceMethod yX8_init, .code yX8_init cX8_init 1 none, .methodLink RX8 1 objectInit, .instanceMethod yX1_init, .code yX1_init cX1_init 1 none, .methodLink RX1 3 objectInit]
def WX_1 : List Cond := [.classLink RX1 9 RX3, .instantiable RX3 5, .fieldLink RX1 12 "LoopGroup$Loop" "queue" "LLoopGroup$Queue;", .classLink RX1 18 RX7, .instantiable RX7 4, .fieldLink RX1 21 "LoopGroup$Loop" "timers" "LLoopGroup$Timers;", .fieldLink RX1 25 "LoopGroup$Loop" "state" "I", .fieldLink RX1 29 "LoopGroup$Loop" "awaited" "I", .instanceMethod yX3_init, .code yX3_init cX3_init 1 none, .methodLink RX3 1 objectInit, .instanceMethod yX7_init, .code yX7_init cX7_init 1 none, .methodLink RX7 3 objectInit, .methodLink RL 82 yX10_init, .instanceMethod yX10_init, .code yX10_init cX10_init 3 none, .methodLink RX10 1 objectInit, .methodLink RL 83 yL_task, .static yL_task, .codeWith yL_task cL_task 3 (some .int) [(0, 8, 11, 13)], .classLink RL 13 "java/lang/IllegalStateException", .methodLink RL 7 yX9_task, .instanceMethod yX9_task, .selects RX9 yX9_task yX9_task, .methodLink RL 86 yX10_task, .instanceMethod yX10_task, .selects RX10 yX10_task yX10_task, .methodLink RL 87 yX10_thrown, .instanceMethod yX10_thrown, .selects RX10 yX10_thrown yX10_thrown, .methodLink RL 90 yL_order, .static yL_order, .codeWith yL_order cL_order 7 (some .int) [(0, 14, 17, 19), (0, 14, 21, 13)], .classLink RL 19 "java/lang/IllegalArgumentException", .methodLink RL 15 yX9_order, .instanceMethod yX9_order, .selects RX9 yX9_order yX9_order, .methodLink RL 93 yX10_order, .instanceMethod yX10_order, .selects RX10 yX10_order yX10_order, .methodLink RL 94 yL_promise, .static yL_promise, .codeWith yL_promise cL_promise 4 (some .int) [(0, 9, 12, 19), (0, 9, 15, 13)], .methodLink RL 21 yX9_promise, .instanceMethod yX9_promise, .selects RX9 yX9_promise yX9_promise, .methodLink RL 97 yX10_promise, .instanceMethod yX10_promise, .selects RX10 yX10_promise yX10_promise, .methodLink RL 98 yL_channels, .static yL_channels, .codeWith yL_channels cL_channels 5 (some .int) [(0, 10, 13, 19), (0, 10, 17, 13)], .methodLink RL 25 yX9_channels, .instanceMethod yX9_channels, .selects RX9 yX9_channels yX9_channels, .methodLink RL 101 yX10_channels, .instanceMethod yX10_channels, .selects RX10 yX10_channels yX10_channels, .methodLink RL 102 yL_handler]
def WX_2 : List Cond := [.static yL_handler, .codeWith yL_handler cL_handler 7 (some .int) [(0, 14, 17, 19), (0, 14, 21, 13)], .methodLink RL 29 yX9_handler, .instanceMethod yX9_handler, .selects RX9 yX9_handler yX9_handler, .methodLink RL 104 yX10_handler, .instanceMethod yX10_handler, .selects RX10 yX10_handler yX10_handler, .methodLink RL 105 yL_advance, .static yL_advance, .codeWith yL_advance cL_advance 4 (some .int) [(0, 8, 11, 19)], .methodLink RL 32 yX9_advance, .instanceMethod yX9_advance, .selects RX9 yX9_advance yX9_advance, .methodLink RL 107 yX10_advance, .instanceMethod yX10_advance, .selects RX10 yX10_advance yX10_advance, .methodLink RL 108 yL_execute, .static yL_execute, .codeWith yL_execute cL_execute 5 (some .int) [(0, 10, 13, 19), (0, 10, 17, 13)], .methodLink RL 36 yX9_execute, .instanceMethod yX9_execute, .selects RX9 yX9_execute yX9_execute, .methodLink RL 110 yX10_execute, .instanceMethod yX10_execute, .selects RX10 yX10_execute yX10_execute, .methodLink RL 111 yL_timer, .static yL_timer, .codeWith yL_timer cL_timer 6 (some .int) [(0, 12, 15, 19), (0, 12, 19, 13)], .methodLink RL 39 yX9_timer, .instanceMethod yX9_timer, .selects RX9 yX9_timer yX9_timer, .methodLink RL 114 yX10_timer, .instanceMethod yX10_timer, .selects RX10 yX10_timer yX10_timer, .methodLink RL 115 yX9_cancel, .instanceMethod yX9_cancel, .selects RX9 yX9_cancel yX9_cancel, .methodLink RL 119 yX10_cancel, .instanceMethod yX10_cancel, .selects RX10 yX10_cancel yX10_cancel, .methodLink RL 120 yL_complete, .static yL_complete, .codeWith yL_complete cL_complete 6 (some .int) [(0, 19, 22, 19)], .methodLink RL 43 yX9_complete, .instanceMethod yX9_complete, .selects RX9 yX9_complete yX9_complete, .methodLink RL 122 yX10_complete, .instanceMethod yX10_complete, .selects RX10 yX10_complete yX10_complete, .methodLink RL 123 yL_listen, .static yL_listen, .codeWith yL_listen cL_listen 4 (some .int) [(0, 6, 9, 19)], .methodLink RL 47 yX9_listen, .instanceMethod yX9_listen, .selects RX9 yX9_listen yX9_listen, .methodLink RL 126 yX10_listen, .instanceMethod yX10_listen, .selects RX10 yX10_listen yX10_listen, .methodLink RL 127 yL_fire]
def WX_3 : List Cond := [.static yL_fire, .codeWith yL_fire cL_fire 4 (some .int) [(0, 6, 9, 19), (0, 6, 12, 13)], .methodLink RL 51 yX9_fire, .instanceMethod yX9_fire, .selects RX9 yX9_fire yX9_fire, .methodLink RL 129 yX10_fire, .instanceMethod yX10_fire, .selects RX10 yX10_fire yX10_fire, .methodLink RL 130 yL_shutdown, .static yL_shutdown, .codeWith yL_shutdown cL_shutdown 4 (some .int) [(0, 6, 9, 19)], .methodLink RL 54 yX9_shutdown, .instanceMethod yX9_shutdown, .selects RX9 yX9_shutdown yX9_shutdown, .methodLink RL 132 yX10_shutdown, .instanceMethod yX10_shutdown, .selects RX10 yX10_shutdown yX10_shutdown, .methodLink RL 133 yL_step, .static yL_step, .codeWith yL_step cL_step 4 (some .int) [(0, 9, 12, 19)], .methodLink RL 57 yX9_step, .instanceMethod yX9_step, .selects RX9 yX9_step yX9_step, .methodLink RL 135 yX10_step, .instanceMethod yX10_step, .selects RX10 yX10_step yX10_step, .methodLink RL 136 yL_loop, .static yL_loop, .codeWith yL_loop cL_loop 5 (some .int) [(0, 10, 13, 19)], .methodLink RL 60 yX9_loop, .instanceMethod yX9_loop, .selects RX9 yX9_loop yX9_loop, .methodLink RL 138 yX10_loop, .instanceMethod yX10_loop, .selects RX10 yX10_loop yX10_loop, .methodLink RL 139 yL_look, .static yL_look, .codeWith yL_look cL_look 5 (some .int) [(0, 10, 13, 19)], .methodLink RL 63 yX9_look, .instanceMethod yX9_look, .selects RX9 yX9_look yX9_look, .methodLink RL 141 yX10_look, .instanceMethod yX10_look, .selects RX10 yX10_look yX10_look, .methodLink RL 142 yX9_traced, .instanceMethod yX9_traced, .selects RX9 yX9_traced yX9_traced, .methodLink RL 145 yX10_traced, .instanceMethod yX10_traced, .selects RX10 yX10_traced yX10_traced, .methodLink RL 146 yL_trace, .static yL_trace, .codeWith yL_trace cL_trace 5 (some .int) [(0, 10, 13, 19), (0, 10, 17, 69)], .classLink RL 69 "java/lang/IndexOutOfBoundsException", .methodLink RL 66 yX9_trace, .instanceMethod yX9_trace, .selects RX9 yX9_trace yX9_trace, .methodLink RL 148 yX10_trace, .instanceMethod yX10_trace, .selects RX10 yX10_trace yX10_trace]
def WX : List Cond := WX_0 ++ (WX_1 ++ (WX_2 ++ (WX_3)))
def WLA : List Cond := WX ++ WS
theorem inWS {w : Cond} (h : w ∈ WS) : w ∈ WLA := List.mem_append_right _ h
theorem in_WX_0 {w : Cond} (h : w ∈ WX_0) : w ∈ WLA := (List.mem_append_left _ (List.mem_append_left _ h))
theorem in_WX_1 {w : Cond} (h : w ∈ WX_1) : w ∈ WLA := (List.mem_append_left _ (List.mem_append_right _ (List.mem_append_left _ h)))
theorem in_WX_2 {w : Cond} (h : w ∈ WX_2) : w ∈ WLA := (List.mem_append_left _ (List.mem_append_right _ (List.mem_append_right _ (List.mem_append_left _ h))))
theorem in_WX_3 {w : Cond} (h : w ∈ WX_3) : w ∈ WLA := (List.mem_append_left _ (List.mem_append_right _ (List.mem_append_right _ (List.mem_append_right _ h))))
set_option maxRecDepth 100000 in
theorem WX_good : WX.all goodWord = true := by decide +kernel
theorem qL_8 : Cond.classLink RL 8 RX9 ∈ WLA := (in_WX_0 (List.mem_of_getElem? (i := 0) rfl))
theorem instX9 : Cond.instantiable RX9 6 ∈ WLA := (in_WX_0 (List.mem_of_getElem? (i := 1) rfl))
theorem qL_80 : Cond.classLink RL 80 RX10 ∈ WLA := (in_WX_0 (List.mem_of_getElem? (i := 2) rfl))
theorem instX10 : Cond.instantiable RX10 53 ∈ WLA := (in_WX_0 (List.mem_of_getElem? (i := 3) rfl))
theorem arr_long : Cond.arrayClass .long ∈ WLA := (in_WX_0 (List.mem_of_getElem? (i := 4) rfl))
theorem kL_71 : Cond.methodLink RL 71 yL_cell ∈ WLA := (in_WX_0 (List.mem_of_getElem? (i := 5) rfl))
theorem kL_77 : Cond.methodLink RL 77 yX9_init ∈ WLA := (in_WX_0 (List.mem_of_getElem? (i := 9) rfl))
theorem kX9_1 : Cond.methodLink RX9 1 objectInit ∈ WLA := (in_WX_0 (List.mem_of_getElem? (i := 12) rfl))
theorem qX9_7 : Cond.classLink RX9 7 RX4 ∈ WLA := (in_WX_0 (List.mem_of_getElem? (i := 15) rfl))
theorem instX4 : Cond.instantiable RX4 8 ∈ WLA := (in_WX_0 (List.mem_of_getElem? (i := 16) rfl))
theorem gX9_18 : Cond.fieldLink RX9 18 "LoopGroup$Runner" "scheduler" "LLoopGroup$Scheduler;" ∈ WLA := (in_WX_0 (List.mem_of_getElem? (i := 17) rfl))
theorem gX9_23 : Cond.fieldLink RX9 23 "LoopGroup$Scheduler" "trace" "LLoopGroup$Trace;" ∈ WLA := (in_WX_0 (List.mem_of_getElem? (i := 18) rfl))
theorem gX9_30 : Cond.fieldLink RX9 30 "LoopGroup$Runner" "tasks" "LLoopGroup$Tasks;" ∈ WLA := (in_WX_0 (List.mem_of_getElem? (i := 19) rfl))
theorem gX9_35 : Cond.fieldLink RX9 35 "LoopGroup$Runner" "promises" "LLoopGroup$Promises;" ∈ WLA := (in_WX_0 (List.mem_of_getElem? (i := 20) rfl))
theorem gX9_40 : Cond.fieldLink RX9 40 "LoopGroup$Runner" "channels" "LLoopGroup$Channels;" ∈ WLA := (in_WX_0 (List.mem_of_getElem? (i := 21) rfl))
theorem kX9_11 : Cond.methodLink RX9 11 yX4_init ∈ WLA := (in_WX_0 (List.mem_of_getElem? (i := 22) rfl))
theorem kX4_3 : Cond.methodLink RX4 3 objectInit ∈ WLA := (in_WX_0 (List.mem_of_getElem? (i := 25) rfl))
theorem qX4_9 : Cond.classLink RX4 9 RX6 ∈ WLA := (in_WX_0 (List.mem_of_getElem? (i := 26) rfl))
theorem instX6 : Cond.instantiable RX6 5 ∈ WLA := (in_WX_0 (List.mem_of_getElem? (i := 27) rfl))
theorem qX4_18 : Cond.classLink RX4 18 RX2 ∈ WLA := (in_WX_0 (List.mem_of_getElem? (i := 28) rfl))
theorem instX2 : Cond.instantiable RX2 7 ∈ WLA := (in_WX_0 (List.mem_of_getElem? (i := 29) rfl))
theorem qX4_25 : Cond.classLink RX4 25 RX0 ∈ WLA := (in_WX_0 (List.mem_of_getElem? (i := 30) rfl))
theorem instX0 : Cond.instantiable RX0 7 ∈ WLA := (in_WX_0 (List.mem_of_getElem? (i := 31) rfl))
theorem qX4_32 : Cond.classLink RX4 32 RX5 ∈ WLA := (in_WX_0 (List.mem_of_getElem? (i := 32) rfl))
theorem instX5 : Cond.instantiable RX5 5 ∈ WLA := (in_WX_0 (List.mem_of_getElem? (i := 33) rfl))
theorem gX4_41 : Cond.fieldLink RX4 41 "LoopGroup$Scheduler" "trace" "LLoopGroup$Trace;" ∈ WLA := (in_WX_0 (List.mem_of_getElem? (i := 34) rfl))
theorem kX6_1 : Cond.methodLink RX6 1 objectInit ∈ WLA := (in_WX_0 (List.mem_of_getElem? (i := 37) rfl))
theorem arr_int : Cond.arrayClass .int ∈ WLA := (in_WX_0 (List.mem_of_getElem? (i := 38) rfl))
theorem kX2_1 : Cond.methodLink RX2 1 objectInit ∈ WLA := (in_WX_0 (List.mem_of_getElem? (i := 41) rfl))
theorem arr_boolean : Cond.arrayClass .boolean ∈ WLA := (in_WX_0 (List.mem_of_getElem? (i := 42) rfl))
theorem kX0_1 : Cond.methodLink RX0 1 objectInit ∈ WLA := (in_WX_0 (List.mem_of_getElem? (i := 45) rfl))
theorem kX4_34 : Cond.methodLink RX4 34 yX5_init ∈ WLA := (in_WX_0 (List.mem_of_getElem? (i := 46) rfl))
theorem kX5_3 : Cond.methodLink RX5 3 objectInit ∈ WLA := (in_WX_0 (List.mem_of_getElem? (i := 49) rfl))
theorem qX5_9 : Cond.classLink RX5 9 RX8 ∈ WLA := (in_WX_0 (List.mem_of_getElem? (i := 50) rfl))
theorem instX8 : Cond.instantiable RX8 2 ∈ WLA := (in_WX_0 (List.mem_of_getElem? (i := 51) rfl))
theorem qX5_18 : Cond.classLink RX5 18 RX1 ∈ WLA := (in_WX_0 (List.mem_of_getElem? (i := 52) rfl))
theorem instX1 : Cond.instantiable RX1 11 ∈ WLA := (in_WX_0 (List.mem_of_getElem? (i := 53) rfl))
theorem kX8_1 : Cond.methodLink RX8 1 objectInit ∈ WLA := (in_WX_0 (List.mem_of_getElem? (i := 56) rfl))
theorem kX1_3 : Cond.methodLink RX1 3 objectInit ∈ WLA := (in_WX_0 (List.mem_of_getElem? (i := 59) rfl))
theorem qX1_9 : Cond.classLink RX1 9 RX3 ∈ WLA := (in_WX_1 (List.mem_of_getElem? (i := 0) rfl))
theorem instX3 : Cond.instantiable RX3 5 ∈ WLA := (in_WX_1 (List.mem_of_getElem? (i := 1) rfl))
theorem gX1_12 : Cond.fieldLink RX1 12 "LoopGroup$Loop" "queue" "LLoopGroup$Queue;" ∈ WLA := (in_WX_1 (List.mem_of_getElem? (i := 2) rfl))
theorem qX1_18 : Cond.classLink RX1 18 RX7 ∈ WLA := (in_WX_1 (List.mem_of_getElem? (i := 3) rfl))
theorem instX7 : Cond.instantiable RX7 4 ∈ WLA := (in_WX_1 (List.mem_of_getElem? (i := 4) rfl))
theorem gX1_21 : Cond.fieldLink RX1 21 "LoopGroup$Loop" "timers" "LLoopGroup$Timers;" ∈ WLA := (in_WX_1 (List.mem_of_getElem? (i := 5) rfl))
theorem gX1_25 : Cond.fieldLink RX1 25 "LoopGroup$Loop" "state" "I" ∈ WLA := (in_WX_1 (List.mem_of_getElem? (i := 6) rfl))
theorem gX1_29 : Cond.fieldLink RX1 29 "LoopGroup$Loop" "awaited" "I" ∈ WLA := (in_WX_1 (List.mem_of_getElem? (i := 7) rfl))
theorem kX3_1 : Cond.methodLink RX3 1 objectInit ∈ WLA := (in_WX_1 (List.mem_of_getElem? (i := 10) rfl))
theorem kX7_3 : Cond.methodLink RX7 3 objectInit ∈ WLA := (in_WX_1 (List.mem_of_getElem? (i := 13) rfl))
theorem kL_82 : Cond.methodLink RL 82 yX10_init ∈ WLA := (in_WX_1 (List.mem_of_getElem? (i := 14) rfl))
theorem kX10_1 : Cond.methodLink RX10 1 objectInit ∈ WLA := (in_WX_1 (List.mem_of_getElem? (i := 17) rfl))
theorem kL_83 : Cond.methodLink RL 83 yL_task ∈ WLA := (in_WX_1 (List.mem_of_getElem? (i := 18) rfl))
theorem qL_13 : Cond.classLink RL 13 "java/lang/IllegalStateException" ∈ WLA := (in_WX_1 (List.mem_of_getElem? (i := 21) rfl))
theorem kL_7 : Cond.methodLink RL 7 yX9_task ∈ WLA := (in_WX_1 (List.mem_of_getElem? (i := 22) rfl))
theorem kL_86 : Cond.methodLink RL 86 yX10_task ∈ WLA := (in_WX_1 (List.mem_of_getElem? (i := 25) rfl))
theorem kL_87 : Cond.methodLink RL 87 yX10_thrown ∈ WLA := (in_WX_1 (List.mem_of_getElem? (i := 28) rfl))
theorem kL_90 : Cond.methodLink RL 90 yL_order ∈ WLA := (in_WX_1 (List.mem_of_getElem? (i := 31) rfl))
theorem qL_19 : Cond.classLink RL 19 "java/lang/IllegalArgumentException" ∈ WLA := (in_WX_1 (List.mem_of_getElem? (i := 34) rfl))
theorem kL_15 : Cond.methodLink RL 15 yX9_order ∈ WLA := (in_WX_1 (List.mem_of_getElem? (i := 35) rfl))
theorem kL_93 : Cond.methodLink RL 93 yX10_order ∈ WLA := (in_WX_1 (List.mem_of_getElem? (i := 38) rfl))
theorem kL_94 : Cond.methodLink RL 94 yL_promise ∈ WLA := (in_WX_1 (List.mem_of_getElem? (i := 41) rfl))
theorem kL_21 : Cond.methodLink RL 21 yX9_promise ∈ WLA := (in_WX_1 (List.mem_of_getElem? (i := 44) rfl))
theorem kL_97 : Cond.methodLink RL 97 yX10_promise ∈ WLA := (in_WX_1 (List.mem_of_getElem? (i := 47) rfl))
theorem kL_98 : Cond.methodLink RL 98 yL_channels ∈ WLA := (in_WX_1 (List.mem_of_getElem? (i := 50) rfl))
theorem kL_25 : Cond.methodLink RL 25 yX9_channels ∈ WLA := (in_WX_1 (List.mem_of_getElem? (i := 53) rfl))
theorem kL_101 : Cond.methodLink RL 101 yX10_channels ∈ WLA := (in_WX_1 (List.mem_of_getElem? (i := 56) rfl))
theorem kL_102 : Cond.methodLink RL 102 yL_handler ∈ WLA := (in_WX_1 (List.mem_of_getElem? (i := 59) rfl))
theorem kL_29 : Cond.methodLink RL 29 yX9_handler ∈ WLA := (in_WX_2 (List.mem_of_getElem? (i := 2) rfl))
theorem kL_104 : Cond.methodLink RL 104 yX10_handler ∈ WLA := (in_WX_2 (List.mem_of_getElem? (i := 5) rfl))
theorem kL_105 : Cond.methodLink RL 105 yL_advance ∈ WLA := (in_WX_2 (List.mem_of_getElem? (i := 8) rfl))
theorem kL_32 : Cond.methodLink RL 32 yX9_advance ∈ WLA := (in_WX_2 (List.mem_of_getElem? (i := 11) rfl))
theorem kL_107 : Cond.methodLink RL 107 yX10_advance ∈ WLA := (in_WX_2 (List.mem_of_getElem? (i := 14) rfl))
theorem kL_108 : Cond.methodLink RL 108 yL_execute ∈ WLA := (in_WX_2 (List.mem_of_getElem? (i := 17) rfl))
theorem kL_36 : Cond.methodLink RL 36 yX9_execute ∈ WLA := (in_WX_2 (List.mem_of_getElem? (i := 20) rfl))
theorem kL_110 : Cond.methodLink RL 110 yX10_execute ∈ WLA := (in_WX_2 (List.mem_of_getElem? (i := 23) rfl))
theorem kL_111 : Cond.methodLink RL 111 yL_timer ∈ WLA := (in_WX_2 (List.mem_of_getElem? (i := 26) rfl))
theorem kL_39 : Cond.methodLink RL 39 yX9_timer ∈ WLA := (in_WX_2 (List.mem_of_getElem? (i := 29) rfl))
theorem kL_114 : Cond.methodLink RL 114 yX10_timer ∈ WLA := (in_WX_2 (List.mem_of_getElem? (i := 32) rfl))
theorem kL_115 : Cond.methodLink RL 115 yX9_cancel ∈ WLA := (in_WX_2 (List.mem_of_getElem? (i := 35) rfl))
theorem kL_119 : Cond.methodLink RL 119 yX10_cancel ∈ WLA := (in_WX_2 (List.mem_of_getElem? (i := 38) rfl))
theorem kL_120 : Cond.methodLink RL 120 yL_complete ∈ WLA := (in_WX_2 (List.mem_of_getElem? (i := 41) rfl))
theorem kL_43 : Cond.methodLink RL 43 yX9_complete ∈ WLA := (in_WX_2 (List.mem_of_getElem? (i := 44) rfl))
theorem kL_122 : Cond.methodLink RL 122 yX10_complete ∈ WLA := (in_WX_2 (List.mem_of_getElem? (i := 47) rfl))
theorem kL_123 : Cond.methodLink RL 123 yL_listen ∈ WLA := (in_WX_2 (List.mem_of_getElem? (i := 50) rfl))
theorem kL_47 : Cond.methodLink RL 47 yX9_listen ∈ WLA := (in_WX_2 (List.mem_of_getElem? (i := 53) rfl))
theorem kL_126 : Cond.methodLink RL 126 yX10_listen ∈ WLA := (in_WX_2 (List.mem_of_getElem? (i := 56) rfl))
theorem kL_127 : Cond.methodLink RL 127 yL_fire ∈ WLA := (in_WX_2 (List.mem_of_getElem? (i := 59) rfl))
theorem kL_51 : Cond.methodLink RL 51 yX9_fire ∈ WLA := (in_WX_3 (List.mem_of_getElem? (i := 2) rfl))
theorem kL_129 : Cond.methodLink RL 129 yX10_fire ∈ WLA := (in_WX_3 (List.mem_of_getElem? (i := 5) rfl))
theorem kL_130 : Cond.methodLink RL 130 yL_shutdown ∈ WLA := (in_WX_3 (List.mem_of_getElem? (i := 8) rfl))
theorem kL_54 : Cond.methodLink RL 54 yX9_shutdown ∈ WLA := (in_WX_3 (List.mem_of_getElem? (i := 11) rfl))
theorem kL_132 : Cond.methodLink RL 132 yX10_shutdown ∈ WLA := (in_WX_3 (List.mem_of_getElem? (i := 14) rfl))
theorem kL_133 : Cond.methodLink RL 133 yL_step ∈ WLA := (in_WX_3 (List.mem_of_getElem? (i := 17) rfl))
theorem kL_57 : Cond.methodLink RL 57 yX9_step ∈ WLA := (in_WX_3 (List.mem_of_getElem? (i := 20) rfl))
theorem kL_135 : Cond.methodLink RL 135 yX10_step ∈ WLA := (in_WX_3 (List.mem_of_getElem? (i := 23) rfl))
theorem kL_136 : Cond.methodLink RL 136 yL_loop ∈ WLA := (in_WX_3 (List.mem_of_getElem? (i := 26) rfl))
theorem kL_60 : Cond.methodLink RL 60 yX9_loop ∈ WLA := (in_WX_3 (List.mem_of_getElem? (i := 29) rfl))
theorem kL_138 : Cond.methodLink RL 138 yX10_loop ∈ WLA := (in_WX_3 (List.mem_of_getElem? (i := 32) rfl))
theorem kL_139 : Cond.methodLink RL 139 yL_look ∈ WLA := (in_WX_3 (List.mem_of_getElem? (i := 35) rfl))
theorem kL_63 : Cond.methodLink RL 63 yX9_look ∈ WLA := (in_WX_3 (List.mem_of_getElem? (i := 38) rfl))
theorem kL_141 : Cond.methodLink RL 141 yX10_look ∈ WLA := (in_WX_3 (List.mem_of_getElem? (i := 41) rfl))
theorem kL_142 : Cond.methodLink RL 142 yX9_traced ∈ WLA := (in_WX_3 (List.mem_of_getElem? (i := 44) rfl))
theorem kL_145 : Cond.methodLink RL 145 yX10_traced ∈ WLA := (in_WX_3 (List.mem_of_getElem? (i := 47) rfl))
theorem kL_146 : Cond.methodLink RL 146 yL_trace ∈ WLA := (in_WX_3 (List.mem_of_getElem? (i := 50) rfl))
theorem qL_69 : Cond.classLink RL 69 "java/lang/IndexOutOfBoundsException" ∈ WLA := (in_WX_3 (List.mem_of_getElem? (i := 53) rfl))
theorem kL_66 : Cond.methodLink RL 66 yX9_trace ∈ WLA := (in_WX_3 (List.mem_of_getElem? (i := 54) rfl))
theorem kL_148 : Cond.methodLink RL 148 yX10_trace ∈ WLA := (in_WX_3 (List.mem_of_getElem? (i := 57) rfl))
theorem ini0 : Cond.initialized RX0 ∈ WLA := (inWS (in_WS_2 (List.mem_of_getElem? (i := 14) rfl)))
theorem ini1 : Cond.initialized RX1 ∈ WLA := (inWS (in_WS_4 (List.mem_of_getElem? (i := 16) rfl)))
theorem ini2 : Cond.initialized RX2 ∈ WLA := (inWS (in_WS_0 (List.mem_of_getElem? (i := 32) rfl)))
theorem ini3 : Cond.initialized RX3 ∈ WLA := (inWS (in_WS_1 (List.mem_of_getElem? (i := 14) rfl)))
theorem ini4 : Cond.initialized RX4 ∈ WLA := (inWS (in_WS_2 (List.mem_of_getElem? (i := 34) rfl)))
theorem ini5 : Cond.initialized RX5 ∈ WLA := (inWS (in_WS_1 (List.mem_of_getElem? (i := 2) rfl)))
theorem ini6 : Cond.initialized RX6 ∈ WLA := (inWS (in_WS_2 (List.mem_of_getElem? (i := 1) rfl)))
theorem ini7 : Cond.initialized RX7 ∈ WLA := (inWS (in_WS_1 (List.mem_of_getElem? (i := 34) rfl)))
theorem ini8 : Cond.initialized RX8 ∈ WLA := (inWS (in_WS_1 (List.mem_of_getElem? (i := 9) rfl)))
theorem ini9 : Cond.initialized RX9 ∈ WLA := (inWS (in_WS_5 (List.mem_of_getElem? (i := 11) rfl)))
theorem ini10 : Cond.initialized RX10 ∈ WLA := (inWS (in_WS_6 (List.mem_of_getElem? (i := 51) rfl)))
/-- what a call of an instance method needs of the words, in the law -/
def vl_okV (y : vq_M) (na : Nat) : Prop := Cond.instanceMethod y.1 ∈ WLA ∧ Cond.selects y.1.cls y.1 y.1 ∈ WLA ∧ Cond.initialized y.1.cls ∈ WLA ∧ Cond.code y.1 y.2.1 y.2.2.1 y.2.2.2 ∈ WLA ∧ (y.1.cls ≠ "java/lang/invoke/MethodHandle" ∧ y.1.cls ≠ "java/lang/invoke/VarHandle" ∧ (parseMethodDescriptor y.1.desc).map (fun d => d.parameters.length) = some na)
abbrev vl_H : Type := List (Nat × Nat × Nat × Nat)
def vl_okS (y : vq_M) (hh : vl_H) (na : Nat) : Prop := Cond.static y.1 ∈ WLA ∧ Cond.initialized y.1.cls ∈ WLA ∧ Cond.codeWith y.1 y.2.1 y.2.2.1 y.2.2.2 hh ∈ WLA ∧ (y.1.cls ≠ "java/lang/invoke/MethodHandle" ∧ y.1.cls ≠ "java/lang/invoke/VarHandle" ∧ (parseMethodDescriptor y.1.desc).map (fun d => d.parameters.length) = some na)
theorem o_X9_task : vl_okV m_X9_task 0 := ⟨(in_WX_1 (List.mem_of_getElem? (i := 23) rfl)), (in_WX_1 (List.mem_of_getElem? (i := 24) rfl)), (inWS (in_WS_5 (List.mem_of_getElem? (i := 11) rfl))), (inWS (in_WS_4 (List.mem_of_getElem? (i := 55) rfl))), by decide +kernel⟩
theorem o_X9_order : vl_okV m_X9_order 4 := ⟨(in_WX_1 (List.mem_of_getElem? (i := 36) rfl)), (in_WX_1 (List.mem_of_getElem? (i := 37) rfl)), (inWS (in_WS_5 (List.mem_of_getElem? (i := 11) rfl))), (inWS (in_WS_5 (List.mem_of_getElem? (i := 15) rfl))), by decide +kernel⟩
theorem o_X9_promise : vl_okV m_X9_promise 1 := ⟨(in_WX_1 (List.mem_of_getElem? (i := 45) rfl)), (in_WX_1 (List.mem_of_getElem? (i := 46) rfl)), (inWS (in_WS_5 (List.mem_of_getElem? (i := 11) rfl))), (inWS (in_WS_5 (List.mem_of_getElem? (i := 27) rfl))), by decide +kernel⟩
theorem o_X9_channels : vl_okV m_X9_channels 2 := ⟨(in_WX_1 (List.mem_of_getElem? (i := 54) rfl)), (in_WX_1 (List.mem_of_getElem? (i := 55) rfl)), (inWS (in_WS_5 (List.mem_of_getElem? (i := 11) rfl))), (inWS (in_WS_5 (List.mem_of_getElem? (i := 33) rfl))), by decide +kernel⟩
theorem o_X9_handler : vl_okV m_X9_handler 4 := ⟨(in_WX_2 (List.mem_of_getElem? (i := 3) rfl)), (in_WX_2 (List.mem_of_getElem? (i := 4) rfl)), (inWS (in_WS_5 (List.mem_of_getElem? (i := 11) rfl))), (inWS (in_WS_5 (List.mem_of_getElem? (i := 46) rfl))), by decide +kernel⟩
theorem o_X9_advance : vl_okV m_X9_advance 1 := ⟨(in_WX_2 (List.mem_of_getElem? (i := 12) rfl)), (in_WX_2 (List.mem_of_getElem? (i := 13) rfl)), (inWS (in_WS_5 (List.mem_of_getElem? (i := 11) rfl))), (inWS (in_WS_5 (List.mem_of_getElem? (i := 47) rfl))), by decide +kernel⟩
theorem o_X9_execute : vl_okV m_X9_execute 2 := ⟨(in_WX_2 (List.mem_of_getElem? (i := 21) rfl)), (in_WX_2 (List.mem_of_getElem? (i := 22) rfl)), (inWS (in_WS_5 (List.mem_of_getElem? (i := 11) rfl))), (inWS (in_WS_5 (List.mem_of_getElem? (i := 52) rfl))), by decide +kernel⟩
theorem o_X9_timer : vl_okV m_X9_timer 3 := ⟨(in_WX_2 (List.mem_of_getElem? (i := 30) rfl)), (in_WX_2 (List.mem_of_getElem? (i := 31) rfl)), (inWS (in_WS_5 (List.mem_of_getElem? (i := 11) rfl))), (inWS (in_WS_5 (List.mem_of_getElem? (i := 54) rfl))), by decide +kernel⟩
theorem o_X9_cancel : vl_okV m_X9_cancel 1 := ⟨(in_WX_2 (List.mem_of_getElem? (i := 36) rfl)), (in_WX_2 (List.mem_of_getElem? (i := 37) rfl)), (inWS (in_WS_5 (List.mem_of_getElem? (i := 11) rfl))), (inWS (in_WS_5 (List.mem_of_getElem? (i := 55) rfl))), by decide +kernel⟩
theorem o_X9_complete : vl_okV m_X9_complete 3 := ⟨(in_WX_2 (List.mem_of_getElem? (i := 45) rfl)), (in_WX_2 (List.mem_of_getElem? (i := 46) rfl)), (inWS (in_WS_5 (List.mem_of_getElem? (i := 11) rfl))), (inWS (in_WS_6 (List.mem_of_getElem? (i := 5) rfl))), by decide +kernel⟩
theorem o_X9_listen : vl_okV m_X9_listen 2 := ⟨(in_WX_2 (List.mem_of_getElem? (i := 54) rfl)), (in_WX_2 (List.mem_of_getElem? (i := 55) rfl)), (inWS (in_WS_5 (List.mem_of_getElem? (i := 11) rfl))), (inWS (in_WS_6 (List.mem_of_getElem? (i := 8) rfl))), by decide +kernel⟩
theorem o_X9_fire : vl_okV m_X9_fire 2 := ⟨(in_WX_3 (List.mem_of_getElem? (i := 3) rfl)), (in_WX_3 (List.mem_of_getElem? (i := 4) rfl)), (inWS (in_WS_5 (List.mem_of_getElem? (i := 11) rfl))), (inWS (in_WS_6 (List.mem_of_getElem? (i := 10) rfl))), by decide +kernel⟩
theorem o_X9_shutdown : vl_okV m_X9_shutdown 2 := ⟨(in_WX_3 (List.mem_of_getElem? (i := 12) rfl)), (in_WX_3 (List.mem_of_getElem? (i := 13) rfl)), (inWS (in_WS_5 (List.mem_of_getElem? (i := 11) rfl))), (inWS (in_WS_6 (List.mem_of_getElem? (i := 13) rfl))), by decide +kernel⟩
theorem o_X9_step : vl_okV m_X9_step 1 := ⟨(in_WX_3 (List.mem_of_getElem? (i := 21) rfl)), (in_WX_3 (List.mem_of_getElem? (i := 22) rfl)), (inWS (in_WS_5 (List.mem_of_getElem? (i := 11) rfl))), (inWS (in_WS_6 (List.mem_of_getElem? (i := 17) rfl))), by decide +kernel⟩
theorem o_X9_loop : vl_okV m_X9_loop 2 := ⟨(in_WX_3 (List.mem_of_getElem? (i := 30) rfl)), (in_WX_3 (List.mem_of_getElem? (i := 31) rfl)), (inWS (in_WS_5 (List.mem_of_getElem? (i := 11) rfl))), (inWS (in_WS_6 (List.mem_of_getElem? (i := 18) rfl))), by decide +kernel⟩
theorem o_X9_look : vl_okV m_X9_look 2 := ⟨(in_WX_3 (List.mem_of_getElem? (i := 39) rfl)), (in_WX_3 (List.mem_of_getElem? (i := 40) rfl)), (inWS (in_WS_5 (List.mem_of_getElem? (i := 11) rfl))), (inWS (in_WS_6 (List.mem_of_getElem? (i := 27) rfl))), by decide +kernel⟩
theorem o_X9_traced : vl_okV m_X9_traced 0 := ⟨(in_WX_3 (List.mem_of_getElem? (i := 45) rfl)), (in_WX_3 (List.mem_of_getElem? (i := 46) rfl)), (inWS (in_WS_5 (List.mem_of_getElem? (i := 11) rfl))), (inWS (in_WS_6 (List.mem_of_getElem? (i := 31) rfl))), by decide +kernel⟩
theorem o_X9_trace : vl_okV m_X9_trace 2 := ⟨(in_WX_3 (List.mem_of_getElem? (i := 55) rfl)), (in_WX_3 (List.mem_of_getElem? (i := 56) rfl)), (inWS (in_WS_5 (List.mem_of_getElem? (i := 11) rfl))), (inWS (in_WS_6 (List.mem_of_getElem? (i := 34) rfl))), by decide +kernel⟩
theorem o_X10_thrown : vl_okV m_X10_thrown 0 := ⟨(in_WX_1 (List.mem_of_getElem? (i := 29) rfl)), (in_WX_1 (List.mem_of_getElem? (i := 30) rfl)), (inWS (in_WS_6 (List.mem_of_getElem? (i := 51) rfl))), (inWS (in_WS_6 (List.mem_of_getElem? (i := 43) rfl))), by decide +kernel⟩
theorem o_X10_task : vl_okV m_X10_task 0 := ⟨(in_WX_1 (List.mem_of_getElem? (i := 26) rfl)), (in_WX_1 (List.mem_of_getElem? (i := 27) rfl)), (inWS (in_WS_6 (List.mem_of_getElem? (i := 51) rfl))), (inWS (in_WS_7 (List.mem_of_getElem? (i := 8) rfl))), by decide +kernel⟩
theorem o_X10_order : vl_okV m_X10_order 4 := ⟨(in_WX_1 (List.mem_of_getElem? (i := 39) rfl)), (in_WX_1 (List.mem_of_getElem? (i := 40) rfl)), (inWS (in_WS_6 (List.mem_of_getElem? (i := 51) rfl))), (inWS (in_WS_7 (List.mem_of_getElem? (i := 12) rfl))), by decide +kernel⟩
theorem o_X10_promise : vl_okV m_X10_promise 1 := ⟨(in_WX_1 (List.mem_of_getElem? (i := 48) rfl)), (in_WX_1 (List.mem_of_getElem? (i := 49) rfl)), (inWS (in_WS_6 (List.mem_of_getElem? (i := 51) rfl))), (inWS (in_WS_7 (List.mem_of_getElem? (i := 21) rfl))), by decide +kernel⟩
theorem o_X10_channels : vl_okV m_X10_channels 2 := ⟨(in_WX_1 (List.mem_of_getElem? (i := 57) rfl)), (in_WX_1 (List.mem_of_getElem? (i := 58) rfl)), (inWS (in_WS_6 (List.mem_of_getElem? (i := 51) rfl))), (inWS (in_WS_7 (List.mem_of_getElem? (i := 26) rfl))), by decide +kernel⟩
theorem o_X10_handler : vl_okV m_X10_handler 4 := ⟨(in_WX_2 (List.mem_of_getElem? (i := 6) rfl)), (in_WX_2 (List.mem_of_getElem? (i := 7) rfl)), (inWS (in_WS_6 (List.mem_of_getElem? (i := 51) rfl))), (inWS (in_WS_7 (List.mem_of_getElem? (i := 37) rfl))), by decide +kernel⟩
theorem o_X10_advance : vl_okV m_X10_advance 1 := ⟨(in_WX_2 (List.mem_of_getElem? (i := 15) rfl)), (in_WX_2 (List.mem_of_getElem? (i := 16) rfl)), (inWS (in_WS_6 (List.mem_of_getElem? (i := 51) rfl))), (inWS (in_WS_7 (List.mem_of_getElem? (i := 38) rfl))), by decide +kernel⟩
theorem o_X10_step : vl_okV m_X10_step 1 := ⟨(in_WX_3 (List.mem_of_getElem? (i := 24) rfl)), (in_WX_3 (List.mem_of_getElem? (i := 25) rfl)), (inWS (in_WS_6 (List.mem_of_getElem? (i := 51) rfl))), (inWS (in_WS_9 (List.mem_of_getElem? (i := 32) rfl))), by decide +kernel⟩
theorem o_X10_execute : vl_okV m_X10_execute 2 := ⟨(in_WX_2 (List.mem_of_getElem? (i := 24) rfl)), (in_WX_2 (List.mem_of_getElem? (i := 25) rfl)), (inWS (in_WS_6 (List.mem_of_getElem? (i := 51) rfl))), (inWS (in_WS_9 (List.mem_of_getElem? (i := 37) rfl))), by decide +kernel⟩
theorem o_X10_timer : vl_okV m_X10_timer 3 := ⟨(in_WX_2 (List.mem_of_getElem? (i := 33) rfl)), (in_WX_2 (List.mem_of_getElem? (i := 34) rfl)), (inWS (in_WS_6 (List.mem_of_getElem? (i := 51) rfl))), (inWS (in_WS_9 (List.mem_of_getElem? (i := 38) rfl))), by decide +kernel⟩
theorem o_X10_cancel : vl_okV m_X10_cancel 1 := ⟨(in_WX_2 (List.mem_of_getElem? (i := 39) rfl)), (in_WX_2 (List.mem_of_getElem? (i := 40) rfl)), (inWS (in_WS_6 (List.mem_of_getElem? (i := 51) rfl))), (inWS (in_WS_9 (List.mem_of_getElem? (i := 39) rfl))), by decide +kernel⟩
theorem o_X10_complete : vl_okV m_X10_complete 3 := ⟨(in_WX_2 (List.mem_of_getElem? (i := 48) rfl)), (in_WX_2 (List.mem_of_getElem? (i := 49) rfl)), (inWS (in_WS_6 (List.mem_of_getElem? (i := 51) rfl))), (inWS (in_WS_9 (List.mem_of_getElem? (i := 41) rfl))), by decide +kernel⟩
theorem o_X10_listen : vl_okV m_X10_listen 2 := ⟨(in_WX_2 (List.mem_of_getElem? (i := 57) rfl)), (in_WX_2 (List.mem_of_getElem? (i := 58) rfl)), (inWS (in_WS_6 (List.mem_of_getElem? (i := 51) rfl))), (inWS (in_WS_9 (List.mem_of_getElem? (i := 42) rfl))), by decide +kernel⟩
theorem o_X10_fire : vl_okV m_X10_fire 2 := ⟨(in_WX_3 (List.mem_of_getElem? (i := 6) rfl)), (in_WX_3 (List.mem_of_getElem? (i := 7) rfl)), (inWS (in_WS_6 (List.mem_of_getElem? (i := 51) rfl))), (inWS (in_WS_9 (List.mem_of_getElem? (i := 43) rfl))), by decide +kernel⟩
theorem o_X10_shutdown : vl_okV m_X10_shutdown 2 := ⟨(in_WX_3 (List.mem_of_getElem? (i := 15) rfl)), (in_WX_3 (List.mem_of_getElem? (i := 16) rfl)), (inWS (in_WS_6 (List.mem_of_getElem? (i := 51) rfl))), (inWS (in_WS_9 (List.mem_of_getElem? (i := 44) rfl))), by decide +kernel⟩
theorem o_X10_loop : vl_okV m_X10_loop 2 := ⟨(in_WX_3 (List.mem_of_getElem? (i := 33) rfl)), (in_WX_3 (List.mem_of_getElem? (i := 34) rfl)), (inWS (in_WS_6 (List.mem_of_getElem? (i := 51) rfl))), (inWS (in_WS_9 (List.mem_of_getElem? (i := 45) rfl))), by decide +kernel⟩
theorem o_X10_look : vl_okV m_X10_look 2 := ⟨(in_WX_3 (List.mem_of_getElem? (i := 42) rfl)), (in_WX_3 (List.mem_of_getElem? (i := 43) rfl)), (inWS (in_WS_6 (List.mem_of_getElem? (i := 51) rfl))), (inWS (in_WS_9 (List.mem_of_getElem? (i := 46) rfl))), by decide +kernel⟩
theorem o_X10_traced : vl_okV m_X10_traced 0 := ⟨(in_WX_3 (List.mem_of_getElem? (i := 48) rfl)), (in_WX_3 (List.mem_of_getElem? (i := 49) rfl)), (inWS (in_WS_6 (List.mem_of_getElem? (i := 51) rfl))), (inWS (in_WS_9 (List.mem_of_getElem? (i := 48) rfl))), by decide +kernel⟩
theorem o_X10_trace : vl_okV m_X10_trace 2 := ⟨(in_WX_3 (List.mem_of_getElem? (i := 58) rfl)), (in_WX_3 (List.mem_of_getElem? (i := 59) rfl)), (inWS (in_WS_6 (List.mem_of_getElem? (i := 51) rfl))), (inWS (in_WS_9 (List.mem_of_getElem? (i := 49) rfl))), by decide +kernel⟩
abbrev m_L_task : vq_M := (yL_task, cL_task, 3, (some .int))
abbrev hh_task : vl_H := [(0, 8, 11, 13)]
theorem o_L_task : vl_okS m_L_task hh_task 2 := ⟨(in_WX_1 (List.mem_of_getElem? (i := 19) rfl)), (in_WX_0 (List.mem_of_getElem? (i := 7) rfl)), (in_WX_1 (List.mem_of_getElem? (i := 20) rfl)), by decide +kernel⟩
abbrev m_L_order : vq_M := (yL_order, cL_order, 7, (some .int))
abbrev hh_order : vl_H := [(0, 14, 17, 19), (0, 14, 21, 13)]
theorem o_L_order : vl_okS m_L_order hh_order 6 := ⟨(in_WX_1 (List.mem_of_getElem? (i := 32) rfl)), (in_WX_0 (List.mem_of_getElem? (i := 7) rfl)), (in_WX_1 (List.mem_of_getElem? (i := 33) rfl)), by decide +kernel⟩
abbrev m_L_promise : vq_M := (yL_promise, cL_promise, 4, (some .int))
abbrev hh_promise : vl_H := [(0, 9, 12, 19), (0, 9, 15, 13)]
theorem o_L_promise : vl_okS m_L_promise hh_promise 3 := ⟨(in_WX_1 (List.mem_of_getElem? (i := 42) rfl)), (in_WX_0 (List.mem_of_getElem? (i := 7) rfl)), (in_WX_1 (List.mem_of_getElem? (i := 43) rfl)), by decide +kernel⟩
abbrev m_L_channels : vq_M := (yL_channels, cL_channels, 5, (some .int))
abbrev hh_channels : vl_H := [(0, 10, 13, 19), (0, 10, 17, 13)]
theorem o_L_channels : vl_okS m_L_channels hh_channels 4 := ⟨(in_WX_1 (List.mem_of_getElem? (i := 51) rfl)), (in_WX_0 (List.mem_of_getElem? (i := 7) rfl)), (in_WX_1 (List.mem_of_getElem? (i := 52) rfl)), by decide +kernel⟩
abbrev m_L_handler : vq_M := (yL_handler, cL_handler, 7, (some .int))
abbrev hh_handler : vl_H := [(0, 14, 17, 19), (0, 14, 21, 13)]
theorem o_L_handler : vl_okS m_L_handler hh_handler 6 := ⟨(in_WX_2 (List.mem_of_getElem? (i := 0) rfl)), (in_WX_0 (List.mem_of_getElem? (i := 7) rfl)), (in_WX_2 (List.mem_of_getElem? (i := 1) rfl)), by decide +kernel⟩
abbrev m_L_advance : vq_M := (yL_advance, cL_advance, 4, (some .int))
abbrev hh_advance : vl_H := [(0, 8, 11, 19)]
theorem o_L_advance : vl_okS m_L_advance hh_advance 3 := ⟨(in_WX_2 (List.mem_of_getElem? (i := 9) rfl)), (in_WX_0 (List.mem_of_getElem? (i := 7) rfl)), (in_WX_2 (List.mem_of_getElem? (i := 10) rfl)), by decide +kernel⟩
abbrev m_L_execute : vq_M := (yL_execute, cL_execute, 5, (some .int))
abbrev hh_execute : vl_H := [(0, 10, 13, 19), (0, 10, 17, 13)]
theorem o_L_execute : vl_okS m_L_execute hh_execute 4 := ⟨(in_WX_2 (List.mem_of_getElem? (i := 18) rfl)), (in_WX_0 (List.mem_of_getElem? (i := 7) rfl)), (in_WX_2 (List.mem_of_getElem? (i := 19) rfl)), by decide +kernel⟩
abbrev m_L_timer : vq_M := (yL_timer, cL_timer, 6, (some .int))
abbrev hh_timer : vl_H := [(0, 12, 15, 19), (0, 12, 19, 13)]
theorem o_L_timer : vl_okS m_L_timer hh_timer 5 := ⟨(in_WX_2 (List.mem_of_getElem? (i := 27) rfl)), (in_WX_0 (List.mem_of_getElem? (i := 7) rfl)), (in_WX_2 (List.mem_of_getElem? (i := 28) rfl)), by decide +kernel⟩
abbrev m_L_complete : vq_M := (yL_complete, cL_complete, 6, (some .int))
abbrev hh_complete : vl_H := [(0, 19, 22, 19)]
theorem o_L_complete : vl_okS m_L_complete hh_complete 5 := ⟨(in_WX_2 (List.mem_of_getElem? (i := 42) rfl)), (in_WX_0 (List.mem_of_getElem? (i := 7) rfl)), (in_WX_2 (List.mem_of_getElem? (i := 43) rfl)), by decide +kernel⟩
abbrev m_L_listen : vq_M := (yL_listen, cL_listen, 4, (some .int))
abbrev hh_listen : vl_H := [(0, 6, 9, 19)]
theorem o_L_listen : vl_okS m_L_listen hh_listen 3 := ⟨(in_WX_2 (List.mem_of_getElem? (i := 51) rfl)), (in_WX_0 (List.mem_of_getElem? (i := 7) rfl)), (in_WX_2 (List.mem_of_getElem? (i := 52) rfl)), by decide +kernel⟩
abbrev m_L_fire : vq_M := (yL_fire, cL_fire, 4, (some .int))
abbrev hh_fire : vl_H := [(0, 6, 9, 19), (0, 6, 12, 13)]
theorem o_L_fire : vl_okS m_L_fire hh_fire 3 := ⟨(in_WX_3 (List.mem_of_getElem? (i := 0) rfl)), (in_WX_0 (List.mem_of_getElem? (i := 7) rfl)), (in_WX_3 (List.mem_of_getElem? (i := 1) rfl)), by decide +kernel⟩
abbrev m_L_shutdown : vq_M := (yL_shutdown, cL_shutdown, 4, (some .int))
abbrev hh_shutdown : vl_H := [(0, 6, 9, 19)]
theorem o_L_shutdown : vl_okS m_L_shutdown hh_shutdown 3 := ⟨(in_WX_3 (List.mem_of_getElem? (i := 9) rfl)), (in_WX_0 (List.mem_of_getElem? (i := 7) rfl)), (in_WX_3 (List.mem_of_getElem? (i := 10) rfl)), by decide +kernel⟩
abbrev m_L_step : vq_M := (yL_step, cL_step, 4, (some .int))
abbrev hh_step : vl_H := [(0, 9, 12, 19)]
theorem o_L_step : vl_okS m_L_step hh_step 3 := ⟨(in_WX_3 (List.mem_of_getElem? (i := 18) rfl)), (in_WX_0 (List.mem_of_getElem? (i := 7) rfl)), (in_WX_3 (List.mem_of_getElem? (i := 19) rfl)), by decide +kernel⟩
abbrev m_L_loop : vq_M := (yL_loop, cL_loop, 5, (some .int))
abbrev hh_loop : vl_H := [(0, 10, 13, 19)]
theorem o_L_loop : vl_okS m_L_loop hh_loop 4 := ⟨(in_WX_3 (List.mem_of_getElem? (i := 27) rfl)), (in_WX_0 (List.mem_of_getElem? (i := 7) rfl)), (in_WX_3 (List.mem_of_getElem? (i := 28) rfl)), by decide +kernel⟩
abbrev m_L_look : vq_M := (yL_look, cL_look, 5, (some .int))
abbrev hh_look : vl_H := [(0, 10, 13, 19)]
theorem o_L_look : vl_okS m_L_look hh_look 4 := ⟨(in_WX_3 (List.mem_of_getElem? (i := 36) rfl)), (in_WX_0 (List.mem_of_getElem? (i := 7) rfl)), (in_WX_3 (List.mem_of_getElem? (i := 37) rfl)), by decide +kernel⟩
abbrev m_L_trace : vq_M := (yL_trace, cL_trace, 5, (some .int))
abbrev hh_trace : vl_H := [(0, 10, 13, 19), (0, 10, 17, 69)]
theorem o_L_trace : vl_okS m_L_trace hh_trace 4 := ⟨(in_WX_3 (List.mem_of_getElem? (i := 51) rfl)), (in_WX_0 (List.mem_of_getElem? (i := 7) rfl)), (in_WX_3 (List.mem_of_getElem? (i := 52) rfl)), by decide +kernel⟩
