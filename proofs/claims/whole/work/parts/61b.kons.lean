def h76 : pm_H := pm_set h75 31 (.inr (6, [.int (-1), .ref 32]))
theorem n76 : h76.1 = 32 := n75
set_option maxRecDepth 8000 in
theorem s331 {X : pm_X} : pm_V X 4 13 [some (.ref 31)] [.ref 32, .ref 31] (1, 4) h75 = pm_V X 4 16 [some (.ref 31)] [] (1, 4) h76 := k_put d4_13 rfl (show pm_get h75 31 = some (.inr (6, [.int (-1), .null])) from rfl) (by decide) rfl (by decide +kernel)
theorem s332 {X : pm_X} : pm_V X 4 16 [some (.ref 31)] [] (1, 4) h76 = some (none, h76) := k_ret d4_16 rfl (by decide +kernel)
theorem m14 {X : pm_X} : pm_V0 X 4 [.ref 31] h73 = some (none, h76) := by
  show pm_V X 4 0 [some (.ref 31)] [] (0, 0) h73 = _
  rw [s323, s324, s325, s326, s327, s328, s329, s330, s331, s332]
theorem s333 {X : pm_X} : pm_V X 1 98 [some (.ref 1), some (.int (nI 3))] [.ref 31, .ref 31, .int (nI 3), .ref 24] (30, 894) h73 = pm_V X 1 101 [some (.ref 1), some (.int (nI 3))] [.ref 31, .int (nI 3), .ref 24] (31, 898) h76 := (k_call d1_98 rfl rfl (by decide +kernel)).trans (by rw [m14]; rfl)
def h77 : pm_H := pm_set h76 24 (.inl (.object RX6, 4, .inr (va_up (va_up (va_up (va_up (fun _ => none) 0 (some 25)) 1 (some 27)) 2 (some 29)) 3 (some 31))))
theorem n77 : h77.1 = 32 := n76
set_option maxRecDepth 8000 in
theorem s334 {X : pm_X} : pm_V X 1 101 [some (.ref 1), some (.int (nI 3))] [.ref 31, .int (nI 3), .ref 24] (31, 898) h76 = pm_V X 1 102 [some (.ref 1), some (.int (nI 3))] [] (31, 898) h77 := k_aast d1_101 (show pm_get h76 24 = some (.inl (.object RX6, 4, .inr (va_up (va_up (va_up (fun _ => none) 0 (some 25)) 1 (some 27)) 2 (some 29)))) from rfl) (show pm_get h76 31 = some (.inr (6, [.int (-1), .ref 32])) from rfl) rfl (by decide) (by omega) (by omega)
theorem s335 {X : pm_X} : pm_V X 1 102 [some (.ref 1), some (.int (nI 3))] [] (31, 898) h77 = pm_V X 1 105 [some (.ref 1), some (.int (nI 4))] [] (31, 898) h77 := v_iinc (v := nI 1) d1_102 (by decide) (by decide +kernel) rfl (by rw [show nI 3 + nI 1 = nI 4 from by decide]; rfl)
theorem s336 {X : pm_X} : pm_V X 1 105 [some (.ref 1), some (.int (nI 4))] [] (31, 898) h77 = pm_V X 1 84 [some (.ref 1), some (.int (nI 4))] [] (31, 898) h77 := v_goto d1_105 rfl
theorem s337 {X : pm_X} : pm_V X 1 84 [some (.ref 1), some (.int (nI 4))] [] (31, 898) h77 = pm_V X 1 85 [some (.ref 1), some (.int (nI 4))] [.int (nI 4)] (31, 898) h77 := v_n d1_84 rfl
theorem s338 {X : pm_X} : pm_V X 1 85 [some (.ref 1), some (.int (nI 4))] [.int (nI 4)] (31, 898) h77 = pm_V X 1 86 [some (.ref 1), some (.int (nI 4))] [.int (nI 4), .int (nI 4)] (31, 898) h77 := v_iconst d1_85 (by decide)
theorem s339 {X : pm_X} : pm_V X 1 86 [some (.ref 1), some (.int (nI 4))] [.int (nI 4), .int (nI 4)] (31, 898) h77 = pm_V X 1 108 [some (.ref 1), some (.int (nI 4))] [] (31, 898) h77 := (v_ic_ge d1_86 rfl).trans (if_pos (nI_le (by omega) (by omega)))
theorem s340 {X : pm_X} : pm_V X 1 108 [some (.ref 1), some (.int (nI 4))] [] (31, 898) h77 = pm_V X 1 109 [some (.ref 1), some (.int (nI 4))] [.ref 1] (31, 898) h77 := v_n d1_108 rfl
theorem s341 {X : pm_X} : pm_V X 1 109 [some (.ref 1), some (.int (nI 4))] [.ref 1] (31, 898) h77 = pm_V X 1 110 [some (.ref 1), some (.int (nI 4))] [.int (nI 4), .ref 1] (31, 898) h77 := v_iconst d1_109 (by decide)
def h78 : pm_H := pm_new h77 (.inl (.object RX2, 4, .inr (fun _ => none)))
theorem n78 : h78.1 = 33 := (show h77.1 + 1 = 33 by rw [n77])
theorem s342 {X : pm_X} : pm_V X 1 110 [some (.ref 1), some (.int (nI 4))] [.int (nI 4), .ref 1] (31, 898) h77 = pm_V X 1 113 [some (.ref 1), some (.int (nI 4))] [.ref 33, .ref 1] (32, 902) h78 := k_anew n77 d1_110 rfl (by omega) (by decide) rfl (by decide +kernel)
def h79 : pm_H := pm_set h78 1 (.inr (10, [.ref 2, .ref 15, .ref 24, .ref 33, .null, .null, .null, .null, .null, .null, .null, .null, .null, .null, .null, .int 0, .int 0, .long 0, .long 0]))
theorem n79 : h79.1 = 33 := n78
set_option maxRecDepth 8000 in
theorem s343 {X : pm_X} : pm_V X 1 113 [some (.ref 1), some (.int (nI 4))] [.ref 33, .ref 1] (32, 902) h78 = pm_V X 1 116 [some (.ref 1), some (.int (nI 4))] [] (32, 902) h79 := k_put d1_113 rfl (show pm_get h78 1 = some (.inr (10, [.ref 2, .ref 15, .ref 24, .null, .null, .null, .null, .null, .null, .null, .null, .null, .null, .null, .null, .int 0, .int 0, .long 0, .long 0])) from rfl) (by decide) rfl (by decide +kernel)
theorem s344 {X : pm_X} : pm_V X 1 116 [some (.ref 1), some (.int (nI 4))] [] (32, 902) h79 = pm_V X 1 117 [some (.ref 1), some (.int (nI 4))] [.int (nI 0)] (32, 902) h79 := v_iconst d1_116 (by decide)
theorem s345 {X : pm_X} : pm_V X 1 117 [some (.ref 1), some (.int (nI 4))] [.int (nI 0)] (32, 902) h79 = pm_V X 1 118 [some (.ref 1), some (.int (nI 0))] [] (32, 902) h79 := v_istore_n d1_117 (by decide +kernel) rfl
theorem s346 {X : pm_X} : pm_V X 1 118 [some (.ref 1), some (.int (nI 0))] [] (32, 902) h79 = pm_V X 1 119 [some (.ref 1), some (.int (nI 0))] [.int (nI 0)] (32, 902) h79 := v_n d1_118 rfl
theorem s347 {X : pm_X} : pm_V X 1 119 [some (.ref 1), some (.int (nI 0))] [.int (nI 0)] (32, 902) h79 = pm_V X 1 120 [some (.ref 1), some (.int (nI 0))] [.int (nI 4), .int (nI 0)] (32, 902) h79 := v_iconst d1_119 (by decide)
theorem s348 {X : pm_X} : pm_V X 1 120 [some (.ref 1), some (.int (nI 0))] [.int (nI 4), .int (nI 0)] (32, 902) h79 = pm_V X 1 123 [some (.ref 1), some (.int (nI 0))] [] (32, 902) h79 := (v_ic_ge d1_120 rfl).trans (if_neg (nI_ge (by omega) (by omega)))
theorem s349 {X : pm_X} : pm_V X 1 123 [some (.ref 1), some (.int (nI 0))] [] (32, 902) h79 = pm_V X 1 124 [some (.ref 1), some (.int (nI 0))] [.ref 1] (32, 902) h79 := v_n d1_123 rfl
set_option maxRecDepth 8000 in
theorem s350 {X : pm_X} : pm_V X 1 124 [some (.ref 1), some (.int (nI 0))] [.ref 1] (32, 902) h79 = pm_V X 1 127 [some (.ref 1), some (.int (nI 0))] [.ref 33] (32, 902) h79 := k_get d1_124 rfl (show pm_get h79 1 = some (.inr (10, [.ref 2, .ref 15, .ref 24, .ref 33, .null, .null, .null, .null, .null, .null, .null, .null, .null, .null, .null, .int 0, .int 0, .long 0, .long 0])) from rfl) rfl rfl
theorem s351 {X : pm_X} : pm_V X 1 127 [some (.ref 1), some (.int (nI 0))] [.ref 33] (32, 902) h79 = pm_V X 1 128 [some (.ref 1), some (.int (nI 0))] [.int (nI 0), .ref 33] (32, 902) h79 := v_n d1_127 rfl
def h80 : pm_H := pm_new h79 (.inr (2, [.int 0, .null]))
theorem n80 : h80.1 = 34 := (show h79.1 + 1 = 34 by rw [n79])
theorem s352 {X : pm_X} : pm_V X 1 128 [some (.ref 1), some (.int (nI 0))] [.int (nI 0), .ref 33] (32, 902) h79 = pm_V X 1 131 [some (.ref 1), some (.int (nI 0))] [.ref 34, .int (nI 0), .ref 33] (33, 904) h80 := k_new n79 d1_128 rfl rfl df_2 (by decide +kernel)
theorem s353 {X : pm_X} : pm_V X 1 131 [some (.ref 1), some (.int (nI 0))] [.ref 34, .int (nI 0), .ref 33] (33, 904) h80 = pm_V X 1 132 [some (.ref 1), some (.int (nI 0))] [.ref 34, .ref 34, .int (nI 0), .ref 33] (33, 904) h80 := v_n d1_131 rfl
theorem s354 {X : pm_X} : pm_V X 5 0 [some (.ref 34)] [] (0, 0) h80 = pm_V X 5 1 [some (.ref 34)] [.ref 34] (0, 0) h80 := v_n d5_0 rfl
theorem s355 {X : pm_X} : pm_V X 5 1 [some (.ref 34)] [.ref 34] (0, 0) h80 = pm_V X 5 4 [some (.ref 34)] [] (0, 0) h80 := k_obj d5_1 rfl (by decide +kernel)
theorem s356 {X : pm_X} : pm_V X 5 4 [some (.ref 34)] [] (0, 0) h80 = pm_V X 5 5 [some (.ref 34)] [.ref 34] (0, 0) h80 := v_n d5_4 rfl
theorem s357 {X : pm_X} : pm_V X 5 5 [some (.ref 34)] [.ref 34] (0, 0) h80 = pm_V X 5 6 [some (.ref 34)] [.int (nI 0), .ref 34] (0, 0) h80 := v_iconst d5_5 (by decide)
def h81 : pm_H := pm_set h80 34 (.inr (2, [.int (nI 0), .null]))
theorem n81 : h81.1 = 34 := n80
set_option maxRecDepth 8000 in
theorem s358 {X : pm_X} : pm_V X 5 6 [some (.ref 34)] [.int (nI 0), .ref 34] (0, 0) h80 = pm_V X 5 9 [some (.ref 34)] [] (0, 0) h81 := k_put d5_6 rfl (show pm_get h80 34 = some (.inr (2, [.int 0, .null])) from rfl) (by decide) rfl (by decide +kernel)
theorem s359 {X : pm_X} : pm_V X 5 9 [some (.ref 34)] [] (0, 0) h81 = pm_V X 5 10 [some (.ref 34)] [.ref 34] (0, 0) h81 := v_n d5_9 rfl
theorem s360 {X : pm_X} : pm_V X 5 10 [some (.ref 34)] [.ref 34] (0, 0) h81 = pm_V X 5 12 [some (.ref 34)] [.int (nI 24), .ref 34] (0, 0) h81 := v_bipush d5_10 (by decide)
def h82 : pm_H := pm_new h81 (.inl (.int, 24, .inl (fun _ => 0)))
theorem n82 : h82.1 = 35 := (show h81.1 + 1 = 35 by rw [n81])
theorem s361 {X : pm_X} : pm_V X 5 12 [some (.ref 34)] [.int (nI 24), .ref 34] (0, 0) h81 = pm_V X 5 14 [some (.ref 34)] [.ref 35, .ref 34] (1, 24) h82 := k_narr n81 d5_12 (by omega) (by decide) rfl (by decide +kernel)
def h83 : pm_H := pm_set h82 34 (.inr (2, [.int (nI 0), .ref 35]))
theorem n83 : h83.1 = 35 := n82
set_option maxRecDepth 8000 in
theorem s362 {X : pm_X} : pm_V X 5 14 [some (.ref 34)] [.ref 35, .ref 34] (1, 24) h82 = pm_V X 5 17 [some (.ref 34)] [] (1, 24) h83 := k_put d5_14 rfl (show pm_get h82 34 = some (.inr (2, [.int (nI 0), .null])) from rfl) (by decide) rfl (by decide +kernel)
theorem s363 {X : pm_X} : pm_V X 5 17 [some (.ref 34)] [] (1, 24) h83 = some (none, h83) := k_ret d5_17 rfl (by decide +kernel)
theorem m15 {X : pm_X} : pm_V0 X 5 [.ref 34] h80 = some (none, h83) := by
  show pm_V X 5 0 [some (.ref 34)] [] (0, 0) h80 = _
  rw [s354, s355, s356, s357, s358, s359, s360, s361, s362, s363]
theorem s364 {X : pm_X} : pm_V X 1 132 [some (.ref 1), some (.int (nI 0))] [.ref 34, .ref 34, .int (nI 0), .ref 33] (33, 904) h80 = pm_V X 1 135 [some (.ref 1), some (.int (nI 0))] [.ref 34, .int (nI 0), .ref 33] (34, 928) h83 := (k_call d1_132 rfl rfl (by decide +kernel)).trans (by rw [m15]; rfl)
def h84 : pm_H := pm_set h83 33 (.inl (.object RX2, 4, .inr (va_up (fun _ => none) 0 (some 34))))
theorem n84 : h84.1 = 35 := n83
set_option maxRecDepth 8000 in
theorem s365 {X : pm_X} : pm_V X 1 135 [some (.ref 1), some (.int (nI 0))] [.ref 34, .int (nI 0), .ref 33] (34, 928) h83 = pm_V X 1 136 [some (.ref 1), some (.int (nI 0))] [] (34, 928) h84 := k_aast d1_135 (show pm_get h83 33 = some (.inl (.object RX2, 4, .inr (fun _ => none))) from rfl) (show pm_get h83 34 = some (.inr (2, [.int (nI 0), .ref 35])) from rfl) rfl (by decide) (by omega) (by omega)
theorem s366 {X : pm_X} : pm_V X 1 136 [some (.ref 1), some (.int (nI 0))] [] (34, 928) h84 = pm_V X 1 139 [some (.ref 1), some (.int (nI 1))] [] (34, 928) h84 := v_iinc (v := nI 1) d1_136 (by decide) (by decide +kernel) rfl (by rw [show nI 0 + nI 1 = nI 1 from by decide]; rfl)
theorem s367 {X : pm_X} : pm_V X 1 139 [some (.ref 1), some (.int (nI 1))] [] (34, 928) h84 = pm_V X 1 118 [some (.ref 1), some (.int (nI 1))] [] (34, 928) h84 := v_goto d1_139 rfl
theorem s368 {X : pm_X} : pm_V X 1 118 [some (.ref 1), some (.int (nI 1))] [] (34, 928) h84 = pm_V X 1 119 [some (.ref 1), some (.int (nI 1))] [.int (nI 1)] (34, 928) h84 := v_n d1_118 rfl
theorem s369 {X : pm_X} : pm_V X 1 119 [some (.ref 1), some (.int (nI 1))] [.int (nI 1)] (34, 928) h84 = pm_V X 1 120 [some (.ref 1), some (.int (nI 1))] [.int (nI 4), .int (nI 1)] (34, 928) h84 := v_iconst d1_119 (by decide)
theorem s370 {X : pm_X} : pm_V X 1 120 [some (.ref 1), some (.int (nI 1))] [.int (nI 4), .int (nI 1)] (34, 928) h84 = pm_V X 1 123 [some (.ref 1), some (.int (nI 1))] [] (34, 928) h84 := (v_ic_ge d1_120 rfl).trans (if_neg (nI_ge (by omega) (by omega)))
theorem s371 {X : pm_X} : pm_V X 1 123 [some (.ref 1), some (.int (nI 1))] [] (34, 928) h84 = pm_V X 1 124 [some (.ref 1), some (.int (nI 1))] [.ref 1] (34, 928) h84 := v_n d1_123 rfl
set_option maxRecDepth 8000 in
theorem s372 {X : pm_X} : pm_V X 1 124 [some (.ref 1), some (.int (nI 1))] [.ref 1] (34, 928) h84 = pm_V X 1 127 [some (.ref 1), some (.int (nI 1))] [.ref 33] (34, 928) h84 := k_get d1_124 rfl (show pm_get h84 1 = some (.inr (10, [.ref 2, .ref 15, .ref 24, .ref 33, .null, .null, .null, .null, .null, .null, .null, .null, .null, .null, .null, .int 0, .int 0, .long 0, .long 0])) from rfl) rfl rfl
theorem s373 {X : pm_X} : pm_V X 1 127 [some (.ref 1), some (.int (nI 1))] [.ref 33] (34, 928) h84 = pm_V X 1 128 [some (.ref 1), some (.int (nI 1))] [.int (nI 1), .ref 33] (34, 928) h84 := v_n d1_127 rfl
def h85 : pm_H := pm_new h84 (.inr (2, [.int 0, .null]))
theorem n85 : h85.1 = 36 := (show h84.1 + 1 = 36 by rw [n84])
theorem s374 {X : pm_X} : pm_V X 1 128 [some (.ref 1), some (.int (nI 1))] [.int (nI 1), .ref 33] (34, 928) h84 = pm_V X 1 131 [some (.ref 1), some (.int (nI 1))] [.ref 36, .int (nI 1), .ref 33] (35, 930) h85 := k_new n84 d1_128 rfl rfl df_2 (by decide +kernel)
theorem s375 {X : pm_X} : pm_V X 1 131 [some (.ref 1), some (.int (nI 1))] [.ref 36, .int (nI 1), .ref 33] (35, 930) h85 = pm_V X 1 132 [some (.ref 1), some (.int (nI 1))] [.ref 36, .ref 36, .int (nI 1), .ref 33] (35, 930) h85 := v_n d1_131 rfl
theorem s376 {X : pm_X} : pm_V X 5 0 [some (.ref 36)] [] (0, 0) h85 = pm_V X 5 1 [some (.ref 36)] [.ref 36] (0, 0) h85 := v_n d5_0 rfl
theorem s377 {X : pm_X} : pm_V X 5 1 [some (.ref 36)] [.ref 36] (0, 0) h85 = pm_V X 5 4 [some (.ref 36)] [] (0, 0) h85 := k_obj d5_1 rfl (by decide +kernel)
theorem s378 {X : pm_X} : pm_V X 5 4 [some (.ref 36)] [] (0, 0) h85 = pm_V X 5 5 [some (.ref 36)] [.ref 36] (0, 0) h85 := v_n d5_4 rfl
theorem s379 {X : pm_X} : pm_V X 5 5 [some (.ref 36)] [.ref 36] (0, 0) h85 = pm_V X 5 6 [some (.ref 36)] [.int (nI 0), .ref 36] (0, 0) h85 := v_iconst d5_5 (by decide)
def h86 : pm_H := pm_set h85 36 (.inr (2, [.int (nI 0), .null]))
theorem n86 : h86.1 = 36 := n85
set_option maxRecDepth 8000 in
theorem s380 {X : pm_X} : pm_V X 5 6 [some (.ref 36)] [.int (nI 0), .ref 36] (0, 0) h85 = pm_V X 5 9 [some (.ref 36)] [] (0, 0) h86 := k_put d5_6 rfl (show pm_get h85 36 = some (.inr (2, [.int 0, .null])) from rfl) (by decide) rfl (by decide +kernel)
theorem s381 {X : pm_X} : pm_V X 5 9 [some (.ref 36)] [] (0, 0) h86 = pm_V X 5 10 [some (.ref 36)] [.ref 36] (0, 0) h86 := v_n d5_9 rfl
theorem s382 {X : pm_X} : pm_V X 5 10 [some (.ref 36)] [.ref 36] (0, 0) h86 = pm_V X 5 12 [some (.ref 36)] [.int (nI 24), .ref 36] (0, 0) h86 := v_bipush d5_10 (by decide)
def h87 : pm_H := pm_new h86 (.inl (.int, 24, .inl (fun _ => 0)))
theorem n87 : h87.1 = 37 := (show h86.1 + 1 = 37 by rw [n86])
theorem s383 {X : pm_X} : pm_V X 5 12 [some (.ref 36)] [.int (nI 24), .ref 36] (0, 0) h86 = pm_V X 5 14 [some (.ref 36)] [.ref 37, .ref 36] (1, 24) h87 := k_narr n86 d5_12 (by omega) (by decide) rfl (by decide +kernel)
def h88 : pm_H := pm_set h87 36 (.inr (2, [.int (nI 0), .ref 37]))
theorem n88 : h88.1 = 37 := n87
set_option maxRecDepth 8000 in
theorem s384 {X : pm_X} : pm_V X 5 14 [some (.ref 36)] [.ref 37, .ref 36] (1, 24) h87 = pm_V X 5 17 [some (.ref 36)] [] (1, 24) h88 := k_put d5_14 rfl (show pm_get h87 36 = some (.inr (2, [.int (nI 0), .null])) from rfl) (by decide) rfl (by decide +kernel)
theorem s385 {X : pm_X} : pm_V X 5 17 [some (.ref 36)] [] (1, 24) h88 = some (none, h88) := k_ret d5_17 rfl (by decide +kernel)
theorem m16 {X : pm_X} : pm_V0 X 5 [.ref 36] h85 = some (none, h88) := by
  show pm_V X 5 0 [some (.ref 36)] [] (0, 0) h85 = _
  rw [s376, s377, s378, s379, s380, s381, s382, s383, s384, s385]
theorem s386 {X : pm_X} : pm_V X 1 132 [some (.ref 1), some (.int (nI 1))] [.ref 36, .ref 36, .int (nI 1), .ref 33] (35, 930) h85 = pm_V X 1 135 [some (.ref 1), some (.int (nI 1))] [.ref 36, .int (nI 1), .ref 33] (36, 954) h88 := (k_call d1_132 rfl rfl (by decide +kernel)).trans (by rw [m16]; rfl)
def h89 : pm_H := pm_set h88 33 (.inl (.object RX2, 4, .inr (va_up (va_up (fun _ => none) 0 (some 34)) 1 (some 36))))
theorem n89 : h89.1 = 37 := n88
set_option maxRecDepth 8000 in
theorem s387 {X : pm_X} : pm_V X 1 135 [some (.ref 1), some (.int (nI 1))] [.ref 36, .int (nI 1), .ref 33] (36, 954) h88 = pm_V X 1 136 [some (.ref 1), some (.int (nI 1))] [] (36, 954) h89 := k_aast d1_135 (show pm_get h88 33 = some (.inl (.object RX2, 4, .inr (va_up (fun _ => none) 0 (some 34)))) from rfl) (show pm_get h88 36 = some (.inr (2, [.int (nI 0), .ref 37])) from rfl) rfl (by decide) (by omega) (by omega)
theorem s388 {X : pm_X} : pm_V X 1 136 [some (.ref 1), some (.int (nI 1))] [] (36, 954) h89 = pm_V X 1 139 [some (.ref 1), some (.int (nI 2))] [] (36, 954) h89 := v_iinc (v := nI 1) d1_136 (by decide) (by decide +kernel) rfl (by rw [show nI 1 + nI 1 = nI 2 from by decide]; rfl)
theorem s389 {X : pm_X} : pm_V X 1 139 [some (.ref 1), some (.int (nI 2))] [] (36, 954) h89 = pm_V X 1 118 [some (.ref 1), some (.int (nI 2))] [] (36, 954) h89 := v_goto d1_139 rfl
theorem s390 {X : pm_X} : pm_V X 1 118 [some (.ref 1), some (.int (nI 2))] [] (36, 954) h89 = pm_V X 1 119 [some (.ref 1), some (.int (nI 2))] [.int (nI 2)] (36, 954) h89 := v_n d1_118 rfl
theorem s391 {X : pm_X} : pm_V X 1 119 [some (.ref 1), some (.int (nI 2))] [.int (nI 2)] (36, 954) h89 = pm_V X 1 120 [some (.ref 1), some (.int (nI 2))] [.int (nI 4), .int (nI 2)] (36, 954) h89 := v_iconst d1_119 (by decide)
theorem s392 {X : pm_X} : pm_V X 1 120 [some (.ref 1), some (.int (nI 2))] [.int (nI 4), .int (nI 2)] (36, 954) h89 = pm_V X 1 123 [some (.ref 1), some (.int (nI 2))] [] (36, 954) h89 := (v_ic_ge d1_120 rfl).trans (if_neg (nI_ge (by omega) (by omega)))
theorem s393 {X : pm_X} : pm_V X 1 123 [some (.ref 1), some (.int (nI 2))] [] (36, 954) h89 = pm_V X 1 124 [some (.ref 1), some (.int (nI 2))] [.ref 1] (36, 954) h89 := v_n d1_123 rfl
set_option maxRecDepth 8000 in
theorem s394 {X : pm_X} : pm_V X 1 124 [some (.ref 1), some (.int (nI 2))] [.ref 1] (36, 954) h89 = pm_V X 1 127 [some (.ref 1), some (.int (nI 2))] [.ref 33] (36, 954) h89 := k_get d1_124 rfl (show pm_get h89 1 = some (.inr (10, [.ref 2, .ref 15, .ref 24, .ref 33, .null, .null, .null, .null, .null, .null, .null, .null, .null, .null, .null, .int 0, .int 0, .long 0, .long 0])) from rfl) rfl rfl
theorem s395 {X : pm_X} : pm_V X 1 127 [some (.ref 1), some (.int (nI 2))] [.ref 33] (36, 954) h89 = pm_V X 1 128 [some (.ref 1), some (.int (nI 2))] [.int (nI 2), .ref 33] (36, 954) h89 := v_n d1_127 rfl
def h90 : pm_H := pm_new h89 (.inr (2, [.int 0, .null]))
theorem n90 : h90.1 = 38 := (show h89.1 + 1 = 38 by rw [n89])
theorem s396 {X : pm_X} : pm_V X 1 128 [some (.ref 1), some (.int (nI 2))] [.int (nI 2), .ref 33] (36, 954) h89 = pm_V X 1 131 [some (.ref 1), some (.int (nI 2))] [.ref 38, .int (nI 2), .ref 33] (37, 956) h90 := k_new n89 d1_128 rfl rfl df_2 (by decide +kernel)
theorem s397 {X : pm_X} : pm_V X 1 131 [some (.ref 1), some (.int (nI 2))] [.ref 38, .int (nI 2), .ref 33] (37, 956) h90 = pm_V X 1 132 [some (.ref 1), some (.int (nI 2))] [.ref 38, .ref 38, .int (nI 2), .ref 33] (37, 956) h90 := v_n d1_131 rfl
theorem s398 {X : pm_X} : pm_V X 5 0 [some (.ref 38)] [] (0, 0) h90 = pm_V X 5 1 [some (.ref 38)] [.ref 38] (0, 0) h90 := v_n d5_0 rfl
theorem s399 {X : pm_X} : pm_V X 5 1 [some (.ref 38)] [.ref 38] (0, 0) h90 = pm_V X 5 4 [some (.ref 38)] [] (0, 0) h90 := k_obj d5_1 rfl (by decide +kernel)
theorem s400 {X : pm_X} : pm_V X 5 4 [some (.ref 38)] [] (0, 0) h90 = pm_V X 5 5 [some (.ref 38)] [.ref 38] (0, 0) h90 := v_n d5_4 rfl
theorem s401 {X : pm_X} : pm_V X 5 5 [some (.ref 38)] [.ref 38] (0, 0) h90 = pm_V X 5 6 [some (.ref 38)] [.int (nI 0), .ref 38] (0, 0) h90 := v_iconst d5_5 (by decide)
def h91 : pm_H := pm_set h90 38 (.inr (2, [.int (nI 0), .null]))
theorem n91 : h91.1 = 38 := n90
set_option maxRecDepth 8000 in
theorem s402 {X : pm_X} : pm_V X 5 6 [some (.ref 38)] [.int (nI 0), .ref 38] (0, 0) h90 = pm_V X 5 9 [some (.ref 38)] [] (0, 0) h91 := k_put d5_6 rfl (show pm_get h90 38 = some (.inr (2, [.int 0, .null])) from rfl) (by decide) rfl (by decide +kernel)
theorem s403 {X : pm_X} : pm_V X 5 9 [some (.ref 38)] [] (0, 0) h91 = pm_V X 5 10 [some (.ref 38)] [.ref 38] (0, 0) h91 := v_n d5_9 rfl
theorem s404 {X : pm_X} : pm_V X 5 10 [some (.ref 38)] [.ref 38] (0, 0) h91 = pm_V X 5 12 [some (.ref 38)] [.int (nI 24), .ref 38] (0, 0) h91 := v_bipush d5_10 (by decide)
def h92 : pm_H := pm_new h91 (.inl (.int, 24, .inl (fun _ => 0)))
theorem n92 : h92.1 = 39 := (show h91.1 + 1 = 39 by rw [n91])
theorem s405 {X : pm_X} : pm_V X 5 12 [some (.ref 38)] [.int (nI 24), .ref 38] (0, 0) h91 = pm_V X 5 14 [some (.ref 38)] [.ref 39, .ref 38] (1, 24) h92 := k_narr n91 d5_12 (by omega) (by decide) rfl (by decide +kernel)
def h93 : pm_H := pm_set h92 38 (.inr (2, [.int (nI 0), .ref 39]))
theorem n93 : h93.1 = 39 := n92
set_option maxRecDepth 8000 in
theorem s406 {X : pm_X} : pm_V X 5 14 [some (.ref 38)] [.ref 39, .ref 38] (1, 24) h92 = pm_V X 5 17 [some (.ref 38)] [] (1, 24) h93 := k_put d5_14 rfl (show pm_get h92 38 = some (.inr (2, [.int (nI 0), .null])) from rfl) (by decide) rfl (by decide +kernel)
theorem s407 {X : pm_X} : pm_V X 5 17 [some (.ref 38)] [] (1, 24) h93 = some (none, h93) := k_ret d5_17 rfl (by decide +kernel)
theorem m17 {X : pm_X} : pm_V0 X 5 [.ref 38] h90 = some (none, h93) := by
  show pm_V X 5 0 [some (.ref 38)] [] (0, 0) h90 = _
  rw [s398, s399, s400, s401, s402, s403, s404, s405, s406, s407]
theorem s408 {X : pm_X} : pm_V X 1 132 [some (.ref 1), some (.int (nI 2))] [.ref 38, .ref 38, .int (nI 2), .ref 33] (37, 956) h90 = pm_V X 1 135 [some (.ref 1), some (.int (nI 2))] [.ref 38, .int (nI 2), .ref 33] (38, 980) h93 := (k_call d1_132 rfl rfl (by decide +kernel)).trans (by rw [m17]; rfl)
def h94 : pm_H := pm_set h93 33 (.inl (.object RX2, 4, .inr (va_up (va_up (va_up (fun _ => none) 0 (some 34)) 1 (some 36)) 2 (some 38))))
theorem n94 : h94.1 = 39 := n93
set_option maxRecDepth 8000 in
theorem s409 {X : pm_X} : pm_V X 1 135 [some (.ref 1), some (.int (nI 2))] [.ref 38, .int (nI 2), .ref 33] (38, 980) h93 = pm_V X 1 136 [some (.ref 1), some (.int (nI 2))] [] (38, 980) h94 := k_aast d1_135 (show pm_get h93 33 = some (.inl (.object RX2, 4, .inr (va_up (va_up (fun _ => none) 0 (some 34)) 1 (some 36)))) from rfl) (show pm_get h93 38 = some (.inr (2, [.int (nI 0), .ref 39])) from rfl) rfl (by decide) (by omega) (by omega)
theorem s410 {X : pm_X} : pm_V X 1 136 [some (.ref 1), some (.int (nI 2))] [] (38, 980) h94 = pm_V X 1 139 [some (.ref 1), some (.int (nI 3))] [] (38, 980) h94 := v_iinc (v := nI 1) d1_136 (by decide) (by decide +kernel) rfl (by rw [show nI 2 + nI 1 = nI 3 from by decide]; rfl)
theorem s411 {X : pm_X} : pm_V X 1 139 [some (.ref 1), some (.int (nI 3))] [] (38, 980) h94 = pm_V X 1 118 [some (.ref 1), some (.int (nI 3))] [] (38, 980) h94 := v_goto d1_139 rfl
theorem s412 {X : pm_X} : pm_V X 1 118 [some (.ref 1), some (.int (nI 3))] [] (38, 980) h94 = pm_V X 1 119 [some (.ref 1), some (.int (nI 3))] [.int (nI 3)] (38, 980) h94 := v_n d1_118 rfl
theorem s413 {X : pm_X} : pm_V X 1 119 [some (.ref 1), some (.int (nI 3))] [.int (nI 3)] (38, 980) h94 = pm_V X 1 120 [some (.ref 1), some (.int (nI 3))] [.int (nI 4), .int (nI 3)] (38, 980) h94 := v_iconst d1_119 (by decide)
theorem s414 {X : pm_X} : pm_V X 1 120 [some (.ref 1), some (.int (nI 3))] [.int (nI 4), .int (nI 3)] (38, 980) h94 = pm_V X 1 123 [some (.ref 1), some (.int (nI 3))] [] (38, 980) h94 := (v_ic_ge d1_120 rfl).trans (if_neg (nI_ge (by omega) (by omega)))
theorem s415 {X : pm_X} : pm_V X 1 123 [some (.ref 1), some (.int (nI 3))] [] (38, 980) h94 = pm_V X 1 124 [some (.ref 1), some (.int (nI 3))] [.ref 1] (38, 980) h94 := v_n d1_123 rfl
set_option maxRecDepth 8000 in
theorem s416 {X : pm_X} : pm_V X 1 124 [some (.ref 1), some (.int (nI 3))] [.ref 1] (38, 980) h94 = pm_V X 1 127 [some (.ref 1), some (.int (nI 3))] [.ref 33] (38, 980) h94 := k_get d1_124 rfl (show pm_get h94 1 = some (.inr (10, [.ref 2, .ref 15, .ref 24, .ref 33, .null, .null, .null, .null, .null, .null, .null, .null, .null, .null, .null, .int 0, .int 0, .long 0, .long 0])) from rfl) rfl rfl
theorem s417 {X : pm_X} : pm_V X 1 127 [some (.ref 1), some (.int (nI 3))] [.ref 33] (38, 980) h94 = pm_V X 1 128 [some (.ref 1), some (.int (nI 3))] [.int (nI 3), .ref 33] (38, 980) h94 := v_n d1_127 rfl
def h95 : pm_H := pm_new h94 (.inr (2, [.int 0, .null]))
theorem n95 : h95.1 = 40 := (show h94.1 + 1 = 40 by rw [n94])
theorem s418 {X : pm_X} : pm_V X 1 128 [some (.ref 1), some (.int (nI 3))] [.int (nI 3), .ref 33] (38, 980) h94 = pm_V X 1 131 [some (.ref 1), some (.int (nI 3))] [.ref 40, .int (nI 3), .ref 33] (39, 982) h95 := k_new n94 d1_128 rfl rfl df_2 (by decide +kernel)
theorem s419 {X : pm_X} : pm_V X 1 131 [some (.ref 1), some (.int (nI 3))] [.ref 40, .int (nI 3), .ref 33] (39, 982) h95 = pm_V X 1 132 [some (.ref 1), some (.int (nI 3))] [.ref 40, .ref 40, .int (nI 3), .ref 33] (39, 982) h95 := v_n d1_131 rfl
theorem s420 {X : pm_X} : pm_V X 5 0 [some (.ref 40)] [] (0, 0) h95 = pm_V X 5 1 [some (.ref 40)] [.ref 40] (0, 0) h95 := v_n d5_0 rfl
theorem s421 {X : pm_X} : pm_V X 5 1 [some (.ref 40)] [.ref 40] (0, 0) h95 = pm_V X 5 4 [some (.ref 40)] [] (0, 0) h95 := k_obj d5_1 rfl (by decide +kernel)
theorem s422 {X : pm_X} : pm_V X 5 4 [some (.ref 40)] [] (0, 0) h95 = pm_V X 5 5 [some (.ref 40)] [.ref 40] (0, 0) h95 := v_n d5_4 rfl
theorem s423 {X : pm_X} : pm_V X 5 5 [some (.ref 40)] [.ref 40] (0, 0) h95 = pm_V X 5 6 [some (.ref 40)] [.int (nI 0), .ref 40] (0, 0) h95 := v_iconst d5_5 (by decide)
def h96 : pm_H := pm_set h95 40 (.inr (2, [.int (nI 0), .null]))
theorem n96 : h96.1 = 40 := n95
set_option maxRecDepth 8000 in
theorem s424 {X : pm_X} : pm_V X 5 6 [some (.ref 40)] [.int (nI 0), .ref 40] (0, 0) h95 = pm_V X 5 9 [some (.ref 40)] [] (0, 0) h96 := k_put d5_6 rfl (show pm_get h95 40 = some (.inr (2, [.int 0, .null])) from rfl) (by decide) rfl (by decide +kernel)
theorem s425 {X : pm_X} : pm_V X 5 9 [some (.ref 40)] [] (0, 0) h96 = pm_V X 5 10 [some (.ref 40)] [.ref 40] (0, 0) h96 := v_n d5_9 rfl
theorem s426 {X : pm_X} : pm_V X 5 10 [some (.ref 40)] [.ref 40] (0, 0) h96 = pm_V X 5 12 [some (.ref 40)] [.int (nI 24), .ref 40] (0, 0) h96 := v_bipush d5_10 (by decide)
def h97 : pm_H := pm_new h96 (.inl (.int, 24, .inl (fun _ => 0)))
theorem n97 : h97.1 = 41 := (show h96.1 + 1 = 41 by rw [n96])
theorem s427 {X : pm_X} : pm_V X 5 12 [some (.ref 40)] [.int (nI 24), .ref 40] (0, 0) h96 = pm_V X 5 14 [some (.ref 40)] [.ref 41, .ref 40] (1, 24) h97 := k_narr n96 d5_12 (by omega) (by decide) rfl (by decide +kernel)
def h98 : pm_H := pm_set h97 40 (.inr (2, [.int (nI 0), .ref 41]))
theorem n98 : h98.1 = 41 := n97
set_option maxRecDepth 8000 in
theorem s428 {X : pm_X} : pm_V X 5 14 [some (.ref 40)] [.ref 41, .ref 40] (1, 24) h97 = pm_V X 5 17 [some (.ref 40)] [] (1, 24) h98 := k_put d5_14 rfl (show pm_get h97 40 = some (.inr (2, [.int (nI 0), .null])) from rfl) (by decide) rfl (by decide +kernel)
theorem s429 {X : pm_X} : pm_V X 5 17 [some (.ref 40)] [] (1, 24) h98 = some (none, h98) := k_ret d5_17 rfl (by decide +kernel)
theorem m18 {X : pm_X} : pm_V0 X 5 [.ref 40] h95 = some (none, h98) := by
  show pm_V X 5 0 [some (.ref 40)] [] (0, 0) h95 = _
  rw [s420, s421, s422, s423, s424, s425, s426, s427, s428, s429]
theorem s430 {X : pm_X} : pm_V X 1 132 [some (.ref 1), some (.int (nI 3))] [.ref 40, .ref 40, .int (nI 3), .ref 33] (39, 982) h95 = pm_V X 1 135 [some (.ref 1), some (.int (nI 3))] [.ref 40, .int (nI 3), .ref 33] (40, 1006) h98 := (k_call d1_132 rfl rfl (by decide +kernel)).trans (by rw [m18]; rfl)
def h99 : pm_H := pm_set h98 33 (.inl (.object RX2, 4, .inr (va_up (va_up (va_up (va_up (fun _ => none) 0 (some 34)) 1 (some 36)) 2 (some 38)) 3 (some 40))))
theorem n99 : h99.1 = 41 := n98
set_option maxRecDepth 8000 in
theorem s431 {X : pm_X} : pm_V X 1 135 [some (.ref 1), some (.int (nI 3))] [.ref 40, .int (nI 3), .ref 33] (40, 1006) h98 = pm_V X 1 136 [some (.ref 1), some (.int (nI 3))] [] (40, 1006) h99 := k_aast d1_135 (show pm_get h98 33 = some (.inl (.object RX2, 4, .inr (va_up (va_up (va_up (fun _ => none) 0 (some 34)) 1 (some 36)) 2 (some 38)))) from rfl) (show pm_get h98 40 = some (.inr (2, [.int (nI 0), .ref 41])) from rfl) rfl (by decide) (by omega) (by omega)
theorem s432 {X : pm_X} : pm_V X 1 136 [some (.ref 1), some (.int (nI 3))] [] (40, 1006) h99 = pm_V X 1 139 [some (.ref 1), some (.int (nI 4))] [] (40, 1006) h99 := v_iinc (v := nI 1) d1_136 (by decide) (by decide +kernel) rfl (by rw [show nI 3 + nI 1 = nI 4 from by decide]; rfl)
theorem s433 {X : pm_X} : pm_V X 1 139 [some (.ref 1), some (.int (nI 4))] [] (40, 1006) h99 = pm_V X 1 118 [some (.ref 1), some (.int (nI 4))] [] (40, 1006) h99 := v_goto d1_139 rfl
theorem s434 {X : pm_X} : pm_V X 1 118 [some (.ref 1), some (.int (nI 4))] [] (40, 1006) h99 = pm_V X 1 119 [some (.ref 1), some (.int (nI 4))] [.int (nI 4)] (40, 1006) h99 := v_n d1_118 rfl
theorem s435 {X : pm_X} : pm_V X 1 119 [some (.ref 1), some (.int (nI 4))] [.int (nI 4)] (40, 1006) h99 = pm_V X 1 120 [some (.ref 1), some (.int (nI 4))] [.int (nI 4), .int (nI 4)] (40, 1006) h99 := v_iconst d1_119 (by decide)
theorem s436 {X : pm_X} : pm_V X 1 120 [some (.ref 1), some (.int (nI 4))] [.int (nI 4), .int (nI 4)] (40, 1006) h99 = pm_V X 1 142 [some (.ref 1), some (.int (nI 4))] [] (40, 1006) h99 := (v_ic_ge d1_120 rfl).trans (if_pos (nI_le (by omega) (by omega)))
theorem s437 {X : pm_X} : pm_V X 1 142 [some (.ref 1), some (.int (nI 4))] [] (40, 1006) h99 = pm_V X 1 143 [some (.ref 1), some (.int (nI 4))] [.ref 1] (40, 1006) h99 := v_n d1_142 rfl
def h100 : pm_H := pm_new h99 (.inr (4, [.int 0, .int 0, .int 0, .null]))
theorem n100 : h100.1 = 42 := (show h99.1 + 1 = 42 by rw [n99])
theorem s438 {X : pm_X} : pm_V X 1 143 [some (.ref 1), some (.int (nI 4))] [.ref 1] (40, 1006) h99 = pm_V X 1 146 [some (.ref 1), some (.int (nI 4))] [.ref 42, .ref 1] (41, 1010) h100 := k_new n99 d1_143 rfl rfl df_4 (by decide +kernel)
theorem s439 {X : pm_X} : pm_V X 1 146 [some (.ref 1), some (.int (nI 4))] [.ref 42, .ref 1] (41, 1010) h100 = pm_V X 1 147 [some (.ref 1), some (.int (nI 4))] [.ref 42, .ref 42, .ref 1] (41, 1010) h100 := v_n d1_146 rfl
theorem s440 {X : pm_X} : pm_V X 6 0 [some (.ref 42)] [] (0, 0) h100 = pm_V X 6 1 [some (.ref 42)] [.ref 42] (0, 0) h100 := v_n d6_0 rfl
theorem s441 {X : pm_X} : pm_V X 6 1 [some (.ref 42)] [.ref 42] (0, 0) h100 = pm_V X 6 4 [some (.ref 42)] [] (0, 0) h100 := k_obj d6_1 rfl (by decide +kernel)
theorem s442 {X : pm_X} : pm_V X 6 4 [some (.ref 42)] [] (0, 0) h100 = pm_V X 6 5 [some (.ref 42)] [.ref 42] (0, 0) h100 := v_n d6_4 rfl
theorem s443 {X : pm_X} : pm_V X 6 5 [some (.ref 42)] [.ref 42] (0, 0) h100 = pm_V X 6 6 [some (.ref 42)] [.int (nI 0), .ref 42] (0, 0) h100 := v_iconst d6_5 (by decide)
def h101 : pm_H := pm_set h100 42 (.inr (4, [.int (nI 0), .int 0, .int 0, .null]))
theorem n101 : h101.1 = 42 := n100
set_option maxRecDepth 8000 in
theorem s444 {X : pm_X} : pm_V X 6 6 [some (.ref 42)] [.int (nI 0), .ref 42] (0, 0) h100 = pm_V X 6 9 [some (.ref 42)] [] (0, 0) h101 := k_put d6_6 rfl (show pm_get h100 42 = some (.inr (4, [.int 0, .int 0, .int 0, .null])) from rfl) (by decide) rfl (by decide +kernel)
theorem s445 {X : pm_X} : pm_V X 6 9 [some (.ref 42)] [] (0, 0) h101 = pm_V X 6 10 [some (.ref 42)] [.ref 42] (0, 0) h101 := v_n d6_9 rfl
theorem s446 {X : pm_X} : pm_V X 6 10 [some (.ref 42)] [.ref 42] (0, 0) h101 = pm_V X 6 11 [some (.ref 42)] [.int (nI 0), .ref 42] (0, 0) h101 := v_iconst d6_10 (by decide)
def h102 : pm_H := pm_set h101 42 (.inr (4, [.int (nI 0), .int (nI 0), .int 0, .null]))
theorem n102 : h102.1 = 42 := n101
set_option maxRecDepth 8000 in
theorem s447 {X : pm_X} : pm_V X 6 11 [some (.ref 42)] [.int (nI 0), .ref 42] (0, 0) h101 = pm_V X 6 14 [some (.ref 42)] [] (0, 0) h102 := k_put d6_11 rfl (show pm_get h101 42 = some (.inr (4, [.int (nI 0), .int 0, .int 0, .null])) from rfl) (by decide) rfl (by decide +kernel)
theorem s448 {X : pm_X} : pm_V X 6 14 [some (.ref 42)] [] (0, 0) h102 = pm_V X 6 15 [some (.ref 42)] [.ref 42] (0, 0) h102 := v_n d6_14 rfl
theorem s449 {X : pm_X} : pm_V X 6 15 [some (.ref 42)] [.ref 42] (0, 0) h102 = pm_V X 6 16 [some (.ref 42)] [.int (nI 0), .ref 42] (0, 0) h102 := v_iconst d6_15 (by decide)
def h103 : pm_H := pm_set h102 42 (.inr (4, [.int (nI 0), .int (nI 0), .int (nI 0), .null]))
theorem n103 : h103.1 = 42 := n102
set_option maxRecDepth 8000 in
theorem s450 {X : pm_X} : pm_V X 6 16 [some (.ref 42)] [.int (nI 0), .ref 42] (0, 0) h102 = pm_V X 6 19 [some (.ref 42)] [] (0, 0) h103 := k_put d6_16 rfl (show pm_get h102 42 = some (.inr (4, [.int (nI 0), .int (nI 0), .int 0, .null])) from rfl) (by decide) rfl (by decide +kernel)
theorem s451 {X : pm_X} : pm_V X 6 19 [some (.ref 42)] [] (0, 0) h103 = pm_V X 6 20 [some (.ref 42)] [.ref 42] (0, 0) h103 := v_n d6_19 rfl
theorem s452 {X : pm_X} : pm_V X 6 20 [some (.ref 42)] [.ref 42] (0, 0) h103 = pm_V X 6 22 [some (.ref 42)] [.int (nI 24), .ref 42] (0, 0) h103 := v_bipush d6_20 (by decide)
def h104 : pm_H := pm_new h103 (.inl (.int, 24, .inl (fun _ => 0)))
theorem n104 : h104.1 = 43 := (show h103.1 + 1 = 43 by rw [n103])
theorem s453 {X : pm_X} : pm_V X 6 22 [some (.ref 42)] [.int (nI 24), .ref 42] (0, 0) h103 = pm_V X 6 24 [some (.ref 42)] [.ref 43, .ref 42] (1, 24) h104 := k_narr n103 d6_22 (by omega) (by decide) rfl (by decide +kernel)
def h105 : pm_H := pm_set h104 42 (.inr (4, [.int (nI 0), .int (nI 0), .int (nI 0), .ref 43]))
theorem n105 : h105.1 = 43 := n104
set_option maxRecDepth 8000 in
theorem s454 {X : pm_X} : pm_V X 6 24 [some (.ref 42)] [.ref 43, .ref 42] (1, 24) h104 = pm_V X 6 27 [some (.ref 42)] [] (1, 24) h105 := k_put d6_24 rfl (show pm_get h104 42 = some (.inr (4, [.int (nI 0), .int (nI 0), .int (nI 0), .null])) from rfl) (by decide) rfl (by decide +kernel)
theorem s455 {X : pm_X} : pm_V X 6 27 [some (.ref 42)] [] (1, 24) h105 = some (none, h105) := k_ret d6_27 rfl (by decide +kernel)
theorem m19 {X : pm_X} : pm_V0 X 6 [.ref 42] h100 = some (none, h105) := by
  show pm_V X 6 0 [some (.ref 42)] [] (0, 0) h100 = _
  rw [s440, s441, s442, s443, s444, s445, s446, s447, s448, s449, s450, s451, s452, s453, s454, s455]
theorem s456 {X : pm_X} : pm_V X 1 147 [some (.ref 1), some (.int (nI 4))] [.ref 42, .ref 42, .ref 1] (41, 1010) h100 = pm_V X 1 150 [some (.ref 1), some (.int (nI 4))] [.ref 42, .ref 1] (42, 1034) h105 := (k_call d1_147 rfl rfl (by decide +kernel)).trans (by rw [m19]; rfl)
def h106 : pm_H := pm_set h105 1 (.inr (10, [.ref 2, .ref 15, .ref 24, .ref 33, .ref 42, .null, .null, .null, .null, .null, .null, .null, .null, .null, .null, .int 0, .int 0, .long 0, .long 0]))
theorem n106 : h106.1 = 43 := n105
set_option maxRecDepth 8000 in
theorem s457 {X : pm_X} : pm_V X 1 150 [some (.ref 1), some (.int (nI 4))] [.ref 42, .ref 1] (42, 1034) h105 = pm_V X 1 153 [some (.ref 1), some (.int (nI 4))] [] (42, 1034) h106 := k_put d1_150 rfl (show pm_get h105 1 = some (.inr (10, [.ref 2, .ref 15, .ref 24, .ref 33, .null, .null, .null, .null, .null, .null, .null, .null, .null, .null, .null, .int 0, .int 0, .long 0, .long 0])) from rfl) (by decide) rfl (by decide +kernel)
theorem s458 {X : pm_X} : pm_V X 1 153 [some (.ref 1), some (.int (nI 4))] [] (42, 1034) h106 = pm_V X 1 154 [some (.ref 1), some (.int (nI 4))] [.ref 1] (42, 1034) h106 := v_n d1_153 rfl
theorem s459 {X : pm_X} : pm_V X 1 154 [some (.ref 1), some (.int (nI 4))] [.ref 1] (42, 1034) h106 = pm_V X 1 155 [some (.ref 1), some (.int (nI 4))] [.int (nI 3), .ref 1] (42, 1034) h106 := v_iconst d1_154 (by decide)
def h107 : pm_H := pm_new h106 (.inl (.object RX4, 3, .inr (fun _ => none)))
theorem n107 : h107.1 = 44 := (show h106.1 + 1 = 44 by rw [n106])
theorem s460 {X : pm_X} : pm_V X 1 155 [some (.ref 1), some (.int (nI 4))] [.int (nI 3), .ref 1] (42, 1034) h106 = pm_V X 1 158 [some (.ref 1), some (.int (nI 4))] [.ref 44, .ref 1] (43, 1037) h107 := k_anew n106 d1_155 rfl (by omega) (by decide) rfl (by decide +kernel)
def h108 : pm_H := pm_set h107 1 (.inr (10, [.ref 2, .ref 15, .ref 24, .ref 33, .ref 42, .ref 44, .null, .null, .null, .null, .null, .null, .null, .null, .null, .int 0, .int 0, .long 0, .long 0]))
theorem n108 : h108.1 = 44 := n107
set_option maxRecDepth 8000 in
theorem s461 {X : pm_X} : pm_V X 1 158 [some (.ref 1), some (.int (nI 4))] [.ref 44, .ref 1] (43, 1037) h107 = pm_V X 1 161 [some (.ref 1), some (.int (nI 4))] [] (43, 1037) h108 := k_put d1_158 rfl (show pm_get h107 1 = some (.inr (10, [.ref 2, .ref 15, .ref 24, .ref 33, .ref 42, .null, .null, .null, .null, .null, .null, .null, .null, .null, .null, .int 0, .int 0, .long 0, .long 0])) from rfl) (by decide) rfl (by decide +kernel)
theorem s462 {X : pm_X} : pm_V X 1 161 [some (.ref 1), some (.int (nI 4))] [] (43, 1037) h108 = pm_V X 1 162 [some (.ref 1), some (.int (nI 4))] [.int (nI 0)] (43, 1037) h108 := v_iconst d1_161 (by decide)
theorem s463 {X : pm_X} : pm_V X 1 162 [some (.ref 1), some (.int (nI 4))] [.int (nI 0)] (43, 1037) h108 = pm_V X 1 163 [some (.ref 1), some (.int (nI 0))] [] (43, 1037) h108 := v_istore_n d1_162 (by decide +kernel) rfl
theorem s464 {X : pm_X} : pm_V X 1 163 [some (.ref 1), some (.int (nI 0))] [] (43, 1037) h108 = pm_V X 1 164 [some (.ref 1), some (.int (nI 0))] [.int (nI 0)] (43, 1037) h108 := v_n d1_163 rfl
theorem s465 {X : pm_X} : pm_V X 1 164 [some (.ref 1), some (.int (nI 0))] [.int (nI 0)] (43, 1037) h108 = pm_V X 1 165 [some (.ref 1), some (.int (nI 0))] [.int (nI 3), .int (nI 0)] (43, 1037) h108 := v_iconst d1_164 (by decide)
theorem s466 {X : pm_X} : pm_V X 1 165 [some (.ref 1), some (.int (nI 0))] [.int (nI 3), .int (nI 0)] (43, 1037) h108 = pm_V X 1 168 [some (.ref 1), some (.int (nI 0))] [] (43, 1037) h108 := (v_ic_ge d1_165 rfl).trans (if_neg (nI_ge (by omega) (by omega)))
theorem s467 {X : pm_X} : pm_V X 1 168 [some (.ref 1), some (.int (nI 0))] [] (43, 1037) h108 = pm_V X 1 169 [some (.ref 1), some (.int (nI 0))] [.ref 1] (43, 1037) h108 := v_n d1_168 rfl
set_option maxRecDepth 8000 in
theorem s468 {X : pm_X} : pm_V X 1 169 [some (.ref 1), some (.int (nI 0))] [.ref 1] (43, 1037) h108 = pm_V X 1 172 [some (.ref 1), some (.int (nI 0))] [.ref 44] (43, 1037) h108 := k_get d1_169 rfl (show pm_get h108 1 = some (.inr (10, [.ref 2, .ref 15, .ref 24, .ref 33, .ref 42, .ref 44, .null, .null, .null, .null, .null, .null, .null, .null, .null, .int 0, .int 0, .long 0, .long 0])) from rfl) rfl rfl
theorem s469 {X : pm_X} : pm_V X 1 172 [some (.ref 1), some (.int (nI 0))] [.ref 44] (43, 1037) h108 = pm_V X 1 173 [some (.ref 1), some (.int (nI 0))] [.int (nI 0), .ref 44] (43, 1037) h108 := v_n d1_172 rfl
def h109 : pm_H := pm_new h108 (.inr (4, [.int 0, .int 0, .int 0, .null]))
theorem n109 : h109.1 = 45 := (show h108.1 + 1 = 45 by rw [n108])
theorem s470 {X : pm_X} : pm_V X 1 173 [some (.ref 1), some (.int (nI 0))] [.int (nI 0), .ref 44] (43, 1037) h108 = pm_V X 1 176 [some (.ref 1), some (.int (nI 0))] [.ref 45, .int (nI 0), .ref 44] (44, 1041) h109 := k_new n108 d1_173 rfl rfl df_4 (by decide +kernel)
theorem s471 {X : pm_X} : pm_V X 1 176 [some (.ref 1), some (.int (nI 0))] [.ref 45, .int (nI 0), .ref 44] (44, 1041) h109 = pm_V X 1 177 [some (.ref 1), some (.int (nI 0))] [.ref 45, .ref 45, .int (nI 0), .ref 44] (44, 1041) h109 := v_n d1_176 rfl
theorem s472 {X : pm_X} : pm_V X 6 0 [some (.ref 45)] [] (0, 0) h109 = pm_V X 6 1 [some (.ref 45)] [.ref 45] (0, 0) h109 := v_n d6_0 rfl
theorem s473 {X : pm_X} : pm_V X 6 1 [some (.ref 45)] [.ref 45] (0, 0) h109 = pm_V X 6 4 [some (.ref 45)] [] (0, 0) h109 := k_obj d6_1 rfl (by decide +kernel)
theorem s474 {X : pm_X} : pm_V X 6 4 [some (.ref 45)] [] (0, 0) h109 = pm_V X 6 5 [some (.ref 45)] [.ref 45] (0, 0) h109 := v_n d6_4 rfl
theorem s475 {X : pm_X} : pm_V X 6 5 [some (.ref 45)] [.ref 45] (0, 0) h109 = pm_V X 6 6 [some (.ref 45)] [.int (nI 0), .ref 45] (0, 0) h109 := v_iconst d6_5 (by decide)
def h110 : pm_H := pm_set h109 45 (.inr (4, [.int (nI 0), .int 0, .int 0, .null]))
theorem n110 : h110.1 = 45 := n109
set_option maxRecDepth 8000 in
theorem s476 {X : pm_X} : pm_V X 6 6 [some (.ref 45)] [.int (nI 0), .ref 45] (0, 0) h109 = pm_V X 6 9 [some (.ref 45)] [] (0, 0) h110 := k_put d6_6 rfl (show pm_get h109 45 = some (.inr (4, [.int 0, .int 0, .int 0, .null])) from rfl) (by decide) rfl (by decide +kernel)
theorem s477 {X : pm_X} : pm_V X 6 9 [some (.ref 45)] [] (0, 0) h110 = pm_V X 6 10 [some (.ref 45)] [.ref 45] (0, 0) h110 := v_n d6_9 rfl
theorem s478 {X : pm_X} : pm_V X 6 10 [some (.ref 45)] [.ref 45] (0, 0) h110 = pm_V X 6 11 [some (.ref 45)] [.int (nI 0), .ref 45] (0, 0) h110 := v_iconst d6_10 (by decide)
def h111 : pm_H := pm_set h110 45 (.inr (4, [.int (nI 0), .int (nI 0), .int 0, .null]))
theorem n111 : h111.1 = 45 := n110
set_option maxRecDepth 8000 in
theorem s479 {X : pm_X} : pm_V X 6 11 [some (.ref 45)] [.int (nI 0), .ref 45] (0, 0) h110 = pm_V X 6 14 [some (.ref 45)] [] (0, 0) h111 := k_put d6_11 rfl (show pm_get h110 45 = some (.inr (4, [.int (nI 0), .int 0, .int 0, .null])) from rfl) (by decide) rfl (by decide +kernel)
theorem s480 {X : pm_X} : pm_V X 6 14 [some (.ref 45)] [] (0, 0) h111 = pm_V X 6 15 [some (.ref 45)] [.ref 45] (0, 0) h111 := v_n d6_14 rfl
theorem s481 {X : pm_X} : pm_V X 6 15 [some (.ref 45)] [.ref 45] (0, 0) h111 = pm_V X 6 16 [some (.ref 45)] [.int (nI 0), .ref 45] (0, 0) h111 := v_iconst d6_15 (by decide)
def h112 : pm_H := pm_set h111 45 (.inr (4, [.int (nI 0), .int (nI 0), .int (nI 0), .null]))
theorem n112 : h112.1 = 45 := n111
set_option maxRecDepth 8000 in
theorem s482 {X : pm_X} : pm_V X 6 16 [some (.ref 45)] [.int (nI 0), .ref 45] (0, 0) h111 = pm_V X 6 19 [some (.ref 45)] [] (0, 0) h112 := k_put d6_16 rfl (show pm_get h111 45 = some (.inr (4, [.int (nI 0), .int (nI 0), .int 0, .null])) from rfl) (by decide) rfl (by decide +kernel)
theorem s483 {X : pm_X} : pm_V X 6 19 [some (.ref 45)] [] (0, 0) h112 = pm_V X 6 20 [some (.ref 45)] [.ref 45] (0, 0) h112 := v_n d6_19 rfl
theorem s484 {X : pm_X} : pm_V X 6 20 [some (.ref 45)] [.ref 45] (0, 0) h112 = pm_V X 6 22 [some (.ref 45)] [.int (nI 24), .ref 45] (0, 0) h112 := v_bipush d6_20 (by decide)
def h113 : pm_H := pm_new h112 (.inl (.int, 24, .inl (fun _ => 0)))
theorem n113 : h113.1 = 46 := (show h112.1 + 1 = 46 by rw [n112])
theorem s485 {X : pm_X} : pm_V X 6 22 [some (.ref 45)] [.int (nI 24), .ref 45] (0, 0) h112 = pm_V X 6 24 [some (.ref 45)] [.ref 46, .ref 45] (1, 24) h113 := k_narr n112 d6_22 (by omega) (by decide) rfl (by decide +kernel)
def h114 : pm_H := pm_set h113 45 (.inr (4, [.int (nI 0), .int (nI 0), .int (nI 0), .ref 46]))
theorem n114 : h114.1 = 46 := n113
set_option maxRecDepth 8000 in
theorem s486 {X : pm_X} : pm_V X 6 24 [some (.ref 45)] [.ref 46, .ref 45] (1, 24) h113 = pm_V X 6 27 [some (.ref 45)] [] (1, 24) h114 := k_put d6_24 rfl (show pm_get h113 45 = some (.inr (4, [.int (nI 0), .int (nI 0), .int (nI 0), .null])) from rfl) (by decide) rfl (by decide +kernel)
theorem s487 {X : pm_X} : pm_V X 6 27 [some (.ref 45)] [] (1, 24) h114 = some (none, h114) := k_ret d6_27 rfl (by decide +kernel)
theorem m20 {X : pm_X} : pm_V0 X 6 [.ref 45] h109 = some (none, h114) := by
  show pm_V X 6 0 [some (.ref 45)] [] (0, 0) h109 = _
  rw [s472, s473, s474, s475, s476, s477, s478, s479, s480, s481, s482, s483, s484, s485, s486, s487]
theorem s488 {X : pm_X} : pm_V X 1 177 [some (.ref 1), some (.int (nI 0))] [.ref 45, .ref 45, .int (nI 0), .ref 44] (44, 1041) h109 = pm_V X 1 180 [some (.ref 1), some (.int (nI 0))] [.ref 45, .int (nI 0), .ref 44] (45, 1065) h114 := (k_call d1_177 rfl rfl (by decide +kernel)).trans (by rw [m20]; rfl)
def h115 : pm_H := pm_set h114 44 (.inl (.object RX4, 3, .inr (va_up (fun _ => none) 0 (some 45))))
theorem n115 : h115.1 = 46 := n114
set_option maxRecDepth 8000 in
theorem s489 {X : pm_X} : pm_V X 1 180 [some (.ref 1), some (.int (nI 0))] [.ref 45, .int (nI 0), .ref 44] (45, 1065) h114 = pm_V X 1 181 [some (.ref 1), some (.int (nI 0))] [] (45, 1065) h115 := k_aast d1_180 (show pm_get h114 44 = some (.inl (.object RX4, 3, .inr (fun _ => none))) from rfl) (show pm_get h114 45 = some (.inr (4, [.int (nI 0), .int (nI 0), .int (nI 0), .ref 46])) from rfl) rfl (by decide) (by omega) (by omega)
theorem s490 {X : pm_X} : pm_V X 1 181 [some (.ref 1), some (.int (nI 0))] [] (45, 1065) h115 = pm_V X 1 184 [some (.ref 1), some (.int (nI 1))] [] (45, 1065) h115 := v_iinc (v := nI 1) d1_181 (by decide) (by decide +kernel) rfl (by rw [show nI 0 + nI 1 = nI 1 from by decide]; rfl)
theorem s491 {X : pm_X} : pm_V X 1 184 [some (.ref 1), some (.int (nI 1))] [] (45, 1065) h115 = pm_V X 1 163 [some (.ref 1), some (.int (nI 1))] [] (45, 1065) h115 := v_goto d1_184 rfl
theorem s492 {X : pm_X} : pm_V X 1 163 [some (.ref 1), some (.int (nI 1))] [] (45, 1065) h115 = pm_V X 1 164 [some (.ref 1), some (.int (nI 1))] [.int (nI 1)] (45, 1065) h115 := v_n d1_163 rfl
theorem s493 {X : pm_X} : pm_V X 1 164 [some (.ref 1), some (.int (nI 1))] [.int (nI 1)] (45, 1065) h115 = pm_V X 1 165 [some (.ref 1), some (.int (nI 1))] [.int (nI 3), .int (nI 1)] (45, 1065) h115 := v_iconst d1_164 (by decide)
theorem s494 {X : pm_X} : pm_V X 1 165 [some (.ref 1), some (.int (nI 1))] [.int (nI 3), .int (nI 1)] (45, 1065) h115 = pm_V X 1 168 [some (.ref 1), some (.int (nI 1))] [] (45, 1065) h115 := (v_ic_ge d1_165 rfl).trans (if_neg (nI_ge (by omega) (by omega)))
theorem s495 {X : pm_X} : pm_V X 1 168 [some (.ref 1), some (.int (nI 1))] [] (45, 1065) h115 = pm_V X 1 169 [some (.ref 1), some (.int (nI 1))] [.ref 1] (45, 1065) h115 := v_n d1_168 rfl
set_option maxRecDepth 8000 in
theorem s496 {X : pm_X} : pm_V X 1 169 [some (.ref 1), some (.int (nI 1))] [.ref 1] (45, 1065) h115 = pm_V X 1 172 [some (.ref 1), some (.int (nI 1))] [.ref 44] (45, 1065) h115 := k_get d1_169 rfl (show pm_get h115 1 = some (.inr (10, [.ref 2, .ref 15, .ref 24, .ref 33, .ref 42, .ref 44, .null, .null, .null, .null, .null, .null, .null, .null, .null, .int 0, .int 0, .long 0, .long 0])) from rfl) rfl rfl
theorem s497 {X : pm_X} : pm_V X 1 172 [some (.ref 1), some (.int (nI 1))] [.ref 44] (45, 1065) h115 = pm_V X 1 173 [some (.ref 1), some (.int (nI 1))] [.int (nI 1), .ref 44] (45, 1065) h115 := v_n d1_172 rfl
def h116 : pm_H := pm_new h115 (.inr (4, [.int 0, .int 0, .int 0, .null]))
theorem n116 : h116.1 = 47 := (show h115.1 + 1 = 47 by rw [n115])
theorem s498 {X : pm_X} : pm_V X 1 173 [some (.ref 1), some (.int (nI 1))] [.int (nI 1), .ref 44] (45, 1065) h115 = pm_V X 1 176 [some (.ref 1), some (.int (nI 1))] [.ref 47, .int (nI 1), .ref 44] (46, 1069) h116 := k_new n115 d1_173 rfl rfl df_4 (by decide +kernel)
theorem s499 {X : pm_X} : pm_V X 1 176 [some (.ref 1), some (.int (nI 1))] [.ref 47, .int (nI 1), .ref 44] (46, 1069) h116 = pm_V X 1 177 [some (.ref 1), some (.int (nI 1))] [.ref 47, .ref 47, .int (nI 1), .ref 44] (46, 1069) h116 := v_n d1_176 rfl
theorem s500 {X : pm_X} : pm_V X 6 0 [some (.ref 47)] [] (0, 0) h116 = pm_V X 6 1 [some (.ref 47)] [.ref 47] (0, 0) h116 := v_n d6_0 rfl
theorem s501 {X : pm_X} : pm_V X 6 1 [some (.ref 47)] [.ref 47] (0, 0) h116 = pm_V X 6 4 [some (.ref 47)] [] (0, 0) h116 := k_obj d6_1 rfl (by decide +kernel)
theorem s502 {X : pm_X} : pm_V X 6 4 [some (.ref 47)] [] (0, 0) h116 = pm_V X 6 5 [some (.ref 47)] [.ref 47] (0, 0) h116 := v_n d6_4 rfl
theorem s503 {X : pm_X} : pm_V X 6 5 [some (.ref 47)] [.ref 47] (0, 0) h116 = pm_V X 6 6 [some (.ref 47)] [.int (nI 0), .ref 47] (0, 0) h116 := v_iconst d6_5 (by decide)
def h117 : pm_H := pm_set h116 47 (.inr (4, [.int (nI 0), .int 0, .int 0, .null]))
theorem n117 : h117.1 = 47 := n116
set_option maxRecDepth 8000 in
theorem s504 {X : pm_X} : pm_V X 6 6 [some (.ref 47)] [.int (nI 0), .ref 47] (0, 0) h116 = pm_V X 6 9 [some (.ref 47)] [] (0, 0) h117 := k_put d6_6 rfl (show pm_get h116 47 = some (.inr (4, [.int 0, .int 0, .int 0, .null])) from rfl) (by decide) rfl (by decide +kernel)
theorem s505 {X : pm_X} : pm_V X 6 9 [some (.ref 47)] [] (0, 0) h117 = pm_V X 6 10 [some (.ref 47)] [.ref 47] (0, 0) h117 := v_n d6_9 rfl
theorem s506 {X : pm_X} : pm_V X 6 10 [some (.ref 47)] [.ref 47] (0, 0) h117 = pm_V X 6 11 [some (.ref 47)] [.int (nI 0), .ref 47] (0, 0) h117 := v_iconst d6_10 (by decide)
def h118 : pm_H := pm_set h117 47 (.inr (4, [.int (nI 0), .int (nI 0), .int 0, .null]))
theorem n118 : h118.1 = 47 := n117
set_option maxRecDepth 8000 in
theorem s507 {X : pm_X} : pm_V X 6 11 [some (.ref 47)] [.int (nI 0), .ref 47] (0, 0) h117 = pm_V X 6 14 [some (.ref 47)] [] (0, 0) h118 := k_put d6_11 rfl (show pm_get h117 47 = some (.inr (4, [.int (nI 0), .int 0, .int 0, .null])) from rfl) (by decide) rfl (by decide +kernel)
theorem s508 {X : pm_X} : pm_V X 6 14 [some (.ref 47)] [] (0, 0) h118 = pm_V X 6 15 [some (.ref 47)] [.ref 47] (0, 0) h118 := v_n d6_14 rfl
theorem s509 {X : pm_X} : pm_V X 6 15 [some (.ref 47)] [.ref 47] (0, 0) h118 = pm_V X 6 16 [some (.ref 47)] [.int (nI 0), .ref 47] (0, 0) h118 := v_iconst d6_15 (by decide)
def h119 : pm_H := pm_set h118 47 (.inr (4, [.int (nI 0), .int (nI 0), .int (nI 0), .null]))
theorem n119 : h119.1 = 47 := n118
set_option maxRecDepth 8000 in
theorem s510 {X : pm_X} : pm_V X 6 16 [some (.ref 47)] [.int (nI 0), .ref 47] (0, 0) h118 = pm_V X 6 19 [some (.ref 47)] [] (0, 0) h119 := k_put d6_16 rfl (show pm_get h118 47 = some (.inr (4, [.int (nI 0), .int (nI 0), .int 0, .null])) from rfl) (by decide) rfl (by decide +kernel)
theorem s511 {X : pm_X} : pm_V X 6 19 [some (.ref 47)] [] (0, 0) h119 = pm_V X 6 20 [some (.ref 47)] [.ref 47] (0, 0) h119 := v_n d6_19 rfl
theorem s512 {X : pm_X} : pm_V X 6 20 [some (.ref 47)] [.ref 47] (0, 0) h119 = pm_V X 6 22 [some (.ref 47)] [.int (nI 24), .ref 47] (0, 0) h119 := v_bipush d6_20 (by decide)
def h120 : pm_H := pm_new h119 (.inl (.int, 24, .inl (fun _ => 0)))
theorem n120 : h120.1 = 48 := (show h119.1 + 1 = 48 by rw [n119])
theorem s513 {X : pm_X} : pm_V X 6 22 [some (.ref 47)] [.int (nI 24), .ref 47] (0, 0) h119 = pm_V X 6 24 [some (.ref 47)] [.ref 48, .ref 47] (1, 24) h120 := k_narr n119 d6_22 (by omega) (by decide) rfl (by decide +kernel)
def h121 : pm_H := pm_set h120 47 (.inr (4, [.int (nI 0), .int (nI 0), .int (nI 0), .ref 48]))
theorem n121 : h121.1 = 48 := n120
set_option maxRecDepth 8000 in
theorem s514 {X : pm_X} : pm_V X 6 24 [some (.ref 47)] [.ref 48, .ref 47] (1, 24) h120 = pm_V X 6 27 [some (.ref 47)] [] (1, 24) h121 := k_put d6_24 rfl (show pm_get h120 47 = some (.inr (4, [.int (nI 0), .int (nI 0), .int (nI 0), .null])) from rfl) (by decide) rfl (by decide +kernel)
theorem s515 {X : pm_X} : pm_V X 6 27 [some (.ref 47)] [] (1, 24) h121 = some (none, h121) := k_ret d6_27 rfl (by decide +kernel)
theorem m21 {X : pm_X} : pm_V0 X 6 [.ref 47] h116 = some (none, h121) := by
  show pm_V X 6 0 [some (.ref 47)] [] (0, 0) h116 = _
  rw [s500, s501, s502, s503, s504, s505, s506, s507, s508, s509, s510, s511, s512, s513, s514, s515]
theorem s516 {X : pm_X} : pm_V X 1 177 [some (.ref 1), some (.int (nI 1))] [.ref 47, .ref 47, .int (nI 1), .ref 44] (46, 1069) h116 = pm_V X 1 180 [some (.ref 1), some (.int (nI 1))] [.ref 47, .int (nI 1), .ref 44] (47, 1093) h121 := (k_call d1_177 rfl rfl (by decide +kernel)).trans (by rw [m21]; rfl)
def h122 : pm_H := pm_set h121 44 (.inl (.object RX4, 3, .inr (va_up (va_up (fun _ => none) 0 (some 45)) 1 (some 47))))
theorem n122 : h122.1 = 48 := n121
set_option maxRecDepth 8000 in
theorem s517 {X : pm_X} : pm_V X 1 180 [some (.ref 1), some (.int (nI 1))] [.ref 47, .int (nI 1), .ref 44] (47, 1093) h121 = pm_V X 1 181 [some (.ref 1), some (.int (nI 1))] [] (47, 1093) h122 := k_aast d1_180 (show pm_get h121 44 = some (.inl (.object RX4, 3, .inr (va_up (fun _ => none) 0 (some 45)))) from rfl) (show pm_get h121 47 = some (.inr (4, [.int (nI 0), .int (nI 0), .int (nI 0), .ref 48])) from rfl) rfl (by decide) (by omega) (by omega)
theorem s518 {X : pm_X} : pm_V X 1 181 [some (.ref 1), some (.int (nI 1))] [] (47, 1093) h122 = pm_V X 1 184 [some (.ref 1), some (.int (nI 2))] [] (47, 1093) h122 := v_iinc (v := nI 1) d1_181 (by decide) (by decide +kernel) rfl (by rw [show nI 1 + nI 1 = nI 2 from by decide]; rfl)
theorem s519 {X : pm_X} : pm_V X 1 184 [some (.ref 1), some (.int (nI 2))] [] (47, 1093) h122 = pm_V X 1 163 [some (.ref 1), some (.int (nI 2))] [] (47, 1093) h122 := v_goto d1_184 rfl
theorem s520 {X : pm_X} : pm_V X 1 163 [some (.ref 1), some (.int (nI 2))] [] (47, 1093) h122 = pm_V X 1 164 [some (.ref 1), some (.int (nI 2))] [.int (nI 2)] (47, 1093) h122 := v_n d1_163 rfl
theorem s521 {X : pm_X} : pm_V X 1 164 [some (.ref 1), some (.int (nI 2))] [.int (nI 2)] (47, 1093) h122 = pm_V X 1 165 [some (.ref 1), some (.int (nI 2))] [.int (nI 3), .int (nI 2)] (47, 1093) h122 := v_iconst d1_164 (by decide)
theorem s522 {X : pm_X} : pm_V X 1 165 [some (.ref 1), some (.int (nI 2))] [.int (nI 3), .int (nI 2)] (47, 1093) h122 = pm_V X 1 168 [some (.ref 1), some (.int (nI 2))] [] (47, 1093) h122 := (v_ic_ge d1_165 rfl).trans (if_neg (nI_ge (by omega) (by omega)))
theorem s523 {X : pm_X} : pm_V X 1 168 [some (.ref 1), some (.int (nI 2))] [] (47, 1093) h122 = pm_V X 1 169 [some (.ref 1), some (.int (nI 2))] [.ref 1] (47, 1093) h122 := v_n d1_168 rfl
set_option maxRecDepth 8000 in
theorem s524 {X : pm_X} : pm_V X 1 169 [some (.ref 1), some (.int (nI 2))] [.ref 1] (47, 1093) h122 = pm_V X 1 172 [some (.ref 1), some (.int (nI 2))] [.ref 44] (47, 1093) h122 := k_get d1_169 rfl (show pm_get h122 1 = some (.inr (10, [.ref 2, .ref 15, .ref 24, .ref 33, .ref 42, .ref 44, .null, .null, .null, .null, .null, .null, .null, .null, .null, .int 0, .int 0, .long 0, .long 0])) from rfl) rfl rfl
theorem s525 {X : pm_X} : pm_V X 1 172 [some (.ref 1), some (.int (nI 2))] [.ref 44] (47, 1093) h122 = pm_V X 1 173 [some (.ref 1), some (.int (nI 2))] [.int (nI 2), .ref 44] (47, 1093) h122 := v_n d1_172 rfl
def h123 : pm_H := pm_new h122 (.inr (4, [.int 0, .int 0, .int 0, .null]))
theorem n123 : h123.1 = 49 := (show h122.1 + 1 = 49 by rw [n122])
theorem s526 {X : pm_X} : pm_V X 1 173 [some (.ref 1), some (.int (nI 2))] [.int (nI 2), .ref 44] (47, 1093) h122 = pm_V X 1 176 [some (.ref 1), some (.int (nI 2))] [.ref 49, .int (nI 2), .ref 44] (48, 1097) h123 := k_new n122 d1_173 rfl rfl df_4 (by decide +kernel)
theorem s527 {X : pm_X} : pm_V X 1 176 [some (.ref 1), some (.int (nI 2))] [.ref 49, .int (nI 2), .ref 44] (48, 1097) h123 = pm_V X 1 177 [some (.ref 1), some (.int (nI 2))] [.ref 49, .ref 49, .int (nI 2), .ref 44] (48, 1097) h123 := v_n d1_176 rfl
theorem s528 {X : pm_X} : pm_V X 6 0 [some (.ref 49)] [] (0, 0) h123 = pm_V X 6 1 [some (.ref 49)] [.ref 49] (0, 0) h123 := v_n d6_0 rfl
theorem s529 {X : pm_X} : pm_V X 6 1 [some (.ref 49)] [.ref 49] (0, 0) h123 = pm_V X 6 4 [some (.ref 49)] [] (0, 0) h123 := k_obj d6_1 rfl (by decide +kernel)
theorem s530 {X : pm_X} : pm_V X 6 4 [some (.ref 49)] [] (0, 0) h123 = pm_V X 6 5 [some (.ref 49)] [.ref 49] (0, 0) h123 := v_n d6_4 rfl
theorem s531 {X : pm_X} : pm_V X 6 5 [some (.ref 49)] [.ref 49] (0, 0) h123 = pm_V X 6 6 [some (.ref 49)] [.int (nI 0), .ref 49] (0, 0) h123 := v_iconst d6_5 (by decide)
def h124 : pm_H := pm_set h123 49 (.inr (4, [.int (nI 0), .int 0, .int 0, .null]))
theorem n124 : h124.1 = 49 := n123
set_option maxRecDepth 8000 in
theorem s532 {X : pm_X} : pm_V X 6 6 [some (.ref 49)] [.int (nI 0), .ref 49] (0, 0) h123 = pm_V X 6 9 [some (.ref 49)] [] (0, 0) h124 := k_put d6_6 rfl (show pm_get h123 49 = some (.inr (4, [.int 0, .int 0, .int 0, .null])) from rfl) (by decide) rfl (by decide +kernel)
theorem s533 {X : pm_X} : pm_V X 6 9 [some (.ref 49)] [] (0, 0) h124 = pm_V X 6 10 [some (.ref 49)] [.ref 49] (0, 0) h124 := v_n d6_9 rfl
theorem s534 {X : pm_X} : pm_V X 6 10 [some (.ref 49)] [.ref 49] (0, 0) h124 = pm_V X 6 11 [some (.ref 49)] [.int (nI 0), .ref 49] (0, 0) h124 := v_iconst d6_10 (by decide)
def h125 : pm_H := pm_set h124 49 (.inr (4, [.int (nI 0), .int (nI 0), .int 0, .null]))
theorem n125 : h125.1 = 49 := n124
set_option maxRecDepth 8000 in
theorem s535 {X : pm_X} : pm_V X 6 11 [some (.ref 49)] [.int (nI 0), .ref 49] (0, 0) h124 = pm_V X 6 14 [some (.ref 49)] [] (0, 0) h125 := k_put d6_11 rfl (show pm_get h124 49 = some (.inr (4, [.int (nI 0), .int 0, .int 0, .null])) from rfl) (by decide) rfl (by decide +kernel)
theorem s536 {X : pm_X} : pm_V X 6 14 [some (.ref 49)] [] (0, 0) h125 = pm_V X 6 15 [some (.ref 49)] [.ref 49] (0, 0) h125 := v_n d6_14 rfl
theorem s537 {X : pm_X} : pm_V X 6 15 [some (.ref 49)] [.ref 49] (0, 0) h125 = pm_V X 6 16 [some (.ref 49)] [.int (nI 0), .ref 49] (0, 0) h125 := v_iconst d6_15 (by decide)
def h126 : pm_H := pm_set h125 49 (.inr (4, [.int (nI 0), .int (nI 0), .int (nI 0), .null]))
theorem n126 : h126.1 = 49 := n125
set_option maxRecDepth 8000 in
theorem s538 {X : pm_X} : pm_V X 6 16 [some (.ref 49)] [.int (nI 0), .ref 49] (0, 0) h125 = pm_V X 6 19 [some (.ref 49)] [] (0, 0) h126 := k_put d6_16 rfl (show pm_get h125 49 = some (.inr (4, [.int (nI 0), .int (nI 0), .int 0, .null])) from rfl) (by decide) rfl (by decide +kernel)
theorem s539 {X : pm_X} : pm_V X 6 19 [some (.ref 49)] [] (0, 0) h126 = pm_V X 6 20 [some (.ref 49)] [.ref 49] (0, 0) h126 := v_n d6_19 rfl
theorem s540 {X : pm_X} : pm_V X 6 20 [some (.ref 49)] [.ref 49] (0, 0) h126 = pm_V X 6 22 [some (.ref 49)] [.int (nI 24), .ref 49] (0, 0) h126 := v_bipush d6_20 (by decide)
def h127 : pm_H := pm_new h126 (.inl (.int, 24, .inl (fun _ => 0)))
theorem n127 : h127.1 = 50 := (show h126.1 + 1 = 50 by rw [n126])
theorem s541 {X : pm_X} : pm_V X 6 22 [some (.ref 49)] [.int (nI 24), .ref 49] (0, 0) h126 = pm_V X 6 24 [some (.ref 49)] [.ref 50, .ref 49] (1, 24) h127 := k_narr n126 d6_22 (by omega) (by decide) rfl (by decide +kernel)
def h128 : pm_H := pm_set h127 49 (.inr (4, [.int (nI 0), .int (nI 0), .int (nI 0), .ref 50]))
theorem n128 : h128.1 = 50 := n127
set_option maxRecDepth 8000 in
theorem s542 {X : pm_X} : pm_V X 6 24 [some (.ref 49)] [.ref 50, .ref 49] (1, 24) h127 = pm_V X 6 27 [some (.ref 49)] [] (1, 24) h128 := k_put d6_24 rfl (show pm_get h127 49 = some (.inr (4, [.int (nI 0), .int (nI 0), .int (nI 0), .null])) from rfl) (by decide) rfl (by decide +kernel)
theorem s543 {X : pm_X} : pm_V X 6 27 [some (.ref 49)] [] (1, 24) h128 = some (none, h128) := k_ret d6_27 rfl (by decide +kernel)
theorem m22 {X : pm_X} : pm_V0 X 6 [.ref 49] h123 = some (none, h128) := by
  show pm_V X 6 0 [some (.ref 49)] [] (0, 0) h123 = _
  rw [s528, s529, s530, s531, s532, s533, s534, s535, s536, s537, s538, s539, s540, s541, s542, s543]
theorem s544 {X : pm_X} : pm_V X 1 177 [some (.ref 1), some (.int (nI 2))] [.ref 49, .ref 49, .int (nI 2), .ref 44] (48, 1097) h123 = pm_V X 1 180 [some (.ref 1), some (.int (nI 2))] [.ref 49, .int (nI 2), .ref 44] (49, 1121) h128 := (k_call d1_177 rfl rfl (by decide +kernel)).trans (by rw [m22]; rfl)
def h129 : pm_H := pm_set h128 44 (.inl (.object RX4, 3, .inr (va_up (va_up (va_up (fun _ => none) 0 (some 45)) 1 (some 47)) 2 (some 49))))
theorem n129 : h129.1 = 50 := n128
set_option maxRecDepth 8000 in
theorem s545 {X : pm_X} : pm_V X 1 180 [some (.ref 1), some (.int (nI 2))] [.ref 49, .int (nI 2), .ref 44] (49, 1121) h128 = pm_V X 1 181 [some (.ref 1), some (.int (nI 2))] [] (49, 1121) h129 := k_aast d1_180 (show pm_get h128 44 = some (.inl (.object RX4, 3, .inr (va_up (va_up (fun _ => none) 0 (some 45)) 1 (some 47)))) from rfl) (show pm_get h128 49 = some (.inr (4, [.int (nI 0), .int (nI 0), .int (nI 0), .ref 50])) from rfl) rfl (by decide) (by omega) (by omega)
theorem s546 {X : pm_X} : pm_V X 1 181 [some (.ref 1), some (.int (nI 2))] [] (49, 1121) h129 = pm_V X 1 184 [some (.ref 1), some (.int (nI 3))] [] (49, 1121) h129 := v_iinc (v := nI 1) d1_181 (by decide) (by decide +kernel) rfl (by rw [show nI 2 + nI 1 = nI 3 from by decide]; rfl)
theorem s547 {X : pm_X} : pm_V X 1 184 [some (.ref 1), some (.int (nI 3))] [] (49, 1121) h129 = pm_V X 1 163 [some (.ref 1), some (.int (nI 3))] [] (49, 1121) h129 := v_goto d1_184 rfl
theorem s548 {X : pm_X} : pm_V X 1 163 [some (.ref 1), some (.int (nI 3))] [] (49, 1121) h129 = pm_V X 1 164 [some (.ref 1), some (.int (nI 3))] [.int (nI 3)] (49, 1121) h129 := v_n d1_163 rfl
theorem s549 {X : pm_X} : pm_V X 1 164 [some (.ref 1), some (.int (nI 3))] [.int (nI 3)] (49, 1121) h129 = pm_V X 1 165 [some (.ref 1), some (.int (nI 3))] [.int (nI 3), .int (nI 3)] (49, 1121) h129 := v_iconst d1_164 (by decide)
theorem s550 {X : pm_X} : pm_V X 1 165 [some (.ref 1), some (.int (nI 3))] [.int (nI 3), .int (nI 3)] (49, 1121) h129 = pm_V X 1 187 [some (.ref 1), some (.int (nI 3))] [] (49, 1121) h129 := (v_ic_ge d1_165 rfl).trans (if_pos (nI_le (by omega) (by omega)))
theorem s551 {X : pm_X} : pm_V X 1 187 [some (.ref 1), some (.int (nI 3))] [] (49, 1121) h129 = pm_V X 1 188 [some (.ref 1), some (.int (nI 3))] [.ref 1] (49, 1121) h129 := v_n d1_187 rfl
def h130 : pm_H := pm_new h129 (.inr (0, [.int 0, .null, .null]))
theorem n130 : h130.1 = 51 := (show h129.1 + 1 = 51 by rw [n129])
theorem s552 {X : pm_X} : pm_V X 1 188 [some (.ref 1), some (.int (nI 3))] [.ref 1] (49, 1121) h129 = pm_V X 1 191 [some (.ref 1), some (.int (nI 3))] [.ref 51, .ref 1] (50, 1124) h130 := k_new n129 d1_188 rfl rfl df_0 (by decide +kernel)
theorem s553 {X : pm_X} : pm_V X 1 191 [some (.ref 1), some (.int (nI 3))] [.ref 51, .ref 1] (50, 1124) h130 = pm_V X 1 192 [some (.ref 1), some (.int (nI 3))] [.ref 51, .ref 51, .ref 1] (50, 1124) h130 := v_n d1_191 rfl
theorem s554 {X : pm_X} : pm_V X 7 0 [some (.ref 51)] [] (0, 0) h130 = pm_V X 7 1 [some (.ref 51)] [.ref 51] (0, 0) h130 := v_n d7_0 rfl
theorem s555 {X : pm_X} : pm_V X 7 1 [some (.ref 51)] [.ref 51] (0, 0) h130 = pm_V X 7 4 [some (.ref 51)] [] (0, 0) h130 := k_obj d7_1 rfl (by decide +kernel)
theorem s556 {X : pm_X} : pm_V X 7 4 [some (.ref 51)] [] (0, 0) h130 = pm_V X 7 5 [some (.ref 51)] [.ref 51] (0, 0) h130 := v_n d7_4 rfl
theorem s557 {X : pm_X} : pm_V X 7 5 [some (.ref 51)] [.ref 51] (0, 0) h130 = pm_V X 7 6 [some (.ref 51)] [.int (nI 0), .ref 51] (0, 0) h130 := v_iconst d7_5 (by decide)
def h131 : pm_H := pm_set h130 51 (.inr (0, [.int (nI 0), .null, .null]))
theorem n131 : h131.1 = 51 := n130
set_option maxRecDepth 8000 in
theorem s558 {X : pm_X} : pm_V X 7 6 [some (.ref 51)] [.int (nI 0), .ref 51] (0, 0) h130 = pm_V X 7 9 [some (.ref 51)] [] (0, 0) h131 := k_put d7_6 rfl (show pm_get h130 51 = some (.inr (0, [.int 0, .null, .null])) from rfl) (by decide) rfl (by decide +kernel)
theorem s559 {X : pm_X} : pm_V X 7 9 [some (.ref 51)] [] (0, 0) h131 = pm_V X 7 10 [some (.ref 51)] [.ref 51] (0, 0) h131 := v_n d7_9 rfl
theorem s560 {X : pm_X} : pm_V X 7 10 [some (.ref 51)] [.ref 51] (0, 0) h131 = pm_V X 7 12 [some (.ref 51)] [.int (nI 8), .ref 51] (0, 0) h131 := v_bipush d7_10 (by decide)
def h132 : pm_H := pm_new h131 (.inl (.int, 8, .inl (fun _ => 0)))
theorem n132 : h132.1 = 52 := (show h131.1 + 1 = 52 by rw [n131])
theorem s561 {X : pm_X} : pm_V X 7 12 [some (.ref 51)] [.int (nI 8), .ref 51] (0, 0) h131 = pm_V X 7 14 [some (.ref 51)] [.ref 52, .ref 51] (1, 8) h132 := k_narr n131 d7_12 (by omega) (by decide) rfl (by decide +kernel)
def h133 : pm_H := pm_set h132 51 (.inr (0, [.int (nI 0), .ref 52, .null]))
theorem n133 : h133.1 = 52 := n132
set_option maxRecDepth 8000 in
theorem s562 {X : pm_X} : pm_V X 7 14 [some (.ref 51)] [.ref 52, .ref 51] (1, 8) h132 = pm_V X 7 17 [some (.ref 51)] [] (1, 8) h133 := k_put d7_14 rfl (show pm_get h132 51 = some (.inr (0, [.int (nI 0), .null, .null])) from rfl) (by decide) rfl (by decide +kernel)
theorem s563 {X : pm_X} : pm_V X 7 17 [some (.ref 51)] [] (1, 8) h133 = pm_V X 7 18 [some (.ref 51)] [.ref 51] (1, 8) h133 := v_n d7_17 rfl
theorem s564 {X : pm_X} : pm_V X 7 18 [some (.ref 51)] [.ref 51] (1, 8) h133 = pm_V X 7 20 [some (.ref 51)] [.int (nI 8), .ref 51] (1, 8) h133 := v_bipush d7_18 (by decide)
def h134 : pm_H := pm_new h133 (.inl (.int, 8, .inl (fun _ => 0)))
theorem n134 : h134.1 = 53 := (show h133.1 + 1 = 53 by rw [n133])
theorem s565 {X : pm_X} : pm_V X 7 20 [some (.ref 51)] [.int (nI 8), .ref 51] (1, 8) h133 = pm_V X 7 22 [some (.ref 51)] [.ref 53, .ref 51] (2, 16) h134 := k_narr n133 d7_20 (by omega) (by decide) rfl (by decide +kernel)
def h135 : pm_H := pm_set h134 51 (.inr (0, [.int (nI 0), .ref 52, .ref 53]))
theorem n135 : h135.1 = 53 := n134
set_option maxRecDepth 8000 in
theorem s566 {X : pm_X} : pm_V X 7 22 [some (.ref 51)] [.ref 53, .ref 51] (2, 16) h134 = pm_V X 7 25 [some (.ref 51)] [] (2, 16) h135 := k_put d7_22 rfl (show pm_get h134 51 = some (.inr (0, [.int (nI 0), .ref 52, .null])) from rfl) (by decide) rfl (by decide +kernel)
theorem s567 {X : pm_X} : pm_V X 7 25 [some (.ref 51)] [] (2, 16) h135 = some (none, h135) := k_ret d7_25 rfl (by decide +kernel)
theorem m23 {X : pm_X} : pm_V0 X 7 [.ref 51] h130 = some (none, h135) := by
  show pm_V X 7 0 [some (.ref 51)] [] (0, 0) h130 = _
  rw [s554, s555, s556, s557, s558, s559, s560, s561, s562, s563, s564, s565, s566, s567]
theorem s568 {X : pm_X} : pm_V X 1 192 [some (.ref 1), some (.int (nI 3))] [.ref 51, .ref 51, .ref 1] (50, 1124) h130 = pm_V X 1 195 [some (.ref 1), some (.int (nI 3))] [.ref 51, .ref 1] (52, 1140) h135 := (k_call d1_192 rfl rfl (by decide +kernel)).trans (by rw [m23]; rfl)
def h136 : pm_H := pm_set h135 1 (.inr (10, [.ref 2, .ref 15, .ref 24, .ref 33, .ref 42, .ref 44, .ref 51, .null, .null, .null, .null, .null, .null, .null, .null, .int 0, .int 0, .long 0, .long 0]))
theorem n136 : h136.1 = 53 := n135
set_option maxRecDepth 8000 in
theorem s569 {X : pm_X} : pm_V X 1 195 [some (.ref 1), some (.int (nI 3))] [.ref 51, .ref 1] (52, 1140) h135 = pm_V X 1 198 [some (.ref 1), some (.int (nI 3))] [] (52, 1140) h136 := k_put d1_195 rfl (show pm_get h135 1 = some (.inr (10, [.ref 2, .ref 15, .ref 24, .ref 33, .ref 42, .ref 44, .null, .null, .null, .null, .null, .null, .null, .null, .null, .int 0, .int 0, .long 0, .long 0])) from rfl) (by decide) rfl (by decide +kernel)
theorem s570 {X : pm_X} : pm_V X 1 198 [some (.ref 1), some (.int (nI 3))] [] (52, 1140) h136 = pm_V X 1 199 [some (.ref 1), some (.int (nI 3))] [.ref 1] (52, 1140) h136 := v_n d1_198 rfl
def h137 : pm_H := pm_new h136 (.inr (0, [.int 0, .null, .null]))
theorem n137 : h137.1 = 54 := (show h136.1 + 1 = 54 by rw [n136])
theorem s571 {X : pm_X} : pm_V X 1 199 [some (.ref 1), some (.int (nI 3))] [.ref 1] (52, 1140) h136 = pm_V X 1 202 [some (.ref 1), some (.int (nI 3))] [.ref 54, .ref 1] (53, 1143) h137 := k_new n136 d1_199 rfl rfl df_0 (by decide +kernel)
theorem s572 {X : pm_X} : pm_V X 1 202 [some (.ref 1), some (.int (nI 3))] [.ref 54, .ref 1] (53, 1143) h137 = pm_V X 1 203 [some (.ref 1), some (.int (nI 3))] [.ref 54, .ref 54, .ref 1] (53, 1143) h137 := v_n d1_202 rfl
theorem s573 {X : pm_X} : pm_V X 7 0 [some (.ref 54)] [] (0, 0) h137 = pm_V X 7 1 [some (.ref 54)] [.ref 54] (0, 0) h137 := v_n d7_0 rfl
theorem s574 {X : pm_X} : pm_V X 7 1 [some (.ref 54)] [.ref 54] (0, 0) h137 = pm_V X 7 4 [some (.ref 54)] [] (0, 0) h137 := k_obj d7_1 rfl (by decide +kernel)
theorem s575 {X : pm_X} : pm_V X 7 4 [some (.ref 54)] [] (0, 0) h137 = pm_V X 7 5 [some (.ref 54)] [.ref 54] (0, 0) h137 := v_n d7_4 rfl
theorem s576 {X : pm_X} : pm_V X 7 5 [some (.ref 54)] [.ref 54] (0, 0) h137 = pm_V X 7 6 [some (.ref 54)] [.int (nI 0), .ref 54] (0, 0) h137 := v_iconst d7_5 (by decide)
def h138 : pm_H := pm_set h137 54 (.inr (0, [.int (nI 0), .null, .null]))
theorem n138 : h138.1 = 54 := n137
set_option maxRecDepth 8000 in
theorem s577 {X : pm_X} : pm_V X 7 6 [some (.ref 54)] [.int (nI 0), .ref 54] (0, 0) h137 = pm_V X 7 9 [some (.ref 54)] [] (0, 0) h138 := k_put d7_6 rfl (show pm_get h137 54 = some (.inr (0, [.int 0, .null, .null])) from rfl) (by decide) rfl (by decide +kernel)
theorem s578 {X : pm_X} : pm_V X 7 9 [some (.ref 54)] [] (0, 0) h138 = pm_V X 7 10 [some (.ref 54)] [.ref 54] (0, 0) h138 := v_n d7_9 rfl
theorem s579 {X : pm_X} : pm_V X 7 10 [some (.ref 54)] [.ref 54] (0, 0) h138 = pm_V X 7 12 [some (.ref 54)] [.int (nI 8), .ref 54] (0, 0) h138 := v_bipush d7_10 (by decide)
def h139 : pm_H := pm_new h138 (.inl (.int, 8, .inl (fun _ => 0)))
theorem n139 : h139.1 = 55 := (show h138.1 + 1 = 55 by rw [n138])
theorem s580 {X : pm_X} : pm_V X 7 12 [some (.ref 54)] [.int (nI 8), .ref 54] (0, 0) h138 = pm_V X 7 14 [some (.ref 54)] [.ref 55, .ref 54] (1, 8) h139 := k_narr n138 d7_12 (by omega) (by decide) rfl (by decide +kernel)
def h140 : pm_H := pm_set h139 54 (.inr (0, [.int (nI 0), .ref 55, .null]))
theorem n140 : h140.1 = 55 := n139
set_option maxRecDepth 8000 in
theorem s581 {X : pm_X} : pm_V X 7 14 [some (.ref 54)] [.ref 55, .ref 54] (1, 8) h139 = pm_V X 7 17 [some (.ref 54)] [] (1, 8) h140 := k_put d7_14 rfl (show pm_get h139 54 = some (.inr (0, [.int (nI 0), .null, .null])) from rfl) (by decide) rfl (by decide +kernel)
theorem s582 {X : pm_X} : pm_V X 7 17 [some (.ref 54)] [] (1, 8) h140 = pm_V X 7 18 [some (.ref 54)] [.ref 54] (1, 8) h140 := v_n d7_17 rfl
theorem s583 {X : pm_X} : pm_V X 7 18 [some (.ref 54)] [.ref 54] (1, 8) h140 = pm_V X 7 20 [some (.ref 54)] [.int (nI 8), .ref 54] (1, 8) h140 := v_bipush d7_18 (by decide)
def h141 : pm_H := pm_new h140 (.inl (.int, 8, .inl (fun _ => 0)))
theorem n141 : h141.1 = 56 := (show h140.1 + 1 = 56 by rw [n140])
theorem s584 {X : pm_X} : pm_V X 7 20 [some (.ref 54)] [.int (nI 8), .ref 54] (1, 8) h140 = pm_V X 7 22 [some (.ref 54)] [.ref 56, .ref 54] (2, 16) h141 := k_narr n140 d7_20 (by omega) (by decide) rfl (by decide +kernel)
def h142 : pm_H := pm_set h141 54 (.inr (0, [.int (nI 0), .ref 55, .ref 56]))
theorem n142 : h142.1 = 56 := n141
set_option maxRecDepth 8000 in
theorem s585 {X : pm_X} : pm_V X 7 22 [some (.ref 54)] [.ref 56, .ref 54] (2, 16) h141 = pm_V X 7 25 [some (.ref 54)] [] (2, 16) h142 := k_put d7_22 rfl (show pm_get h141 54 = some (.inr (0, [.int (nI 0), .ref 55, .null])) from rfl) (by decide) rfl (by decide +kernel)
theorem s586 {X : pm_X} : pm_V X 7 25 [some (.ref 54)] [] (2, 16) h142 = some (none, h142) := k_ret d7_25 rfl (by decide +kernel)
theorem m24 {X : pm_X} : pm_V0 X 7 [.ref 54] h137 = some (none, h142) := by
  show pm_V X 7 0 [some (.ref 54)] [] (0, 0) h137 = _
  rw [s573, s574, s575, s576, s577, s578, s579, s580, s581, s582, s583, s584, s585, s586]
theorem s587 {X : pm_X} : pm_V X 1 203 [some (.ref 1), some (.int (nI 3))] [.ref 54, .ref 54, .ref 1] (53, 1143) h137 = pm_V X 1 206 [some (.ref 1), some (.int (nI 3))] [.ref 54, .ref 1] (55, 1159) h142 := (k_call d1_203 rfl rfl (by decide +kernel)).trans (by rw [m24]; rfl)
def h143 : pm_H := pm_set h142 1 (.inr (10, [.ref 2, .ref 15, .ref 24, .ref 33, .ref 42, .ref 44, .ref 51, .ref 54, .null, .null, .null, .null, .null, .null, .null, .int 0, .int 0, .long 0, .long 0]))
theorem n143 : h143.1 = 56 := n142
set_option maxRecDepth 8000 in
theorem s588 {X : pm_X} : pm_V X 1 206 [some (.ref 1), some (.int (nI 3))] [.ref 54, .ref 1] (55, 1159) h142 = pm_V X 1 209 [some (.ref 1), some (.int (nI 3))] [] (55, 1159) h143 := k_put d1_206 rfl (show pm_get h142 1 = some (.inr (10, [.ref 2, .ref 15, .ref 24, .ref 33, .ref 42, .ref 44, .ref 51, .null, .null, .null, .null, .null, .null, .null, .null, .int 0, .int 0, .long 0, .long 0])) from rfl) (by decide) rfl (by decide +kernel)
theorem s589 {X : pm_X} : pm_V X 1 209 [some (.ref 1), some (.int (nI 3))] [] (55, 1159) h143 = pm_V X 1 210 [some (.ref 1), some (.int (nI 3))] [.ref 1] (55, 1159) h143 := v_n d1_209 rfl
def h144 : pm_H := pm_new h143 (.inr (3, [.null, .null, .null, .int 0, .int 0]))
theorem n144 : h144.1 = 57 := (show h143.1 + 1 = 57 by rw [n143])
theorem s590 {X : pm_X} : pm_V X 1 210 [some (.ref 1), some (.int (nI 3))] [.ref 1] (55, 1159) h143 = pm_V X 1 213 [some (.ref 1), some (.int (nI 3))] [.ref 57, .ref 1] (56, 1164) h144 := k_new n143 d1_210 rfl rfl df_3 (by decide +kernel)
theorem s591 {X : pm_X} : pm_V X 1 213 [some (.ref 1), some (.int (nI 3))] [.ref 57, .ref 1] (56, 1164) h144 = pm_V X 1 214 [some (.ref 1), some (.int (nI 3))] [.ref 57, .ref 57, .ref 1] (56, 1164) h144 := v_n d1_213 rfl
theorem s592 {X : pm_X} : pm_V X 8 0 [some (.ref 57)] [] (0, 0) h144 = pm_V X 8 1 [some (.ref 57)] [.ref 57] (0, 0) h144 := v_n d8_0 rfl
theorem s593 {X : pm_X} : pm_V X 8 1 [some (.ref 57)] [.ref 57] (0, 0) h144 = pm_V X 8 4 [some (.ref 57)] [] (0, 0) h144 := k_obj d8_1 rfl (by decide +kernel)
theorem s594 {X : pm_X} : pm_V X 8 4 [some (.ref 57)] [] (0, 0) h144 = pm_V X 8 5 [some (.ref 57)] [.ref 57] (0, 0) h144 := v_n d8_4 rfl
def h145 : pm_H := pm_new h144 (.inr (6, [.int 0, .null]))
theorem n145 : h145.1 = 58 := (show h144.1 + 1 = 58 by rw [n144])
theorem s595 {X : pm_X} : pm_V X 8 5 [some (.ref 57)] [.ref 57] (0, 0) h144 = pm_V X 8 8 [some (.ref 57)] [.ref 58, .ref 57] (1, 2) h145 := k_new n144 d8_5 rfl rfl df_6 (by decide +kernel)
theorem s596 {X : pm_X} : pm_V X 8 8 [some (.ref 57)] [.ref 58, .ref 57] (1, 2) h145 = pm_V X 8 9 [some (.ref 57)] [.ref 58, .ref 58, .ref 57] (1, 2) h145 := v_n d8_8 rfl
theorem s597 {X : pm_X} : pm_V X 4 0 [some (.ref 58)] [] (0, 0) h145 = pm_V X 4 1 [some (.ref 58)] [.ref 58] (0, 0) h145 := v_n d4_0 rfl
theorem s598 {X : pm_X} : pm_V X 4 1 [some (.ref 58)] [.ref 58] (0, 0) h145 = pm_V X 4 4 [some (.ref 58)] [] (0, 0) h145 := k_obj d4_1 rfl (by decide +kernel)
theorem s599 {X : pm_X} : pm_V X 4 4 [some (.ref 58)] [] (0, 0) h145 = pm_V X 4 5 [some (.ref 58)] [.ref 58] (0, 0) h145 := v_n d4_4 rfl
theorem s600 {X : pm_X} : pm_V X 4 5 [some (.ref 58)] [.ref 58] (0, 0) h145 = pm_V X 4 6 [some (.ref 58)] [.int (-1), .ref 58] (0, 0) h145 := v_iconst d4_5 (by decide)
def h146 : pm_H := pm_set h145 58 (.inr (6, [.int (-1), .null]))
theorem n146 : h146.1 = 58 := n145
set_option maxRecDepth 8000 in
theorem s601 {X : pm_X} : pm_V X 4 6 [some (.ref 58)] [.int (-1), .ref 58] (0, 0) h145 = pm_V X 4 9 [some (.ref 58)] [] (0, 0) h146 := k_put d4_6 rfl (show pm_get h145 58 = some (.inr (6, [.int 0, .null])) from rfl) (by decide) rfl (by decide +kernel)
theorem s602 {X : pm_X} : pm_V X 4 9 [some (.ref 58)] [] (0, 0) h146 = pm_V X 4 10 [some (.ref 58)] [.ref 58] (0, 0) h146 := v_n d4_9 rfl
theorem s603 {X : pm_X} : pm_V X 4 10 [some (.ref 58)] [.ref 58] (0, 0) h146 = pm_V X 4 11 [some (.ref 58)] [.int (nI 4), .ref 58] (0, 0) h146 := v_iconst d4_10 (by decide)
def h147 : pm_H := pm_new h146 (.inl (.int, 4, .inl (fun _ => 0)))
theorem n147 : h147.1 = 59 := (show h146.1 + 1 = 59 by rw [n146])
theorem s604 {X : pm_X} : pm_V X 4 11 [some (.ref 58)] [.int (nI 4), .ref 58] (0, 0) h146 = pm_V X 4 13 [some (.ref 58)] [.ref 59, .ref 58] (1, 4) h147 := k_narr n146 d4_11 (by omega) (by decide) rfl (by decide +kernel)
def h148 : pm_H := pm_set h147 58 (.inr (6, [.int (-1), .ref 59]))
theorem n148 : h148.1 = 59 := n147
set_option maxRecDepth 8000 in
theorem s605 {X : pm_X} : pm_V X 4 13 [some (.ref 58)] [.ref 59, .ref 58] (1, 4) h147 = pm_V X 4 16 [some (.ref 58)] [] (1, 4) h148 := k_put d4_13 rfl (show pm_get h147 58 = some (.inr (6, [.int (-1), .null])) from rfl) (by decide) rfl (by decide +kernel)
theorem s606 {X : pm_X} : pm_V X 4 16 [some (.ref 58)] [] (1, 4) h148 = some (none, h148) := k_ret d4_16 rfl (by decide +kernel)
theorem m25 {X : pm_X} : pm_V0 X 4 [.ref 58] h145 = some (none, h148) := by
  show pm_V X 4 0 [some (.ref 58)] [] (0, 0) h145 = _
  rw [s597, s598, s599, s600, s601, s602, s603, s604, s605, s606]
theorem s607 {X : pm_X} : pm_V X 8 9 [some (.ref 57)] [.ref 58, .ref 58, .ref 57] (1, 2) h145 = pm_V X 8 12 [some (.ref 57)] [.ref 58, .ref 57] (2, 6) h148 := (k_call d8_9 rfl rfl (by decide +kernel)).trans (by rw [m25]; rfl)
def h149 : pm_H := pm_set h148 57 (.inr (3, [.ref 58, .null, .null, .int 0, .int 0]))
theorem n149 : h149.1 = 59 := n148
set_option maxRecDepth 8000 in
theorem s608 {X : pm_X} : pm_V X 8 12 [some (.ref 57)] [.ref 58, .ref 57] (2, 6) h148 = pm_V X 8 15 [some (.ref 57)] [] (2, 6) h149 := k_put d8_12 rfl (show pm_get h148 57 = some (.inr (3, [.null, .null, .null, .int 0, .int 0])) from rfl) (by decide) rfl (by decide +kernel)
theorem s609 {X : pm_X} : pm_V X 8 15 [some (.ref 57)] [] (2, 6) h149 = pm_V X 8 16 [some (.ref 57)] [.ref 57] (2, 6) h149 := v_n d8_15 rfl
def h150 : pm_H := pm_new h149 (.inr (2, [.int 0, .null]))
theorem n150 : h150.1 = 60 := (show h149.1 + 1 = 60 by rw [n149])
theorem s610 {X : pm_X} : pm_V X 8 16 [some (.ref 57)] [.ref 57] (2, 6) h149 = pm_V X 8 19 [some (.ref 57)] [.ref 60, .ref 57] (3, 8) h150 := k_new n149 d8_16 rfl rfl df_2 (by decide +kernel)
theorem s611 {X : pm_X} : pm_V X 8 19 [some (.ref 57)] [.ref 60, .ref 57] (3, 8) h150 = pm_V X 8 20 [some (.ref 57)] [.ref 60, .ref 60, .ref 57] (3, 8) h150 := v_n d8_19 rfl
theorem s612 {X : pm_X} : pm_V X 5 0 [some (.ref 60)] [] (0, 0) h150 = pm_V X 5 1 [some (.ref 60)] [.ref 60] (0, 0) h150 := v_n d5_0 rfl
theorem s613 {X : pm_X} : pm_V X 5 1 [some (.ref 60)] [.ref 60] (0, 0) h150 = pm_V X 5 4 [some (.ref 60)] [] (0, 0) h150 := k_obj d5_1 rfl (by decide +kernel)
theorem s614 {X : pm_X} : pm_V X 5 4 [some (.ref 60)] [] (0, 0) h150 = pm_V X 5 5 [some (.ref 60)] [.ref 60] (0, 0) h150 := v_n d5_4 rfl
theorem s615 {X : pm_X} : pm_V X 5 5 [some (.ref 60)] [.ref 60] (0, 0) h150 = pm_V X 5 6 [some (.ref 60)] [.int (nI 0), .ref 60] (0, 0) h150 := v_iconst d5_5 (by decide)
def h151 : pm_H := pm_set h150 60 (.inr (2, [.int (nI 0), .null]))
theorem n151 : h151.1 = 60 := n150
set_option maxRecDepth 8000 in
theorem s616 {X : pm_X} : pm_V X 5 6 [some (.ref 60)] [.int (nI 0), .ref 60] (0, 0) h150 = pm_V X 5 9 [some (.ref 60)] [] (0, 0) h151 := k_put d5_6 rfl (show pm_get h150 60 = some (.inr (2, [.int 0, .null])) from rfl) (by decide) rfl (by decide +kernel)
theorem s617 {X : pm_X} : pm_V X 5 9 [some (.ref 60)] [] (0, 0) h151 = pm_V X 5 10 [some (.ref 60)] [.ref 60] (0, 0) h151 := v_n d5_9 rfl
theorem s618 {X : pm_X} : pm_V X 5 10 [some (.ref 60)] [.ref 60] (0, 0) h151 = pm_V X 5 12 [some (.ref 60)] [.int (nI 24), .ref 60] (0, 0) h151 := v_bipush d5_10 (by decide)
def h152 : pm_H := pm_new h151 (.inl (.int, 24, .inl (fun _ => 0)))
theorem n152 : h152.1 = 61 := (show h151.1 + 1 = 61 by rw [n151])
theorem s619 {X : pm_X} : pm_V X 5 12 [some (.ref 60)] [.int (nI 24), .ref 60] (0, 0) h151 = pm_V X 5 14 [some (.ref 60)] [.ref 61, .ref 60] (1, 24) h152 := k_narr n151 d5_12 (by omega) (by decide) rfl (by decide +kernel)
def h153 : pm_H := pm_set h152 60 (.inr (2, [.int (nI 0), .ref 61]))
theorem n153 : h153.1 = 61 := n152
set_option maxRecDepth 8000 in
theorem s620 {X : pm_X} : pm_V X 5 14 [some (.ref 60)] [.ref 61, .ref 60] (1, 24) h152 = pm_V X 5 17 [some (.ref 60)] [] (1, 24) h153 := k_put d5_14 rfl (show pm_get h152 60 = some (.inr (2, [.int (nI 0), .null])) from rfl) (by decide) rfl (by decide +kernel)
theorem s621 {X : pm_X} : pm_V X 5 17 [some (.ref 60)] [] (1, 24) h153 = some (none, h153) := k_ret d5_17 rfl (by decide +kernel)
theorem m26 {X : pm_X} : pm_V0 X 5 [.ref 60] h150 = some (none, h153) := by
  show pm_V X 5 0 [some (.ref 60)] [] (0, 0) h150 = _
  rw [s612, s613, s614, s615, s616, s617, s618, s619, s620, s621]
theorem s622 {X : pm_X} : pm_V X 8 20 [some (.ref 57)] [.ref 60, .ref 60, .ref 57] (3, 8) h150 = pm_V X 8 23 [some (.ref 57)] [.ref 60, .ref 57] (4, 32) h153 := (k_call d8_20 rfl rfl (by decide +kernel)).trans (by rw [m26]; rfl)
def h154 : pm_H := pm_set h153 57 (.inr (3, [.ref 58, .ref 60, .null, .int 0, .int 0]))
theorem n154 : h154.1 = 61 := n153
set_option maxRecDepth 8000 in
theorem s623 {X : pm_X} : pm_V X 8 23 [some (.ref 57)] [.ref 60, .ref 57] (4, 32) h153 = pm_V X 8 26 [some (.ref 57)] [] (4, 32) h154 := k_put d8_23 rfl (show pm_get h153 57 = some (.inr (3, [.ref 58, .null, .null, .int 0, .int 0])) from rfl) (by decide) rfl (by decide +kernel)
theorem s624 {X : pm_X} : pm_V X 8 26 [some (.ref 57)] [] (4, 32) h154 = pm_V X 8 27 [some (.ref 57)] [.ref 57] (4, 32) h154 := v_n d8_26 rfl
theorem s625 {X : pm_X} : pm_V X 8 27 [some (.ref 57)] [.ref 57] (4, 32) h154 = pm_V X 8 28 [some (.ref 57)] [.null, .ref 57] (4, 32) h154 := v_n d8_27 rfl
def h155 : pm_H := pm_set h154 57 (.inr (3, [.ref 58, .ref 60, .null, .int 0, .int 0]))
theorem n155 : h155.1 = 61 := n154
set_option maxRecDepth 8000 in
theorem s626 {X : pm_X} : pm_V X 8 28 [some (.ref 57)] [.null, .ref 57] (4, 32) h154 = pm_V X 8 31 [some (.ref 57)] [] (4, 32) h155 := k_put d8_28 rfl (show pm_get h154 57 = some (.inr (3, [.ref 58, .ref 60, .null, .int 0, .int 0])) from rfl) (by decide) rfl (by decide +kernel)
theorem s627 {X : pm_X} : pm_V X 8 31 [some (.ref 57)] [] (4, 32) h155 = pm_V X 8 32 [some (.ref 57)] [.ref 57] (4, 32) h155 := v_n d8_31 rfl
theorem s628 {X : pm_X} : pm_V X 8 32 [some (.ref 57)] [.ref 57] (4, 32) h155 = pm_V X 8 33 [some (.ref 57)] [.int (nI 0), .ref 57] (4, 32) h155 := v_iconst d8_32 (by decide)
def h156 : pm_H := pm_set h155 57 (.inr (3, [.ref 58, .ref 60, .null, .int (nI 0), .int 0]))
theorem n156 : h156.1 = 61 := n155
set_option maxRecDepth 8000 in
theorem s629 {X : pm_X} : pm_V X 8 33 [some (.ref 57)] [.int (nI 0), .ref 57] (4, 32) h155 = pm_V X 8 36 [some (.ref 57)] [] (4, 32) h156 := k_put d8_33 rfl (show pm_get h155 57 = some (.inr (3, [.ref 58, .ref 60, .null, .int 0, .int 0])) from rfl) (by decide) rfl (by decide +kernel)
theorem s630 {X : pm_X} : pm_V X 8 36 [some (.ref 57)] [] (4, 32) h156 = pm_V X 8 37 [some (.ref 57)] [.ref 57] (4, 32) h156 := v_n d8_36 rfl
theorem s631 {X : pm_X} : pm_V X 8 37 [some (.ref 57)] [.ref 57] (4, 32) h156 = pm_V X 8 38 [some (.ref 57)] [.int (nI 0), .ref 57] (4, 32) h156 := v_iconst d8_37 (by decide)
def h157 : pm_H := pm_set h156 57 (.inr (3, [.ref 58, .ref 60, .null, .int (nI 0), .int (nI 0)]))
theorem n157 : h157.1 = 61 := n156
set_option maxRecDepth 8000 in
theorem s632 {X : pm_X} : pm_V X 8 38 [some (.ref 57)] [.int (nI 0), .ref 57] (4, 32) h156 = pm_V X 8 41 [some (.ref 57)] [] (4, 32) h157 := k_put d8_38 rfl (show pm_get h156 57 = some (.inr (3, [.ref 58, .ref 60, .null, .int (nI 0), .int 0])) from rfl) (by decide) rfl (by decide +kernel)
theorem s633 {X : pm_X} : pm_V X 8 41 [some (.ref 57)] [] (4, 32) h157 = some (none, h157) := k_ret d8_41 rfl (by decide +kernel)
theorem m27 {X : pm_X} : pm_V0 X 8 [.ref 57] h144 = some (none, h157) := by
  show pm_V X 8 0 [some (.ref 57)] [] (0, 0) h144 = _
  rw [s592, s593, s594, s595, s596, s607, s608, s609, s610, s611, s622, s623, s624, s625, s626, s627, s628, s629, s630, s631, s632, s633]
theorem s634 {X : pm_X} : pm_V X 1 214 [some (.ref 1), some (.int (nI 3))] [.ref 57, .ref 57, .ref 1] (56, 1164) h144 = pm_V X 1 217 [some (.ref 1), some (.int (nI 3))] [.ref 57, .ref 1] (60, 1196) h157 := (k_call d1_214 rfl rfl (by decide +kernel)).trans (by rw [m27]; rfl)
def h158 : pm_H := pm_set h157 1 (.inr (10, [.ref 2, .ref 15, .ref 24, .ref 33, .ref 42, .ref 44, .ref 51, .ref 54, .ref 57, .null, .null, .null, .null, .null, .null, .int 0, .int 0, .long 0, .long 0]))
theorem n158 : h158.1 = 61 := n157
set_option maxRecDepth 8000 in
theorem s635 {X : pm_X} : pm_V X 1 217 [some (.ref 1), some (.int (nI 3))] [.ref 57, .ref 1] (60, 1196) h157 = pm_V X 1 220 [some (.ref 1), some (.int (nI 3))] [] (60, 1196) h158 := k_put d1_217 rfl (show pm_get h157 1 = some (.inr (10, [.ref 2, .ref 15, .ref 24, .ref 33, .ref 42, .ref 44, .ref 51, .ref 54, .null, .null, .null, .null, .null, .null, .null, .int 0, .int 0, .long 0, .long 0])) from rfl) (by decide) rfl (by decide +kernel)
theorem s636 {X : pm_X} : pm_V X 1 220 [some (.ref 1), some (.int (nI 3))] [] (60, 1196) h158 = pm_V X 1 221 [some (.ref 1), some (.int (nI 3))] [.ref 1] (60, 1196) h158 := v_n d1_220 rfl
def h159 : pm_H := pm_new h158 (.inr (8, [.int 0, .int 0, .null, .null, .null]))
theorem n159 : h159.1 = 62 := (show h158.1 + 1 = 62 by rw [n158])
theorem s637 {X : pm_X} : pm_V X 1 221 [some (.ref 1), some (.int (nI 3))] [.ref 1] (60, 1196) h158 = pm_V X 1 224 [some (.ref 1), some (.int (nI 3))] [.ref 62, .ref 1] (61, 1201) h159 := k_new n158 d1_221 rfl rfl df_8 (by decide +kernel)
theorem s638 {X : pm_X} : pm_V X 1 224 [some (.ref 1), some (.int (nI 3))] [.ref 62, .ref 1] (61, 1201) h159 = pm_V X 1 225 [some (.ref 1), some (.int (nI 3))] [.ref 62, .ref 62, .ref 1] (61, 1201) h159 := v_n d1_224 rfl
theorem s639 {X : pm_X} : pm_V X 9 0 [some (.ref 62)] [] (0, 0) h159 = pm_V X 9 1 [some (.ref 62)] [.ref 62] (0, 0) h159 := v_n d9_0 rfl
theorem s640 {X : pm_X} : pm_V X 9 1 [some (.ref 62)] [.ref 62] (0, 0) h159 = pm_V X 9 4 [some (.ref 62)] [] (0, 0) h159 := k_obj d9_1 rfl (by decide +kernel)
theorem s641 {X : pm_X} : pm_V X 9 4 [some (.ref 62)] [] (0, 0) h159 = pm_V X 9 5 [some (.ref 62)] [.ref 62] (0, 0) h159 := v_n d9_4 rfl
theorem s642 {X : pm_X} : pm_V X 9 5 [some (.ref 62)] [.ref 62] (0, 0) h159 = pm_V X 9 6 [some (.ref 62)] [.int (nI 0), .ref 62] (0, 0) h159 := v_iconst d9_5 (by decide)
def h160 : pm_H := pm_set h159 62 (.inr (8, [.int (nI 0), .int 0, .null, .null, .null]))
theorem n160 : h160.1 = 62 := n159
set_option maxRecDepth 8000 in
theorem s643 {X : pm_X} : pm_V X 9 6 [some (.ref 62)] [.int (nI 0), .ref 62] (0, 0) h159 = pm_V X 9 9 [some (.ref 62)] [] (0, 0) h160 := k_put d9_6 rfl (show pm_get h159 62 = some (.inr (8, [.int 0, .int 0, .null, .null, .null])) from rfl) (by decide) rfl (by decide +kernel)
theorem s644 {X : pm_X} : pm_V X 9 9 [some (.ref 62)] [] (0, 0) h160 = pm_V X 9 10 [some (.ref 62)] [.ref 62] (0, 0) h160 := v_n d9_9 rfl
theorem s645 {X : pm_X} : pm_V X 9 10 [some (.ref 62)] [.ref 62] (0, 0) h160 = pm_V X 9 12 [some (.ref 62)] [.int (-9), .ref 62] (0, 0) h160 := v_bipush d9_10 (by decide)
def h161 : pm_H := pm_set h160 62 (.inr (8, [.int (nI 0), .int (-9), .null, .null, .null]))
theorem n161 : h161.1 = 62 := n160
set_option maxRecDepth 8000 in
theorem s646 {X : pm_X} : pm_V X 9 12 [some (.ref 62)] [.int (-9), .ref 62] (0, 0) h160 = pm_V X 9 15 [some (.ref 62)] [] (0, 0) h161 := k_put d9_12 rfl (show pm_get h160 62 = some (.inr (8, [.int (nI 0), .int 0, .null, .null, .null])) from rfl) (by decide) rfl (by decide +kernel)
theorem s647 {X : pm_X} : pm_V X 9 15 [some (.ref 62)] [] (0, 0) h161 = pm_V X 9 16 [some (.ref 62)] [.ref 62] (0, 0) h161 := v_n d9_15 rfl
theorem s648 {X : pm_X} : pm_V X 9 16 [some (.ref 62)] [.ref 62] (0, 0) h161 = pm_V X 9 18 [some (.ref 62)] [.int (nI 96), .ref 62] (0, 0) h161 := v_bipush d9_16 (by decide)
def h162 : pm_H := pm_new h161 (.inl (.int, 96, .inl (fun _ => 0)))
theorem n162 : h162.1 = 63 := (show h161.1 + 1 = 63 by rw [n161])
theorem s649 {X : pm_X} : pm_V X 9 18 [some (.ref 62)] [.int (nI 96), .ref 62] (0, 0) h161 = pm_V X 9 20 [some (.ref 62)] [.ref 63, .ref 62] (1, 96) h162 := k_narr n161 d9_18 (by omega) (by decide) rfl (by decide +kernel)
def h163 : pm_H := pm_set h162 62 (.inr (8, [.int (nI 0), .int (-9), .ref 63, .null, .null]))
theorem n163 : h163.1 = 63 := n162
set_option maxRecDepth 8000 in
theorem s650 {X : pm_X} : pm_V X 9 20 [some (.ref 62)] [.ref 63, .ref 62] (1, 96) h162 = pm_V X 9 23 [some (.ref 62)] [] (1, 96) h163 := k_put d9_20 rfl (show pm_get h162 62 = some (.inr (8, [.int (nI 0), .int (-9), .null, .null, .null])) from rfl) (by decide) rfl (by decide +kernel)
theorem s651 {X : pm_X} : pm_V X 9 23 [some (.ref 62)] [] (1, 96) h163 = pm_V X 9 24 [some (.ref 62)] [.ref 62] (1, 96) h163 := v_n d9_23 rfl
theorem s652 {X : pm_X} : pm_V X 9 24 [some (.ref 62)] [.ref 62] (1, 96) h163 = pm_V X 9 26 [some (.ref 62)] [.int (nI 24), .ref 62] (1, 96) h163 := v_bipush d9_24 (by decide)
def h164 : pm_H := pm_new h163 (.inl (.int, 24, .inl (fun _ => 0)))
theorem n164 : h164.1 = 64 := (show h163.1 + 1 = 64 by rw [n163])
theorem s653 {X : pm_X} : pm_V X 9 26 [some (.ref 62)] [.int (nI 24), .ref 62] (1, 96) h163 = pm_V X 9 28 [some (.ref 62)] [.ref 64, .ref 62] (2, 120) h164 := k_narr n163 d9_26 (by omega) (by decide) rfl (by decide +kernel)
def h165 : pm_H := pm_set h164 62 (.inr (8, [.int (nI 0), .int (-9), .ref 63, .ref 64, .null]))
theorem n165 : h165.1 = 64 := n164
set_option maxRecDepth 8000 in
theorem s654 {X : pm_X} : pm_V X 9 28 [some (.ref 62)] [.ref 64, .ref 62] (2, 120) h164 = pm_V X 9 31 [some (.ref 62)] [] (2, 120) h165 := k_put d9_28 rfl (show pm_get h164 62 = some (.inr (8, [.int (nI 0), .int (-9), .ref 63, .null, .null])) from rfl) (by decide) rfl (by decide +kernel)
theorem s655 {X : pm_X} : pm_V X 9 31 [some (.ref 62)] [] (2, 120) h165 = pm_V X 9 32 [some (.ref 62)] [.ref 62] (2, 120) h165 := v_n d9_31 rfl
def h166 : pm_H := pm_new h165 (.inr (6, [.int 0, .null]))
theorem n166 : h166.1 = 65 := (show h165.1 + 1 = 65 by rw [n165])
theorem s656 {X : pm_X} : pm_V X 9 32 [some (.ref 62)] [.ref 62] (2, 120) h165 = pm_V X 9 35 [some (.ref 62)] [.ref 65, .ref 62] (3, 122) h166 := k_new n165 d9_32 rfl rfl df_6 (by decide +kernel)
theorem s657 {X : pm_X} : pm_V X 9 35 [some (.ref 62)] [.ref 65, .ref 62] (3, 122) h166 = pm_V X 9 36 [some (.ref 62)] [.ref 65, .ref 65, .ref 62] (3, 122) h166 := v_n d9_35 rfl
theorem s658 {X : pm_X} : pm_V X 4 0 [some (.ref 65)] [] (0, 0) h166 = pm_V X 4 1 [some (.ref 65)] [.ref 65] (0, 0) h166 := v_n d4_0 rfl
theorem s659 {X : pm_X} : pm_V X 4 1 [some (.ref 65)] [.ref 65] (0, 0) h166 = pm_V X 4 4 [some (.ref 65)] [] (0, 0) h166 := k_obj d4_1 rfl (by decide +kernel)
theorem s660 {X : pm_X} : pm_V X 4 4 [some (.ref 65)] [] (0, 0) h166 = pm_V X 4 5 [some (.ref 65)] [.ref 65] (0, 0) h166 := v_n d4_4 rfl
