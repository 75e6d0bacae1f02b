def h0 : pm_H := pm_H0
theorem n0 : h0.1 = 0 := rfl
def h1 : pm_H := pm_new h0 (.inr (10, [.null, .null, .null, .null, .null, .null, .null, .null, .null, .null, .null, .null, .null, .null, .null, .int 0, .int 0, .long 0, .long 0]))
theorem n1 : h1.1 = 1 := (show h0.1 + 1 = 1 by rw [n0])
theorem s1 {X : pm_X} : pm_V X 0 0 [some (.ref 0), none, none, none] [] (0, 0) h0 = pm_V X 0 3 [some (.ref 0), none, none, none] [.ref 1] (1, 19) h1 := k_new n0 d0_0 rfl rfl df_10 (by decide +kernel)
theorem s2 {X : pm_X} : pm_V X 0 3 [some (.ref 0), none, none, none] [.ref 1] (1, 19) h1 = pm_V X 0 4 [some (.ref 0), none, none, none] [.ref 1, .ref 1] (1, 19) h1 := v_n d0_3 rfl
theorem s3 {X : pm_X} : pm_V X 1 0 [some (.ref 1), none] [] (0, 0) h1 = pm_V X 1 1 [some (.ref 1), none] [.ref 1] (0, 0) h1 := v_n d1_0 rfl
theorem s4 {X : pm_X} : pm_V X 1 1 [some (.ref 1), none] [.ref 1] (0, 0) h1 = pm_V X 1 4 [some (.ref 1), none] [] (0, 0) h1 := k_obj d1_1 rfl (by decide +kernel)
theorem s5 {X : pm_X} : pm_V X 1 4 [some (.ref 1), none] [] (0, 0) h1 = pm_V X 1 5 [some (.ref 1), none] [.ref 1] (0, 0) h1 := v_n d1_4 rfl
theorem s6 {X : pm_X} : pm_V X 1 5 [some (.ref 1), none] [.ref 1] (0, 0) h1 = pm_V X 1 7 [some (.ref 1), none] [.int (nI 6), .ref 1] (0, 0) h1 := v_bipush d1_5 (by decide)
def h2 : pm_H := pm_new h1 (.inl (.object RX5, 6, .inr (fun _ => none)))
theorem n2 : h2.1 = 2 := (show h1.1 + 1 = 2 by rw [n1])
theorem s7 {X : pm_X} : pm_V X 1 7 [some (.ref 1), none] [.int (nI 6), .ref 1] (0, 0) h1 = pm_V X 1 10 [some (.ref 1), none] [.ref 2, .ref 1] (1, 6) h2 := k_anew n1 d1_7 rfl (by omega) (by decide) rfl (by decide +kernel)
def h3 : pm_H := pm_set h2 1 (.inr (10, [.ref 2, .null, .null, .null, .null, .null, .null, .null, .null, .null, .null, .null, .null, .null, .null, .int 0, .int 0, .long 0, .long 0]))
theorem n3 : h3.1 = 2 := n2
theorem s8 {X : pm_X} : pm_V X 1 10 [some (.ref 1), none] [.ref 2, .ref 1] (1, 6) h2 = pm_V X 1 13 [some (.ref 1), none] [] (1, 6) h3 := k_put d1_10 rfl (show pm_get h2 1 = some (.inr (10, [.null, .null, .null, .null, .null, .null, .null, .null, .null, .null, .null, .null, .null, .null, .null, .int 0, .int 0, .long 0, .long 0])) from rfl) (by decide) rfl (by decide +kernel)
theorem s9 {X : pm_X} : pm_V X 1 13 [some (.ref 1), none] [] (1, 6) h3 = pm_V X 1 14 [some (.ref 1), none] [.int (nI 0)] (1, 6) h3 := v_iconst d1_13 (by decide)
theorem s10 {X : pm_X} : pm_V X 1 14 [some (.ref 1), none] [.int (nI 0)] (1, 6) h3 = pm_V X 1 15 [some (.ref 1), some (.int (nI 0))] [] (1, 6) h3 := v_istore_n d1_14 (by decide +kernel) rfl
theorem s11 {X : pm_X} : pm_V X 1 15 [some (.ref 1), some (.int (nI 0))] [] (1, 6) h3 = pm_V X 1 16 [some (.ref 1), some (.int (nI 0))] [.int (nI 0)] (1, 6) h3 := v_n d1_15 rfl
theorem s12 {X : pm_X} : pm_V X 1 16 [some (.ref 1), some (.int (nI 0))] [.int (nI 0)] (1, 6) h3 = pm_V X 1 18 [some (.ref 1), some (.int (nI 0))] [.int (nI 6), .int (nI 0)] (1, 6) h3 := v_bipush d1_16 (by decide)
theorem s13 {X : pm_X} : pm_V X 1 18 [some (.ref 1), some (.int (nI 0))] [.int (nI 6), .int (nI 0)] (1, 6) h3 = pm_V X 1 21 [some (.ref 1), some (.int (nI 0))] [] (1, 6) h3 := (v_ic_ge d1_18 rfl).trans (if_neg (nI_ge (by omega) (by omega)))
theorem s14 {X : pm_X} : pm_V X 1 21 [some (.ref 1), some (.int (nI 0))] [] (1, 6) h3 = pm_V X 1 22 [some (.ref 1), some (.int (nI 0))] [.ref 1] (1, 6) h3 := v_n d1_21 rfl
theorem s15 {X : pm_X} : pm_V X 1 22 [some (.ref 1), some (.int (nI 0))] [.ref 1] (1, 6) h3 = pm_V X 1 25 [some (.ref 1), some (.int (nI 0))] [.ref 2] (1, 6) h3 := k_get d1_22 rfl (show pm_get h3 1 = some (.inr (10, [.ref 2, .null, .null, .null, .null, .null, .null, .null, .null, .null, .null, .null, .null, .null, .null, .int 0, .int 0, .long 0, .long 0])) from rfl) rfl rfl
theorem s16 {X : pm_X} : pm_V X 1 25 [some (.ref 1), some (.int (nI 0))] [.ref 2] (1, 6) h3 = pm_V X 1 26 [some (.ref 1), some (.int (nI 0))] [.int (nI 0), .ref 2] (1, 6) h3 := v_n d1_25 rfl
def h4 : pm_H := pm_new h3 (.inr (5, [.int 0, .null]))
theorem n4 : h4.1 = 3 := (show h3.1 + 1 = 3 by rw [n3])
theorem s17 {X : pm_X} : pm_V X 1 26 [some (.ref 1), some (.int (nI 0))] [.int (nI 0), .ref 2] (1, 6) h3 = pm_V X 1 29 [some (.ref 1), some (.int (nI 0))] [.ref 3, .int (nI 0), .ref 2] (2, 8) h4 := k_new n3 d1_26 rfl rfl df_5 (by decide +kernel)
theorem s18 {X : pm_X} : pm_V X 1 29 [some (.ref 1), some (.int (nI 0))] [.ref 3, .int (nI 0), .ref 2] (2, 8) h4 = pm_V X 1 30 [some (.ref 1), some (.int (nI 0))] [.ref 3, .ref 3, .int (nI 0), .ref 2] (2, 8) h4 := v_n d1_29 rfl
theorem s19 {X : pm_X} : pm_V X 2 0 [some (.ref 3)] [] (0, 0) h4 = pm_V X 2 1 [some (.ref 3)] [.ref 3] (0, 0) h4 := v_n d2_0 rfl
theorem s20 {X : pm_X} : pm_V X 2 1 [some (.ref 3)] [.ref 3] (0, 0) h4 = pm_V X 2 4 [some (.ref 3)] [] (0, 0) h4 := k_obj d2_1 rfl (by decide +kernel)
theorem s21 {X : pm_X} : pm_V X 2 4 [some (.ref 3)] [] (0, 0) h4 = pm_V X 2 5 [some (.ref 3)] [.ref 3] (0, 0) h4 := v_n d2_4 rfl
theorem s22 {X : pm_X} : pm_V X 2 5 [some (.ref 3)] [.ref 3] (0, 0) h4 = pm_V X 2 6 [some (.ref 3)] [.int (-1), .ref 3] (0, 0) h4 := v_iconst d2_5 (by decide)
def h5 : pm_H := pm_set h4 3 (.inr (5, [.int (-1), .null]))
theorem n5 : h5.1 = 3 := n4
theorem s23 {X : pm_X} : pm_V X 2 6 [some (.ref 3)] [.int (-1), .ref 3] (0, 0) h4 = pm_V X 2 9 [some (.ref 3)] [] (0, 0) h5 := k_put d2_6 rfl (show pm_get h4 3 = some (.inr (5, [.int 0, .null])) from rfl) (by decide) rfl (by decide +kernel)
theorem s24 {X : pm_X} : pm_V X 2 9 [some (.ref 3)] [] (0, 0) h5 = pm_V X 2 10 [some (.ref 3)] [.ref 3] (0, 0) h5 := v_n d2_9 rfl
theorem s25 {X : pm_X} : pm_V X 2 10 [some (.ref 3)] [.ref 3] (0, 0) h5 = pm_V X 2 12 [some (.ref 3)] [.int (nI 60), .ref 3] (0, 0) h5 := v_bipush d2_10 (by decide)
def h6 : pm_H := pm_new h5 (.inl (.int, 60, .inl (fun _ => 0)))
theorem n6 : h6.1 = 4 := (show h5.1 + 1 = 4 by rw [n5])
theorem s26 {X : pm_X} : pm_V X 2 12 [some (.ref 3)] [.int (nI 60), .ref 3] (0, 0) h5 = pm_V X 2 14 [some (.ref 3)] [.ref 4, .ref 3] (1, 60) h6 := k_narr n5 d2_12 (by omega) (by decide) rfl (by decide +kernel)
def h7 : pm_H := pm_set h6 3 (.inr (5, [.int (-1), .ref 4]))
theorem n7 : h7.1 = 4 := n6
theorem s27 {X : pm_X} : pm_V X 2 14 [some (.ref 3)] [.ref 4, .ref 3] (1, 60) h6 = pm_V X 2 17 [some (.ref 3)] [] (1, 60) h7 := k_put d2_14 rfl (show pm_get h6 3 = some (.inr (5, [.int (-1), .null])) from rfl) (by decide) rfl (by decide +kernel)
theorem s28 {X : pm_X} : pm_V X 2 17 [some (.ref 3)] [] (1, 60) h7 = some (none, h7) := k_ret d2_17 rfl (by decide +kernel)
theorem m1 {X : pm_X} : pm_V0 X 2 [.ref 3] h4 = some (none, h7) := by
  show pm_V X 2 0 [some (.ref 3)] [] (0, 0) h4 = _
  rw [s19, s20, s21, s22, s23, s24, s25, s26, s27, s28]
theorem s29 {X : pm_X} : pm_V X 1 30 [some (.ref 1), some (.int (nI 0))] [.ref 3, .ref 3, .int (nI 0), .ref 2] (2, 8) h4 = pm_V X 1 33 [some (.ref 1), some (.int (nI 0))] [.ref 3, .int (nI 0), .ref 2] (3, 68) h7 := (k_call d1_30 rfl rfl (by decide +kernel)).trans (by rw [m1]; rfl)
def h8 : pm_H := pm_set h7 2 (.inl (.object RX5, 6, .inr (va_up (fun _ => none) 0 (some 3))))
theorem n8 : h8.1 = 4 := n7
theorem s30 {X : pm_X} : pm_V X 1 33 [some (.ref 1), some (.int (nI 0))] [.ref 3, .int (nI 0), .ref 2] (3, 68) h7 = pm_V X 1 34 [some (.ref 1), some (.int (nI 0))] [] (3, 68) h8 := k_aast d1_33 (show pm_get h7 2 = some (.inl (.object RX5, 6, .inr (fun _ => none))) from rfl) (show pm_get h7 3 = some (.inr (5, [.int (-1), .ref 4])) from rfl) rfl (by decide) (by omega) (by omega)
theorem s31 {X : pm_X} : pm_V X 1 34 [some (.ref 1), some (.int (nI 0))] [] (3, 68) h8 = pm_V X 1 37 [some (.ref 1), some (.int (nI 1))] [] (3, 68) h8 := v_iinc (v := nI 1) d1_34 (by decide) (by decide +kernel) rfl (by rw [show nI 0 + nI 1 = nI 1 from by decide]; rfl)
theorem s32 {X : pm_X} : pm_V X 1 37 [some (.ref 1), some (.int (nI 1))] [] (3, 68) h8 = pm_V X 1 15 [some (.ref 1), some (.int (nI 1))] [] (3, 68) h8 := v_goto d1_37 rfl
theorem s33 {X : pm_X} : pm_V X 1 15 [some (.ref 1), some (.int (nI 1))] [] (3, 68) h8 = pm_V X 1 16 [some (.ref 1), some (.int (nI 1))] [.int (nI 1)] (3, 68) h8 := v_n d1_15 rfl
theorem s34 {X : pm_X} : pm_V X 1 16 [some (.ref 1), some (.int (nI 1))] [.int (nI 1)] (3, 68) h8 = pm_V X 1 18 [some (.ref 1), some (.int (nI 1))] [.int (nI 6), .int (nI 1)] (3, 68) h8 := v_bipush d1_16 (by decide)
theorem s35 {X : pm_X} : pm_V X 1 18 [some (.ref 1), some (.int (nI 1))] [.int (nI 6), .int (nI 1)] (3, 68) h8 = pm_V X 1 21 [some (.ref 1), some (.int (nI 1))] [] (3, 68) h8 := (v_ic_ge d1_18 rfl).trans (if_neg (nI_ge (by omega) (by omega)))
theorem s36 {X : pm_X} : pm_V X 1 21 [some (.ref 1), some (.int (nI 1))] [] (3, 68) h8 = pm_V X 1 22 [some (.ref 1), some (.int (nI 1))] [.ref 1] (3, 68) h8 := v_n d1_21 rfl
theorem s37 {X : pm_X} : pm_V X 1 22 [some (.ref 1), some (.int (nI 1))] [.ref 1] (3, 68) h8 = pm_V X 1 25 [some (.ref 1), some (.int (nI 1))] [.ref 2] (3, 68) h8 := k_get d1_22 rfl (show pm_get h8 1 = some (.inr (10, [.ref 2, .null, .null, .null, .null, .null, .null, .null, .null, .null, .null, .null, .null, .null, .null, .int 0, .int 0, .long 0, .long 0])) from rfl) rfl rfl
theorem s38 {X : pm_X} : pm_V X 1 25 [some (.ref 1), some (.int (nI 1))] [.ref 2] (3, 68) h8 = pm_V X 1 26 [some (.ref 1), some (.int (nI 1))] [.int (nI 1), .ref 2] (3, 68) h8 := v_n d1_25 rfl
def h9 : pm_H := pm_new h8 (.inr (5, [.int 0, .null]))
theorem n9 : h9.1 = 5 := (show h8.1 + 1 = 5 by rw [n8])
theorem s39 {X : pm_X} : pm_V X 1 26 [some (.ref 1), some (.int (nI 1))] [.int (nI 1), .ref 2] (3, 68) h8 = pm_V X 1 29 [some (.ref 1), some (.int (nI 1))] [.ref 5, .int (nI 1), .ref 2] (4, 70) h9 := k_new n8 d1_26 rfl rfl df_5 (by decide +kernel)
theorem s40 {X : pm_X} : pm_V X 1 29 [some (.ref 1), some (.int (nI 1))] [.ref 5, .int (nI 1), .ref 2] (4, 70) h9 = pm_V X 1 30 [some (.ref 1), some (.int (nI 1))] [.ref 5, .ref 5, .int (nI 1), .ref 2] (4, 70) h9 := v_n d1_29 rfl
theorem s41 {X : pm_X} : pm_V X 2 0 [some (.ref 5)] [] (0, 0) h9 = pm_V X 2 1 [some (.ref 5)] [.ref 5] (0, 0) h9 := v_n d2_0 rfl
theorem s42 {X : pm_X} : pm_V X 2 1 [some (.ref 5)] [.ref 5] (0, 0) h9 = pm_V X 2 4 [some (.ref 5)] [] (0, 0) h9 := k_obj d2_1 rfl (by decide +kernel)
theorem s43 {X : pm_X} : pm_V X 2 4 [some (.ref 5)] [] (0, 0) h9 = pm_V X 2 5 [some (.ref 5)] [.ref 5] (0, 0) h9 := v_n d2_4 rfl
theorem s44 {X : pm_X} : pm_V X 2 5 [some (.ref 5)] [.ref 5] (0, 0) h9 = pm_V X 2 6 [some (.ref 5)] [.int (-1), .ref 5] (0, 0) h9 := v_iconst d2_5 (by decide)
def h10 : pm_H := pm_set h9 5 (.inr (5, [.int (-1), .null]))
theorem n10 : h10.1 = 5 := n9
theorem s45 {X : pm_X} : pm_V X 2 6 [some (.ref 5)] [.int (-1), .ref 5] (0, 0) h9 = pm_V X 2 9 [some (.ref 5)] [] (0, 0) h10 := k_put d2_6 rfl (show pm_get h9 5 = some (.inr (5, [.int 0, .null])) from rfl) (by decide) rfl (by decide +kernel)
theorem s46 {X : pm_X} : pm_V X 2 9 [some (.ref 5)] [] (0, 0) h10 = pm_V X 2 10 [some (.ref 5)] [.ref 5] (0, 0) h10 := v_n d2_9 rfl
theorem s47 {X : pm_X} : pm_V X 2 10 [some (.ref 5)] [.ref 5] (0, 0) h10 = pm_V X 2 12 [some (.ref 5)] [.int (nI 60), .ref 5] (0, 0) h10 := v_bipush d2_10 (by decide)
def h11 : pm_H := pm_new h10 (.inl (.int, 60, .inl (fun _ => 0)))
theorem n11 : h11.1 = 6 := (show h10.1 + 1 = 6 by rw [n10])
theorem s48 {X : pm_X} : pm_V X 2 12 [some (.ref 5)] [.int (nI 60), .ref 5] (0, 0) h10 = pm_V X 2 14 [some (.ref 5)] [.ref 6, .ref 5] (1, 60) h11 := k_narr n10 d2_12 (by omega) (by decide) rfl (by decide +kernel)
def h12 : pm_H := pm_set h11 5 (.inr (5, [.int (-1), .ref 6]))
theorem n12 : h12.1 = 6 := n11
theorem s49 {X : pm_X} : pm_V X 2 14 [some (.ref 5)] [.ref 6, .ref 5] (1, 60) h11 = pm_V X 2 17 [some (.ref 5)] [] (1, 60) h12 := k_put d2_14 rfl (show pm_get h11 5 = some (.inr (5, [.int (-1), .null])) from rfl) (by decide) rfl (by decide +kernel)
theorem s50 {X : pm_X} : pm_V X 2 17 [some (.ref 5)] [] (1, 60) h12 = some (none, h12) := k_ret d2_17 rfl (by decide +kernel)
theorem m2 {X : pm_X} : pm_V0 X 2 [.ref 5] h9 = some (none, h12) := by
  show pm_V X 2 0 [some (.ref 5)] [] (0, 0) h9 = _
  rw [s41, s42, s43, s44, s45, s46, s47, s48, s49, s50]
theorem s51 {X : pm_X} : pm_V X 1 30 [some (.ref 1), some (.int (nI 1))] [.ref 5, .ref 5, .int (nI 1), .ref 2] (4, 70) h9 = pm_V X 1 33 [some (.ref 1), some (.int (nI 1))] [.ref 5, .int (nI 1), .ref 2] (5, 130) h12 := (k_call d1_30 rfl rfl (by decide +kernel)).trans (by rw [m2]; rfl)
def h13 : pm_H := pm_set h12 2 (.inl (.object RX5, 6, .inr (va_up (va_up (fun _ => none) 0 (some 3)) 1 (some 5))))
theorem n13 : h13.1 = 6 := n12
theorem s52 {X : pm_X} : pm_V X 1 33 [some (.ref 1), some (.int (nI 1))] [.ref 5, .int (nI 1), .ref 2] (5, 130) h12 = pm_V X 1 34 [some (.ref 1), some (.int (nI 1))] [] (5, 130) h13 := k_aast d1_33 (show pm_get h12 2 = some (.inl (.object RX5, 6, .inr (va_up (fun _ => none) 0 (some 3)))) from rfl) (show pm_get h12 5 = some (.inr (5, [.int (-1), .ref 6])) from rfl) rfl (by decide) (by omega) (by omega)
theorem s53 {X : pm_X} : pm_V X 1 34 [some (.ref 1), some (.int (nI 1))] [] (5, 130) h13 = pm_V X 1 37 [some (.ref 1), some (.int (nI 2))] [] (5, 130) h13 := v_iinc (v := nI 1) d1_34 (by decide) (by decide +kernel) rfl (by rw [show nI 1 + nI 1 = nI 2 from by decide]; rfl)
theorem s54 {X : pm_X} : pm_V X 1 37 [some (.ref 1), some (.int (nI 2))] [] (5, 130) h13 = pm_V X 1 15 [some (.ref 1), some (.int (nI 2))] [] (5, 130) h13 := v_goto d1_37 rfl
theorem s55 {X : pm_X} : pm_V X 1 15 [some (.ref 1), some (.int (nI 2))] [] (5, 130) h13 = pm_V X 1 16 [some (.ref 1), some (.int (nI 2))] [.int (nI 2)] (5, 130) h13 := v_n d1_15 rfl
theorem s56 {X : pm_X} : pm_V X 1 16 [some (.ref 1), some (.int (nI 2))] [.int (nI 2)] (5, 130) h13 = pm_V X 1 18 [some (.ref 1), some (.int (nI 2))] [.int (nI 6), .int (nI 2)] (5, 130) h13 := v_bipush d1_16 (by decide)
theorem s57 {X : pm_X} : pm_V X 1 18 [some (.ref 1), some (.int (nI 2))] [.int (nI 6), .int (nI 2)] (5, 130) h13 = pm_V X 1 21 [some (.ref 1), some (.int (nI 2))] [] (5, 130) h13 := (v_ic_ge d1_18 rfl).trans (if_neg (nI_ge (by omega) (by omega)))
theorem s58 {X : pm_X} : pm_V X 1 21 [some (.ref 1), some (.int (nI 2))] [] (5, 130) h13 = pm_V X 1 22 [some (.ref 1), some (.int (nI 2))] [.ref 1] (5, 130) h13 := v_n d1_21 rfl
theorem s59 {X : pm_X} : pm_V X 1 22 [some (.ref 1), some (.int (nI 2))] [.ref 1] (5, 130) h13 = pm_V X 1 25 [some (.ref 1), some (.int (nI 2))] [.ref 2] (5, 130) h13 := k_get d1_22 rfl (show pm_get h13 1 = some (.inr (10, [.ref 2, .null, .null, .null, .null, .null, .null, .null, .null, .null, .null, .null, .null, .null, .null, .int 0, .int 0, .long 0, .long 0])) from rfl) rfl rfl
theorem s60 {X : pm_X} : pm_V X 1 25 [some (.ref 1), some (.int (nI 2))] [.ref 2] (5, 130) h13 = pm_V X 1 26 [some (.ref 1), some (.int (nI 2))] [.int (nI 2), .ref 2] (5, 130) h13 := v_n d1_25 rfl
def h14 : pm_H := pm_new h13 (.inr (5, [.int 0, .null]))
theorem n14 : h14.1 = 7 := (show h13.1 + 1 = 7 by rw [n13])
theorem s61 {X : pm_X} : pm_V X 1 26 [some (.ref 1), some (.int (nI 2))] [.int (nI 2), .ref 2] (5, 130) h13 = pm_V X 1 29 [some (.ref 1), some (.int (nI 2))] [.ref 7, .int (nI 2), .ref 2] (6, 132) h14 := k_new n13 d1_26 rfl rfl df_5 (by decide +kernel)
theorem s62 {X : pm_X} : pm_V X 1 29 [some (.ref 1), some (.int (nI 2))] [.ref 7, .int (nI 2), .ref 2] (6, 132) h14 = pm_V X 1 30 [some (.ref 1), some (.int (nI 2))] [.ref 7, .ref 7, .int (nI 2), .ref 2] (6, 132) h14 := v_n d1_29 rfl
theorem s63 {X : pm_X} : pm_V X 2 0 [some (.ref 7)] [] (0, 0) h14 = pm_V X 2 1 [some (.ref 7)] [.ref 7] (0, 0) h14 := v_n d2_0 rfl
theorem s64 {X : pm_X} : pm_V X 2 1 [some (.ref 7)] [.ref 7] (0, 0) h14 = pm_V X 2 4 [some (.ref 7)] [] (0, 0) h14 := k_obj d2_1 rfl (by decide +kernel)
theorem s65 {X : pm_X} : pm_V X 2 4 [some (.ref 7)] [] (0, 0) h14 = pm_V X 2 5 [some (.ref 7)] [.ref 7] (0, 0) h14 := v_n d2_4 rfl
theorem s66 {X : pm_X} : pm_V X 2 5 [some (.ref 7)] [.ref 7] (0, 0) h14 = pm_V X 2 6 [some (.ref 7)] [.int (-1), .ref 7] (0, 0) h14 := v_iconst d2_5 (by decide)
def h15 : pm_H := pm_set h14 7 (.inr (5, [.int (-1), .null]))
theorem n15 : h15.1 = 7 := n14
theorem s67 {X : pm_X} : pm_V X 2 6 [some (.ref 7)] [.int (-1), .ref 7] (0, 0) h14 = pm_V X 2 9 [some (.ref 7)] [] (0, 0) h15 := k_put d2_6 rfl (show pm_get h14 7 = some (.inr (5, [.int 0, .null])) from rfl) (by decide) rfl (by decide +kernel)
theorem s68 {X : pm_X} : pm_V X 2 9 [some (.ref 7)] [] (0, 0) h15 = pm_V X 2 10 [some (.ref 7)] [.ref 7] (0, 0) h15 := v_n d2_9 rfl
theorem s69 {X : pm_X} : pm_V X 2 10 [some (.ref 7)] [.ref 7] (0, 0) h15 = pm_V X 2 12 [some (.ref 7)] [.int (nI 60), .ref 7] (0, 0) h15 := v_bipush d2_10 (by decide)
def h16 : pm_H := pm_new h15 (.inl (.int, 60, .inl (fun _ => 0)))
theorem n16 : h16.1 = 8 := (show h15.1 + 1 = 8 by rw [n15])
theorem s70 {X : pm_X} : pm_V X 2 12 [some (.ref 7)] [.int (nI 60), .ref 7] (0, 0) h15 = pm_V X 2 14 [some (.ref 7)] [.ref 8, .ref 7] (1, 60) h16 := k_narr n15 d2_12 (by omega) (by decide) rfl (by decide +kernel)
def h17 : pm_H := pm_set h16 7 (.inr (5, [.int (-1), .ref 8]))
theorem n17 : h17.1 = 8 := n16
theorem s71 {X : pm_X} : pm_V X 2 14 [some (.ref 7)] [.ref 8, .ref 7] (1, 60) h16 = pm_V X 2 17 [some (.ref 7)] [] (1, 60) h17 := k_put d2_14 rfl (show pm_get h16 7 = some (.inr (5, [.int (-1), .null])) from rfl) (by decide) rfl (by decide +kernel)
theorem s72 {X : pm_X} : pm_V X 2 17 [some (.ref 7)] [] (1, 60) h17 = some (none, h17) := k_ret d2_17 rfl (by decide +kernel)
theorem m3 {X : pm_X} : pm_V0 X 2 [.ref 7] h14 = some (none, h17) := by
  show pm_V X 2 0 [some (.ref 7)] [] (0, 0) h14 = _
  rw [s63, s64, s65, s66, s67, s68, s69, s70, s71, s72]
theorem s73 {X : pm_X} : pm_V X 1 30 [some (.ref 1), some (.int (nI 2))] [.ref 7, .ref 7, .int (nI 2), .ref 2] (6, 132) h14 = pm_V X 1 33 [some (.ref 1), some (.int (nI 2))] [.ref 7, .int (nI 2), .ref 2] (7, 192) h17 := (k_call d1_30 rfl rfl (by decide +kernel)).trans (by rw [m3]; rfl)
def h18 : pm_H := pm_set h17 2 (.inl (.object RX5, 6, .inr (va_up (va_up (va_up (fun _ => none) 0 (some 3)) 1 (some 5)) 2 (some 7))))
theorem n18 : h18.1 = 8 := n17
theorem s74 {X : pm_X} : pm_V X 1 33 [some (.ref 1), some (.int (nI 2))] [.ref 7, .int (nI 2), .ref 2] (7, 192) h17 = pm_V X 1 34 [some (.ref 1), some (.int (nI 2))] [] (7, 192) h18 := k_aast d1_33 (show pm_get h17 2 = some (.inl (.object RX5, 6, .inr (va_up (va_up (fun _ => none) 0 (some 3)) 1 (some 5)))) from rfl) (show pm_get h17 7 = some (.inr (5, [.int (-1), .ref 8])) from rfl) rfl (by decide) (by omega) (by omega)
theorem s75 {X : pm_X} : pm_V X 1 34 [some (.ref 1), some (.int (nI 2))] [] (7, 192) h18 = pm_V X 1 37 [some (.ref 1), some (.int (nI 3))] [] (7, 192) h18 := v_iinc (v := nI 1) d1_34 (by decide) (by decide +kernel) rfl (by rw [show nI 2 + nI 1 = nI 3 from by decide]; rfl)
theorem s76 {X : pm_X} : pm_V X 1 37 [some (.ref 1), some (.int (nI 3))] [] (7, 192) h18 = pm_V X 1 15 [some (.ref 1), some (.int (nI 3))] [] (7, 192) h18 := v_goto d1_37 rfl
theorem s77 {X : pm_X} : pm_V X 1 15 [some (.ref 1), some (.int (nI 3))] [] (7, 192) h18 = pm_V X 1 16 [some (.ref 1), some (.int (nI 3))] [.int (nI 3)] (7, 192) h18 := v_n d1_15 rfl
theorem s78 {X : pm_X} : pm_V X 1 16 [some (.ref 1), some (.int (nI 3))] [.int (nI 3)] (7, 192) h18 = pm_V X 1 18 [some (.ref 1), some (.int (nI 3))] [.int (nI 6), .int (nI 3)] (7, 192) h18 := v_bipush d1_16 (by decide)
theorem s79 {X : pm_X} : pm_V X 1 18 [some (.ref 1), some (.int (nI 3))] [.int (nI 6), .int (nI 3)] (7, 192) h18 = pm_V X 1 21 [some (.ref 1), some (.int (nI 3))] [] (7, 192) h18 := (v_ic_ge d1_18 rfl).trans (if_neg (nI_ge (by omega) (by omega)))
theorem s80 {X : pm_X} : pm_V X 1 21 [some (.ref 1), some (.int (nI 3))] [] (7, 192) h18 = pm_V X 1 22 [some (.ref 1), some (.int (nI 3))] [.ref 1] (7, 192) h18 := v_n d1_21 rfl
theorem s81 {X : pm_X} : pm_V X 1 22 [some (.ref 1), some (.int (nI 3))] [.ref 1] (7, 192) h18 = pm_V X 1 25 [some (.ref 1), some (.int (nI 3))] [.ref 2] (7, 192) h18 := k_get d1_22 rfl (show pm_get h18 1 = some (.inr (10, [.ref 2, .null, .null, .null, .null, .null, .null, .null, .null, .null, .null, .null, .null, .null, .null, .int 0, .int 0, .long 0, .long 0])) from rfl) rfl rfl
theorem s82 {X : pm_X} : pm_V X 1 25 [some (.ref 1), some (.int (nI 3))] [.ref 2] (7, 192) h18 = pm_V X 1 26 [some (.ref 1), some (.int (nI 3))] [.int (nI 3), .ref 2] (7, 192) h18 := v_n d1_25 rfl
def h19 : pm_H := pm_new h18 (.inr (5, [.int 0, .null]))
theorem n19 : h19.1 = 9 := (show h18.1 + 1 = 9 by rw [n18])
theorem s83 {X : pm_X} : pm_V X 1 26 [some (.ref 1), some (.int (nI 3))] [.int (nI 3), .ref 2] (7, 192) h18 = pm_V X 1 29 [some (.ref 1), some (.int (nI 3))] [.ref 9, .int (nI 3), .ref 2] (8, 194) h19 := k_new n18 d1_26 rfl rfl df_5 (by decide +kernel)
theorem s84 {X : pm_X} : pm_V X 1 29 [some (.ref 1), some (.int (nI 3))] [.ref 9, .int (nI 3), .ref 2] (8, 194) h19 = pm_V X 1 30 [some (.ref 1), some (.int (nI 3))] [.ref 9, .ref 9, .int (nI 3), .ref 2] (8, 194) h19 := v_n d1_29 rfl
theorem s85 {X : pm_X} : pm_V X 2 0 [some (.ref 9)] [] (0, 0) h19 = pm_V X 2 1 [some (.ref 9)] [.ref 9] (0, 0) h19 := v_n d2_0 rfl
theorem s86 {X : pm_X} : pm_V X 2 1 [some (.ref 9)] [.ref 9] (0, 0) h19 = pm_V X 2 4 [some (.ref 9)] [] (0, 0) h19 := k_obj d2_1 rfl (by decide +kernel)
theorem s87 {X : pm_X} : pm_V X 2 4 [some (.ref 9)] [] (0, 0) h19 = pm_V X 2 5 [some (.ref 9)] [.ref 9] (0, 0) h19 := v_n d2_4 rfl
theorem s88 {X : pm_X} : pm_V X 2 5 [some (.ref 9)] [.ref 9] (0, 0) h19 = pm_V X 2 6 [some (.ref 9)] [.int (-1), .ref 9] (0, 0) h19 := v_iconst d2_5 (by decide)
def h20 : pm_H := pm_set h19 9 (.inr (5, [.int (-1), .null]))
theorem n20 : h20.1 = 9 := n19
theorem s89 {X : pm_X} : pm_V X 2 6 [some (.ref 9)] [.int (-1), .ref 9] (0, 0) h19 = pm_V X 2 9 [some (.ref 9)] [] (0, 0) h20 := k_put d2_6 rfl (show pm_get h19 9 = some (.inr (5, [.int 0, .null])) from rfl) (by decide) rfl (by decide +kernel)
theorem s90 {X : pm_X} : pm_V X 2 9 [some (.ref 9)] [] (0, 0) h20 = pm_V X 2 10 [some (.ref 9)] [.ref 9] (0, 0) h20 := v_n d2_9 rfl
theorem s91 {X : pm_X} : pm_V X 2 10 [some (.ref 9)] [.ref 9] (0, 0) h20 = pm_V X 2 12 [some (.ref 9)] [.int (nI 60), .ref 9] (0, 0) h20 := v_bipush d2_10 (by decide)
def h21 : pm_H := pm_new h20 (.inl (.int, 60, .inl (fun _ => 0)))
theorem n21 : h21.1 = 10 := (show h20.1 + 1 = 10 by rw [n20])
theorem s92 {X : pm_X} : pm_V X 2 12 [some (.ref 9)] [.int (nI 60), .ref 9] (0, 0) h20 = pm_V X 2 14 [some (.ref 9)] [.ref 10, .ref 9] (1, 60) h21 := k_narr n20 d2_12 (by omega) (by decide) rfl (by decide +kernel)
def h22 : pm_H := pm_set h21 9 (.inr (5, [.int (-1), .ref 10]))
theorem n22 : h22.1 = 10 := n21
theorem s93 {X : pm_X} : pm_V X 2 14 [some (.ref 9)] [.ref 10, .ref 9] (1, 60) h21 = pm_V X 2 17 [some (.ref 9)] [] (1, 60) h22 := k_put d2_14 rfl (show pm_get h21 9 = some (.inr (5, [.int (-1), .null])) from rfl) (by decide) rfl (by decide +kernel)
theorem s94 {X : pm_X} : pm_V X 2 17 [some (.ref 9)] [] (1, 60) h22 = some (none, h22) := k_ret d2_17 rfl (by decide +kernel)
theorem m4 {X : pm_X} : pm_V0 X 2 [.ref 9] h19 = some (none, h22) := by
  show pm_V X 2 0 [some (.ref 9)] [] (0, 0) h19 = _
  rw [s85, s86, s87, s88, s89, s90, s91, s92, s93, s94]
theorem s95 {X : pm_X} : pm_V X 1 30 [some (.ref 1), some (.int (nI 3))] [.ref 9, .ref 9, .int (nI 3), .ref 2] (8, 194) h19 = pm_V X 1 33 [some (.ref 1), some (.int (nI 3))] [.ref 9, .int (nI 3), .ref 2] (9, 254) h22 := (k_call d1_30 rfl rfl (by decide +kernel)).trans (by rw [m4]; rfl)
def h23 : pm_H := pm_set h22 2 (.inl (.object RX5, 6, .inr (va_up (va_up (va_up (va_up (fun _ => none) 0 (some 3)) 1 (some 5)) 2 (some 7)) 3 (some 9))))
theorem n23 : h23.1 = 10 := n22
theorem s96 {X : pm_X} : pm_V X 1 33 [some (.ref 1), some (.int (nI 3))] [.ref 9, .int (nI 3), .ref 2] (9, 254) h22 = pm_V X 1 34 [some (.ref 1), some (.int (nI 3))] [] (9, 254) h23 := k_aast d1_33 (show pm_get h22 2 = some (.inl (.object RX5, 6, .inr (va_up (va_up (va_up (fun _ => none) 0 (some 3)) 1 (some 5)) 2 (some 7)))) from rfl) (show pm_get h22 9 = some (.inr (5, [.int (-1), .ref 10])) from rfl) rfl (by decide) (by omega) (by omega)
theorem s97 {X : pm_X} : pm_V X 1 34 [some (.ref 1), some (.int (nI 3))] [] (9, 254) h23 = pm_V X 1 37 [some (.ref 1), some (.int (nI 4))] [] (9, 254) h23 := v_iinc (v := nI 1) d1_34 (by decide) (by decide +kernel) rfl (by rw [show nI 3 + nI 1 = nI 4 from by decide]; rfl)
theorem s98 {X : pm_X} : pm_V X 1 37 [some (.ref 1), some (.int (nI 4))] [] (9, 254) h23 = pm_V X 1 15 [some (.ref 1), some (.int (nI 4))] [] (9, 254) h23 := v_goto d1_37 rfl
theorem s99 {X : pm_X} : pm_V X 1 15 [some (.ref 1), some (.int (nI 4))] [] (9, 254) h23 = pm_V X 1 16 [some (.ref 1), some (.int (nI 4))] [.int (nI 4)] (9, 254) h23 := v_n d1_15 rfl
theorem s100 {X : pm_X} : pm_V X 1 16 [some (.ref 1), some (.int (nI 4))] [.int (nI 4)] (9, 254) h23 = pm_V X 1 18 [some (.ref 1), some (.int (nI 4))] [.int (nI 6), .int (nI 4)] (9, 254) h23 := v_bipush d1_16 (by decide)
theorem s101 {X : pm_X} : pm_V X 1 18 [some (.ref 1), some (.int (nI 4))] [.int (nI 6), .int (nI 4)] (9, 254) h23 = pm_V X 1 21 [some (.ref 1), some (.int (nI 4))] [] (9, 254) h23 := (v_ic_ge d1_18 rfl).trans (if_neg (nI_ge (by omega) (by omega)))
theorem s102 {X : pm_X} : pm_V X 1 21 [some (.ref 1), some (.int (nI 4))] [] (9, 254) h23 = pm_V X 1 22 [some (.ref 1), some (.int (nI 4))] [.ref 1] (9, 254) h23 := v_n d1_21 rfl
theorem s103 {X : pm_X} : pm_V X 1 22 [some (.ref 1), some (.int (nI 4))] [.ref 1] (9, 254) h23 = pm_V X 1 25 [some (.ref 1), some (.int (nI 4))] [.ref 2] (9, 254) h23 := k_get d1_22 rfl (show pm_get h23 1 = some (.inr (10, [.ref 2, .null, .null, .null, .null, .null, .null, .null, .null, .null, .null, .null, .null, .null, .null, .int 0, .int 0, .long 0, .long 0])) from rfl) rfl rfl
theorem s104 {X : pm_X} : pm_V X 1 25 [some (.ref 1), some (.int (nI 4))] [.ref 2] (9, 254) h23 = pm_V X 1 26 [some (.ref 1), some (.int (nI 4))] [.int (nI 4), .ref 2] (9, 254) h23 := v_n d1_25 rfl
def h24 : pm_H := pm_new h23 (.inr (5, [.int 0, .null]))
theorem n24 : h24.1 = 11 := (show h23.1 + 1 = 11 by rw [n23])
theorem s105 {X : pm_X} : pm_V X 1 26 [some (.ref 1), some (.int (nI 4))] [.int (nI 4), .ref 2] (9, 254) h23 = pm_V X 1 29 [some (.ref 1), some (.int (nI 4))] [.ref 11, .int (nI 4), .ref 2] (10, 256) h24 := k_new n23 d1_26 rfl rfl df_5 (by decide +kernel)
theorem s106 {X : pm_X} : pm_V X 1 29 [some (.ref 1), some (.int (nI 4))] [.ref 11, .int (nI 4), .ref 2] (10, 256) h24 = pm_V X 1 30 [some (.ref 1), some (.int (nI 4))] [.ref 11, .ref 11, .int (nI 4), .ref 2] (10, 256) h24 := v_n d1_29 rfl
theorem s107 {X : pm_X} : pm_V X 2 0 [some (.ref 11)] [] (0, 0) h24 = pm_V X 2 1 [some (.ref 11)] [.ref 11] (0, 0) h24 := v_n d2_0 rfl
theorem s108 {X : pm_X} : pm_V X 2 1 [some (.ref 11)] [.ref 11] (0, 0) h24 = pm_V X 2 4 [some (.ref 11)] [] (0, 0) h24 := k_obj d2_1 rfl (by decide +kernel)
theorem s109 {X : pm_X} : pm_V X 2 4 [some (.ref 11)] [] (0, 0) h24 = pm_V X 2 5 [some (.ref 11)] [.ref 11] (0, 0) h24 := v_n d2_4 rfl
theorem s110 {X : pm_X} : pm_V X 2 5 [some (.ref 11)] [.ref 11] (0, 0) h24 = pm_V X 2 6 [some (.ref 11)] [.int (-1), .ref 11] (0, 0) h24 := v_iconst d2_5 (by decide)
def h25 : pm_H := pm_set h24 11 (.inr (5, [.int (-1), .null]))
theorem n25 : h25.1 = 11 := n24
theorem s111 {X : pm_X} : pm_V X 2 6 [some (.ref 11)] [.int (-1), .ref 11] (0, 0) h24 = pm_V X 2 9 [some (.ref 11)] [] (0, 0) h25 := k_put d2_6 rfl (show pm_get h24 11 = some (.inr (5, [.int 0, .null])) from rfl) (by decide) rfl (by decide +kernel)
theorem s112 {X : pm_X} : pm_V X 2 9 [some (.ref 11)] [] (0, 0) h25 = pm_V X 2 10 [some (.ref 11)] [.ref 11] (0, 0) h25 := v_n d2_9 rfl
theorem s113 {X : pm_X} : pm_V X 2 10 [some (.ref 11)] [.ref 11] (0, 0) h25 = pm_V X 2 12 [some (.ref 11)] [.int (nI 60), .ref 11] (0, 0) h25 := v_bipush d2_10 (by decide)
def h26 : pm_H := pm_new h25 (.inl (.int, 60, .inl (fun _ => 0)))
theorem n26 : h26.1 = 12 := (show h25.1 + 1 = 12 by rw [n25])
theorem s114 {X : pm_X} : pm_V X 2 12 [some (.ref 11)] [.int (nI 60), .ref 11] (0, 0) h25 = pm_V X 2 14 [some (.ref 11)] [.ref 12, .ref 11] (1, 60) h26 := k_narr n25 d2_12 (by omega) (by decide) rfl (by decide +kernel)
def h27 : pm_H := pm_set h26 11 (.inr (5, [.int (-1), .ref 12]))
theorem n27 : h27.1 = 12 := n26
theorem s115 {X : pm_X} : pm_V X 2 14 [some (.ref 11)] [.ref 12, .ref 11] (1, 60) h26 = pm_V X 2 17 [some (.ref 11)] [] (1, 60) h27 := k_put d2_14 rfl (show pm_get h26 11 = some (.inr (5, [.int (-1), .null])) from rfl) (by decide) rfl (by decide +kernel)
theorem s116 {X : pm_X} : pm_V X 2 17 [some (.ref 11)] [] (1, 60) h27 = some (none, h27) := k_ret d2_17 rfl (by decide +kernel)
theorem m5 {X : pm_X} : pm_V0 X 2 [.ref 11] h24 = some (none, h27) := by
  show pm_V X 2 0 [some (.ref 11)] [] (0, 0) h24 = _
  rw [s107, s108, s109, s110, s111, s112, s113, s114, s115, s116]
theorem s117 {X : pm_X} : pm_V X 1 30 [some (.ref 1), some (.int (nI 4))] [.ref 11, .ref 11, .int (nI 4), .ref 2] (10, 256) h24 = pm_V X 1 33 [some (.ref 1), some (.int (nI 4))] [.ref 11, .int (nI 4), .ref 2] (11, 316) h27 := (k_call d1_30 rfl rfl (by decide +kernel)).trans (by rw [m5]; rfl)
def h28 : pm_H := pm_set h27 2 (.inl (.object RX5, 6, .inr (va_up (va_up (va_up (va_up (va_up (fun _ => none) 0 (some 3)) 1 (some 5)) 2 (some 7)) 3 (some 9)) 4 (some 11))))
theorem n28 : h28.1 = 12 := n27
theorem s118 {X : pm_X} : pm_V X 1 33 [some (.ref 1), some (.int (nI 4))] [.ref 11, .int (nI 4), .ref 2] (11, 316) h27 = pm_V X 1 34 [some (.ref 1), some (.int (nI 4))] [] (11, 316) h28 := k_aast d1_33 (show pm_get h27 2 = some (.inl (.object RX5, 6, .inr (va_up (va_up (va_up (va_up (fun _ => none) 0 (some 3)) 1 (some 5)) 2 (some 7)) 3 (some 9)))) from rfl) (show pm_get h27 11 = some (.inr (5, [.int (-1), .ref 12])) from rfl) rfl (by decide) (by omega) (by omega)
theorem s119 {X : pm_X} : pm_V X 1 34 [some (.ref 1), some (.int (nI 4))] [] (11, 316) h28 = pm_V X 1 37 [some (.ref 1), some (.int (nI 5))] [] (11, 316) h28 := v_iinc (v := nI 1) d1_34 (by decide) (by decide +kernel) rfl (by rw [show nI 4 + nI 1 = nI 5 from by decide]; rfl)
theorem s120 {X : pm_X} : pm_V X 1 37 [some (.ref 1), some (.int (nI 5))] [] (11, 316) h28 = pm_V X 1 15 [some (.ref 1), some (.int (nI 5))] [] (11, 316) h28 := v_goto d1_37 rfl
theorem s121 {X : pm_X} : pm_V X 1 15 [some (.ref 1), some (.int (nI 5))] [] (11, 316) h28 = pm_V X 1 16 [some (.ref 1), some (.int (nI 5))] [.int (nI 5)] (11, 316) h28 := v_n d1_15 rfl
theorem s122 {X : pm_X} : pm_V X 1 16 [some (.ref 1), some (.int (nI 5))] [.int (nI 5)] (11, 316) h28 = pm_V X 1 18 [some (.ref 1), some (.int (nI 5))] [.int (nI 6), .int (nI 5)] (11, 316) h28 := v_bipush d1_16 (by decide)
theorem s123 {X : pm_X} : pm_V X 1 18 [some (.ref 1), some (.int (nI 5))] [.int (nI 6), .int (nI 5)] (11, 316) h28 = pm_V X 1 21 [some (.ref 1), some (.int (nI 5))] [] (11, 316) h28 := (v_ic_ge d1_18 rfl).trans (if_neg (nI_ge (by omega) (by omega)))
theorem s124 {X : pm_X} : pm_V X 1 21 [some (.ref 1), some (.int (nI 5))] [] (11, 316) h28 = pm_V X 1 22 [some (.ref 1), some (.int (nI 5))] [.ref 1] (11, 316) h28 := v_n d1_21 rfl
theorem s125 {X : pm_X} : pm_V X 1 22 [some (.ref 1), some (.int (nI 5))] [.ref 1] (11, 316) h28 = pm_V X 1 25 [some (.ref 1), some (.int (nI 5))] [.ref 2] (11, 316) h28 := k_get d1_22 rfl (show pm_get h28 1 = some (.inr (10, [.ref 2, .null, .null, .null, .null, .null, .null, .null, .null, .null, .null, .null, .null, .null, .null, .int 0, .int 0, .long 0, .long 0])) from rfl) rfl rfl
theorem s126 {X : pm_X} : pm_V X 1 25 [some (.ref 1), some (.int (nI 5))] [.ref 2] (11, 316) h28 = pm_V X 1 26 [some (.ref 1), some (.int (nI 5))] [.int (nI 5), .ref 2] (11, 316) h28 := v_n d1_25 rfl
def h29 : pm_H := pm_new h28 (.inr (5, [.int 0, .null]))
theorem n29 : h29.1 = 13 := (show h28.1 + 1 = 13 by rw [n28])
theorem s127 {X : pm_X} : pm_V X 1 26 [some (.ref 1), some (.int (nI 5))] [.int (nI 5), .ref 2] (11, 316) h28 = pm_V X 1 29 [some (.ref 1), some (.int (nI 5))] [.ref 13, .int (nI 5), .ref 2] (12, 318) h29 := k_new n28 d1_26 rfl rfl df_5 (by decide +kernel)
theorem s128 {X : pm_X} : pm_V X 1 29 [some (.ref 1), some (.int (nI 5))] [.ref 13, .int (nI 5), .ref 2] (12, 318) h29 = pm_V X 1 30 [some (.ref 1), some (.int (nI 5))] [.ref 13, .ref 13, .int (nI 5), .ref 2] (12, 318) h29 := v_n d1_29 rfl
theorem s129 {X : pm_X} : pm_V X 2 0 [some (.ref 13)] [] (0, 0) h29 = pm_V X 2 1 [some (.ref 13)] [.ref 13] (0, 0) h29 := v_n d2_0 rfl
theorem s130 {X : pm_X} : pm_V X 2 1 [some (.ref 13)] [.ref 13] (0, 0) h29 = pm_V X 2 4 [some (.ref 13)] [] (0, 0) h29 := k_obj d2_1 rfl (by decide +kernel)
theorem s131 {X : pm_X} : pm_V X 2 4 [some (.ref 13)] [] (0, 0) h29 = pm_V X 2 5 [some (.ref 13)] [.ref 13] (0, 0) h29 := v_n d2_4 rfl
theorem s132 {X : pm_X} : pm_V X 2 5 [some (.ref 13)] [.ref 13] (0, 0) h29 = pm_V X 2 6 [some (.ref 13)] [.int (-1), .ref 13] (0, 0) h29 := v_iconst d2_5 (by decide)
def h30 : pm_H := pm_set h29 13 (.inr (5, [.int (-1), .null]))
theorem n30 : h30.1 = 13 := n29
theorem s133 {X : pm_X} : pm_V X 2 6 [some (.ref 13)] [.int (-1), .ref 13] (0, 0) h29 = pm_V X 2 9 [some (.ref 13)] [] (0, 0) h30 := k_put d2_6 rfl (show pm_get h29 13 = some (.inr (5, [.int 0, .null])) from rfl) (by decide) rfl (by decide +kernel)
theorem s134 {X : pm_X} : pm_V X 2 9 [some (.ref 13)] [] (0, 0) h30 = pm_V X 2 10 [some (.ref 13)] [.ref 13] (0, 0) h30 := v_n d2_9 rfl
theorem s135 {X : pm_X} : pm_V X 2 10 [some (.ref 13)] [.ref 13] (0, 0) h30 = pm_V X 2 12 [some (.ref 13)] [.int (nI 60), .ref 13] (0, 0) h30 := v_bipush d2_10 (by decide)
def h31 : pm_H := pm_new h30 (.inl (.int, 60, .inl (fun _ => 0)))
theorem n31 : h31.1 = 14 := (show h30.1 + 1 = 14 by rw [n30])
theorem s136 {X : pm_X} : pm_V X 2 12 [some (.ref 13)] [.int (nI 60), .ref 13] (0, 0) h30 = pm_V X 2 14 [some (.ref 13)] [.ref 14, .ref 13] (1, 60) h31 := k_narr n30 d2_12 (by omega) (by decide) rfl (by decide +kernel)
def h32 : pm_H := pm_set h31 13 (.inr (5, [.int (-1), .ref 14]))
theorem n32 : h32.1 = 14 := n31
theorem s137 {X : pm_X} : pm_V X 2 14 [some (.ref 13)] [.ref 14, .ref 13] (1, 60) h31 = pm_V X 2 17 [some (.ref 13)] [] (1, 60) h32 := k_put d2_14 rfl (show pm_get h31 13 = some (.inr (5, [.int (-1), .null])) from rfl) (by decide) rfl (by decide +kernel)
theorem s138 {X : pm_X} : pm_V X 2 17 [some (.ref 13)] [] (1, 60) h32 = some (none, h32) := k_ret d2_17 rfl (by decide +kernel)
theorem m6 {X : pm_X} : pm_V0 X 2 [.ref 13] h29 = some (none, h32) := by
  show pm_V X 2 0 [some (.ref 13)] [] (0, 0) h29 = _
  rw [s129, s130, s131, s132, s133, s134, s135, s136, s137, s138]
theorem s139 {X : pm_X} : pm_V X 1 30 [some (.ref 1), some (.int (nI 5))] [.ref 13, .ref 13, .int (nI 5), .ref 2] (12, 318) h29 = pm_V X 1 33 [some (.ref 1), some (.int (nI 5))] [.ref 13, .int (nI 5), .ref 2] (13, 378) h32 := (k_call d1_30 rfl rfl (by decide +kernel)).trans (by rw [m6]; rfl)
def h33 : pm_H := pm_set h32 2 (.inl (.object RX5, 6, .inr (va_up (va_up (va_up (va_up (va_up (va_up (fun _ => none) 0 (some 3)) 1 (some 5)) 2 (some 7)) 3 (some 9)) 4 (some 11)) 5 (some 13))))
theorem n33 : h33.1 = 14 := n32
theorem s140 {X : pm_X} : pm_V X 1 33 [some (.ref 1), some (.int (nI 5))] [.ref 13, .int (nI 5), .ref 2] (13, 378) h32 = pm_V X 1 34 [some (.ref 1), some (.int (nI 5))] [] (13, 378) h33 := k_aast d1_33 (show pm_get h32 2 = some (.inl (.object RX5, 6, .inr (va_up (va_up (va_up (va_up (va_up (fun _ => none) 0 (some 3)) 1 (some 5)) 2 (some 7)) 3 (some 9)) 4 (some 11)))) from rfl) (show pm_get h32 13 = some (.inr (5, [.int (-1), .ref 14])) from rfl) rfl (by decide) (by omega) (by omega)
theorem s141 {X : pm_X} : pm_V X 1 34 [some (.ref 1), some (.int (nI 5))] [] (13, 378) h33 = pm_V X 1 37 [some (.ref 1), some (.int (nI 6))] [] (13, 378) h33 := v_iinc (v := nI 1) d1_34 (by decide) (by decide +kernel) rfl (by rw [show nI 5 + nI 1 = nI 6 from by decide]; rfl)
theorem s142 {X : pm_X} : pm_V X 1 37 [some (.ref 1), some (.int (nI 6))] [] (13, 378) h33 = pm_V X 1 15 [some (.ref 1), some (.int (nI 6))] [] (13, 378) h33 := v_goto d1_37 rfl
theorem s143 {X : pm_X} : pm_V X 1 15 [some (.ref 1), some (.int (nI 6))] [] (13, 378) h33 = pm_V X 1 16 [some (.ref 1), some (.int (nI 6))] [.int (nI 6)] (13, 378) h33 := v_n d1_15 rfl
theorem s144 {X : pm_X} : pm_V X 1 16 [some (.ref 1), some (.int (nI 6))] [.int (nI 6)] (13, 378) h33 = pm_V X 1 18 [some (.ref 1), some (.int (nI 6))] [.int (nI 6), .int (nI 6)] (13, 378) h33 := v_bipush d1_16 (by decide)
theorem s145 {X : pm_X} : pm_V X 1 18 [some (.ref 1), some (.int (nI 6))] [.int (nI 6), .int (nI 6)] (13, 378) h33 = pm_V X 1 40 [some (.ref 1), some (.int (nI 6))] [] (13, 378) h33 := (v_ic_ge d1_18 rfl).trans (if_pos (nI_le (by omega) (by omega)))
theorem s146 {X : pm_X} : pm_V X 1 40 [some (.ref 1), some (.int (nI 6))] [] (13, 378) h33 = pm_V X 1 41 [some (.ref 1), some (.int (nI 6))] [.ref 1] (13, 378) h33 := v_n d1_40 rfl
theorem s147 {X : pm_X} : pm_V X 1 41 [some (.ref 1), some (.int (nI 6))] [.ref 1] (13, 378) h33 = pm_V X 1 42 [some (.ref 1), some (.int (nI 6))] [.int (nI 4), .ref 1] (13, 378) h33 := v_iconst d1_41 (by decide)
def h34 : pm_H := pm_new h33 (.inl (.object RX9, 4, .inr (fun _ => none)))
theorem n34 : h34.1 = 15 := (show h33.1 + 1 = 15 by rw [n33])
theorem s148 {X : pm_X} : pm_V X 1 42 [some (.ref 1), some (.int (nI 6))] [.int (nI 4), .ref 1] (13, 378) h33 = pm_V X 1 45 [some (.ref 1), some (.int (nI 6))] [.ref 15, .ref 1] (14, 382) h34 := k_anew n33 d1_42 rfl (by omega) (by decide) rfl (by decide +kernel)
def h35 : pm_H := pm_set h34 1 (.inr (10, [.ref 2, .ref 15, .null, .null, .null, .null, .null, .null, .null, .null, .null, .null, .null, .null, .null, .int 0, .int 0, .long 0, .long 0]))
theorem n35 : h35.1 = 15 := n34
theorem s149 {X : pm_X} : pm_V X 1 45 [some (.ref 1), some (.int (nI 6))] [.ref 15, .ref 1] (14, 382) h34 = pm_V X 1 48 [some (.ref 1), some (.int (nI 6))] [] (14, 382) h35 := k_put d1_45 rfl (show pm_get h34 1 = some (.inr (10, [.ref 2, .null, .null, .null, .null, .null, .null, .null, .null, .null, .null, .null, .null, .null, .null, .int 0, .int 0, .long 0, .long 0])) from rfl) (by decide) rfl (by decide +kernel)
theorem s150 {X : pm_X} : pm_V X 1 48 [some (.ref 1), some (.int (nI 6))] [] (14, 382) h35 = pm_V X 1 49 [some (.ref 1), some (.int (nI 6))] [.int (nI 0)] (14, 382) h35 := v_iconst d1_48 (by decide)
theorem s151 {X : pm_X} : pm_V X 1 49 [some (.ref 1), some (.int (nI 6))] [.int (nI 0)] (14, 382) h35 = pm_V X 1 50 [some (.ref 1), some (.int (nI 0))] [] (14, 382) h35 := v_istore_n d1_49 (by decide +kernel) rfl
theorem s152 {X : pm_X} : pm_V X 1 50 [some (.ref 1), some (.int (nI 0))] [] (14, 382) h35 = pm_V X 1 51 [some (.ref 1), some (.int (nI 0))] [.int (nI 0)] (14, 382) h35 := v_n d1_50 rfl
theorem s153 {X : pm_X} : pm_V X 1 51 [some (.ref 1), some (.int (nI 0))] [.int (nI 0)] (14, 382) h35 = pm_V X 1 52 [some (.ref 1), some (.int (nI 0))] [.int (nI 4), .int (nI 0)] (14, 382) h35 := v_iconst d1_51 (by decide)
theorem s154 {X : pm_X} : pm_V X 1 52 [some (.ref 1), some (.int (nI 0))] [.int (nI 4), .int (nI 0)] (14, 382) h35 = pm_V X 1 55 [some (.ref 1), some (.int (nI 0))] [] (14, 382) h35 := (v_ic_ge d1_52 rfl).trans (if_neg (nI_ge (by omega) (by omega)))
theorem s155 {X : pm_X} : pm_V X 1 55 [some (.ref 1), some (.int (nI 0))] [] (14, 382) h35 = pm_V X 1 56 [some (.ref 1), some (.int (nI 0))] [.ref 1] (14, 382) h35 := v_n d1_55 rfl
theorem s156 {X : pm_X} : pm_V X 1 56 [some (.ref 1), some (.int (nI 0))] [.ref 1] (14, 382) h35 = pm_V X 1 59 [some (.ref 1), some (.int (nI 0))] [.ref 15] (14, 382) h35 := k_get d1_56 rfl (show pm_get h35 1 = some (.inr (10, [.ref 2, .ref 15, .null, .null, .null, .null, .null, .null, .null, .null, .null, .null, .null, .null, .null, .int 0, .int 0, .long 0, .long 0])) from rfl) rfl rfl
theorem s157 {X : pm_X} : pm_V X 1 59 [some (.ref 1), some (.int (nI 0))] [.ref 15] (14, 382) h35 = pm_V X 1 60 [some (.ref 1), some (.int (nI 0))] [.int (nI 0), .ref 15] (14, 382) h35 := v_n d1_59 rfl
def h36 : pm_H := pm_new h35 (.inr (9, [.int 0, .null]))
theorem n36 : h36.1 = 16 := (show h35.1 + 1 = 16 by rw [n35])
theorem s158 {X : pm_X} : pm_V X 1 60 [some (.ref 1), some (.int (nI 0))] [.int (nI 0), .ref 15] (14, 382) h35 = pm_V X 1 63 [some (.ref 1), some (.int (nI 0))] [.ref 16, .int (nI 0), .ref 15] (15, 384) h36 := k_new n35 d1_60 rfl rfl df_9 (by decide +kernel)
theorem s159 {X : pm_X} : pm_V X 1 63 [some (.ref 1), some (.int (nI 0))] [.ref 16, .int (nI 0), .ref 15] (15, 384) h36 = pm_V X 1 64 [some (.ref 1), some (.int (nI 0))] [.ref 16, .ref 16, .int (nI 0), .ref 15] (15, 384) h36 := v_n d1_63 rfl
theorem s160 {X : pm_X} : pm_V X 3 0 [some (.ref 16)] [] (0, 0) h36 = pm_V X 3 1 [some (.ref 16)] [.ref 16] (0, 0) h36 := v_n d3_0 rfl
theorem s161 {X : pm_X} : pm_V X 3 1 [some (.ref 16)] [.ref 16] (0, 0) h36 = pm_V X 3 4 [some (.ref 16)] [] (0, 0) h36 := k_obj d3_1 rfl (by decide +kernel)
theorem s162 {X : pm_X} : pm_V X 3 4 [some (.ref 16)] [] (0, 0) h36 = pm_V X 3 5 [some (.ref 16)] [.ref 16] (0, 0) h36 := v_n d3_4 rfl
theorem s163 {X : pm_X} : pm_V X 3 5 [some (.ref 16)] [.ref 16] (0, 0) h36 = pm_V X 3 6 [some (.ref 16)] [.int (-1), .ref 16] (0, 0) h36 := v_iconst d3_5 (by decide)
def h37 : pm_H := pm_set h36 16 (.inr (9, [.int (-1), .null]))
theorem n37 : h37.1 = 16 := n36
theorem s164 {X : pm_X} : pm_V X 3 6 [some (.ref 16)] [.int (-1), .ref 16] (0, 0) h36 = pm_V X 3 9 [some (.ref 16)] [] (0, 0) h37 := k_put d3_6 rfl (show pm_get h36 16 = some (.inr (9, [.int 0, .null])) from rfl) (by decide) rfl (by decide +kernel)
theorem s165 {X : pm_X} : pm_V X 3 9 [some (.ref 16)] [] (0, 0) h37 = pm_V X 3 10 [some (.ref 16)] [.ref 16] (0, 0) h37 := v_n d3_9 rfl
theorem s166 {X : pm_X} : pm_V X 3 10 [some (.ref 16)] [.ref 16] (0, 0) h37 = pm_V X 3 12 [some (.ref 16)] [.int (nI 120), .ref 16] (0, 0) h37 := v_bipush d3_10 (by decide)
def h38 : pm_H := pm_new h37 (.inl (.byte, 120, .inl (fun _ => 0)))
theorem n38 : h38.1 = 17 := (show h37.1 + 1 = 17 by rw [n37])
theorem s167 {X : pm_X} : pm_V X 3 12 [some (.ref 16)] [.int (nI 120), .ref 16] (0, 0) h37 = pm_V X 3 14 [some (.ref 16)] [.ref 17, .ref 16] (1, 120) h38 := k_narr n37 d3_12 (by omega) (by decide) rfl (by decide +kernel)
def h39 : pm_H := pm_set h38 16 (.inr (9, [.int (-1), .ref 17]))
theorem n39 : h39.1 = 17 := n38
theorem s168 {X : pm_X} : pm_V X 3 14 [some (.ref 16)] [.ref 17, .ref 16] (1, 120) h38 = pm_V X 3 17 [some (.ref 16)] [] (1, 120) h39 := k_put d3_14 rfl (show pm_get h38 16 = some (.inr (9, [.int (-1), .null])) from rfl) (by decide) rfl (by decide +kernel)
theorem s169 {X : pm_X} : pm_V X 3 17 [some (.ref 16)] [] (1, 120) h39 = some (none, h39) := k_ret d3_17 rfl (by decide +kernel)
theorem m7 {X : pm_X} : pm_V0 X 3 [.ref 16] h36 = some (none, h39) := by
  show pm_V X 3 0 [some (.ref 16)] [] (0, 0) h36 = _
  rw [s160, s161, s162, s163, s164, s165, s166, s167, s168, s169]
theorem s170 {X : pm_X} : pm_V X 1 64 [some (.ref 1), some (.int (nI 0))] [.ref 16, .ref 16, .int (nI 0), .ref 15] (15, 384) h36 = pm_V X 1 67 [some (.ref 1), some (.int (nI 0))] [.ref 16, .int (nI 0), .ref 15] (16, 504) h39 := (k_call d1_64 rfl rfl (by decide +kernel)).trans (by rw [m7]; rfl)
def h40 : pm_H := pm_set h39 15 (.inl (.object RX9, 4, .inr (va_up (fun _ => none) 0 (some 16))))
theorem n40 : h40.1 = 17 := n39
theorem s171 {X : pm_X} : pm_V X 1 67 [some (.ref 1), some (.int (nI 0))] [.ref 16, .int (nI 0), .ref 15] (16, 504) h39 = pm_V X 1 68 [some (.ref 1), some (.int (nI 0))] [] (16, 504) h40 := k_aast d1_67 (show pm_get h39 15 = some (.inl (.object RX9, 4, .inr (fun _ => none))) from rfl) (show pm_get h39 16 = some (.inr (9, [.int (-1), .ref 17])) from rfl) rfl (by decide) (by omega) (by omega)
theorem s172 {X : pm_X} : pm_V X 1 68 [some (.ref 1), some (.int (nI 0))] [] (16, 504) h40 = pm_V X 1 71 [some (.ref 1), some (.int (nI 1))] [] (16, 504) h40 := v_iinc (v := nI 1) d1_68 (by decide) (by decide +kernel) rfl (by rw [show nI 0 + nI 1 = nI 1 from by decide]; rfl)
theorem s173 {X : pm_X} : pm_V X 1 71 [some (.ref 1), some (.int (nI 1))] [] (16, 504) h40 = pm_V X 1 50 [some (.ref 1), some (.int (nI 1))] [] (16, 504) h40 := v_goto d1_71 rfl
theorem s174 {X : pm_X} : pm_V X 1 50 [some (.ref 1), some (.int (nI 1))] [] (16, 504) h40 = pm_V X 1 51 [some (.ref 1), some (.int (nI 1))] [.int (nI 1)] (16, 504) h40 := v_n d1_50 rfl
theorem s175 {X : pm_X} : pm_V X 1 51 [some (.ref 1), some (.int (nI 1))] [.int (nI 1)] (16, 504) h40 = pm_V X 1 52 [some (.ref 1), some (.int (nI 1))] [.int (nI 4), .int (nI 1)] (16, 504) h40 := v_iconst d1_51 (by decide)
theorem s176 {X : pm_X} : pm_V X 1 52 [some (.ref 1), some (.int (nI 1))] [.int (nI 4), .int (nI 1)] (16, 504) h40 = pm_V X 1 55 [some (.ref 1), some (.int (nI 1))] [] (16, 504) h40 := (v_ic_ge d1_52 rfl).trans (if_neg (nI_ge (by omega) (by omega)))
theorem s177 {X : pm_X} : pm_V X 1 55 [some (.ref 1), some (.int (nI 1))] [] (16, 504) h40 = pm_V X 1 56 [some (.ref 1), some (.int (nI 1))] [.ref 1] (16, 504) h40 := v_n d1_55 rfl
theorem s178 {X : pm_X} : pm_V X 1 56 [some (.ref 1), some (.int (nI 1))] [.ref 1] (16, 504) h40 = pm_V X 1 59 [some (.ref 1), some (.int (nI 1))] [.ref 15] (16, 504) h40 := k_get d1_56 rfl (show pm_get h40 1 = some (.inr (10, [.ref 2, .ref 15, .null, .null, .null, .null, .null, .null, .null, .null, .null, .null, .null, .null, .null, .int 0, .int 0, .long 0, .long 0])) from rfl) rfl rfl
theorem s179 {X : pm_X} : pm_V X 1 59 [some (.ref 1), some (.int (nI 1))] [.ref 15] (16, 504) h40 = pm_V X 1 60 [some (.ref 1), some (.int (nI 1))] [.int (nI 1), .ref 15] (16, 504) h40 := v_n d1_59 rfl
def h41 : pm_H := pm_new h40 (.inr (9, [.int 0, .null]))
theorem n41 : h41.1 = 18 := (show h40.1 + 1 = 18 by rw [n40])
theorem s180 {X : pm_X} : pm_V X 1 60 [some (.ref 1), some (.int (nI 1))] [.int (nI 1), .ref 15] (16, 504) h40 = pm_V X 1 63 [some (.ref 1), some (.int (nI 1))] [.ref 18, .int (nI 1), .ref 15] (17, 506) h41 := k_new n40 d1_60 rfl rfl df_9 (by decide +kernel)
theorem s181 {X : pm_X} : pm_V X 1 63 [some (.ref 1), some (.int (nI 1))] [.ref 18, .int (nI 1), .ref 15] (17, 506) h41 = pm_V X 1 64 [some (.ref 1), some (.int (nI 1))] [.ref 18, .ref 18, .int (nI 1), .ref 15] (17, 506) h41 := v_n d1_63 rfl
theorem s182 {X : pm_X} : pm_V X 3 0 [some (.ref 18)] [] (0, 0) h41 = pm_V X 3 1 [some (.ref 18)] [.ref 18] (0, 0) h41 := v_n d3_0 rfl
theorem s183 {X : pm_X} : pm_V X 3 1 [some (.ref 18)] [.ref 18] (0, 0) h41 = pm_V X 3 4 [some (.ref 18)] [] (0, 0) h41 := k_obj d3_1 rfl (by decide +kernel)
theorem s184 {X : pm_X} : pm_V X 3 4 [some (.ref 18)] [] (0, 0) h41 = pm_V X 3 5 [some (.ref 18)] [.ref 18] (0, 0) h41 := v_n d3_4 rfl
theorem s185 {X : pm_X} : pm_V X 3 5 [some (.ref 18)] [.ref 18] (0, 0) h41 = pm_V X 3 6 [some (.ref 18)] [.int (-1), .ref 18] (0, 0) h41 := v_iconst d3_5 (by decide)
def h42 : pm_H := pm_set h41 18 (.inr (9, [.int (-1), .null]))
theorem n42 : h42.1 = 18 := n41
theorem s186 {X : pm_X} : pm_V X 3 6 [some (.ref 18)] [.int (-1), .ref 18] (0, 0) h41 = pm_V X 3 9 [some (.ref 18)] [] (0, 0) h42 := k_put d3_6 rfl (show pm_get h41 18 = some (.inr (9, [.int 0, .null])) from rfl) (by decide) rfl (by decide +kernel)
theorem s187 {X : pm_X} : pm_V X 3 9 [some (.ref 18)] [] (0, 0) h42 = pm_V X 3 10 [some (.ref 18)] [.ref 18] (0, 0) h42 := v_n d3_9 rfl
theorem s188 {X : pm_X} : pm_V X 3 10 [some (.ref 18)] [.ref 18] (0, 0) h42 = pm_V X 3 12 [some (.ref 18)] [.int (nI 120), .ref 18] (0, 0) h42 := v_bipush d3_10 (by decide)
def h43 : pm_H := pm_new h42 (.inl (.byte, 120, .inl (fun _ => 0)))
theorem n43 : h43.1 = 19 := (show h42.1 + 1 = 19 by rw [n42])
theorem s189 {X : pm_X} : pm_V X 3 12 [some (.ref 18)] [.int (nI 120), .ref 18] (0, 0) h42 = pm_V X 3 14 [some (.ref 18)] [.ref 19, .ref 18] (1, 120) h43 := k_narr n42 d3_12 (by omega) (by decide) rfl (by decide +kernel)
def h44 : pm_H := pm_set h43 18 (.inr (9, [.int (-1), .ref 19]))
theorem n44 : h44.1 = 19 := n43
theorem s190 {X : pm_X} : pm_V X 3 14 [some (.ref 18)] [.ref 19, .ref 18] (1, 120) h43 = pm_V X 3 17 [some (.ref 18)] [] (1, 120) h44 := k_put d3_14 rfl (show pm_get h43 18 = some (.inr (9, [.int (-1), .null])) from rfl) (by decide) rfl (by decide +kernel)
theorem s191 {X : pm_X} : pm_V X 3 17 [some (.ref 18)] [] (1, 120) h44 = some (none, h44) := k_ret d3_17 rfl (by decide +kernel)
theorem m8 {X : pm_X} : pm_V0 X 3 [.ref 18] h41 = some (none, h44) := by
  show pm_V X 3 0 [some (.ref 18)] [] (0, 0) h41 = _
  rw [s182, s183, s184, s185, s186, s187, s188, s189, s190, s191]
theorem s192 {X : pm_X} : pm_V X 1 64 [some (.ref 1), some (.int (nI 1))] [.ref 18, .ref 18, .int (nI 1), .ref 15] (17, 506) h41 = pm_V X 1 67 [some (.ref 1), some (.int (nI 1))] [.ref 18, .int (nI 1), .ref 15] (18, 626) h44 := (k_call d1_64 rfl rfl (by decide +kernel)).trans (by rw [m8]; rfl)
def h45 : pm_H := pm_set h44 15 (.inl (.object RX9, 4, .inr (va_up (va_up (fun _ => none) 0 (some 16)) 1 (some 18))))
theorem n45 : h45.1 = 19 := n44
theorem s193 {X : pm_X} : pm_V X 1 67 [some (.ref 1), some (.int (nI 1))] [.ref 18, .int (nI 1), .ref 15] (18, 626) h44 = pm_V X 1 68 [some (.ref 1), some (.int (nI 1))] [] (18, 626) h45 := k_aast d1_67 (show pm_get h44 15 = some (.inl (.object RX9, 4, .inr (va_up (fun _ => none) 0 (some 16)))) from rfl) (show pm_get h44 18 = some (.inr (9, [.int (-1), .ref 19])) from rfl) rfl (by decide) (by omega) (by omega)
theorem s194 {X : pm_X} : pm_V X 1 68 [some (.ref 1), some (.int (nI 1))] [] (18, 626) h45 = pm_V X 1 71 [some (.ref 1), some (.int (nI 2))] [] (18, 626) h45 := v_iinc (v := nI 1) d1_68 (by decide) (by decide +kernel) rfl (by rw [show nI 1 + nI 1 = nI 2 from by decide]; rfl)
theorem s195 {X : pm_X} : pm_V X 1 71 [some (.ref 1), some (.int (nI 2))] [] (18, 626) h45 = pm_V X 1 50 [some (.ref 1), some (.int (nI 2))] [] (18, 626) h45 := v_goto d1_71 rfl
theorem s196 {X : pm_X} : pm_V X 1 50 [some (.ref 1), some (.int (nI 2))] [] (18, 626) h45 = pm_V X 1 51 [some (.ref 1), some (.int (nI 2))] [.int (nI 2)] (18, 626) h45 := v_n d1_50 rfl
theorem s197 {X : pm_X} : pm_V X 1 51 [some (.ref 1), some (.int (nI 2))] [.int (nI 2)] (18, 626) h45 = pm_V X 1 52 [some (.ref 1), some (.int (nI 2))] [.int (nI 4), .int (nI 2)] (18, 626) h45 := v_iconst d1_51 (by decide)
theorem s198 {X : pm_X} : pm_V X 1 52 [some (.ref 1), some (.int (nI 2))] [.int (nI 4), .int (nI 2)] (18, 626) h45 = pm_V X 1 55 [some (.ref 1), some (.int (nI 2))] [] (18, 626) h45 := (v_ic_ge d1_52 rfl).trans (if_neg (nI_ge (by omega) (by omega)))
theorem s199 {X : pm_X} : pm_V X 1 55 [some (.ref 1), some (.int (nI 2))] [] (18, 626) h45 = pm_V X 1 56 [some (.ref 1), some (.int (nI 2))] [.ref 1] (18, 626) h45 := v_n d1_55 rfl
theorem s200 {X : pm_X} : pm_V X 1 56 [some (.ref 1), some (.int (nI 2))] [.ref 1] (18, 626) h45 = pm_V X 1 59 [some (.ref 1), some (.int (nI 2))] [.ref 15] (18, 626) h45 := k_get d1_56 rfl (show pm_get h45 1 = some (.inr (10, [.ref 2, .ref 15, .null, .null, .null, .null, .null, .null, .null, .null, .null, .null, .null, .null, .null, .int 0, .int 0, .long 0, .long 0])) from rfl) rfl rfl
theorem s201 {X : pm_X} : pm_V X 1 59 [some (.ref 1), some (.int (nI 2))] [.ref 15] (18, 626) h45 = pm_V X 1 60 [some (.ref 1), some (.int (nI 2))] [.int (nI 2), .ref 15] (18, 626) h45 := v_n d1_59 rfl
def h46 : pm_H := pm_new h45 (.inr (9, [.int 0, .null]))
theorem n46 : h46.1 = 20 := (show h45.1 + 1 = 20 by rw [n45])
theorem s202 {X : pm_X} : pm_V X 1 60 [some (.ref 1), some (.int (nI 2))] [.int (nI 2), .ref 15] (18, 626) h45 = pm_V X 1 63 [some (.ref 1), some (.int (nI 2))] [.ref 20, .int (nI 2), .ref 15] (19, 628) h46 := k_new n45 d1_60 rfl rfl df_9 (by decide +kernel)
theorem s203 {X : pm_X} : pm_V X 1 63 [some (.ref 1), some (.int (nI 2))] [.ref 20, .int (nI 2), .ref 15] (19, 628) h46 = pm_V X 1 64 [some (.ref 1), some (.int (nI 2))] [.ref 20, .ref 20, .int (nI 2), .ref 15] (19, 628) h46 := v_n d1_63 rfl
theorem s204 {X : pm_X} : pm_V X 3 0 [some (.ref 20)] [] (0, 0) h46 = pm_V X 3 1 [some (.ref 20)] [.ref 20] (0, 0) h46 := v_n d3_0 rfl
theorem s205 {X : pm_X} : pm_V X 3 1 [some (.ref 20)] [.ref 20] (0, 0) h46 = pm_V X 3 4 [some (.ref 20)] [] (0, 0) h46 := k_obj d3_1 rfl (by decide +kernel)
theorem s206 {X : pm_X} : pm_V X 3 4 [some (.ref 20)] [] (0, 0) h46 = pm_V X 3 5 [some (.ref 20)] [.ref 20] (0, 0) h46 := v_n d3_4 rfl
theorem s207 {X : pm_X} : pm_V X 3 5 [some (.ref 20)] [.ref 20] (0, 0) h46 = pm_V X 3 6 [some (.ref 20)] [.int (-1), .ref 20] (0, 0) h46 := v_iconst d3_5 (by decide)
def h47 : pm_H := pm_set h46 20 (.inr (9, [.int (-1), .null]))
theorem n47 : h47.1 = 20 := n46
theorem s208 {X : pm_X} : pm_V X 3 6 [some (.ref 20)] [.int (-1), .ref 20] (0, 0) h46 = pm_V X 3 9 [some (.ref 20)] [] (0, 0) h47 := k_put d3_6 rfl (show pm_get h46 20 = some (.inr (9, [.int 0, .null])) from rfl) (by decide) rfl (by decide +kernel)
theorem s209 {X : pm_X} : pm_V X 3 9 [some (.ref 20)] [] (0, 0) h47 = pm_V X 3 10 [some (.ref 20)] [.ref 20] (0, 0) h47 := v_n d3_9 rfl
theorem s210 {X : pm_X} : pm_V X 3 10 [some (.ref 20)] [.ref 20] (0, 0) h47 = pm_V X 3 12 [some (.ref 20)] [.int (nI 120), .ref 20] (0, 0) h47 := v_bipush d3_10 (by decide)
def h48 : pm_H := pm_new h47 (.inl (.byte, 120, .inl (fun _ => 0)))
theorem n48 : h48.1 = 21 := (show h47.1 + 1 = 21 by rw [n47])
theorem s211 {X : pm_X} : pm_V X 3 12 [some (.ref 20)] [.int (nI 120), .ref 20] (0, 0) h47 = pm_V X 3 14 [some (.ref 20)] [.ref 21, .ref 20] (1, 120) h48 := k_narr n47 d3_12 (by omega) (by decide) rfl (by decide +kernel)
def h49 : pm_H := pm_set h48 20 (.inr (9, [.int (-1), .ref 21]))
theorem n49 : h49.1 = 21 := n48
theorem s212 {X : pm_X} : pm_V X 3 14 [some (.ref 20)] [.ref 21, .ref 20] (1, 120) h48 = pm_V X 3 17 [some (.ref 20)] [] (1, 120) h49 := k_put d3_14 rfl (show pm_get h48 20 = some (.inr (9, [.int (-1), .null])) from rfl) (by decide) rfl (by decide +kernel)
theorem s213 {X : pm_X} : pm_V X 3 17 [some (.ref 20)] [] (1, 120) h49 = some (none, h49) := k_ret d3_17 rfl (by decide +kernel)
theorem m9 {X : pm_X} : pm_V0 X 3 [.ref 20] h46 = some (none, h49) := by
  show pm_V X 3 0 [some (.ref 20)] [] (0, 0) h46 = _
  rw [s204, s205, s206, s207, s208, s209, s210, s211, s212, s213]
theorem s214 {X : pm_X} : pm_V X 1 64 [some (.ref 1), some (.int (nI 2))] [.ref 20, .ref 20, .int (nI 2), .ref 15] (19, 628) h46 = pm_V X 1 67 [some (.ref 1), some (.int (nI 2))] [.ref 20, .int (nI 2), .ref 15] (20, 748) h49 := (k_call d1_64 rfl rfl (by decide +kernel)).trans (by rw [m9]; rfl)
def h50 : pm_H := pm_set h49 15 (.inl (.object RX9, 4, .inr (va_up (va_up (va_up (fun _ => none) 0 (some 16)) 1 (some 18)) 2 (some 20))))
theorem n50 : h50.1 = 21 := n49
theorem s215 {X : pm_X} : pm_V X 1 67 [some (.ref 1), some (.int (nI 2))] [.ref 20, .int (nI 2), .ref 15] (20, 748) h49 = pm_V X 1 68 [some (.ref 1), some (.int (nI 2))] [] (20, 748) h50 := k_aast d1_67 (show pm_get h49 15 = some (.inl (.object RX9, 4, .inr (va_up (va_up (fun _ => none) 0 (some 16)) 1 (some 18)))) from rfl) (show pm_get h49 20 = some (.inr (9, [.int (-1), .ref 21])) from rfl) rfl (by decide) (by omega) (by omega)
theorem s216 {X : pm_X} : pm_V X 1 68 [some (.ref 1), some (.int (nI 2))] [] (20, 748) h50 = pm_V X 1 71 [some (.ref 1), some (.int (nI 3))] [] (20, 748) h50 := v_iinc (v := nI 1) d1_68 (by decide) (by decide +kernel) rfl (by rw [show nI 2 + nI 1 = nI 3 from by decide]; rfl)
theorem s217 {X : pm_X} : pm_V X 1 71 [some (.ref 1), some (.int (nI 3))] [] (20, 748) h50 = pm_V X 1 50 [some (.ref 1), some (.int (nI 3))] [] (20, 748) h50 := v_goto d1_71 rfl
theorem s218 {X : pm_X} : pm_V X 1 50 [some (.ref 1), some (.int (nI 3))] [] (20, 748) h50 = pm_V X 1 51 [some (.ref 1), some (.int (nI 3))] [.int (nI 3)] (20, 748) h50 := v_n d1_50 rfl
theorem s219 {X : pm_X} : pm_V X 1 51 [some (.ref 1), some (.int (nI 3))] [.int (nI 3)] (20, 748) h50 = pm_V X 1 52 [some (.ref 1), some (.int (nI 3))] [.int (nI 4), .int (nI 3)] (20, 748) h50 := v_iconst d1_51 (by decide)
theorem s220 {X : pm_X} : pm_V X 1 52 [some (.ref 1), some (.int (nI 3))] [.int (nI 4), .int (nI 3)] (20, 748) h50 = pm_V X 1 55 [some (.ref 1), some (.int (nI 3))] [] (20, 748) h50 := (v_ic_ge d1_52 rfl).trans (if_neg (nI_ge (by omega) (by omega)))
theorem s221 {X : pm_X} : pm_V X 1 55 [some (.ref 1), some (.int (nI 3))] [] (20, 748) h50 = pm_V X 1 56 [some (.ref 1), some (.int (nI 3))] [.ref 1] (20, 748) h50 := v_n d1_55 rfl
theorem s222 {X : pm_X} : pm_V X 1 56 [some (.ref 1), some (.int (nI 3))] [.ref 1] (20, 748) h50 = pm_V X 1 59 [some (.ref 1), some (.int (nI 3))] [.ref 15] (20, 748) h50 := k_get d1_56 rfl (show pm_get h50 1 = some (.inr (10, [.ref 2, .ref 15, .null, .null, .null, .null, .null, .null, .null, .null, .null, .null, .null, .null, .null, .int 0, .int 0, .long 0, .long 0])) from rfl) rfl rfl
theorem s223 {X : pm_X} : pm_V X 1 59 [some (.ref 1), some (.int (nI 3))] [.ref 15] (20, 748) h50 = pm_V X 1 60 [some (.ref 1), some (.int (nI 3))] [.int (nI 3), .ref 15] (20, 748) h50 := v_n d1_59 rfl
def h51 : pm_H := pm_new h50 (.inr (9, [.int 0, .null]))
theorem n51 : h51.1 = 22 := (show h50.1 + 1 = 22 by rw [n50])
theorem s224 {X : pm_X} : pm_V X 1 60 [some (.ref 1), some (.int (nI 3))] [.int (nI 3), .ref 15] (20, 748) h50 = pm_V X 1 63 [some (.ref 1), some (.int (nI 3))] [.ref 22, .int (nI 3), .ref 15] (21, 750) h51 := k_new n50 d1_60 rfl rfl df_9 (by decide +kernel)
theorem s225 {X : pm_X} : pm_V X 1 63 [some (.ref 1), some (.int (nI 3))] [.ref 22, .int (nI 3), .ref 15] (21, 750) h51 = pm_V X 1 64 [some (.ref 1), some (.int (nI 3))] [.ref 22, .ref 22, .int (nI 3), .ref 15] (21, 750) h51 := v_n d1_63 rfl
theorem s226 {X : pm_X} : pm_V X 3 0 [some (.ref 22)] [] (0, 0) h51 = pm_V X 3 1 [some (.ref 22)] [.ref 22] (0, 0) h51 := v_n d3_0 rfl
theorem s227 {X : pm_X} : pm_V X 3 1 [some (.ref 22)] [.ref 22] (0, 0) h51 = pm_V X 3 4 [some (.ref 22)] [] (0, 0) h51 := k_obj d3_1 rfl (by decide +kernel)
theorem s228 {X : pm_X} : pm_V X 3 4 [some (.ref 22)] [] (0, 0) h51 = pm_V X 3 5 [some (.ref 22)] [.ref 22] (0, 0) h51 := v_n d3_4 rfl
theorem s229 {X : pm_X} : pm_V X 3 5 [some (.ref 22)] [.ref 22] (0, 0) h51 = pm_V X 3 6 [some (.ref 22)] [.int (-1), .ref 22] (0, 0) h51 := v_iconst d3_5 (by decide)
def h52 : pm_H := pm_set h51 22 (.inr (9, [.int (-1), .null]))
theorem n52 : h52.1 = 22 := n51
theorem s230 {X : pm_X} : pm_V X 3 6 [some (.ref 22)] [.int (-1), .ref 22] (0, 0) h51 = pm_V X 3 9 [some (.ref 22)] [] (0, 0) h52 := k_put d3_6 rfl (show pm_get h51 22 = some (.inr (9, [.int 0, .null])) from rfl) (by decide) rfl (by decide +kernel)
theorem s231 {X : pm_X} : pm_V X 3 9 [some (.ref 22)] [] (0, 0) h52 = pm_V X 3 10 [some (.ref 22)] [.ref 22] (0, 0) h52 := v_n d3_9 rfl
theorem s232 {X : pm_X} : pm_V X 3 10 [some (.ref 22)] [.ref 22] (0, 0) h52 = pm_V X 3 12 [some (.ref 22)] [.int (nI 120), .ref 22] (0, 0) h52 := v_bipush d3_10 (by decide)
def h53 : pm_H := pm_new h52 (.inl (.byte, 120, .inl (fun _ => 0)))
theorem n53 : h53.1 = 23 := (show h52.1 + 1 = 23 by rw [n52])
theorem s233 {X : pm_X} : pm_V X 3 12 [some (.ref 22)] [.int (nI 120), .ref 22] (0, 0) h52 = pm_V X 3 14 [some (.ref 22)] [.ref 23, .ref 22] (1, 120) h53 := k_narr n52 d3_12 (by omega) (by decide) rfl (by decide +kernel)
def h54 : pm_H := pm_set h53 22 (.inr (9, [.int (-1), .ref 23]))
theorem n54 : h54.1 = 23 := n53
theorem s234 {X : pm_X} : pm_V X 3 14 [some (.ref 22)] [.ref 23, .ref 22] (1, 120) h53 = pm_V X 3 17 [some (.ref 22)] [] (1, 120) h54 := k_put d3_14 rfl (show pm_get h53 22 = some (.inr (9, [.int (-1), .null])) from rfl) (by decide) rfl (by decide +kernel)
theorem s235 {X : pm_X} : pm_V X 3 17 [some (.ref 22)] [] (1, 120) h54 = some (none, h54) := k_ret d3_17 rfl (by decide +kernel)
theorem m10 {X : pm_X} : pm_V0 X 3 [.ref 22] h51 = some (none, h54) := by
  show pm_V X 3 0 [some (.ref 22)] [] (0, 0) h51 = _
  rw [s226, s227, s228, s229, s230, s231, s232, s233, s234, s235]
theorem s236 {X : pm_X} : pm_V X 1 64 [some (.ref 1), some (.int (nI 3))] [.ref 22, .ref 22, .int (nI 3), .ref 15] (21, 750) h51 = pm_V X 1 67 [some (.ref 1), some (.int (nI 3))] [.ref 22, .int (nI 3), .ref 15] (22, 870) h54 := (k_call d1_64 rfl rfl (by decide +kernel)).trans (by rw [m10]; rfl)
def h55 : pm_H := pm_set h54 15 (.inl (.object RX9, 4, .inr (va_up (va_up (va_up (va_up (fun _ => none) 0 (some 16)) 1 (some 18)) 2 (some 20)) 3 (some 22))))
theorem n55 : h55.1 = 23 := n54
theorem s237 {X : pm_X} : pm_V X 1 67 [some (.ref 1), some (.int (nI 3))] [.ref 22, .int (nI 3), .ref 15] (22, 870) h54 = pm_V X 1 68 [some (.ref 1), some (.int (nI 3))] [] (22, 870) h55 := k_aast d1_67 (show pm_get h54 15 = some (.inl (.object RX9, 4, .inr (va_up (va_up (va_up (fun _ => none) 0 (some 16)) 1 (some 18)) 2 (some 20)))) from rfl) (show pm_get h54 22 = some (.inr (9, [.int (-1), .ref 23])) from rfl) rfl (by decide) (by omega) (by omega)
theorem s238 {X : pm_X} : pm_V X 1 68 [some (.ref 1), some (.int (nI 3))] [] (22, 870) h55 = pm_V X 1 71 [some (.ref 1), some (.int (nI 4))] [] (22, 870) h55 := v_iinc (v := nI 1) d1_68 (by decide) (by decide +kernel) rfl (by rw [show nI 3 + nI 1 = nI 4 from by decide]; rfl)
theorem s239 {X : pm_X} : pm_V X 1 71 [some (.ref 1), some (.int (nI 4))] [] (22, 870) h55 = pm_V X 1 50 [some (.ref 1), some (.int (nI 4))] [] (22, 870) h55 := v_goto d1_71 rfl
theorem s240 {X : pm_X} : pm_V X 1 50 [some (.ref 1), some (.int (nI 4))] [] (22, 870) h55 = pm_V X 1 51 [some (.ref 1), some (.int (nI 4))] [.int (nI 4)] (22, 870) h55 := v_n d1_50 rfl
theorem s241 {X : pm_X} : pm_V X 1 51 [some (.ref 1), some (.int (nI 4))] [.int (nI 4)] (22, 870) h55 = pm_V X 1 52 [some (.ref 1), some (.int (nI 4))] [.int (nI 4), .int (nI 4)] (22, 870) h55 := v_iconst d1_51 (by decide)
theorem s242 {X : pm_X} : pm_V X 1 52 [some (.ref 1), some (.int (nI 4))] [.int (nI 4), .int (nI 4)] (22, 870) h55 = pm_V X 1 74 [some (.ref 1), some (.int (nI 4))] [] (22, 870) h55 := (v_ic_ge d1_52 rfl).trans (if_pos (nI_le (by omega) (by omega)))
theorem s243 {X : pm_X} : pm_V X 1 74 [some (.ref 1), some (.int (nI 4))] [] (22, 870) h55 = pm_V X 1 75 [some (.ref 1), some (.int (nI 4))] [.ref 1] (22, 870) h55 := v_n d1_74 rfl
theorem s244 {X : pm_X} : pm_V X 1 75 [some (.ref 1), some (.int (nI 4))] [.ref 1] (22, 870) h55 = pm_V X 1 76 [some (.ref 1), some (.int (nI 4))] [.int (nI 4), .ref 1] (22, 870) h55 := v_iconst d1_75 (by decide)
def h56 : pm_H := pm_new h55 (.inl (.object RX6, 4, .inr (fun _ => none)))
theorem n56 : h56.1 = 24 := (show h55.1 + 1 = 24 by rw [n55])
theorem s245 {X : pm_X} : pm_V X 1 76 [some (.ref 1), some (.int (nI 4))] [.int (nI 4), .ref 1] (22, 870) h55 = pm_V X 1 79 [some (.ref 1), some (.int (nI 4))] [.ref 24, .ref 1] (23, 874) h56 := k_anew n55 d1_76 rfl (by omega) (by decide) rfl (by decide +kernel)
def h57 : pm_H := pm_set h56 1 (.inr (10, [.ref 2, .ref 15, .ref 24, .null, .null, .null, .null, .null, .null, .null, .null, .null, .null, .null, .null, .int 0, .int 0, .long 0, .long 0]))
theorem n57 : h57.1 = 24 := n56
theorem s246 {X : pm_X} : pm_V X 1 79 [some (.ref 1), some (.int (nI 4))] [.ref 24, .ref 1] (23, 874) h56 = pm_V X 1 82 [some (.ref 1), some (.int (nI 4))] [] (23, 874) h57 := k_put d1_79 rfl (show pm_get h56 1 = some (.inr (10, [.ref 2, .ref 15, .null, .null, .null, .null, .null, .null, .null, .null, .null, .null, .null, .null, .null, .int 0, .int 0, .long 0, .long 0])) from rfl) (by decide) rfl (by decide +kernel)
theorem s247 {X : pm_X} : pm_V X 1 82 [some (.ref 1), some (.int (nI 4))] [] (23, 874) h57 = pm_V X 1 83 [some (.ref 1), some (.int (nI 4))] [.int (nI 0)] (23, 874) h57 := v_iconst d1_82 (by decide)
theorem s248 {X : pm_X} : pm_V X 1 83 [some (.ref 1), some (.int (nI 4))] [.int (nI 0)] (23, 874) h57 = pm_V X 1 84 [some (.ref 1), some (.int (nI 0))] [] (23, 874) h57 := v_istore_n d1_83 (by decide +kernel) rfl
theorem s249 {X : pm_X} : pm_V X 1 84 [some (.ref 1), some (.int (nI 0))] [] (23, 874) h57 = pm_V X 1 85 [some (.ref 1), some (.int (nI 0))] [.int (nI 0)] (23, 874) h57 := v_n d1_84 rfl
theorem s250 {X : pm_X} : pm_V X 1 85 [some (.ref 1), some (.int (nI 0))] [.int (nI 0)] (23, 874) h57 = pm_V X 1 86 [some (.ref 1), some (.int (nI 0))] [.int (nI 4), .int (nI 0)] (23, 874) h57 := v_iconst d1_85 (by decide)
theorem s251 {X : pm_X} : pm_V X 1 86 [some (.ref 1), some (.int (nI 0))] [.int (nI 4), .int (nI 0)] (23, 874) h57 = pm_V X 1 89 [some (.ref 1), some (.int (nI 0))] [] (23, 874) h57 := (v_ic_ge d1_86 rfl).trans (if_neg (nI_ge (by omega) (by omega)))
theorem s252 {X : pm_X} : pm_V X 1 89 [some (.ref 1), some (.int (nI 0))] [] (23, 874) h57 = pm_V X 1 90 [some (.ref 1), some (.int (nI 0))] [.ref 1] (23, 874) h57 := v_n d1_89 rfl
theorem s253 {X : pm_X} : pm_V X 1 90 [some (.ref 1), some (.int (nI 0))] [.ref 1] (23, 874) h57 = pm_V X 1 93 [some (.ref 1), some (.int (nI 0))] [.ref 24] (23, 874) h57 := k_get d1_90 rfl (show pm_get h57 1 = some (.inr (10, [.ref 2, .ref 15, .ref 24, .null, .null, .null, .null, .null, .null, .null, .null, .null, .null, .null, .null, .int 0, .int 0, .long 0, .long 0])) from rfl) rfl rfl
theorem s254 {X : pm_X} : pm_V X 1 93 [some (.ref 1), some (.int (nI 0))] [.ref 24] (23, 874) h57 = pm_V X 1 94 [some (.ref 1), some (.int (nI 0))] [.int (nI 0), .ref 24] (23, 874) h57 := v_n d1_93 rfl
def h58 : pm_H := pm_new h57 (.inr (6, [.int 0, .null]))
theorem n58 : h58.1 = 25 := (show h57.1 + 1 = 25 by rw [n57])
theorem s255 {X : pm_X} : pm_V X 1 94 [some (.ref 1), some (.int (nI 0))] [.int (nI 0), .ref 24] (23, 874) h57 = pm_V X 1 97 [some (.ref 1), some (.int (nI 0))] [.ref 25, .int (nI 0), .ref 24] (24, 876) h58 := k_new n57 d1_94 rfl rfl df_6 (by decide +kernel)
theorem s256 {X : pm_X} : pm_V X 1 97 [some (.ref 1), some (.int (nI 0))] [.ref 25, .int (nI 0), .ref 24] (24, 876) h58 = pm_V X 1 98 [some (.ref 1), some (.int (nI 0))] [.ref 25, .ref 25, .int (nI 0), .ref 24] (24, 876) h58 := v_n d1_97 rfl
theorem s257 {X : pm_X} : pm_V X 4 0 [some (.ref 25)] [] (0, 0) h58 = pm_V X 4 1 [some (.ref 25)] [.ref 25] (0, 0) h58 := v_n d4_0 rfl
theorem s258 {X : pm_X} : pm_V X 4 1 [some (.ref 25)] [.ref 25] (0, 0) h58 = pm_V X 4 4 [some (.ref 25)] [] (0, 0) h58 := k_obj d4_1 rfl (by decide +kernel)
theorem s259 {X : pm_X} : pm_V X 4 4 [some (.ref 25)] [] (0, 0) h58 = pm_V X 4 5 [some (.ref 25)] [.ref 25] (0, 0) h58 := v_n d4_4 rfl
theorem s260 {X : pm_X} : pm_V X 4 5 [some (.ref 25)] [.ref 25] (0, 0) h58 = pm_V X 4 6 [some (.ref 25)] [.int (-1), .ref 25] (0, 0) h58 := v_iconst d4_5 (by decide)
def h59 : pm_H := pm_set h58 25 (.inr (6, [.int (-1), .null]))
theorem n59 : h59.1 = 25 := n58
theorem s261 {X : pm_X} : pm_V X 4 6 [some (.ref 25)] [.int (-1), .ref 25] (0, 0) h58 = pm_V X 4 9 [some (.ref 25)] [] (0, 0) h59 := k_put d4_6 rfl (show pm_get h58 25 = some (.inr (6, [.int 0, .null])) from rfl) (by decide) rfl (by decide +kernel)
theorem s262 {X : pm_X} : pm_V X 4 9 [some (.ref 25)] [] (0, 0) h59 = pm_V X 4 10 [some (.ref 25)] [.ref 25] (0, 0) h59 := v_n d4_9 rfl
theorem s263 {X : pm_X} : pm_V X 4 10 [some (.ref 25)] [.ref 25] (0, 0) h59 = pm_V X 4 11 [some (.ref 25)] [.int (nI 4), .ref 25] (0, 0) h59 := v_iconst d4_10 (by decide)
def h60 : pm_H := pm_new h59 (.inl (.int, 4, .inl (fun _ => 0)))
theorem n60 : h60.1 = 26 := (show h59.1 + 1 = 26 by rw [n59])
theorem s264 {X : pm_X} : pm_V X 4 11 [some (.ref 25)] [.int (nI 4), .ref 25] (0, 0) h59 = pm_V X 4 13 [some (.ref 25)] [.ref 26, .ref 25] (1, 4) h60 := k_narr n59 d4_11 (by omega) (by decide) rfl (by decide +kernel)
def h61 : pm_H := pm_set h60 25 (.inr (6, [.int (-1), .ref 26]))
theorem n61 : h61.1 = 26 := n60
set_option maxRecDepth 8000 in
theorem s265 {X : pm_X} : pm_V X 4 13 [some (.ref 25)] [.ref 26, .ref 25] (1, 4) h60 = pm_V X 4 16 [some (.ref 25)] [] (1, 4) h61 := k_put d4_13 rfl (show pm_get h60 25 = some (.inr (6, [.int (-1), .null])) from rfl) (by decide) rfl (by decide +kernel)
theorem s266 {X : pm_X} : pm_V X 4 16 [some (.ref 25)] [] (1, 4) h61 = some (none, h61) := k_ret d4_16 rfl (by decide +kernel)
theorem m11 {X : pm_X} : pm_V0 X 4 [.ref 25] h58 = some (none, h61) := by
  show pm_V X 4 0 [some (.ref 25)] [] (0, 0) h58 = _
  rw [s257, s258, s259, s260, s261, s262, s263, s264, s265, s266]
theorem s267 {X : pm_X} : pm_V X 1 98 [some (.ref 1), some (.int (nI 0))] [.ref 25, .ref 25, .int (nI 0), .ref 24] (24, 876) h58 = pm_V X 1 101 [some (.ref 1), some (.int (nI 0))] [.ref 25, .int (nI 0), .ref 24] (25, 880) h61 := (k_call d1_98 rfl rfl (by decide +kernel)).trans (by rw [m11]; rfl)
def h62 : pm_H := pm_set h61 24 (.inl (.object RX6, 4, .inr (va_up (fun _ => none) 0 (some 25))))
theorem n62 : h62.1 = 26 := n61
set_option maxRecDepth 8000 in
theorem s268 {X : pm_X} : pm_V X 1 101 [some (.ref 1), some (.int (nI 0))] [.ref 25, .int (nI 0), .ref 24] (25, 880) h61 = pm_V X 1 102 [some (.ref 1), some (.int (nI 0))] [] (25, 880) h62 := k_aast d1_101 (show pm_get h61 24 = some (.inl (.object RX6, 4, .inr (fun _ => none))) from rfl) (show pm_get h61 25 = some (.inr (6, [.int (-1), .ref 26])) from rfl) rfl (by decide) (by omega) (by omega)
theorem s269 {X : pm_X} : pm_V X 1 102 [some (.ref 1), some (.int (nI 0))] [] (25, 880) h62 = pm_V X 1 105 [some (.ref 1), some (.int (nI 1))] [] (25, 880) h62 := v_iinc (v := nI 1) d1_102 (by decide) (by decide +kernel) rfl (by rw [show nI 0 + nI 1 = nI 1 from by decide]; rfl)
theorem s270 {X : pm_X} : pm_V X 1 105 [some (.ref 1), some (.int (nI 1))] [] (25, 880) h62 = pm_V X 1 84 [some (.ref 1), some (.int (nI 1))] [] (25, 880) h62 := v_goto d1_105 rfl
theorem s271 {X : pm_X} : pm_V X 1 84 [some (.ref 1), some (.int (nI 1))] [] (25, 880) h62 = pm_V X 1 85 [some (.ref 1), some (.int (nI 1))] [.int (nI 1)] (25, 880) h62 := v_n d1_84 rfl
theorem s272 {X : pm_X} : pm_V X 1 85 [some (.ref 1), some (.int (nI 1))] [.int (nI 1)] (25, 880) h62 = pm_V X 1 86 [some (.ref 1), some (.int (nI 1))] [.int (nI 4), .int (nI 1)] (25, 880) h62 := v_iconst d1_85 (by decide)
theorem s273 {X : pm_X} : pm_V X 1 86 [some (.ref 1), some (.int (nI 1))] [.int (nI 4), .int (nI 1)] (25, 880) h62 = pm_V X 1 89 [some (.ref 1), some (.int (nI 1))] [] (25, 880) h62 := (v_ic_ge d1_86 rfl).trans (if_neg (nI_ge (by omega) (by omega)))
theorem s274 {X : pm_X} : pm_V X 1 89 [some (.ref 1), some (.int (nI 1))] [] (25, 880) h62 = pm_V X 1 90 [some (.ref 1), some (.int (nI 1))] [.ref 1] (25, 880) h62 := v_n d1_89 rfl
set_option maxRecDepth 8000 in
theorem s275 {X : pm_X} : pm_V X 1 90 [some (.ref 1), some (.int (nI 1))] [.ref 1] (25, 880) h62 = pm_V X 1 93 [some (.ref 1), some (.int (nI 1))] [.ref 24] (25, 880) h62 := k_get d1_90 rfl (show pm_get h62 1 = some (.inr (10, [.ref 2, .ref 15, .ref 24, .null, .null, .null, .null, .null, .null, .null, .null, .null, .null, .null, .null, .int 0, .int 0, .long 0, .long 0])) from rfl) rfl rfl
theorem s276 {X : pm_X} : pm_V X 1 93 [some (.ref 1), some (.int (nI 1))] [.ref 24] (25, 880) h62 = pm_V X 1 94 [some (.ref 1), some (.int (nI 1))] [.int (nI 1), .ref 24] (25, 880) h62 := v_n d1_93 rfl
def h63 : pm_H := pm_new h62 (.inr (6, [.int 0, .null]))
theorem n63 : h63.1 = 27 := (show h62.1 + 1 = 27 by rw [n62])
theorem s277 {X : pm_X} : pm_V X 1 94 [some (.ref 1), some (.int (nI 1))] [.int (nI 1), .ref 24] (25, 880) h62 = pm_V X 1 97 [some (.ref 1), some (.int (nI 1))] [.ref 27, .int (nI 1), .ref 24] (26, 882) h63 := k_new n62 d1_94 rfl rfl df_6 (by decide +kernel)
theorem s278 {X : pm_X} : pm_V X 1 97 [some (.ref 1), some (.int (nI 1))] [.ref 27, .int (nI 1), .ref 24] (26, 882) h63 = pm_V X 1 98 [some (.ref 1), some (.int (nI 1))] [.ref 27, .ref 27, .int (nI 1), .ref 24] (26, 882) h63 := v_n d1_97 rfl
theorem s279 {X : pm_X} : pm_V X 4 0 [some (.ref 27)] [] (0, 0) h63 = pm_V X 4 1 [some (.ref 27)] [.ref 27] (0, 0) h63 := v_n d4_0 rfl
theorem s280 {X : pm_X} : pm_V X 4 1 [some (.ref 27)] [.ref 27] (0, 0) h63 = pm_V X 4 4 [some (.ref 27)] [] (0, 0) h63 := k_obj d4_1 rfl (by decide +kernel)
theorem s281 {X : pm_X} : pm_V X 4 4 [some (.ref 27)] [] (0, 0) h63 = pm_V X 4 5 [some (.ref 27)] [.ref 27] (0, 0) h63 := v_n d4_4 rfl
theorem s282 {X : pm_X} : pm_V X 4 5 [some (.ref 27)] [.ref 27] (0, 0) h63 = pm_V X 4 6 [some (.ref 27)] [.int (-1), .ref 27] (0, 0) h63 := v_iconst d4_5 (by decide)
def h64 : pm_H := pm_set h63 27 (.inr (6, [.int (-1), .null]))
theorem n64 : h64.1 = 27 := n63
set_option maxRecDepth 8000 in
theorem s283 {X : pm_X} : pm_V X 4 6 [some (.ref 27)] [.int (-1), .ref 27] (0, 0) h63 = pm_V X 4 9 [some (.ref 27)] [] (0, 0) h64 := k_put d4_6 rfl (show pm_get h63 27 = some (.inr (6, [.int 0, .null])) from rfl) (by decide) rfl (by decide +kernel)
theorem s284 {X : pm_X} : pm_V X 4 9 [some (.ref 27)] [] (0, 0) h64 = pm_V X 4 10 [some (.ref 27)] [.ref 27] (0, 0) h64 := v_n d4_9 rfl
theorem s285 {X : pm_X} : pm_V X 4 10 [some (.ref 27)] [.ref 27] (0, 0) h64 = pm_V X 4 11 [some (.ref 27)] [.int (nI 4), .ref 27] (0, 0) h64 := v_iconst d4_10 (by decide)
def h65 : pm_H := pm_new h64 (.inl (.int, 4, .inl (fun _ => 0)))
theorem n65 : h65.1 = 28 := (show h64.1 + 1 = 28 by rw [n64])
theorem s286 {X : pm_X} : pm_V X 4 11 [some (.ref 27)] [.int (nI 4), .ref 27] (0, 0) h64 = pm_V X 4 13 [some (.ref 27)] [.ref 28, .ref 27] (1, 4) h65 := k_narr n64 d4_11 (by omega) (by decide) rfl (by decide +kernel)
def h66 : pm_H := pm_set h65 27 (.inr (6, [.int (-1), .ref 28]))
theorem n66 : h66.1 = 28 := n65
set_option maxRecDepth 8000 in
theorem s287 {X : pm_X} : pm_V X 4 13 [some (.ref 27)] [.ref 28, .ref 27] (1, 4) h65 = pm_V X 4 16 [some (.ref 27)] [] (1, 4) h66 := k_put d4_13 rfl (show pm_get h65 27 = some (.inr (6, [.int (-1), .null])) from rfl) (by decide) rfl (by decide +kernel)
theorem s288 {X : pm_X} : pm_V X 4 16 [some (.ref 27)] [] (1, 4) h66 = some (none, h66) := k_ret d4_16 rfl (by decide +kernel)
theorem m12 {X : pm_X} : pm_V0 X 4 [.ref 27] h63 = some (none, h66) := by
  show pm_V X 4 0 [some (.ref 27)] [] (0, 0) h63 = _
  rw [s279, s280, s281, s282, s283, s284, s285, s286, s287, s288]
theorem s289 {X : pm_X} : pm_V X 1 98 [some (.ref 1), some (.int (nI 1))] [.ref 27, .ref 27, .int (nI 1), .ref 24] (26, 882) h63 = pm_V X 1 101 [some (.ref 1), some (.int (nI 1))] [.ref 27, .int (nI 1), .ref 24] (27, 886) h66 := (k_call d1_98 rfl rfl (by decide +kernel)).trans (by rw [m12]; rfl)
def h67 : pm_H := pm_set h66 24 (.inl (.object RX6, 4, .inr (va_up (va_up (fun _ => none) 0 (some 25)) 1 (some 27))))
theorem n67 : h67.1 = 28 := n66
set_option maxRecDepth 8000 in
theorem s290 {X : pm_X} : pm_V X 1 101 [some (.ref 1), some (.int (nI 1))] [.ref 27, .int (nI 1), .ref 24] (27, 886) h66 = pm_V X 1 102 [some (.ref 1), some (.int (nI 1))] [] (27, 886) h67 := k_aast d1_101 (show pm_get h66 24 = some (.inl (.object RX6, 4, .inr (va_up (fun _ => none) 0 (some 25)))) from rfl) (show pm_get h66 27 = some (.inr (6, [.int (-1), .ref 28])) from rfl) rfl (by decide) (by omega) (by omega)
theorem s291 {X : pm_X} : pm_V X 1 102 [some (.ref 1), some (.int (nI 1))] [] (27, 886) h67 = pm_V X 1 105 [some (.ref 1), some (.int (nI 2))] [] (27, 886) h67 := v_iinc (v := nI 1) d1_102 (by decide) (by decide +kernel) rfl (by rw [show nI 1 + nI 1 = nI 2 from by decide]; rfl)
theorem s292 {X : pm_X} : pm_V X 1 105 [some (.ref 1), some (.int (nI 2))] [] (27, 886) h67 = pm_V X 1 84 [some (.ref 1), some (.int (nI 2))] [] (27, 886) h67 := v_goto d1_105 rfl
theorem s293 {X : pm_X} : pm_V X 1 84 [some (.ref 1), some (.int (nI 2))] [] (27, 886) h67 = pm_V X 1 85 [some (.ref 1), some (.int (nI 2))] [.int (nI 2)] (27, 886) h67 := v_n d1_84 rfl
theorem s294 {X : pm_X} : pm_V X 1 85 [some (.ref 1), some (.int (nI 2))] [.int (nI 2)] (27, 886) h67 = pm_V X 1 86 [some (.ref 1), some (.int (nI 2))] [.int (nI 4), .int (nI 2)] (27, 886) h67 := v_iconst d1_85 (by decide)
theorem s295 {X : pm_X} : pm_V X 1 86 [some (.ref 1), some (.int (nI 2))] [.int (nI 4), .int (nI 2)] (27, 886) h67 = pm_V X 1 89 [some (.ref 1), some (.int (nI 2))] [] (27, 886) h67 := (v_ic_ge d1_86 rfl).trans (if_neg (nI_ge (by omega) (by omega)))
theorem s296 {X : pm_X} : pm_V X 1 89 [some (.ref 1), some (.int (nI 2))] [] (27, 886) h67 = pm_V X 1 90 [some (.ref 1), some (.int (nI 2))] [.ref 1] (27, 886) h67 := v_n d1_89 rfl
set_option maxRecDepth 8000 in
theorem s297 {X : pm_X} : pm_V X 1 90 [some (.ref 1), some (.int (nI 2))] [.ref 1] (27, 886) h67 = pm_V X 1 93 [some (.ref 1), some (.int (nI 2))] [.ref 24] (27, 886) h67 := k_get d1_90 rfl (show pm_get h67 1 = some (.inr (10, [.ref 2, .ref 15, .ref 24, .null, .null, .null, .null, .null, .null, .null, .null, .null, .null, .null, .null, .int 0, .int 0, .long 0, .long 0])) from rfl) rfl rfl
theorem s298 {X : pm_X} : pm_V X 1 93 [some (.ref 1), some (.int (nI 2))] [.ref 24] (27, 886) h67 = pm_V X 1 94 [some (.ref 1), some (.int (nI 2))] [.int (nI 2), .ref 24] (27, 886) h67 := v_n d1_93 rfl
def h68 : pm_H := pm_new h67 (.inr (6, [.int 0, .null]))
theorem n68 : h68.1 = 29 := (show h67.1 + 1 = 29 by rw [n67])
theorem s299 {X : pm_X} : pm_V X 1 94 [some (.ref 1), some (.int (nI 2))] [.int (nI 2), .ref 24] (27, 886) h67 = pm_V X 1 97 [some (.ref 1), some (.int (nI 2))] [.ref 29, .int (nI 2), .ref 24] (28, 888) h68 := k_new n67 d1_94 rfl rfl df_6 (by decide +kernel)
theorem s300 {X : pm_X} : pm_V X 1 97 [some (.ref 1), some (.int (nI 2))] [.ref 29, .int (nI 2), .ref 24] (28, 888) h68 = pm_V X 1 98 [some (.ref 1), some (.int (nI 2))] [.ref 29, .ref 29, .int (nI 2), .ref 24] (28, 888) h68 := v_n d1_97 rfl
theorem s301 {X : pm_X} : pm_V X 4 0 [some (.ref 29)] [] (0, 0) h68 = pm_V X 4 1 [some (.ref 29)] [.ref 29] (0, 0) h68 := v_n d4_0 rfl
theorem s302 {X : pm_X} : pm_V X 4 1 [some (.ref 29)] [.ref 29] (0, 0) h68 = pm_V X 4 4 [some (.ref 29)] [] (0, 0) h68 := k_obj d4_1 rfl (by decide +kernel)
theorem s303 {X : pm_X} : pm_V X 4 4 [some (.ref 29)] [] (0, 0) h68 = pm_V X 4 5 [some (.ref 29)] [.ref 29] (0, 0) h68 := v_n d4_4 rfl
theorem s304 {X : pm_X} : pm_V X 4 5 [some (.ref 29)] [.ref 29] (0, 0) h68 = pm_V X 4 6 [some (.ref 29)] [.int (-1), .ref 29] (0, 0) h68 := v_iconst d4_5 (by decide)
def h69 : pm_H := pm_set h68 29 (.inr (6, [.int (-1), .null]))
theorem n69 : h69.1 = 29 := n68
set_option maxRecDepth 8000 in
theorem s305 {X : pm_X} : pm_V X 4 6 [some (.ref 29)] [.int (-1), .ref 29] (0, 0) h68 = pm_V X 4 9 [some (.ref 29)] [] (0, 0) h69 := k_put d4_6 rfl (show pm_get h68 29 = some (.inr (6, [.int 0, .null])) from rfl) (by decide) rfl (by decide +kernel)
theorem s306 {X : pm_X} : pm_V X 4 9 [some (.ref 29)] [] (0, 0) h69 = pm_V X 4 10 [some (.ref 29)] [.ref 29] (0, 0) h69 := v_n d4_9 rfl
theorem s307 {X : pm_X} : pm_V X 4 10 [some (.ref 29)] [.ref 29] (0, 0) h69 = pm_V X 4 11 [some (.ref 29)] [.int (nI 4), .ref 29] (0, 0) h69 := v_iconst d4_10 (by decide)
def h70 : pm_H := pm_new h69 (.inl (.int, 4, .inl (fun _ => 0)))
theorem n70 : h70.1 = 30 := (show h69.1 + 1 = 30 by rw [n69])
theorem s308 {X : pm_X} : pm_V X 4 11 [some (.ref 29)] [.int (nI 4), .ref 29] (0, 0) h69 = pm_V X 4 13 [some (.ref 29)] [.ref 30, .ref 29] (1, 4) h70 := k_narr n69 d4_11 (by omega) (by decide) rfl (by decide +kernel)
def h71 : pm_H := pm_set h70 29 (.inr (6, [.int (-1), .ref 30]))
theorem n71 : h71.1 = 30 := n70
set_option maxRecDepth 8000 in
theorem s309 {X : pm_X} : pm_V X 4 13 [some (.ref 29)] [.ref 30, .ref 29] (1, 4) h70 = pm_V X 4 16 [some (.ref 29)] [] (1, 4) h71 := k_put d4_13 rfl (show pm_get h70 29 = some (.inr (6, [.int (-1), .null])) from rfl) (by decide) rfl (by decide +kernel)
theorem s310 {X : pm_X} : pm_V X 4 16 [some (.ref 29)] [] (1, 4) h71 = some (none, h71) := k_ret d4_16 rfl (by decide +kernel)
theorem m13 {X : pm_X} : pm_V0 X 4 [.ref 29] h68 = some (none, h71) := by
  show pm_V X 4 0 [some (.ref 29)] [] (0, 0) h68 = _
  rw [s301, s302, s303, s304, s305, s306, s307, s308, s309, s310]
theorem s311 {X : pm_X} : pm_V X 1 98 [some (.ref 1), some (.int (nI 2))] [.ref 29, .ref 29, .int (nI 2), .ref 24] (28, 888) h68 = pm_V X 1 101 [some (.ref 1), some (.int (nI 2))] [.ref 29, .int (nI 2), .ref 24] (29, 892) h71 := (k_call d1_98 rfl rfl (by decide +kernel)).trans (by rw [m13]; rfl)
def h72 : pm_H := pm_set h71 24 (.inl (.object RX6, 4, .inr (va_up (va_up (va_up (fun _ => none) 0 (some 25)) 1 (some 27)) 2 (some 29))))
theorem n72 : h72.1 = 30 := n71
set_option maxRecDepth 8000 in
theorem s312 {X : pm_X} : pm_V X 1 101 [some (.ref 1), some (.int (nI 2))] [.ref 29, .int (nI 2), .ref 24] (29, 892) h71 = pm_V X 1 102 [some (.ref 1), some (.int (nI 2))] [] (29, 892) h72 := k_aast d1_101 (show pm_get h71 24 = some (.inl (.object RX6, 4, .inr (va_up (va_up (fun _ => none) 0 (some 25)) 1 (some 27)))) from rfl) (show pm_get h71 29 = some (.inr (6, [.int (-1), .ref 30])) from rfl) rfl (by decide) (by omega) (by omega)
theorem s313 {X : pm_X} : pm_V X 1 102 [some (.ref 1), some (.int (nI 2))] [] (29, 892) h72 = pm_V X 1 105 [some (.ref 1), some (.int (nI 3))] [] (29, 892) h72 := v_iinc (v := nI 1) d1_102 (by decide) (by decide +kernel) rfl (by rw [show nI 2 + nI 1 = nI 3 from by decide]; rfl)
theorem s314 {X : pm_X} : pm_V X 1 105 [some (.ref 1), some (.int (nI 3))] [] (29, 892) h72 = pm_V X 1 84 [some (.ref 1), some (.int (nI 3))] [] (29, 892) h72 := v_goto d1_105 rfl
theorem s315 {X : pm_X} : pm_V X 1 84 [some (.ref 1), some (.int (nI 3))] [] (29, 892) h72 = pm_V X 1 85 [some (.ref 1), some (.int (nI 3))] [.int (nI 3)] (29, 892) h72 := v_n d1_84 rfl
theorem s316 {X : pm_X} : pm_V X 1 85 [some (.ref 1), some (.int (nI 3))] [.int (nI 3)] (29, 892) h72 = pm_V X 1 86 [some (.ref 1), some (.int (nI 3))] [.int (nI 4), .int (nI 3)] (29, 892) h72 := v_iconst d1_85 (by decide)
theorem s317 {X : pm_X} : pm_V X 1 86 [some (.ref 1), some (.int (nI 3))] [.int (nI 4), .int (nI 3)] (29, 892) h72 = pm_V X 1 89 [some (.ref 1), some (.int (nI 3))] [] (29, 892) h72 := (v_ic_ge d1_86 rfl).trans (if_neg (nI_ge (by omega) (by omega)))
theorem s318 {X : pm_X} : pm_V X 1 89 [some (.ref 1), some (.int (nI 3))] [] (29, 892) h72 = pm_V X 1 90 [some (.ref 1), some (.int (nI 3))] [.ref 1] (29, 892) h72 := v_n d1_89 rfl
set_option maxRecDepth 8000 in
theorem s319 {X : pm_X} : pm_V X 1 90 [some (.ref 1), some (.int (nI 3))] [.ref 1] (29, 892) h72 = pm_V X 1 93 [some (.ref 1), some (.int (nI 3))] [.ref 24] (29, 892) h72 := k_get d1_90 rfl (show pm_get h72 1 = some (.inr (10, [.ref 2, .ref 15, .ref 24, .null, .null, .null, .null, .null, .null, .null, .null, .null, .null, .null, .null, .int 0, .int 0, .long 0, .long 0])) from rfl) rfl rfl
theorem s320 {X : pm_X} : pm_V X 1 93 [some (.ref 1), some (.int (nI 3))] [.ref 24] (29, 892) h72 = pm_V X 1 94 [some (.ref 1), some (.int (nI 3))] [.int (nI 3), .ref 24] (29, 892) h72 := v_n d1_93 rfl
def h73 : pm_H := pm_new h72 (.inr (6, [.int 0, .null]))
theorem n73 : h73.1 = 31 := (show h72.1 + 1 = 31 by rw [n72])
theorem s321 {X : pm_X} : pm_V X 1 94 [some (.ref 1), some (.int (nI 3))] [.int (nI 3), .ref 24] (29, 892) h72 = pm_V X 1 97 [some (.ref 1), some (.int (nI 3))] [.ref 31, .int (nI 3), .ref 24] (30, 894) h73 := k_new n72 d1_94 rfl rfl df_6 (by decide +kernel)
theorem s322 {X : pm_X} : pm_V X 1 97 [some (.ref 1), some (.int (nI 3))] [.ref 31, .int (nI 3), .ref 24] (30, 894) h73 = pm_V X 1 98 [some (.ref 1), some (.int (nI 3))] [.ref 31, .ref 31, .int (nI 3), .ref 24] (30, 894) h73 := v_n d1_97 rfl
theorem s323 {X : pm_X} : pm_V X 4 0 [some (.ref 31)] [] (0, 0) h73 = pm_V X 4 1 [some (.ref 31)] [.ref 31] (0, 0) h73 := v_n d4_0 rfl
theorem s324 {X : pm_X} : pm_V X 4 1 [some (.ref 31)] [.ref 31] (0, 0) h73 = pm_V X 4 4 [some (.ref 31)] [] (0, 0) h73 := k_obj d4_1 rfl (by decide +kernel)
theorem s325 {X : pm_X} : pm_V X 4 4 [some (.ref 31)] [] (0, 0) h73 = pm_V X 4 5 [some (.ref 31)] [.ref 31] (0, 0) h73 := v_n d4_4 rfl
theorem s326 {X : pm_X} : pm_V X 4 5 [some (.ref 31)] [.ref 31] (0, 0) h73 = pm_V X 4 6 [some (.ref 31)] [.int (-1), .ref 31] (0, 0) h73 := v_iconst d4_5 (by decide)
def h74 : pm_H := pm_set h73 31 (.inr (6, [.int (-1), .null]))
theorem n74 : h74.1 = 31 := n73
set_option maxRecDepth 8000 in
theorem s327 {X : pm_X} : pm_V X 4 6 [some (.ref 31)] [.int (-1), .ref 31] (0, 0) h73 = pm_V X 4 9 [some (.ref 31)] [] (0, 0) h74 := k_put d4_6 rfl (show pm_get h73 31 = some (.inr (6, [.int 0, .null])) from rfl) (by decide) rfl (by decide +kernel)
theorem s328 {X : pm_X} : pm_V X 4 9 [some (.ref 31)] [] (0, 0) h74 = pm_V X 4 10 [some (.ref 31)] [.ref 31] (0, 0) h74 := v_n d4_9 rfl
theorem s329 {X : pm_X} : pm_V X 4 10 [some (.ref 31)] [.ref 31] (0, 0) h74 = pm_V X 4 11 [some (.ref 31)] [.int (nI 4), .ref 31] (0, 0) h74 := v_iconst d4_10 (by decide)
def h75 : pm_H := pm_new h74 (.inl (.int, 4, .inl (fun _ => 0)))
theorem n75 : h75.1 = 32 := (show h74.1 + 1 = 32 by rw [n74])
theorem s330 {X : pm_X} : pm_V X 4 11 [some (.ref 31)] [.int (nI 4), .ref 31] (0, 0) h74 = pm_V X 4 13 [some (.ref 31)] [.ref 32, .ref 31] (1, 4) h75 := k_narr n74 d4_11 (by omega) (by decide) rfl (by decide +kernel)
