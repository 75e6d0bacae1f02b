/-! rules for heaps under way: the constructors -/
section PMK
variable {X : pm_X} {j pc : Nat} {L : pm_L} {S : List Value} {u : Nat × Nat} {H : pm_H}
theorem k_new {i ci N M : Nat} {q : Nat} {fs : List Value} (hM : H.1 = M) (hd : decode (pm_c j) pc = .ok (.new i, 3)) (hf : pm_fnd pm_kl (pm_oc j) i = some (ci, q)) (hN : (pm_cl.getD ci ("", TX0, 0)).2.2 = N) (hfs : (List.range N).map (fun k => defaultValue ((pm_ty.getD ci (fun _ => .int)) k)) = fs) (hu : u.1 + 1 ≤ pm_mc j ∧ u.2 + N ≤ pm_ms j) : pm_V X j pc L S u H = pm_V X j (pc + 3) L (.ref (M + 1) :: S) (u.1 + 1, u.2 + N) (pm_new H (.inr (ci, fs))) := by
  subst hM
  subst hN
  subst hfs
  refine v_n hd ?_
  unfold pm_ins
  simp only [hf, if_true]
  rw [if_pos hu]
  rfl
theorem k_narr {t : ArrayType} {n M : Nat} {ty : FieldType} (hM : H.1 = M) (hd : decode (pm_c j) pc = .ok (.newarray t, 2)) (hn : n ≤ 1000) (ht : t = .int ∨ t = .byte ∨ t = .boolean) (hty : newarray.typeOf t = ty) (hu : u.1 + 1 ≤ pm_mc j ∧ u.2 + n ≤ pm_ms j) : pm_V X j pc L (.int (nI n) :: S) u H = pm_V X j (pc + 2) L (.ref (M + 1) :: S) (u.1 + 1, u.2 + n) (pm_new H (.inl (ty, n, .inl (fun _ => 0)))) := by
  subst hM
  subst hty
  refine v_n hd ?_
  have h1 : (0 : Int32) ≤ nI n := nI_pos' (by omega)
  have h2 : nI n ≤ 1000 := nI_le (b := 1000) hn (by omega)
  unfold pm_ins
  simp only [pm_i1, nI_clamp (show n < 2 ^ 31 by omega)]
  rw [if_pos trivial, if_pos ⟨h1, h2, ht, hu⟩]
  rfl
theorem k_anew {i ci n M q : Nat} {C : String} (hM : H.1 = M) (hd : decode (pm_c j) pc = .ok (.anewarray i, 3)) (hf : pm_fnd pm_kl (pm_oc j) i = some (ci, q)) (hn : n ≤ 1000) (hc : ci = 5 ∨ ci = 9 ∨ ci = 6 ∨ ci = 2 ∨ ci = 4) (hC : (pm_cl.getD ci ("", TX0, 0)).1 = C) (hu : u.1 + 1 ≤ pm_mc j ∧ u.2 + n ≤ pm_ms j) : pm_V X j pc L (.int (nI n) :: S) u H = pm_V X j (pc + 3) L (.ref (M + 1) :: S) (u.1 + 1, u.2 + n) (pm_new H (.inl (.object C, n, .inr (fun _ => none)))) := by
  subst hM
  subst hC
  refine v_n hd ?_
  have h1 : (0 : Int32) ≤ nI n := nI_pos' (by omega)
  have h2 : nI n ≤ 1000 := nI_le (b := 1000) hn (by omega)
  unfold pm_ins
  simp only [pm_i1, hf, nI_clamp (show n < 2 ^ 31 by omega)]
  rw [if_pos trivial, if_pos ⟨h1, h2, hc, hu⟩]
  rfl
theorem k_get {i k ci s q : Nat} {fs : List Value} {v : Value} (hd : decode (pm_c j) pc = .ok (.getfield i, 3)) (hf : pm_fnd pm_fl (pm_oc j) i = some (ci, s, q)) (hg : pm_get H k = some (.inr (ci, fs))) (hs : fs[s]? = some v) (hfit : pm_fit ((pm_ty.getD ci (fun _ => .int)) s) v = true) : pm_V X j pc L (.ref k :: S) u H = pm_V X j (pc + 3) L (v :: S) u H := by
  refine v_n hd ?_
  unfold pm_ins
  simp only [pm_r1, hf, pm_ob, hg, hs, hfit, if_true]
  rfl
theorem k_put {i k ci s q : Nat} {fs : List Value} {v : Value} (hd : decode (pm_c j) pc = .ok (.putfield i, 3)) (hf : pm_fnd pm_fl (pm_oc j) i = some (ci, s, q)) (hg : pm_get H k = some (.inr (ci, fs))) (hs : s < fs.length) (hfit : pm_fit ((pm_ty.getD ci (fun _ => .int)) s) v = true) (hfin : ((pm_cl.getD ci (RX0, TX0, 3)).2.1 s).2.2.2 = true → (pm_y j).name = "<init>" ∧ ((pm_cl.getD ci (RX0, TX0, 3)).2.1 s).1 = (pm_y j).cls) : pm_V X j pc L (v :: .ref k :: S) u H = pm_V X j (pc + 3) L S u (pm_set H k (.inr (ci, fs.set s v))) := by
  refine v_n hd ?_
  unfold pm_ins
  simp only [hf, pm_ob, hg]
  rw [if_pos trivial, if_pos ⟨trivial, hs, hfit, hfin⟩]
  rfl
theorem k_aast {k v i ci N : Nat} {C : String} {g : Nat → Option Nat} {fs : List Value} (hd : decode (pm_c j) pc = .ok (.aastore, 1)) (hk : pm_get H k = some (.inl (.object C, N, .inr g))) (hv : pm_get H v = some (.inr (ci, fs))) (hC : C = (pm_cl.getD ci ("", TX0, 0)).1) (hc : ci < 12) (hi : i < N) (hN : N < 1000) : pm_V X j pc L (.ref v :: .int (nI i) :: .ref k :: S) u H = pm_V X j (pc + 1) L S u (pm_set H k (.inl (.object C, N, .inr (va_up g i (some v))))) := by
  refine v_n hd ?_
  have h1 : (0 : Int32) ≤ nI i := nI_pos' (by omega)
  unfold pm_ins
  simp only [pm_aq, pm_ob, hk, hv, nI_clamp (show i < 2 ^ 31 by omega)]
  rw [if_pos trivial, if_pos ⟨hC, hc, h1, hi⟩]
  rfl
theorem k_iast {k i N : Nat} {x : Int32} {g : Nat → Int32} (hd : decode (pm_c j) pc = .ok (.iastore, 1)) (hk0 : 0 < k) (hk : pm_get H k = some (.inl (.int, N, .inl g))) (hi : i < N) (hN : N < 1000) : pm_V X j pc L (.int x :: .int (nI i) :: .ref k :: S) u H = pm_V X j (pc + 1) L S u (pm_set H k (.inl (.int, N, .inl (upd g i x)))) := by
  refine v_n hd ?_
  have h1 : (0 : Int32) ≤ nI i := nI_pos' (by omega)
  unfold pm_ins
  simp only [pm_iir, pm_ai, hk, nI_clamp (show i < 2 ^ 31 by omega)]
  rw [if_pos trivial, if_pos ⟨trivial, h1, hi⟩]
  rfl
theorem k_obj {i k : Nat} {q : Nat × Nat × Nat × Nat × Nat × Nat} (hd : decode (pm_c j) pc = .ok (.invokespecial i, 3)) (hf : pm_fnd pm_mth (pm_oc j) i = some (4, q)) (hc : 1 ≤ pm_fr j ∧ pm_cat S ≤ 8 ∧ 20 ≤ pm_lo j) : pm_V X j pc L (.ref k :: S) u H = pm_V X j (pc + 3) L S u H := by
  refine v_n hd ?_
  unfold pm_ins
  simp only [hf, pm_r1]
  rw [if_pos trivial, if_pos hc]
  rfl
theorem k_call {i k j' : Nat} {q : Nat × Nat × Nat × Nat × Nat} (hd : decode (pm_c j) pc = .ok (.invokespecial i, 3)) (hf : pm_fnd pm_mth (pm_oc j) i = some (2, j', q)) (hnp : pm_np j' = 0) (hc : pm_fr j' + 1 ≤ pm_fr j ∧ 8 + (pm_ml j' + 11) + pm_lo j' ≤ pm_lo j ∧ u.1 + pm_mc j' ≤ pm_mc j ∧ u.2 + pm_ms j' ≤ pm_ms j ∧ pm_cat S ≤ 8 ∧ 1 ≤ pm_ml j') : pm_V X j pc L (.ref k :: S) u H = pm_bd X j (pc + 3) L S (u.1 + pm_mc j', u.2 + pm_ms j') (pm_V0 X j' [.ref k] H) := by
  have e : pm_ins X j pc L (.ref k :: S) u H (.invokespecial i) 3 = some (.inr (.inl (j', [.ref k], S))) := by
    unfold pm_ins
    simp only [hf, pm_r1, hnp]
    rw [if_pos trivial, if_pos trivial, if_pos hc]
  rw [pm_V_dec hd, e]
theorem k_ret (hd : decode (pm_c j) pc = .ok (.return_, 1)) (hr : pm_rt j = none) (hu : u.1 ≤ pm_mc j ∧ u.2 ≤ pm_ms j) : pm_V X j pc L [] u H = some (none, H) := by
  refine v_r hd ?_
  simp [pm_ins, hr, hu]
end PMK
theorem df_0 : (List.range 3).map (fun k => defaultValue ((pm_ty.getD 0 (fun _ => .int)) k)) = [.int 0, .null, .null] := rfl
theorem df_1 : (List.range 3).map (fun k => defaultValue ((pm_ty.getD 1 (fun _ => .int)) k)) = [.int 0, .null, .null] := rfl
theorem df_2 : (List.range 2).map (fun k => defaultValue ((pm_ty.getD 2 (fun _ => .int)) k)) = [.int 0, .null] := rfl
theorem df_3 : (List.range 5).map (fun k => defaultValue ((pm_ty.getD 3 (fun _ => .int)) k)) = [.null, .null, .null, .int 0, .int 0] := rfl
theorem df_4 : (List.range 4).map (fun k => defaultValue ((pm_ty.getD 4 (fun _ => .int)) k)) = [.int 0, .int 0, .int 0, .null] := rfl
theorem df_5 : (List.range 2).map (fun k => defaultValue ((pm_ty.getD 5 (fun _ => .int)) k)) = [.int 0, .null] := rfl
theorem df_6 : (List.range 2).map (fun k => defaultValue ((pm_ty.getD 6 (fun _ => .int)) k)) = [.int 0, .null] := rfl
theorem df_7 : (List.range 4).map (fun k => defaultValue ((pm_ty.getD 7 (fun _ => .int)) k)) = [.int 0, .int 0, .int 0, .null] := rfl
theorem df_8 : (List.range 5).map (fun k => defaultValue ((pm_ty.getD 8 (fun _ => .int)) k)) = [.int 0, .int 0, .null, .null, .null] := rfl
theorem df_9 : (List.range 2).map (fun k => defaultValue ((pm_ty.getD 9 (fun _ => .int)) k)) = [.int 0, .null] := rfl
theorem df_10 : (List.range 19).map (fun k => defaultValue ((pm_ty.getD 10 (fun _ => .int)) k)) = [.null, .null, .null, .null, .null, .null, .null, .null, .null, .null, .null, .null, .null, .null, .null, .int 0, .int 0, .long 0, .long 0] := rfl
theorem df_11 : (List.range 48).map (fun k => defaultValue ((pm_ty.getD 11 (fun _ => .int)) k)) = [.int 0, .null, .int 0, .long 0, .long 0, .null, .null, .null, .null, .null, .null, .null, .null, .null, .null, .null, .int 0, .int 0, .int 0, .int 0, .int 0, .null, .null, .int 0, .null, .int 0, .null, .null, .int 0, .int 0, .int 0, .int 0, .int 0, .null, .null, .int 0, .null, .int 0, .null, .null, .int 0, .int 0, .int 0, .int 0, .null, .int 0, .null, .long 0] := rfl
theorem d0_0 : decode (pm_c 0) 0 = .ok (.new 7, 3) := by decide +kernel
theorem d0_3 : decode (pm_c 0) 3 = .ok (.dup, 1) := by decide +kernel
theorem d0_4 : decode (pm_c 0) 4 = .ok (.invokespecial 9, 3) := by decide +kernel
theorem d0_7 : decode (pm_c 0) 7 = .ok (.astore_n 1, 1) := by decide +kernel
theorem d0_8 : decode (pm_c 0) 8 = .ok (.new 10, 3) := by decide +kernel
theorem d0_11 : decode (pm_c 0) 11 = .ok (.dup, 1) := by decide +kernel
theorem d0_12 : decode (pm_c 0) 12 = .ok (.invokespecial 12, 3) := by decide +kernel
theorem d0_15 : decode (pm_c 0) 15 = .ok (.astore_n 2, 1) := by decide +kernel
theorem d0_16 : decode (pm_c 0) 16 = .ok (.iconst 0, 1) := by decide +kernel
theorem d0_17 : decode (pm_c 0) 17 = .ok (.istore_n 3, 1) := by decide +kernel
theorem d1_0 : decode (pm_c 1) 0 = .ok (.aload_n 0, 1) := by decide +kernel
theorem d1_1 : decode (pm_c 1) 1 = .ok (.invokespecial 3, 3) := by decide +kernel
theorem d1_4 : decode (pm_c 1) 4 = .ok (.aload_n 0, 1) := by decide +kernel
theorem d1_5 : decode (pm_c 1) 5 = .ok (.bipush 6, 2) := by decide +kernel
theorem d1_7 : decode (pm_c 1) 7 = .ok (.anewarray 9, 3) := by decide +kernel
theorem d1_10 : decode (pm_c 1) 10 = .ok (.putfield 11, 3) := by decide +kernel
theorem d1_13 : decode (pm_c 1) 13 = .ok (.iconst 0, 1) := by decide +kernel
theorem d1_14 : decode (pm_c 1) 14 = .ok (.istore_n 1, 1) := by decide +kernel
theorem d1_15 : decode (pm_c 1) 15 = .ok (.iload_n 1, 1) := by decide +kernel
theorem d1_16 : decode (pm_c 1) 16 = .ok (.bipush 6, 2) := by decide +kernel
theorem d1_18 : decode (pm_c 1) 18 = .ok (.if_icmp .ge 22, 3) := by decide +kernel
theorem d1_21 : decode (pm_c 1) 21 = .ok (.aload_n 0, 1) := by decide +kernel
theorem d1_22 : decode (pm_c 1) 22 = .ok (.getfield 11, 3) := by decide +kernel
theorem d1_25 : decode (pm_c 1) 25 = .ok (.iload_n 1, 1) := by decide +kernel
theorem d1_26 : decode (pm_c 1) 26 = .ok (.new 9, 3) := by decide +kernel
theorem d1_29 : decode (pm_c 1) 29 = .ok (.dup, 1) := by decide +kernel
theorem d1_30 : decode (pm_c 1) 30 = .ok (.invokespecial 15, 3) := by decide +kernel
theorem d1_33 : decode (pm_c 1) 33 = .ok (.aastore, 1) := by decide +kernel
theorem d1_34 : decode (pm_c 1) 34 = .ok (.iinc 1 1, 3) := by decide +kernel
theorem d1_37 : decode (pm_c 1) 37 = .ok (.goto (-22), 3) := by decide +kernel
theorem d1_40 : decode (pm_c 1) 40 = .ok (.aload_n 0, 1) := by decide +kernel
theorem d1_41 : decode (pm_c 1) 41 = .ok (.iconst 4, 1) := by decide +kernel
theorem d1_42 : decode (pm_c 1) 42 = .ok (.anewarray 16, 3) := by decide +kernel
theorem d1_45 : decode (pm_c 1) 45 = .ok (.putfield 18, 3) := by decide +kernel
theorem d1_48 : decode (pm_c 1) 48 = .ok (.iconst 0, 1) := by decide +kernel
theorem d1_49 : decode (pm_c 1) 49 = .ok (.istore_n 1, 1) := by decide +kernel
theorem d1_50 : decode (pm_c 1) 50 = .ok (.iload_n 1, 1) := by decide +kernel
theorem d1_51 : decode (pm_c 1) 51 = .ok (.iconst 4, 1) := by decide +kernel
theorem d1_52 : decode (pm_c 1) 52 = .ok (.if_icmp .ge 22, 3) := by decide +kernel
theorem d1_55 : decode (pm_c 1) 55 = .ok (.aload_n 0, 1) := by decide +kernel
theorem d1_56 : decode (pm_c 1) 56 = .ok (.getfield 18, 3) := by decide +kernel
theorem d1_59 : decode (pm_c 1) 59 = .ok (.iload_n 1, 1) := by decide +kernel
theorem d1_60 : decode (pm_c 1) 60 = .ok (.new 16, 3) := by decide +kernel
theorem d1_63 : decode (pm_c 1) 63 = .ok (.dup, 1) := by decide +kernel
theorem d1_64 : decode (pm_c 1) 64 = .ok (.invokespecial 22, 3) := by decide +kernel
theorem d1_67 : decode (pm_c 1) 67 = .ok (.aastore, 1) := by decide +kernel
theorem d1_68 : decode (pm_c 1) 68 = .ok (.iinc 1 1, 3) := by decide +kernel
theorem d1_71 : decode (pm_c 1) 71 = .ok (.goto (-21), 3) := by decide +kernel
theorem d1_74 : decode (pm_c 1) 74 = .ok (.aload_n 0, 1) := by decide +kernel
theorem d1_75 : decode (pm_c 1) 75 = .ok (.iconst 4, 1) := by decide +kernel
theorem d1_76 : decode (pm_c 1) 76 = .ok (.anewarray 23, 3) := by decide +kernel
theorem d1_79 : decode (pm_c 1) 79 = .ok (.putfield 25, 3) := by decide +kernel
theorem d1_82 : decode (pm_c 1) 82 = .ok (.iconst 0, 1) := by decide +kernel
theorem d1_83 : decode (pm_c 1) 83 = .ok (.istore_n 1, 1) := by decide +kernel
theorem d1_84 : decode (pm_c 1) 84 = .ok (.iload_n 1, 1) := by decide +kernel
theorem d1_85 : decode (pm_c 1) 85 = .ok (.iconst 4, 1) := by decide +kernel
theorem d1_86 : decode (pm_c 1) 86 = .ok (.if_icmp .ge 22, 3) := by decide +kernel
theorem d1_89 : decode (pm_c 1) 89 = .ok (.aload_n 0, 1) := by decide +kernel
theorem d1_90 : decode (pm_c 1) 90 = .ok (.getfield 25, 3) := by decide +kernel
theorem d1_93 : decode (pm_c 1) 93 = .ok (.iload_n 1, 1) := by decide +kernel
theorem d1_94 : decode (pm_c 1) 94 = .ok (.new 23, 3) := by decide +kernel
theorem d1_97 : decode (pm_c 1) 97 = .ok (.dup, 1) := by decide +kernel
theorem d1_98 : decode (pm_c 1) 98 = .ok (.invokespecial 29, 3) := by decide +kernel
theorem d1_101 : decode (pm_c 1) 101 = .ok (.aastore, 1) := by decide +kernel
theorem d1_102 : decode (pm_c 1) 102 = .ok (.iinc 1 1, 3) := by decide +kernel
theorem d1_105 : decode (pm_c 1) 105 = .ok (.goto (-21), 3) := by decide +kernel
theorem d1_108 : decode (pm_c 1) 108 = .ok (.aload_n 0, 1) := by decide +kernel
theorem d1_109 : decode (pm_c 1) 109 = .ok (.iconst 4, 1) := by decide +kernel
theorem d1_110 : decode (pm_c 1) 110 = .ok (.anewarray 30, 3) := by decide +kernel
theorem d1_113 : decode (pm_c 1) 113 = .ok (.putfield 32, 3) := by decide +kernel
theorem d1_116 : decode (pm_c 1) 116 = .ok (.iconst 0, 1) := by decide +kernel
theorem d1_117 : decode (pm_c 1) 117 = .ok (.istore_n 1, 1) := by decide +kernel
theorem d1_118 : decode (pm_c 1) 118 = .ok (.iload_n 1, 1) := by decide +kernel
theorem d1_119 : decode (pm_c 1) 119 = .ok (.iconst 4, 1) := by decide +kernel
theorem d1_120 : decode (pm_c 1) 120 = .ok (.if_icmp .ge 22, 3) := by decide +kernel
theorem d1_123 : decode (pm_c 1) 123 = .ok (.aload_n 0, 1) := by decide +kernel
theorem d1_124 : decode (pm_c 1) 124 = .ok (.getfield 32, 3) := by decide +kernel
theorem d1_127 : decode (pm_c 1) 127 = .ok (.iload_n 1, 1) := by decide +kernel
theorem d1_128 : decode (pm_c 1) 128 = .ok (.new 30, 3) := by decide +kernel
theorem d1_131 : decode (pm_c 1) 131 = .ok (.dup, 1) := by decide +kernel
theorem d1_132 : decode (pm_c 1) 132 = .ok (.invokespecial 36, 3) := by decide +kernel
theorem d1_135 : decode (pm_c 1) 135 = .ok (.aastore, 1) := by decide +kernel
theorem d1_136 : decode (pm_c 1) 136 = .ok (.iinc 1 1, 3) := by decide +kernel
theorem d1_139 : decode (pm_c 1) 139 = .ok (.goto (-21), 3) := by decide +kernel
theorem d1_142 : decode (pm_c 1) 142 = .ok (.aload_n 0, 1) := by decide +kernel
theorem d1_143 : decode (pm_c 1) 143 = .ok (.new 37, 3) := by decide +kernel
theorem d1_146 : decode (pm_c 1) 146 = .ok (.dup, 1) := by decide +kernel
theorem d1_147 : decode (pm_c 1) 147 = .ok (.invokespecial 39, 3) := by decide +kernel
theorem d1_150 : decode (pm_c 1) 150 = .ok (.putfield 40, 3) := by decide +kernel
theorem d1_153 : decode (pm_c 1) 153 = .ok (.aload_n 0, 1) := by decide +kernel
theorem d1_154 : decode (pm_c 1) 154 = .ok (.iconst 3, 1) := by decide +kernel
theorem d1_155 : decode (pm_c 1) 155 = .ok (.anewarray 37, 3) := by decide +kernel
theorem d1_158 : decode (pm_c 1) 158 = .ok (.putfield 44, 3) := by decide +kernel
theorem d1_161 : decode (pm_c 1) 161 = .ok (.iconst 0, 1) := by decide +kernel
theorem d1_162 : decode (pm_c 1) 162 = .ok (.istore_n 1, 1) := by decide +kernel
theorem d1_163 : decode (pm_c 1) 163 = .ok (.iload_n 1, 1) := by decide +kernel
theorem d1_164 : decode (pm_c 1) 164 = .ok (.iconst 3, 1) := by decide +kernel
theorem d1_165 : decode (pm_c 1) 165 = .ok (.if_icmp .ge 22, 3) := by decide +kernel
theorem d1_168 : decode (pm_c 1) 168 = .ok (.aload_n 0, 1) := by decide +kernel
theorem d1_169 : decode (pm_c 1) 169 = .ok (.getfield 44, 3) := by decide +kernel
theorem d1_172 : decode (pm_c 1) 172 = .ok (.iload_n 1, 1) := by decide +kernel
theorem d1_173 : decode (pm_c 1) 173 = .ok (.new 37, 3) := by decide +kernel
theorem d1_176 : decode (pm_c 1) 176 = .ok (.dup, 1) := by decide +kernel
theorem d1_177 : decode (pm_c 1) 177 = .ok (.invokespecial 39, 3) := by decide +kernel
theorem d1_180 : decode (pm_c 1) 180 = .ok (.aastore, 1) := by decide +kernel
theorem d1_181 : decode (pm_c 1) 181 = .ok (.iinc 1 1, 3) := by decide +kernel
theorem d1_184 : decode (pm_c 1) 184 = .ok (.goto (-21), 3) := by decide +kernel
theorem d1_187 : decode (pm_c 1) 187 = .ok (.aload_n 0, 1) := by decide +kernel
theorem d1_188 : decode (pm_c 1) 188 = .ok (.new 48, 3) := by decide +kernel
theorem d1_191 : decode (pm_c 1) 191 = .ok (.dup, 1) := by decide +kernel
theorem d1_192 : decode (pm_c 1) 192 = .ok (.invokespecial 50, 3) := by decide +kernel
theorem d1_195 : decode (pm_c 1) 195 = .ok (.putfield 51, 3) := by decide +kernel
theorem d1_198 : decode (pm_c 1) 198 = .ok (.aload_n 0, 1) := by decide +kernel
theorem d1_199 : decode (pm_c 1) 199 = .ok (.new 48, 3) := by decide +kernel
theorem d1_202 : decode (pm_c 1) 202 = .ok (.dup, 1) := by decide +kernel
theorem d1_203 : decode (pm_c 1) 203 = .ok (.invokespecial 50, 3) := by decide +kernel
theorem d1_206 : decode (pm_c 1) 206 = .ok (.putfield 55, 3) := by decide +kernel
theorem d1_209 : decode (pm_c 1) 209 = .ok (.aload_n 0, 1) := by decide +kernel
theorem d1_210 : decode (pm_c 1) 210 = .ok (.new 58, 3) := by decide +kernel
theorem d1_213 : decode (pm_c 1) 213 = .ok (.dup, 1) := by decide +kernel
theorem d1_214 : decode (pm_c 1) 214 = .ok (.invokespecial 60, 3) := by decide +kernel
theorem d1_217 : decode (pm_c 1) 217 = .ok (.putfield 61, 3) := by decide +kernel
theorem d1_220 : decode (pm_c 1) 220 = .ok (.aload_n 0, 1) := by decide +kernel
theorem d1_221 : decode (pm_c 1) 221 = .ok (.new 65, 3) := by decide +kernel
theorem d1_224 : decode (pm_c 1) 224 = .ok (.dup, 1) := by decide +kernel
theorem d1_225 : decode (pm_c 1) 225 = .ok (.invokespecial 67, 3) := by decide +kernel
theorem d1_228 : decode (pm_c 1) 228 = .ok (.putfield 68, 3) := by decide +kernel
theorem d1_231 : decode (pm_c 1) 231 = .ok (.aload_n 0, 1) := by decide +kernel
theorem d1_232 : decode (pm_c 1) 232 = .ok (.new 72, 3) := by decide +kernel
theorem d1_235 : decode (pm_c 1) 235 = .ok (.dup, 1) := by decide +kernel
theorem d1_236 : decode (pm_c 1) 236 = .ok (.invokespecial 74, 3) := by decide +kernel
theorem d1_239 : decode (pm_c 1) 239 = .ok (.putfield 75, 3) := by decide +kernel
theorem d1_242 : decode (pm_c 1) 242 = .ok (.aload_n 0, 1) := by decide +kernel
theorem d1_243 : decode (pm_c 1) 243 = .ok (.new 79, 3) := by decide +kernel
theorem d1_246 : decode (pm_c 1) 246 = .ok (.dup, 1) := by decide +kernel
theorem d1_247 : decode (pm_c 1) 247 = .ok (.invokespecial 81, 3) := by decide +kernel
theorem d1_250 : decode (pm_c 1) 250 = .ok (.putfield 82, 3) := by decide +kernel
theorem d1_253 : decode (pm_c 1) 253 = .ok (.aload_n 0, 1) := by decide +kernel
theorem d1_254 : decode (pm_c 1) 254 = .ok (.bipush 24, 2) := by decide +kernel
theorem d1_256 : decode (pm_c 1) 256 = .ok (.newarray .int, 2) := by decide +kernel
theorem d1_258 : decode (pm_c 1) 258 = .ok (.putfield 86, 3) := by decide +kernel
theorem d1_261 : decode (pm_c 1) 261 = .ok (.aload_n 0, 1) := by decide +kernel
theorem d1_262 : decode (pm_c 1) 262 = .ok (.bipush 24, 2) := by decide +kernel
theorem d1_264 : decode (pm_c 1) 264 = .ok (.newarray .int, 2) := by decide +kernel
theorem d1_266 : decode (pm_c 1) 266 = .ok (.putfield 90, 3) := by decide +kernel
theorem d1_269 : decode (pm_c 1) 269 = .ok (.aload_n 0, 1) := by decide +kernel
theorem d1_270 : decode (pm_c 1) 270 = .ok (.bipush 6, 2) := by decide +kernel
theorem d1_272 : decode (pm_c 1) 272 = .ok (.newarray .int, 2) := by decide +kernel
theorem d1_274 : decode (pm_c 1) 274 = .ok (.putfield 93, 3) := by decide +kernel
theorem d1_277 : decode (pm_c 1) 277 = .ok (.aload_n 0, 1) := by decide +kernel
theorem d1_278 : decode (pm_c 1) 278 = .ok (.iconst 0, 1) := by decide +kernel
theorem d1_279 : decode (pm_c 1) 279 = .ok (.putfield 96, 3) := by decide +kernel
theorem d1_282 : decode (pm_c 1) 282 = .ok (.aload_n 0, 1) := by decide +kernel
theorem d1_283 : decode (pm_c 1) 283 = .ok (.iconst 0, 1) := by decide +kernel
theorem d1_284 : decode (pm_c 1) 284 = .ok (.putfield 100, 3) := by decide +kernel
theorem d1_287 : decode (pm_c 1) 287 = .ok (.aload_n 0, 1) := by decide +kernel
theorem d1_288 : decode (pm_c 1) 288 = .ok (.lconst 0, 1) := by decide +kernel
theorem d1_289 : decode (pm_c 1) 289 = .ok (.putfield 103, 3) := by decide +kernel
theorem d1_292 : decode (pm_c 1) 292 = .ok (.aload_n 0, 1) := by decide +kernel
theorem d1_293 : decode (pm_c 1) 293 = .ok (.lconst 1, 1) := by decide +kernel
theorem d1_294 : decode (pm_c 1) 294 = .ok (.putfield 107, 3) := by decide +kernel
theorem d1_297 : decode (pm_c 1) 297 = .ok (.return_, 1) := by decide +kernel
theorem d2_0 : decode (pm_c 2) 0 = .ok (.aload_n 0, 1) := by decide +kernel
theorem d2_1 : decode (pm_c 2) 1 = .ok (.invokespecial 3, 3) := by decide +kernel
theorem d2_4 : decode (pm_c 2) 4 = .ok (.aload_n 0, 1) := by decide +kernel
theorem d2_5 : decode (pm_c 2) 5 = .ok (.iconst (-1), 1) := by decide +kernel
theorem d2_6 : decode (pm_c 2) 6 = .ok (.putfield 9, 3) := by decide +kernel
theorem d2_9 : decode (pm_c 2) 9 = .ok (.aload_n 0, 1) := by decide +kernel
theorem d2_10 : decode (pm_c 2) 10 = .ok (.bipush 60, 2) := by decide +kernel
theorem d2_12 : decode (pm_c 2) 12 = .ok (.newarray .int, 2) := by decide +kernel
theorem d2_14 : decode (pm_c 2) 14 = .ok (.putfield 15, 3) := by decide +kernel
theorem d2_17 : decode (pm_c 2) 17 = .ok (.return_, 1) := by decide +kernel
theorem d3_0 : decode (pm_c 3) 0 = .ok (.aload_n 0, 1) := by decide +kernel
theorem d3_1 : decode (pm_c 3) 1 = .ok (.invokespecial 3, 3) := by decide +kernel
theorem d3_4 : decode (pm_c 3) 4 = .ok (.aload_n 0, 1) := by decide +kernel
theorem d3_5 : decode (pm_c 3) 5 = .ok (.iconst (-1), 1) := by decide +kernel
theorem d3_6 : decode (pm_c 3) 6 = .ok (.putfield 9, 3) := by decide +kernel
theorem d3_9 : decode (pm_c 3) 9 = .ok (.aload_n 0, 1) := by decide +kernel
theorem d3_10 : decode (pm_c 3) 10 = .ok (.bipush 120, 2) := by decide +kernel
theorem d3_12 : decode (pm_c 3) 12 = .ok (.newarray .byte, 2) := by decide +kernel
theorem d3_14 : decode (pm_c 3) 14 = .ok (.putfield 15, 3) := by decide +kernel
theorem d3_17 : decode (pm_c 3) 17 = .ok (.return_, 1) := by decide +kernel
theorem d4_0 : decode (pm_c 4) 0 = .ok (.aload_n 0, 1) := by decide +kernel
theorem d4_1 : decode (pm_c 4) 1 = .ok (.invokespecial 3, 3) := by decide +kernel
theorem d4_4 : decode (pm_c 4) 4 = .ok (.aload_n 0, 1) := by decide +kernel
theorem d4_5 : decode (pm_c 4) 5 = .ok (.iconst (-1), 1) := by decide +kernel
theorem d4_6 : decode (pm_c 4) 6 = .ok (.putfield 9, 3) := by decide +kernel
theorem d4_9 : decode (pm_c 4) 9 = .ok (.aload_n 0, 1) := by decide +kernel
theorem d4_10 : decode (pm_c 4) 10 = .ok (.iconst 4, 1) := by decide +kernel
theorem d4_11 : decode (pm_c 4) 11 = .ok (.newarray .int, 2) := by decide +kernel
theorem d4_13 : decode (pm_c 4) 13 = .ok (.putfield 15, 3) := by decide +kernel
theorem d4_16 : decode (pm_c 4) 16 = .ok (.return_, 1) := by decide +kernel
theorem d5_0 : decode (pm_c 5) 0 = .ok (.aload_n 0, 1) := by decide +kernel
theorem d5_1 : decode (pm_c 5) 1 = .ok (.invokespecial 3, 3) := by decide +kernel
theorem d5_4 : decode (pm_c 5) 4 = .ok (.aload_n 0, 1) := by decide +kernel
theorem d5_5 : decode (pm_c 5) 5 = .ok (.iconst 0, 1) := by decide +kernel
theorem d5_6 : decode (pm_c 5) 6 = .ok (.putfield 9, 3) := by decide +kernel
theorem d5_9 : decode (pm_c 5) 9 = .ok (.aload_n 0, 1) := by decide +kernel
theorem d5_10 : decode (pm_c 5) 10 = .ok (.bipush 24, 2) := by decide +kernel
theorem d5_12 : decode (pm_c 5) 12 = .ok (.newarray .int, 2) := by decide +kernel
theorem d5_14 : decode (pm_c 5) 14 = .ok (.putfield 15, 3) := by decide +kernel
theorem d5_17 : decode (pm_c 5) 17 = .ok (.return_, 1) := by decide +kernel
theorem d6_0 : decode (pm_c 6) 0 = .ok (.aload_n 0, 1) := by decide +kernel
theorem d6_1 : decode (pm_c 6) 1 = .ok (.invokespecial 3, 3) := by decide +kernel
theorem d6_4 : decode (pm_c 6) 4 = .ok (.aload_n 0, 1) := by decide +kernel
theorem d6_5 : decode (pm_c 6) 5 = .ok (.iconst 0, 1) := by decide +kernel
theorem d6_6 : decode (pm_c 6) 6 = .ok (.putfield 9, 3) := by decide +kernel
theorem d6_9 : decode (pm_c 6) 9 = .ok (.aload_n 0, 1) := by decide +kernel
theorem d6_10 : decode (pm_c 6) 10 = .ok (.iconst 0, 1) := by decide +kernel
theorem d6_11 : decode (pm_c 6) 11 = .ok (.putfield 15, 3) := by decide +kernel
theorem d6_14 : decode (pm_c 6) 14 = .ok (.aload_n 0, 1) := by decide +kernel
theorem d6_15 : decode (pm_c 6) 15 = .ok (.iconst 0, 1) := by decide +kernel
theorem d6_16 : decode (pm_c 6) 16 = .ok (.putfield 18, 3) := by decide +kernel
theorem d6_19 : decode (pm_c 6) 19 = .ok (.aload_n 0, 1) := by decide +kernel
theorem d6_20 : decode (pm_c 6) 20 = .ok (.bipush 24, 2) := by decide +kernel
theorem d6_22 : decode (pm_c 6) 22 = .ok (.newarray .int, 2) := by decide +kernel
theorem d6_24 : decode (pm_c 6) 24 = .ok (.putfield 21, 3) := by decide +kernel
theorem d6_27 : decode (pm_c 6) 27 = .ok (.return_, 1) := by decide +kernel
theorem d7_0 : decode (pm_c 7) 0 = .ok (.aload_n 0, 1) := by decide +kernel
theorem d7_1 : decode (pm_c 7) 1 = .ok (.invokespecial 3, 3) := by decide +kernel
theorem d7_4 : decode (pm_c 7) 4 = .ok (.aload_n 0, 1) := by decide +kernel
theorem d7_5 : decode (pm_c 7) 5 = .ok (.iconst 0, 1) := by decide +kernel
theorem d7_6 : decode (pm_c 7) 6 = .ok (.putfield 9, 3) := by decide +kernel
theorem d7_9 : decode (pm_c 7) 9 = .ok (.aload_n 0, 1) := by decide +kernel
theorem d7_10 : decode (pm_c 7) 10 = .ok (.bipush 8, 2) := by decide +kernel
theorem d7_12 : decode (pm_c 7) 12 = .ok (.newarray .int, 2) := by decide +kernel
theorem d7_14 : decode (pm_c 7) 14 = .ok (.putfield 15, 3) := by decide +kernel
theorem d7_17 : decode (pm_c 7) 17 = .ok (.aload_n 0, 1) := by decide +kernel
theorem d7_18 : decode (pm_c 7) 18 = .ok (.bipush 8, 2) := by decide +kernel
theorem d7_20 : decode (pm_c 7) 20 = .ok (.newarray .int, 2) := by decide +kernel
theorem d7_22 : decode (pm_c 7) 22 = .ok (.putfield 19, 3) := by decide +kernel
theorem d7_25 : decode (pm_c 7) 25 = .ok (.return_, 1) := by decide +kernel
theorem d8_0 : decode (pm_c 8) 0 = .ok (.aload_n 0, 1) := by decide +kernel
theorem d8_1 : decode (pm_c 8) 1 = .ok (.invokespecial 3, 3) := by decide +kernel
theorem d8_4 : decode (pm_c 8) 4 = .ok (.aload_n 0, 1) := by decide +kernel
theorem d8_5 : decode (pm_c 8) 5 = .ok (.new 9, 3) := by decide +kernel
theorem d8_8 : decode (pm_c 8) 8 = .ok (.dup, 1) := by decide +kernel
theorem d8_9 : decode (pm_c 8) 9 = .ok (.invokespecial 11, 3) := by decide +kernel
theorem d8_12 : decode (pm_c 8) 12 = .ok (.putfield 12, 3) := by decide +kernel
theorem d8_15 : decode (pm_c 8) 15 = .ok (.aload_n 0, 1) := by decide +kernel
theorem d8_16 : decode (pm_c 8) 16 = .ok (.new 18, 3) := by decide +kernel
theorem d8_19 : decode (pm_c 8) 19 = .ok (.dup, 1) := by decide +kernel
theorem d8_20 : decode (pm_c 8) 20 = .ok (.invokespecial 20, 3) := by decide +kernel
theorem d8_23 : decode (pm_c 8) 23 = .ok (.putfield 21, 3) := by decide +kernel
theorem d8_26 : decode (pm_c 8) 26 = .ok (.aload_n 0, 1) := by decide +kernel
theorem d8_27 : decode (pm_c 8) 27 = .ok (.aconst_null, 1) := by decide +kernel
theorem d8_28 : decode (pm_c 8) 28 = .ok (.putfield 25, 3) := by decide +kernel
theorem d8_31 : decode (pm_c 8) 31 = .ok (.aload_n 0, 1) := by decide +kernel
theorem d8_32 : decode (pm_c 8) 32 = .ok (.iconst 0, 1) := by decide +kernel
theorem d8_33 : decode (pm_c 8) 33 = .ok (.putfield 29, 3) := by decide +kernel
theorem d8_36 : decode (pm_c 8) 36 = .ok (.aload_n 0, 1) := by decide +kernel
theorem d8_37 : decode (pm_c 8) 37 = .ok (.iconst 0, 1) := by decide +kernel
theorem d8_38 : decode (pm_c 8) 38 = .ok (.putfield 33, 3) := by decide +kernel
theorem d8_41 : decode (pm_c 8) 41 = .ok (.return_, 1) := by decide +kernel
theorem d9_0 : decode (pm_c 9) 0 = .ok (.aload_n 0, 1) := by decide +kernel
theorem d9_1 : decode (pm_c 9) 1 = .ok (.invokespecial 3, 3) := by decide +kernel
theorem d9_4 : decode (pm_c 9) 4 = .ok (.aload_n 0, 1) := by decide +kernel
theorem d9_5 : decode (pm_c 9) 5 = .ok (.iconst 0, 1) := by decide +kernel
theorem d9_6 : decode (pm_c 9) 6 = .ok (.putfield 9, 3) := by decide +kernel
theorem d9_9 : decode (pm_c 9) 9 = .ok (.aload_n 0, 1) := by decide +kernel
theorem d9_10 : decode (pm_c 9) 10 = .ok (.bipush (-9), 2) := by decide +kernel
theorem d9_12 : decode (pm_c 9) 12 = .ok (.putfield 15, 3) := by decide +kernel
theorem d9_15 : decode (pm_c 9) 15 = .ok (.aload_n 0, 1) := by decide +kernel
theorem d9_16 : decode (pm_c 9) 16 = .ok (.bipush 96, 2) := by decide +kernel
theorem d9_18 : decode (pm_c 9) 18 = .ok (.newarray .int, 2) := by decide +kernel
theorem d9_20 : decode (pm_c 9) 20 = .ok (.putfield 18, 3) := by decide +kernel
theorem d9_23 : decode (pm_c 9) 23 = .ok (.aload_n 0, 1) := by decide +kernel
theorem d9_24 : decode (pm_c 9) 24 = .ok (.bipush 24, 2) := by decide +kernel
theorem d9_26 : decode (pm_c 9) 26 = .ok (.newarray .int, 2) := by decide +kernel
theorem d9_28 : decode (pm_c 9) 28 = .ok (.putfield 22, 3) := by decide +kernel
theorem d9_31 : decode (pm_c 9) 31 = .ok (.aload_n 0, 1) := by decide +kernel
theorem d9_32 : decode (pm_c 9) 32 = .ok (.new 25, 3) := by decide +kernel
theorem d9_35 : decode (pm_c 9) 35 = .ok (.dup, 1) := by decide +kernel
theorem d9_36 : decode (pm_c 9) 36 = .ok (.invokespecial 27, 3) := by decide +kernel
theorem d9_39 : decode (pm_c 9) 39 = .ok (.putfield 28, 3) := by decide +kernel
theorem d9_42 : decode (pm_c 9) 42 = .ok (.return_, 1) := by decide +kernel
theorem d10_0 : decode (pm_c 10) 0 = .ok (.aload_n 0, 1) := by decide +kernel
theorem d10_1 : decode (pm_c 10) 1 = .ok (.invokespecial 3, 3) := by decide +kernel
theorem d10_4 : decode (pm_c 10) 4 = .ok (.aload_n 0, 1) := by decide +kernel
theorem d10_5 : decode (pm_c 10) 5 = .ok (.iconst 0, 1) := by decide +kernel
theorem d10_6 : decode (pm_c 10) 6 = .ok (.putfield 9, 3) := by decide +kernel
theorem d10_9 : decode (pm_c 10) 9 = .ok (.aload_n 0, 1) := by decide +kernel
theorem d10_10 : decode (pm_c 10) 10 = .ok (.iconst 0, 1) := by decide +kernel
theorem d10_11 : decode (pm_c 10) 11 = .ok (.putfield 15, 3) := by decide +kernel
theorem d10_14 : decode (pm_c 10) 14 = .ok (.aload_n 0, 1) := by decide +kernel
theorem d10_15 : decode (pm_c 10) 15 = .ok (.iconst 0, 1) := by decide +kernel
theorem d10_16 : decode (pm_c 10) 16 = .ok (.putfield 18, 3) := by decide +kernel
theorem d10_19 : decode (pm_c 10) 19 = .ok (.aload_n 0, 1) := by decide +kernel
theorem d10_20 : decode (pm_c 10) 20 = .ok (.new 21, 3) := by decide +kernel
theorem d10_23 : decode (pm_c 10) 23 = .ok (.dup, 1) := by decide +kernel
theorem d10_24 : decode (pm_c 10) 24 = .ok (.invokespecial 23, 3) := by decide +kernel
theorem d10_27 : decode (pm_c 10) 27 = .ok (.putfield 24, 3) := by decide +kernel
theorem d10_30 : decode (pm_c 10) 30 = .ok (.return_, 1) := by decide +kernel
theorem d11_0 : decode (pm_c 11) 0 = .ok (.aload_n 0, 1) := by decide +kernel
theorem d11_1 : decode (pm_c 11) 1 = .ok (.invokespecial 3, 3) := by decide +kernel
theorem d11_4 : decode (pm_c 11) 4 = .ok (.aload_n 0, 1) := by decide +kernel
theorem d11_5 : decode (pm_c 11) 5 = .ok (.iconst 0, 1) := by decide +kernel
theorem d11_6 : decode (pm_c 11) 6 = .ok (.putfield 9, 3) := by decide +kernel
theorem d11_9 : decode (pm_c 11) 9 = .ok (.aload_n 0, 1) := by decide +kernel
theorem d11_10 : decode (pm_c 11) 10 = .ok (.bipush 24, 2) := by decide +kernel
theorem d11_12 : decode (pm_c 11) 12 = .ok (.newarray .int, 2) := by decide +kernel
theorem d11_14 : decode (pm_c 11) 14 = .ok (.putfield 15, 3) := by decide +kernel
theorem d11_17 : decode (pm_c 11) 17 = .ok (.aload_n 0, 1) := by decide +kernel
theorem d11_18 : decode (pm_c 11) 18 = .ok (.bipush 24, 2) := by decide +kernel
theorem d11_20 : decode (pm_c 11) 20 = .ok (.newarray .int, 2) := by decide +kernel
theorem d11_22 : decode (pm_c 11) 22 = .ok (.putfield 19, 3) := by decide +kernel
theorem d11_25 : decode (pm_c 11) 25 = .ok (.return_, 1) := by decide +kernel
theorem d153_0 : decode (pm_c 153) 0 = .ok (.aload_n 0, 1) := by decide +kernel
theorem d153_1 : decode (pm_c 153) 1 = .ok (.invokespecial 1, 3) := by decide +kernel
theorem d153_4 : decode (pm_c 153) 4 = .ok (.aload_n 0, 1) := by decide +kernel
theorem d153_5 : decode (pm_c 153) 5 = .ok (.bipush 6, 2) := by decide +kernel
theorem d153_7 : decode (pm_c 153) 7 = .ok (.newarray .int, 2) := by decide +kernel
theorem d153_9 : decode (pm_c 153) 9 = .ok (.putfield 7, 3) := by decide +kernel
theorem d153_12 : decode (pm_c 153) 12 = .ok (.aload_n 0, 1) := by decide +kernel
theorem d153_13 : decode (pm_c 153) 13 = .ok (.bipush 6, 2) := by decide +kernel
theorem d153_15 : decode (pm_c 153) 15 = .ok (.newarray .int, 2) := by decide +kernel
theorem d153_17 : decode (pm_c 153) 17 = .ok (.putfield 13, 3) := by decide +kernel
theorem d153_20 : decode (pm_c 153) 20 = .ok (.aload_n 0, 1) := by decide +kernel
theorem d153_21 : decode (pm_c 153) 21 = .ok (.sipush 360, 3) := by decide +kernel
theorem d153_24 : decode (pm_c 153) 24 = .ok (.newarray .int, 2) := by decide +kernel
theorem d153_26 : decode (pm_c 153) 26 = .ok (.putfield 16, 3) := by decide +kernel
theorem d153_29 : decode (pm_c 153) 29 = .ok (.aload_n 0, 1) := by decide +kernel
theorem d153_30 : decode (pm_c 153) 30 = .ok (.bipush 60, 2) := by decide +kernel
theorem d153_32 : decode (pm_c 153) 32 = .ok (.newarray .int, 2) := by decide +kernel
theorem d153_34 : decode (pm_c 153) 34 = .ok (.putfield 19, 3) := by decide +kernel
theorem d153_37 : decode (pm_c 153) 37 = .ok (.aload_n 0, 1) := by decide +kernel
theorem d153_38 : decode (pm_c 153) 38 = .ok (.iconst 4, 1) := by decide +kernel
theorem d153_39 : decode (pm_c 153) 39 = .ok (.newarray .int, 2) := by decide +kernel
theorem d153_41 : decode (pm_c 153) 41 = .ok (.putfield 22, 3) := by decide +kernel
theorem d153_44 : decode (pm_c 153) 44 = .ok (.aload_n 0, 1) := by decide +kernel
theorem d153_45 : decode (pm_c 153) 45 = .ok (.sipush 480, 3) := by decide +kernel
theorem d153_48 : decode (pm_c 153) 48 = .ok (.newarray .byte, 2) := by decide +kernel
theorem d153_50 : decode (pm_c 153) 50 = .ok (.putfield 25, 3) := by decide +kernel
theorem d153_53 : decode (pm_c 153) 53 = .ok (.aload_n 0, 1) := by decide +kernel
theorem d153_54 : decode (pm_c 153) 54 = .ok (.iconst 4, 1) := by decide +kernel
theorem d153_55 : decode (pm_c 153) 55 = .ok (.newarray .int, 2) := by decide +kernel
theorem d153_57 : decode (pm_c 153) 57 = .ok (.putfield 29, 3) := by decide +kernel
theorem d153_60 : decode (pm_c 153) 60 = .ok (.aload_n 0, 1) := by decide +kernel
theorem d153_61 : decode (pm_c 153) 61 = .ok (.iconst 4, 1) := by decide +kernel
theorem d153_62 : decode (pm_c 153) 62 = .ok (.newarray .boolean, 2) := by decide +kernel
theorem d153_64 : decode (pm_c 153) 64 = .ok (.putfield 32, 3) := by decide +kernel
theorem d153_67 : decode (pm_c 153) 67 = .ok (.aload_n 0, 1) := by decide +kernel
theorem d153_68 : decode (pm_c 153) 68 = .ok (.bipush 16, 2) := by decide +kernel
theorem d153_70 : decode (pm_c 153) 70 = .ok (.newarray .int, 2) := by decide +kernel
theorem d153_72 : decode (pm_c 153) 72 = .ok (.putfield 36, 3) := by decide +kernel
theorem d153_75 : decode (pm_c 153) 75 = .ok (.aload_n 0, 1) := by decide +kernel
theorem d153_76 : decode (pm_c 153) 76 = .ok (.iconst 4, 1) := by decide +kernel
theorem d153_77 : decode (pm_c 153) 77 = .ok (.newarray .boolean, 2) := by decide +kernel
theorem d153_79 : decode (pm_c 153) 79 = .ok (.putfield 39, 3) := by decide +kernel
theorem d153_82 : decode (pm_c 153) 82 = .ok (.aload_n 0, 1) := by decide +kernel
theorem d153_83 : decode (pm_c 153) 83 = .ok (.iconst 4, 1) := by decide +kernel
theorem d153_84 : decode (pm_c 153) 84 = .ok (.newarray .int, 2) := by decide +kernel
theorem d153_86 : decode (pm_c 153) 86 = .ok (.putfield 42, 3) := by decide +kernel
theorem d153_89 : decode (pm_c 153) 89 = .ok (.aload_n 0, 1) := by decide +kernel
theorem d153_90 : decode (pm_c 153) 90 = .ok (.bipush 96, 2) := by decide +kernel
theorem d153_92 : decode (pm_c 153) 92 = .ok (.newarray .int, 2) := by decide +kernel
theorem d153_94 : decode (pm_c 153) 94 = .ok (.putfield 45, 3) := by decide +kernel
theorem d153_97 : decode (pm_c 153) 97 = .ok (.aload_n 0, 1) := by decide +kernel
theorem d153_98 : decode (pm_c 153) 98 = .ok (.iconst 4, 1) := by decide +kernel
theorem d153_99 : decode (pm_c 153) 99 = .ok (.newarray .int, 2) := by decide +kernel
theorem d153_101 : decode (pm_c 153) 101 = .ok (.putfield 48, 3) := by decide +kernel
theorem d153_104 : decode (pm_c 153) 104 = .ok (.aload_n 0, 1) := by decide +kernel
theorem d153_105 : decode (pm_c 153) 105 = .ok (.bipush 24, 2) := by decide +kernel
theorem d153_107 : decode (pm_c 153) 107 = .ok (.newarray .int, 2) := by decide +kernel
theorem d153_109 : decode (pm_c 153) 109 = .ok (.putfield 51, 3) := by decide +kernel
theorem d153_112 : decode (pm_c 153) 112 = .ok (.aload_n 0, 1) := by decide +kernel
theorem d153_113 : decode (pm_c 153) 113 = .ok (.iconst 4, 1) := by decide +kernel
theorem d153_114 : decode (pm_c 153) 114 = .ok (.newarray .int, 2) := by decide +kernel
theorem d153_116 : decode (pm_c 153) 116 = .ok (.putfield 54, 3) := by decide +kernel
theorem d153_119 : decode (pm_c 153) 119 = .ok (.aload_n 0, 1) := by decide +kernel
theorem d153_120 : decode (pm_c 153) 120 = .ok (.bipush 24, 2) := by decide +kernel
theorem d153_122 : decode (pm_c 153) 122 = .ok (.newarray .int, 2) := by decide +kernel
theorem d153_124 : decode (pm_c 153) 124 = .ok (.putfield 57, 3) := by decide +kernel
theorem d153_127 : decode (pm_c 153) 127 = .ok (.aload_n 0, 1) := by decide +kernel
theorem d153_128 : decode (pm_c 153) 128 = .ok (.bipush 24, 2) := by decide +kernel
theorem d153_130 : decode (pm_c 153) 130 = .ok (.newarray .int, 2) := by decide +kernel
theorem d153_132 : decode (pm_c 153) 132 = .ok (.putfield 60, 3) := by decide +kernel
theorem d153_135 : decode (pm_c 153) 135 = .ok (.aload_n 0, 1) := by decide +kernel
theorem d153_136 : decode (pm_c 153) 136 = .ok (.iconst 4, 1) := by decide +kernel
theorem d153_137 : decode (pm_c 153) 137 = .ok (.newarray .boolean, 2) := by decide +kernel
theorem d153_139 : decode (pm_c 153) 139 = .ok (.putfield 63, 3) := by decide +kernel
theorem d153_142 : decode (pm_c 153) 142 = .ok (.aload_n 0, 1) := by decide +kernel
theorem d153_143 : decode (pm_c 153) 143 = .ok (.sipush 220, 3) := by decide +kernel
theorem d153_146 : decode (pm_c 153) 146 = .ok (.newarray .int, 2) := by decide +kernel
theorem d153_148 : decode (pm_c 153) 148 = .ok (.putfield 66, 3) := by decide +kernel
theorem d153_151 : decode (pm_c 153) 151 = .ok (.aload_n 0, 1) := by decide +kernel
theorem d153_152 : decode (pm_c 153) 152 = .ok (.bipush 24, 2) := by decide +kernel
theorem d153_154 : decode (pm_c 153) 154 = .ok (.newarray .int, 2) := by decide +kernel
theorem d153_156 : decode (pm_c 153) 156 = .ok (.putfield 69, 3) := by decide +kernel
theorem d153_159 : decode (pm_c 153) 159 = .ok (.aload_n 0, 1) := by decide +kernel
theorem d153_160 : decode (pm_c 153) 160 = .ok (.bipush 8, 2) := by decide +kernel
theorem d153_162 : decode (pm_c 153) 162 = .ok (.newarray .int, 2) := by decide +kernel
theorem d153_164 : decode (pm_c 153) 164 = .ok (.putfield 72, 3) := by decide +kernel
theorem d153_167 : decode (pm_c 153) 167 = .ok (.aload_n 0, 1) := by decide +kernel
theorem d153_168 : decode (pm_c 153) 168 = .ok (.bipush 8, 2) := by decide +kernel
theorem d153_170 : decode (pm_c 153) 170 = .ok (.newarray .int, 2) := by decide +kernel
theorem d153_172 : decode (pm_c 153) 172 = .ok (.putfield 75, 3) := by decide +kernel
theorem d153_175 : decode (pm_c 153) 175 = .ok (.aload_n 0, 1) := by decide +kernel
theorem d153_176 : decode (pm_c 153) 176 = .ok (.bipush 96, 2) := by decide +kernel
theorem d153_178 : decode (pm_c 153) 178 = .ok (.newarray .int, 2) := by decide +kernel
theorem d153_180 : decode (pm_c 153) 180 = .ok (.putfield 78, 3) := by decide +kernel
theorem d153_183 : decode (pm_c 153) 183 = .ok (.aload_n 0, 1) := by decide +kernel
theorem d153_184 : decode (pm_c 153) 184 = .ok (.bipush 24, 2) := by decide +kernel
theorem d153_186 : decode (pm_c 153) 186 = .ok (.newarray .int, 2) := by decide +kernel
theorem d153_188 : decode (pm_c 153) 188 = .ok (.putfield 81, 3) := by decide +kernel
theorem d153_191 : decode (pm_c 153) 191 = .ok (.aload_n 0, 1) := by decide +kernel
theorem d153_192 : decode (pm_c 153) 192 = .ok (.lconst 1, 1) := by decide +kernel
theorem d153_193 : decode (pm_c 153) 193 = .ok (.putfield 84, 3) := by decide +kernel
theorem d153_196 : decode (pm_c 153) 196 = .ok (.iconst 0, 1) := by decide +kernel
theorem d153_197 : decode (pm_c 153) 197 = .ok (.istore_n 1, 1) := by decide +kernel
theorem d153_198 : decode (pm_c 153) 198 = .ok (.iload_n 1, 1) := by decide +kernel
theorem d153_199 : decode (pm_c 153) 199 = .ok (.bipush 6, 2) := by decide +kernel
theorem d153_201 : decode (pm_c 153) 201 = .ok (.if_icmp .ge 16, 3) := by decide +kernel
theorem d153_204 : decode (pm_c 153) 204 = .ok (.aload_n 0, 1) := by decide +kernel
theorem d153_205 : decode (pm_c 153) 205 = .ok (.getfield 13, 3) := by decide +kernel
theorem d153_208 : decode (pm_c 153) 208 = .ok (.iload_n 1, 1) := by decide +kernel
theorem d153_209 : decode (pm_c 153) 209 = .ok (.iconst (-1), 1) := by decide +kernel
theorem d153_210 : decode (pm_c 153) 210 = .ok (.iastore, 1) := by decide +kernel
theorem d153_211 : decode (pm_c 153) 211 = .ok (.iinc 1 1, 3) := by decide +kernel
theorem d153_214 : decode (pm_c 153) 214 = .ok (.goto (-16), 3) := by decide +kernel
theorem d153_217 : decode (pm_c 153) 217 = .ok (.iconst 0, 1) := by decide +kernel
theorem d153_218 : decode (pm_c 153) 218 = .ok (.istore_n 1, 1) := by decide +kernel
theorem d153_219 : decode (pm_c 153) 219 = .ok (.iload_n 1, 1) := by decide +kernel
theorem d153_220 : decode (pm_c 153) 220 = .ok (.iconst 4, 1) := by decide +kernel
theorem d153_221 : decode (pm_c 153) 221 = .ok (.if_icmp .ge 16, 3) := by decide +kernel
theorem d153_224 : decode (pm_c 153) 224 = .ok (.aload_n 0, 1) := by decide +kernel
theorem d153_225 : decode (pm_c 153) 225 = .ok (.getfield 22, 3) := by decide +kernel
theorem d153_228 : decode (pm_c 153) 228 = .ok (.iload_n 1, 1) := by decide +kernel
theorem d153_229 : decode (pm_c 153) 229 = .ok (.iconst (-1), 1) := by decide +kernel
theorem d153_230 : decode (pm_c 153) 230 = .ok (.iastore, 1) := by decide +kernel
theorem d153_231 : decode (pm_c 153) 231 = .ok (.iinc 1 1, 3) := by decide +kernel
theorem d153_234 : decode (pm_c 153) 234 = .ok (.goto (-15), 3) := by decide +kernel
theorem d153_237 : decode (pm_c 153) 237 = .ok (.return_, 1) := by decide +kernel
