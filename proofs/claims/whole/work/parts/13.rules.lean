/-! rules: what an instruction does, as equations of runs -/
section PMV
variable {X : pm_X} {j pc : Nat} {L : pm_L} {S : List Value} {u : Nat × Nat} {H : pm_H} {U : pm_U}
theorem v_n {i : Instr} {n pc' : Nat} {L' : pm_L} {S' : List Value} {u' : Nat × Nat} {H' : pm_H} (hd : decode (pm_c j) pc = .ok (i, n)) (h : pm_ins X j pc L S u H i n = some (.inl (pc', L', S', u', H'))) : pm_V X j pc L S u H = pm_V X j pc' L' S' u' H' := by
  rw [pm_V_dec hd, h]
theorem v_r {i : Instr} {n : Nat} {v : Option Value} (hd : decode (pm_c j) pc = .ok (i, n)) (h : pm_ins X j pc L S u H i n = some (.inr (.inr v))) : pm_V X j pc L S u H = some (v, H) := by
  rw [pm_V_dec hd, h]
theorem v_c {i : Instr} {n j' : Nat} {as S' : List Value} (hd : decode (pm_c j) pc = .ok (i, n)) (h : pm_ins X j pc L S u H i n = some (.inr (.inl (j', as, S')))) (hm : pm_mc j' = 0) (hs : pm_ms j' = 0) : pm_V X j pc L S u H = pm_bd X j (pc + 3) L S' u (pm_V0 X j' as H) := by
  rw [pm_V_dec hd, h]
  dsimp only
  rw [hm, hs]
  rfl
theorem v_jp {off : Int} {tgt : Nat} (ht : (pc : Int) + off = (tgt : Int)) : pm_jp pc off L S u H = pm_n tgt L S u H := by
  unfold pm_jp pm_tg
  rw [ht, if_pos (Int.natCast_nonneg tgt)]
  rfl
theorem v_goto {off : Int} {tgt : Nat} (hd : decode (pm_c j) pc = .ok (.goto off, 3)) (ht : (pc : Int) + off = (tgt : Int)) : pm_V X j pc L S u H = pm_V X j tgt L S u H := by
  refine v_n hd ?_
  show (if 3 = 3 then pm_jp pc off L S u H else none) = _
  rw [if_pos rfl, v_jp ht]
  rfl
theorem v_b1 {c : Jvm.ClassFile.Cond} {off : Int} {tgt : Nat} {x : Int32} (hd : decode (pm_c j) pc = .ok (.ifCond c off, 3)) (ht : (pc : Int) + off = (tgt : Int)) : pm_V X j pc L (.int x :: S) u H = if pm_cnd c x 0 = true then pm_V X j tgt L S u H else pm_V X j (pc + 3) L S u H := by
  rw [pm_V_dec hd]
  have e : pm_ins X j pc L (.int x :: S) u H (.ifCond c off) 3 = if pm_cnd c x 0 = true then pm_jp pc off L S u H else pm_n (pc + 3) L S u H := rfl
  rw [e, v_jp ht]
  by_cases hc : pm_cnd c x 0 = true
  · rw [if_pos hc, if_pos hc]; rfl
  · rw [if_neg hc, if_neg hc]; rfl
theorem v_b2 {c : Jvm.ClassFile.Cond} {off : Int} {tgt : Nat} {x y : Int32} (hd : decode (pm_c j) pc = .ok (.if_icmp c off, 3)) (ht : (pc : Int) + off = (tgt : Int)) : pm_V X j pc L (.int y :: .int x :: S) u H = if pm_cnd c x y = true then pm_V X j tgt L S u H else pm_V X j (pc + 3) L S u H := by
  rw [pm_V_dec hd]
  have e : pm_ins X j pc L (.int y :: .int x :: S) u H (.if_icmp c off) 3 = if pm_cnd c x y = true then pm_jp pc off L S u H else pm_n (pc + 3) L S u H := rfl
  rw [e, v_jp ht]
  by_cases hc : pm_cnd c x y = true
  · rw [if_pos hc, if_pos hc]; rfl
  · rw [if_neg hc, if_neg hc]; rfl
theorem v_dc {p : Prop} [h : Decidable p] {α : Type} {a b : α} {q : Bool} (hq : q = decide p) : (if q = true then a else b) = if p then a else b := by
  subst hq
  by_cases hp : p <;> simp [hp]
theorem v_if_eq {off : Int} {tgt : Nat} {x : Int32} (hd : decode (pm_c j) pc = .ok (.ifCond .eq off, 3)) (ht : (pc : Int) + off = (tgt : Int)) : pm_V X j pc L (.int x :: S) u H = if x = 0 then pm_V X j tgt L S u H else pm_V X j (pc + 3) L S u H := (v_b1 hd ht).trans (v_dc rfl)
theorem v_ic_eq {off : Int} {tgt : Nat} {x y : Int32} (hd : decode (pm_c j) pc = .ok (.if_icmp .eq off, 3)) (ht : (pc : Int) + off = (tgt : Int)) : pm_V X j pc L (.int y :: .int x :: S) u H = if x = y then pm_V X j tgt L S u H else pm_V X j (pc + 3) L S u H := (v_b2 hd ht).trans (v_dc rfl)
theorem v_if_ne {off : Int} {tgt : Nat} {x : Int32} (hd : decode (pm_c j) pc = .ok (.ifCond .ne off, 3)) (ht : (pc : Int) + off = (tgt : Int)) : pm_V X j pc L (.int x :: S) u H = if ¬ x = 0 then pm_V X j tgt L S u H else pm_V X j (pc + 3) L S u H := (v_b1 hd ht).trans (v_dc rfl)
theorem v_ic_ne {off : Int} {tgt : Nat} {x y : Int32} (hd : decode (pm_c j) pc = .ok (.if_icmp .ne off, 3)) (ht : (pc : Int) + off = (tgt : Int)) : pm_V X j pc L (.int y :: .int x :: S) u H = if ¬ x = y then pm_V X j tgt L S u H else pm_V X j (pc + 3) L S u H := (v_b2 hd ht).trans (v_dc rfl)
theorem v_if_lt {off : Int} {tgt : Nat} {x : Int32} (hd : decode (pm_c j) pc = .ok (.ifCond .lt off, 3)) (ht : (pc : Int) + off = (tgt : Int)) : pm_V X j pc L (.int x :: S) u H = if x < 0 then pm_V X j tgt L S u H else pm_V X j (pc + 3) L S u H := (v_b1 hd ht).trans (v_dc rfl)
theorem v_ic_lt {off : Int} {tgt : Nat} {x y : Int32} (hd : decode (pm_c j) pc = .ok (.if_icmp .lt off, 3)) (ht : (pc : Int) + off = (tgt : Int)) : pm_V X j pc L (.int y :: .int x :: S) u H = if x < y then pm_V X j tgt L S u H else pm_V X j (pc + 3) L S u H := (v_b2 hd ht).trans (v_dc rfl)
theorem v_if_ge {off : Int} {tgt : Nat} {x : Int32} (hd : decode (pm_c j) pc = .ok (.ifCond .ge off, 3)) (ht : (pc : Int) + off = (tgt : Int)) : pm_V X j pc L (.int x :: S) u H = if 0 ≤ x then pm_V X j tgt L S u H else pm_V X j (pc + 3) L S u H := (v_b1 hd ht).trans (v_dc rfl)
theorem v_ic_ge {off : Int} {tgt : Nat} {x y : Int32} (hd : decode (pm_c j) pc = .ok (.if_icmp .ge off, 3)) (ht : (pc : Int) + off = (tgt : Int)) : pm_V X j pc L (.int y :: .int x :: S) u H = if y ≤ x then pm_V X j tgt L S u H else pm_V X j (pc + 3) L S u H := (v_b2 hd ht).trans (v_dc rfl)
theorem v_if_gt {off : Int} {tgt : Nat} {x : Int32} (hd : decode (pm_c j) pc = .ok (.ifCond .gt off, 3)) (ht : (pc : Int) + off = (tgt : Int)) : pm_V X j pc L (.int x :: S) u H = if 0 < x then pm_V X j tgt L S u H else pm_V X j (pc + 3) L S u H := (v_b1 hd ht).trans (v_dc rfl)
theorem v_ic_gt {off : Int} {tgt : Nat} {x y : Int32} (hd : decode (pm_c j) pc = .ok (.if_icmp .gt off, 3)) (ht : (pc : Int) + off = (tgt : Int)) : pm_V X j pc L (.int y :: .int x :: S) u H = if y < x then pm_V X j tgt L S u H else pm_V X j (pc + 3) L S u H := (v_b2 hd ht).trans (v_dc rfl)
theorem v_if_le {off : Int} {tgt : Nat} {x : Int32} (hd : decode (pm_c j) pc = .ok (.ifCond .le off, 3)) (ht : (pc : Int) + off = (tgt : Int)) : pm_V X j pc L (.int x :: S) u H = if x ≤ 0 then pm_V X j tgt L S u H else pm_V X j (pc + 3) L S u H := (v_b1 hd ht).trans (v_dc rfl)
theorem v_ic_le {off : Int} {tgt : Nat} {x y : Int32} (hd : decode (pm_c j) pc = .ok (.if_icmp .le off, 3)) (ht : (pc : Int) + off = (tgt : Int)) : pm_V X j pc L (.int y :: .int x :: S) u H = if x ≤ y then pm_V X j tgt L S u H else pm_V X j (pc + 3) L S u H := (v_b2 hd ht).trans (v_dc rfl)
theorem v_iret {v : Int32} (hd : decode (pm_c j) pc = .ok (.ireturn, 1)) (hr : pm_rt j = some .int) : pm_V X j pc L [.int v] (0, 0) H = some (some (.int v), H) := by
  refine v_r hd ?_
  simp [pm_ins, hr]
theorem v_zret {v : Int32} (hd : decode (pm_c j) pc = .ok (.ireturn, 1)) (hr : pm_rt j = some .boolean) (hv : v = 0 ∨ v = 1) : pm_V X j pc L [.int v] (0, 0) H = some (some (.int v), H) := by
  refine v_r hd ?_
  simp [pm_ins, hr, hv]
theorem v_zretU {v : Int32} (hd : decode (pm_c j) pc = .ok (.ireturn, 1)) (hr : pm_rt j = some .boolean) (hv : v = 0 ∨ v = 1) (hu : u.1 ≤ pm_mc j ∧ u.2 ≤ pm_ms j) : pm_V X j pc L [.int v] u H = some (some (.int v), H) := by
  refine v_r hd ?_
  simp [pm_ins, hr, hv, hu]
theorem v_lret {v : Int64} (hd : decode (pm_c j) pc = .ok (.lreturn, 1)) (hr : pm_rt j = some .long) : pm_V X j pc L [.long v] (0, 0) H = some (some (.long v), H) := by
  refine v_r hd ?_
  simp [pm_ins, hr]
theorem v_vret (hd : decode (pm_c j) pc = .ok (.return_, 1)) (hr : pm_rt j = none) : pm_V X j pc L [] (0, 0) H = some (none, H) := by
  refine v_r hd ?_
  simp [pm_ins, hr]
theorem v_gf {i k ci s q : Nat} {v : Value} (hd : decode (pm_c j) pc = .ok (.getfield i, 3)) (hf : pm_fnd pm_fl (pm_oc j) i = some (ci, s, q)) (ho : pm_ly k = some (.inl ci)) (hv : pm_fv U k ci s = v) (hfit : pm_fit ((pm_ty.getD ci (fun _ => .int)) s) v = true) : pm_V X j pc L (.ref k :: S) u (pm_hp U) = pm_V X j (pc + 3) L (v :: S) u (pm_hp U) := by
  refine v_n hd ?_
  have hs := (pm_fl_ok hf).2.1
  have hg : ((List.range (pm_K ci).2.2).map (pm_fv U k ci))[s]? = some v := by rw [List.getElem?_map, List.getElem?_range hs, ← hv]; rfl
  unfold pm_ins
  simp only [pm_r1, hf, pm_ob, pm_g_o ho, hg, hfit, if_true]
  rfl
theorem v_getI {i k ci s q : Nat} (hd : decode (pm_c j) pc = .ok (.getfield i, 3)) (hf : pm_fnd pm_fl (pm_oc j) i = some (ci, s, q)) (ht : (pm_ty.getD ci (fun _ => .int)) s = .int) (ho : pm_ly k = some (.inl ci)) : pm_V X j pc L (.ref k :: S) u (pm_hp U) = pm_V X j (pc + 3) L (.int (U.1 k s) :: S) u (pm_hp U) :=
  v_gf hd hf ho (by unfold pm_fv; rw [ht]) (by rw [ht]; rfl)
theorem v_getZ {i k ci s q : Nat} (hd : decode (pm_c j) pc = .ok (.getfield i, 3)) (hf : pm_fnd pm_fl (pm_oc j) i = some (ci, s, q)) (ht : (pm_ty.getD ci (fun _ => .int)) s = .boolean) (ho : pm_ly k = some (.inl ci)) (hz : U.1 k s = 0 ∨ U.1 k s = 1) : pm_V X j pc L (.ref k :: S) u (pm_hp U) = pm_V X j (pc + 3) L (.int (U.1 k s) :: S) u (pm_hp U) :=
  v_gf hd hf ho (by unfold pm_fv; rw [ht]) (by rw [ht]; rcases hz with hz | hz <;> rw [hz] <;> rfl)
theorem v_getJ {i k ci s q : Nat} (hd : decode (pm_c j) pc = .ok (.getfield i, 3)) (hf : pm_fnd pm_fl (pm_oc j) i = some (ci, s, q)) (ht : (pm_ty.getD ci (fun _ => .int)) s = .long) (ho : pm_ly k = some (.inl ci)) : pm_V X j pc L (.ref k :: S) u (pm_hp U) = pm_V X j (pc + 3) L (.long (U.2.1 k s) :: S) u (pm_hp U) :=
  v_gf hd hf ho (by unfold pm_fv; rw [ht]) (by rw [ht]; rfl)
/-- a field that holds a ref that stays -/
theorem v_getR {i k ci s q o : Nat} (hd : decode (pm_c j) pc = .ok (.getfield i, 3)) (hf : pm_fnd pm_fl (pm_oc j) i = some (ci, s, q)) (ht : (match (pm_ty.getD ci (fun _ => .int)) s with | .object _ => true | .array _ => true | _ => false) = true) (hn : ¬ (ci = 3 ∧ s = 2)) (hof : pm_off ci s = o) (ho : pm_ly k = some (.inl ci)) : pm_V X j pc L (.ref k :: S) u (pm_hp U) = pm_V X j (pc + 3) L (.ref (k + o) :: S) u (pm_hp U) := by
  subst hof
  generalize hg : (pm_ty.getD ci (fun _ => FieldType.int)) s = t at ht
  refine v_gf hd hf ho ?_ ?_
  · unfold pm_fv
    rw [hg]
    cases t <;> first | exact if_neg hn | cases ht
  · rw [hg]
    cases t <;> first | rfl | cases ht
theorem v_getT {i q t : Nat} (hd : decode (pm_c j) pc = .ok (.getfield i, 3)) (hf : pm_fnd pm_fl (pm_oc j) i = some (3, 2, q)) (ht : U.2.2.1 = some t) : pm_V X j pc L (.ref 57 :: S) u (pm_hp U) = pm_V X j (pc + 3) L (.ref t :: S) u (pm_hp U) :=
  v_gf hd hf (by decide +kernel) (by show pm_rfv U.2.2.1 = _; rw [ht]; rfl) rfl
theorem v_pf {i k ci s q : Nat} {v : Value} {U' : pm_U} (hd : decode (pm_c j) pc = .ok (.putfield i, 3)) (hf : pm_fnd pm_fl (pm_oc j) i = some (ci, s, q)) (hfin : ((pm_cl.getD ci (RX0, TX0, 3)).2.1 s).2.2.2 = false) (ho : pm_ly k = some (.inl ci)) (hfit : pm_fit ((pm_ty.getD ci (fun _ => .int)) s) v = true) (hU : pm_set (pm_hp U) k (.inr (ci, ((List.range (pm_K ci).2.2).map (pm_fv U k ci)).set s v)) = pm_hp U') : pm_V X j pc L (v :: .ref k :: S) u (pm_hp U) = pm_V X j (pc + 3) L S u (pm_hp U') := by
  refine v_n hd ?_
  have hs := (pm_fl_ok hf).2.1
  unfold pm_ins
  simp only [hf, pm_ob, pm_g_o ho, hU]
  rw [if_pos trivial, if_pos ⟨trivial, by rw [List.length_map, List.length_range]; exact hs, hfit, fun h => by rw [hfin] at h; cases h⟩]
  rfl
theorem v_putI {i k ci s q : Nat} {v : Int32} (hd : decode (pm_c j) pc = .ok (.putfield i, 3)) (hf : pm_fnd pm_fl (pm_oc j) i = some (ci, s, q)) (hfin : ((pm_cl.getD ci (RX0, TX0, 3)).2.1 s).2.2.2 = false) (ht : (pm_ty.getD ci (fun _ => .int)) s = .int) (ho : pm_ly k = some (.inl ci)) : pm_V X j pc L (.int v :: .ref k :: S) u (pm_hp U) = pm_V X j (pc + 3) L S u (pm_hp (pm_up U k s v)) :=
  v_pf hd hf hfin ho (by rw [ht]; rfl) (pm_s_i ho (Or.inl ht))
theorem v_putZ {i k ci s q : Nat} {v : Int32} (hd : decode (pm_c j) pc = .ok (.putfield i, 3)) (hf : pm_fnd pm_fl (pm_oc j) i = some (ci, s, q)) (hfin : ((pm_cl.getD ci (RX0, TX0, 3)).2.1 s).2.2.2 = false) (ht : (pm_ty.getD ci (fun _ => .int)) s = .boolean) (ho : pm_ly k = some (.inl ci)) (hz : v = 0 ∨ v = 1) : pm_V X j pc L (.int v :: .ref k :: S) u (pm_hp U) = pm_V X j (pc + 3) L S u (pm_hp (pm_up U k s v)) :=
  v_pf hd hf hfin ho (by rw [ht]; rcases hz with hz | hz <;> rw [hz] <;> rfl) (pm_s_i ho (Or.inr ht))
theorem v_putJ {i k ci s q : Nat} {v : Int64} (hd : decode (pm_c j) pc = .ok (.putfield i, 3)) (hf : pm_fnd pm_fl (pm_oc j) i = some (ci, s, q)) (hfin : ((pm_cl.getD ci (RX0, TX0, 3)).2.1 s).2.2.2 = false) (ht : (pm_ty.getD ci (fun _ => .int)) s = .long) (ho : pm_ly k = some (.inl ci)) : pm_V X j pc L (.long v :: .ref k :: S) u (pm_hp U) = pm_V X j (pc + 3) L S u (pm_hp (pm_upJ U k s v)) :=
  v_pf hd hf hfin ho (by rw [ht]; rfl) (pm_s_j ho ht)
theorem v_putT {i q t : Nat} (hd : decode (pm_c j) pc = .ok (.putfield i, 3)) (hf : pm_fnd pm_fl (pm_oc j) i = some (3, 2, q)) : pm_V X j pc L (.ref t :: .ref 57 :: S) u (pm_hp U) = pm_V X j (pc + 3) L S u (pm_hp (pm_upT U (some t))) :=
  v_pf hd hf (by decide +kernel) (by decide +kernel) rfl (pm_s_t (t := some t))
theorem v_ge0 {i : Nat} (h : i < 2 ^ 31) : (0 : Int32) ≤ nI i := nI_pos' h
theorem v_iald {k n i : Nat} (hd : decode (pm_c j) pc = .ok (.iaload, 1)) (ha : pm_ly k = some (.inr (.int, n, false))) (hn : n < 1000) (hi : i < n) : pm_V X j pc L (.int (nI i) :: .ref k :: S) u (pm_hp U) = pm_V X j (pc + 1) L (.int (U.1 k i) :: S) u (pm_hp U) := by
  refine v_n hd ?_
  have hk := (pm_ly_rg ha).1
  unfold pm_ins
  simp only [pm_ir, pm_ai, pm_g_a ha, nI_clamp (show i < 2 ^ 31 by omega), v_ge0 (show i < 2 ^ 31 by omega), hi, show ¬ k = 0 by omega]
  simp [pm_n]
theorem v_bald {k n i : Nat} {ty : FieldType} (hd : decode (pm_c j) pc = .ok (.baload, 1)) (ha : pm_ly k = some (.inr (ty, n, false))) (ht : ty = .byte ∨ ty = .boolean) (hn : n < 1000) (hi : i < n) : pm_V X j pc L (.int (nI i) :: .ref k :: S) u (pm_hp U) = pm_V X j (pc + 1) L (.int (U.1 k i) :: S) u (pm_hp U) := by
  refine v_n hd ?_
  unfold pm_ins
  simp only [pm_ir, pm_ai, pm_g_a ha, nI_clamp (show i < 2 ^ 31 by omega), v_ge0 (show i < 2 ^ 31 by omega), hi, ht]
  simp [pm_n]
theorem v_aald {k n i : Nat} {C : String} (hd : decode (pm_c j) pc = .ok (.aaload, 1)) (ha : pm_ly k = some (.inr (.object C, n, true))) (hn : n < 1000) (hi : i < n) : pm_V X j pc L (.int (nI i) :: .ref k :: S) u (pm_hp U) = pm_V X j (pc + 1) L (.ref (k + 1 + 2 * i) :: S) u (pm_hp U) := by
  refine v_n hd ?_
  unfold pm_ins
  simp only [pm_ir, pm_aq, pm_g_q ha, nI_clamp (show i < 2 ^ 31 by omega), v_ge0 (show i < 2 ^ 31 by omega), hi]
  simp [pm_rfv, pm_n]
theorem v_iast {k n i : Nat} {x : Int32} (hd : decode (pm_c j) pc = .ok (.iastore, 1)) (ha : pm_ly k = some (.inr (.int, n, false))) (hn : n < 1000) (hi : i < n) : pm_V X j pc L (.int x :: .int (nI i) :: .ref k :: S) u (pm_hp U) = pm_V X j (pc + 1) L S u (pm_hp (pm_up U k i x)) := by
  refine v_n hd ?_
  unfold pm_ins
  simp only [pm_iir, pm_ai, pm_g_a ha, nI_clamp (show i < 2 ^ 31 by omega), v_ge0 (show i < 2 ^ 31 by omega), hi, pm_s_a ha]
  simp [pm_n]
theorem v_bast {k n i : Nat} {x : Int32} {ty : FieldType} (hd : decode (pm_c j) pc = .ok (.bastore, 1)) (ha : pm_ly k = some (.inr (ty, n, false))) (ht : ty = .byte ∨ ty = .boolean) (hn : n < 1000) (hi : i < n) : pm_V X j pc L (.int x :: .int (nI i) :: .ref k :: S) u (pm_hp U) = pm_V X j (pc + 1) L S u (pm_hp (pm_up U k i (vp_nar ty x))) := by
  refine v_n hd ?_
  unfold pm_ins
  simp only [pm_iir, pm_ai, pm_g_a ha, nI_clamp (show i < 2 ^ 31 by omega), v_ge0 (show i < 2 ^ 31 by omega), hi, ht, pm_s_a ha]
  simp [pm_n]
theorem v_acp {i k k0 n n0 N sp dp : Nat} {q : Nat × Nat × Nat × Nat × Nat × Nat} (hd : decode (pm_c j) pc = .ok (.invokestatic i, 3)) (hf : pm_fnd pm_mth (pm_oc j) i = some (5, q)) (hr : 1 ≤ pm_fr j ∧ 26 ≤ pm_lo j) (hc : pm_cat S ≤ 8) (ha0 : pm_ly k0 = some (.inr (.int, n0, false))) (ha : pm_ly k = some (.inr (.int, n, false))) (hn : n < 1000) (hn0 : n0 < 1000) (h1 : sp + N ≤ n0) (h2 : dp + N ≤ n) : pm_V X j pc L (.int (nI N) :: .int (nI dp) :: .ref k :: .int (nI sp) :: .ref k0 :: S) u (pm_hp U) = pm_V X j (pc + 3) L S u (pm_hp (pm_upA U k (va_cpy (U.1 k0) (U.1 k) sp dp N))) := by
  refine v_n hd ?_
  have hN : N < 2 ^ 31 := by omega
  have hsp : sp < 2 ^ 31 := by omega
  have hdp : dp < 2 ^ 31 := by omega
  unfold pm_ins
  simp only [hf, pm_ai, pm_g_a ha0, pm_g_a ha, nI_clamp hN, nI_clamp hsp, nI_clamp hdp]
  rw [if_pos trivial, if_pos ⟨trivial, trivial, v_ge0 hsp, v_ge0 hdp, v_ge0 hN, h1, h2, hr.1, hc, hr.2⟩, pm_s_A ha]
  rfl
theorem v_callV {i k j' : Nat} {q : Nat × Nat × Nat × Nat × Nat} {S' : List Value} (hd : decode (pm_c j) pc = .ok (.invokevirtual i, 3)) (hf : pm_fnd pm_mth (pm_oc j) i = some (1, j', q)) (hS : S.drop (pm_np j') = .ref k :: S') (hc : (pm_fr j' + 1 ≤ pm_fr j ∧ 8 + (pm_ml j' + 11) + pm_lo j' ≤ pm_lo j ∧ pm_mc j' = 0 ∧ pm_ms j' = 0) ∧ pm_cat S' ≤ 8 ∧ pm_cat (S.take (pm_np j')) + 1 ≤ pm_ml j') (hu : u.1 ≤ pm_mc j ∧ u.2 ≤ pm_ms j) (ho : pm_ly k = some (.inl (pm_oc j'))) : pm_V X j pc L S u (pm_hp U) = pm_bd X j (pc + 3) L S' u (pm_V0 X j' (.ref k :: (S.take (pm_np j')).reverse) (pm_hp U)) := by
  obtain ⟨⟨c1, c2, c3, c4⟩, c5, c6⟩ := hc
  refine v_c hd ?_ c3 c4
  unfold pm_ins
  simp only [hf, hS, pm_ob, pm_g_o ho]
  rw [if_pos trivial, if_pos ⟨trivial, c1, c2, by rw [c3]; exact hu.1, by rw [c4]; exact hu.2, c5, c6⟩]
theorem v_callS {i kd j' : Nat} {q : Nat × Nat × Nat × Nat × Nat} (hd : decode (pm_c j) pc = .ok (.invokestatic i, 3)) (hf : pm_fnd pm_mth (pm_oc j) i = some (kd, j', q)) (hk : kd = 0 ∨ kd = 3) (hc : (pm_fr j' + 1 ≤ pm_fr j ∧ 8 + (pm_ml j' + 11) + pm_lo j' ≤ pm_lo j ∧ pm_mc j' = 0 ∧ pm_ms j' = 0) ∧ pm_np j' ≤ S.length ∧ pm_cat (S.drop (pm_np j')) ≤ 8 ∧ pm_cat (S.take (pm_np j')) ≤ pm_ml j') (hu : u.1 ≤ pm_mc j ∧ u.2 ≤ pm_ms j) : pm_V X j pc L S u H = pm_bd X j (pc + 3) L (S.drop (pm_np j')) u (pm_V0 X j' ((S.take (pm_np j')).reverse) H) := by
  obtain ⟨⟨c1, c2, c3, c4⟩, c5, c6, c7⟩ := hc
  refine v_c hd ?_ c3 c4
  unfold pm_ins
  rcases hk with rfl | rfl
  · simp only [hf]
    rw [if_pos trivial, if_pos ⟨Or.inl trivial, c5, c1, c2, by rw [c3]; exact hu.1, by rw [c4]; exact hu.2, c6, c7⟩]
  · simp only [hf]
    rw [if_pos trivial, if_pos ⟨Or.inr trivial, c5, c1, c2, by rw [c3]; exact hu.1, by rw [c4]; exact hu.2, c6, c7⟩]
end PMV
section PMV2
variable {X : pm_X} {j pc : Nat} {L : pm_L} {S : List Value} {u : Nat × Nat} {H : pm_H} {U : pm_U}
theorem v_iconst {k : Int} {v : Int32} (hd : decode (pm_c j) pc = .ok (.iconst k, 1)) (hv : Int32.ofInt k = v) : pm_V X j pc L S u H = pm_V X j (pc + 1) L (.int v :: S) u H := by
  subst hv
  exact v_n hd rfl
theorem v_bipush {k : Int} {v : Int32} (hd : decode (pm_c j) pc = .ok (.bipush k, 2)) (hv : (Int8.ofInt k).toInt32 = v) : pm_V X j pc L S u H = pm_V X j (pc + 2) L (.int v :: S) u H := by
  subst hv
  exact v_n hd rfl
theorem v_sipush {k : Int} {v : Int32} (hd : decode (pm_c j) pc = .ok (.sipush k, 3)) (hv : (Int16.ofInt k).toInt32 = v) : pm_V X j pc L S u H = pm_V X j (pc + 3) L (.int v :: S) u H := by
  subst hv
  exact v_n hd rfl
theorem v_iinc {i : Nat} {k : Int} {v x : Int32} {L' : pm_L} (hd : decode (pm_c j) pc = .ok (.iinc i k, 3)) (hv : Int32.ofInt k = v) (hi : i < pm_ml j) (hl : pm_ld L i = some (.int x)) (hL : pm_st L i (.int (x + v)) = L') : pm_V X j pc L S u H = pm_V X j (pc + 3) L' S u H := by
  subst hv
  subst hL
  refine v_n hd ?_
  unfold pm_ins
  simp [pm_ldi, hl, hi, pm_n]
theorem v_istore {i : Nat} {x : Int32} {L' : pm_L} (hd : decode (pm_c j) pc = .ok (.istore i, 2)) (hi : i < pm_ml j) (hL : pm_st L i (.int x) = L') : pm_V X j pc L (.int x :: S) u H = pm_V X j (pc + 2) L' S u H := by
  subst hL
  refine v_n hd ?_
  unfold pm_ins
  simp [pm_i1, hi, pm_n]
theorem v_istore_n {i : Fin 4} {x : Int32} {L' : pm_L} (hd : decode (pm_c j) pc = .ok (.istore_n i, 1)) (hi : (i : Nat) < pm_ml j) (hL : pm_st L i (.int x) = L') : pm_V X j pc L (.int x :: S) u H = pm_V X j (pc + 1) L' S u H := by
  subst hL
  refine v_n hd ?_
  unfold pm_ins
  simp [pm_i1, hi, pm_n]
theorem v_lstore {i : Nat} {x : Int64} {L' : pm_L} (hd : decode (pm_c j) pc = .ok (.lstore i, 2)) (hi : i + 1 < pm_ml j) (hL : pm_st L i (.long x) = L') : pm_V X j pc L (.long x :: S) u H = pm_V X j (pc + 2) L' S u H := by
  subst hL
  refine v_n hd ?_
  unfold pm_ins
  simp [pm_j1, hi, pm_n]
theorem v_lstore_n {i : Fin 4} {x : Int64} {L' : pm_L} (hd : decode (pm_c j) pc = .ok (.lstore_n i, 1)) (hi : (i : Nat) + 1 < pm_ml j) (hL : pm_st L i (.long x) = L') : pm_V X j pc L (.long x :: S) u H = pm_V X j (pc + 1) L' S u H := by
  subst hL
  refine v_n hd ?_
  unfold pm_ins
  simp [pm_j1, hi, pm_n]
theorem v_astore {i x : Nat} {L' : pm_L} (hd : decode (pm_c j) pc = .ok (.astore i, 2)) (hi : i < pm_ml j) (hL : pm_st L i (.ref x) = L') : pm_V X j pc L (.ref x :: S) u H = pm_V X j (pc + 2) L' S u H := by
  subst hL
  refine v_n hd ?_
  unfold pm_ins
  simp [pm_r1, hi, pm_n]
theorem v_astore_n {i : Fin 4} {x : Nat} {L' : pm_L} (hd : decode (pm_c j) pc = .ok (.astore_n i, 1)) (hi : (i : Nat) < pm_ml j) (hL : pm_st L i (.ref x) = L') : pm_V X j pc L (.ref x :: S) u H = pm_V X j (pc + 1) L' S u H := by
  subst hL
  refine v_n hd ?_
  unfold pm_ins
  simp [pm_r1, hi, pm_n]
theorem v_tsw {d lo hi off : Int} {offs : Array Int} {len tgt : Nat} {x : Int32} (hd : decode (pm_c j) pc = .ok (.tableswitch d lo hi offs, len)) (h1 : ¬ x.toInt < lo) (h2 : ¬ hi < x.toInt) (ho : offs[(x.toInt - lo).toNat]? = some off) (ht : (pc : Int) + off = (tgt : Int)) : pm_V X j pc L (.int x :: S) u H = pm_V X j tgt L S u H := by
  refine v_n hd ?_
  unfold pm_ins
  simp only [pm_i1, h1, h2, ho, or_self, if_false, v_jp ht]
  rfl
theorem v_tsd {d lo hi : Int} {offs : Array Int} {len tgt : Nat} {x : Int32} (hd : decode (pm_c j) pc = .ok (.tableswitch d lo hi offs, len)) (h : x.toInt < lo ∨ hi < x.toInt) (ht : (pc : Int) + d = (tgt : Int)) : pm_V X j pc L (.int x :: S) u H = pm_V X j tgt L S u H := by
  refine v_n hd ?_
  unfold pm_ins
  simp only [pm_i1, h, if_true, v_jp ht]
  rfl
theorem v_lsw {d off : Int} {ps : Array (Int × Int)} {len tgt : Nat} {x : Int32} (hd : decode (pm_c j) pc = .ok (.lookupswitch d ps, len)) (hp : (ps.toList.zip (ps.toList.drop 1)).all (fun (a, next) => a.1 < next.1) = true) (ho : Op.lookupswitch.offset ps.toList d x.toInt = off) (ht : (pc : Int) + off = (tgt : Int)) : pm_V X j pc L (.int x :: S) u H = pm_V X j tgt L S u H := by
  refine v_n hd ?_
  unfold pm_ins
  simp only [pm_i1, hp, if_true, ho, v_jp ht]
  rfl
theorem v_div {x y : Int32} (hd : decode (pm_c j) pc = .ok (.idiv, 1)) (hy : ¬ y = 0) : pm_V X j pc L (.int y :: .int x :: S) u H = pm_V X j (pc + 1) L (.int (x / y) :: S) u H := by
  refine v_n hd ?_
  unfold pm_ins
  simp [pm_i2, hy, pm_n]
theorem v_rem {x y : Int32} (hd : decode (pm_c j) pc = .ok (.irem, 1)) (hy : ¬ y = 0) : pm_V X j pc L (.int y :: .int x :: S) u H = pm_V X j (pc + 1) L (.int (x - x / y * y) :: S) u H := by
  refine v_n hd ?_
  unfold pm_ins
  simp [pm_i2, hy, pm_n]
theorem v_ldiv {x y : Int64} (hd : decode (pm_c j) pc = .ok (.ldiv, 1)) (hy : ¬ y = 0) : pm_V X j pc L (.long y :: .long x :: S) u H = pm_V X j (pc + 1) L (.long (x / y) :: S) u H := by
  refine v_n hd ?_
  unfold pm_ins
  simp [pm_j2, hy, pm_n]
theorem v_lrem {x y : Int64} (hd : decode (pm_c j) pc = .ok (.lrem, 1)) (hy : ¬ y = 0) : pm_V X j pc L (.long y :: .long x :: S) u H = pm_V X j (pc + 1) L (.long (x - x / y * y) :: S) u H := by
  refine v_n hd ?_
  unfold pm_ins
  simp [pm_j2, hy, pm_n]
theorem v_mx {i : Nat} {q : Nat × Nat × Nat × Nat × Nat × Nat} {x y : Int32} (hd : decode (pm_c j) pc = .ok (.invokestatic i, 3)) (hf : pm_fnd pm_mth (pm_oc j) i = some (6, q)) (hr : 1 ≤ pm_fr j ∧ 21 ≤ pm_lo j) (hc : pm_cat S ≤ 8) : pm_V X j pc L (.int y :: .int x :: S) (0, 0) H = pm_V X j (pc + 3) L (.int (if x < y then y else x) :: S) (0, 0) H := by
  refine v_n hd ?_
  unfold pm_ins
  simp [hf, pm_i2, hr, hc, pm_n]
theorem v_mn {i : Nat} {q : Nat × Nat × Nat × Nat × Nat × Nat} {x y : Int32} (hd : decode (pm_c j) pc = .ok (.invokestatic i, 3)) (hf : pm_fnd pm_mth (pm_oc j) i = some (7, q)) (hr : 1 ≤ pm_fr j ∧ 21 ≤ pm_lo j) (hc : pm_cat S ≤ 8) : pm_V X j pc L (.int y :: .int x :: S) (0, 0) H = pm_V X j (pc + 3) L (.int (if y < x then y else x) :: S) (0, 0) H := by
  refine v_n hd ?_
  unfold pm_ins
  simp [hf, pm_i2, hr, hc, pm_n]
theorem v_slen (hd : decode (pm_c 0) pc = .ok (.arraylength, 1)) : pm_V X 0 pc L (.ref 0 :: S) u H = pm_V X 0 (pc + 1) L (.int (nI X.1) :: S) u H := v_n hd rfl
theorem v_sld {i : Nat} (hd : decode (pm_c 0) pc = .ok (.iaload, 1)) (hx : X.1 < 2 ^ 31) (hi : i < X.1) : pm_V X 0 pc L (.int (nI i) :: .ref 0 :: S) u H = pm_V X 0 (pc + 1) L (.int (X.2 i) :: S) u H := by
  refine v_n hd ?_
  unfold pm_ins
  simp [pm_ir, nI_clamp (show i < 2 ^ 31 by omega), v_ge0 (show i < 2 ^ 31 by omega), hi, pm_n]
end PMV2
/-! arrays, by their cells alone -/
def pm_ak (k : Nat) : Nat := match pm_ly k with
  | some (.inr (.int, _, false)) => 1
  | some (.inr (.byte, _, false)) => 2
  | some (.inr (.boolean, _, false)) => 3
  | some (.inr (.object _, _, true)) => 4
  | _ => 0
def pm_al (k : Nat) : Nat := match pm_ly k with
  | some (.inr (_, n, _)) => n
  | _ => 0
def pm_nar (k : Nat) (x : Int32) : Int32 := if pm_ak k = 2 then x.toInt8.toInt32 else x &&& 1
theorem pm_al_c : ∀ k, k < 101 → pm_al k < 1000 := by decide +kernel
theorem pm_al_lt {k n : Nat} {ty : FieldType} {q : Bool} (h : pm_ly k = some (.inr (ty, n, q))) : n < 1000 := by
  have h1 := pm_al_c k (by have := pm_ly_rg h; omega)
  unfold pm_al at h1
  rw [h] at h1
  exact h1
theorem pm_ak1 {k : Nat} (h : pm_ak k = 1) : pm_ly k = some (.inr (.int, pm_al k, false)) := by
  unfold pm_ak at h
  unfold pm_al
  split at h <;> first | (rename_i h2; rw [h2]; done) | cases h
theorem pm_ak2 {k : Nat} (h : pm_ak k = 2) : pm_ly k = some (.inr (.byte, pm_al k, false)) := by
  unfold pm_ak at h
  unfold pm_al
  split at h <;> first | (rename_i h2; rw [h2]; done) | cases h
theorem pm_ak3 {k : Nat} (h : pm_ak k = 3) : pm_ly k = some (.inr (.boolean, pm_al k, false)) := by
  unfold pm_ak at h
  unfold pm_al
  split at h <;> first | (rename_i h2; rw [h2]; done) | cases h
theorem pm_ak4 {k : Nat} (h : pm_ak k = 4) : ∃ C, pm_ly k = some (.inr (.object C, pm_al k, true)) := by
  unfold pm_ak at h
  unfold pm_al
  split at h <;> first | (rename_i h2; rw [h2]; exact ⟨_, rfl⟩) | cases h
section PMV3
variable {X : pm_X} {j pc : Nat} {L : pm_L} {S : List Value} {u : Nat × Nat} {H : pm_H} {U : pm_U}
theorem w_iald {k i : Nat} (hd : decode (pm_c j) pc = .ok (.iaload, 1)) (ha : pm_ak k = 1) (hi : i < pm_al k) : pm_V X j pc L (.int (nI i) :: .ref k :: S) u (pm_hp U) = pm_V X j (pc + 1) L (.int (U.1 k i) :: S) u (pm_hp U) := v_iald hd (pm_ak1 ha) (pm_al_lt (pm_ak1 ha)) hi
theorem w_bald {k i : Nat} (hd : decode (pm_c j) pc = .ok (.baload, 1)) (ha : pm_ak k = 2 ∨ pm_ak k = 3) (hi : i < pm_al k) : pm_V X j pc L (.int (nI i) :: .ref k :: S) u (pm_hp U) = pm_V X j (pc + 1) L (.int (U.1 k i) :: S) u (pm_hp U) := by
  rcases ha with ha | ha
  · exact v_bald hd (pm_ak2 ha) (Or.inl rfl) (pm_al_lt (pm_ak2 ha)) hi
  · exact v_bald hd (pm_ak3 ha) (Or.inr rfl) (pm_al_lt (pm_ak3 ha)) hi
theorem w_aald {k i : Nat} (hd : decode (pm_c j) pc = .ok (.aaload, 1)) (ha : pm_ak k = 4) (hi : i < pm_al k) : pm_V X j pc L (.int (nI i) :: .ref k :: S) u (pm_hp U) = pm_V X j (pc + 1) L (.ref (k + 1 + 2 * i) :: S) u (pm_hp U) := by
  obtain ⟨C, h⟩ := pm_ak4 ha
  exact v_aald hd h (pm_al_lt h) hi
theorem w_iast {k i : Nat} {x : Int32} (hd : decode (pm_c j) pc = .ok (.iastore, 1)) (ha : pm_ak k = 1) (hi : i < pm_al k) : pm_V X j pc L (.int x :: .int (nI i) :: .ref k :: S) u (pm_hp U) = pm_V X j (pc + 1) L S u (pm_hp (pm_up U k i x)) := v_iast hd (pm_ak1 ha) (pm_al_lt (pm_ak1 ha)) hi
theorem w_bast {k i : Nat} {x : Int32} (hd : decode (pm_c j) pc = .ok (.bastore, 1)) (ha : pm_ak k = 2 ∨ pm_ak k = 3) (hi : i < pm_al k) : pm_V X j pc L (.int x :: .int (nI i) :: .ref k :: S) u (pm_hp U) = pm_V X j (pc + 1) L S u (pm_hp (pm_up U k i (pm_nar k x))) := by
  unfold pm_nar
  rcases ha with ha | ha
  · rw [if_pos ha]
    exact v_bast hd (pm_ak2 ha) (Or.inl rfl) (pm_al_lt (pm_ak2 ha)) hi
  · rw [if_neg (by omega)]
    exact v_bast hd (pm_ak3 ha) (Or.inr rfl) (pm_al_lt (pm_ak3 ha)) hi
theorem w_acp {i k k0 N sp dp : Nat} {q : Nat × Nat × Nat × Nat × Nat × Nat} (hd : decode (pm_c j) pc = .ok (.invokestatic i, 3)) (hf : pm_fnd pm_mth (pm_oc j) i = some (5, q)) (hr : 1 ≤ pm_fr j ∧ 26 ≤ pm_lo j) (hc : pm_cat S ≤ 8) (ha0 : pm_ak k0 = 1) (ha : pm_ak k = 1) (h1 : sp + N ≤ pm_al k0) (h2 : dp + N ≤ pm_al k) : pm_V X j pc L (.int (nI N) :: .int (nI dp) :: .ref k :: .int (nI sp) :: .ref k0 :: S) u (pm_hp U) = pm_V X j (pc + 3) L S u (pm_hp (pm_upA U k (va_cpy (U.1 k0) (U.1 k) sp dp N))) := v_acp hd hf hr hc (pm_ak1 ha0) (pm_ak1 ha) (pm_al_lt (pm_ak1 ha)) (pm_al_lt (pm_ak1 ha0)) h1 h2
end PMV3
