/-! one step of the pure machine is one step of the real one -/
theorem pm_if {α : Type} {c : Prop} [Decidable c] {a : Option α} {r : α} (h : (if c then a else none) = some r) : c ∧ a = some r := by
  split at h
  next hc => exact ⟨hc, h⟩
  next => cases h
theorem pm_ifn {α : Type} {c : Prop} [Decidable c] {a : Option α} {r : α} (h : (if c then none else a) = some r) : ¬ c ∧ a = some r := by
  split at h
  next => cases h
  next hc => exact ⟨hc, h⟩
theorem pm_i1_e {R : Type} {S : List Value} {f : Int32 → List Value → Option R} {r : R} (h : pm_i1 S f = some r) : ∃ x S', S = .int x :: S' ∧ f x S' = some r := by
  unfold pm_i1 at h
  split at h
  next x S' => exact ⟨x, S', rfl, h⟩
  next => cases h
theorem pm_i2_e {R : Type} {S : List Value} {f : Int32 → Int32 → List Value → Option R} {r : R} (h : pm_i2 S f = some r) : ∃ x y S', S = .int y :: .int x :: S' ∧ f x y S' = some r := by
  unfold pm_i2 at h
  split at h
  next y x S' => exact ⟨x, y, S', rfl, h⟩
  next => cases h
theorem pm_j1_e {R : Type} {S : List Value} {f : Int64 → List Value → Option R} {r : R} (h : pm_j1 S f = some r) : ∃ x S', S = .long x :: S' ∧ f x S' = some r := by
  unfold pm_j1 at h
  split at h
  next x S' => exact ⟨x, S', rfl, h⟩
  next => cases h
theorem pm_j2_e {R : Type} {S : List Value} {f : Int64 → Int64 → List Value → Option R} {r : R} (h : pm_j2 S f = some r) : ∃ x y S', S = .long y :: .long x :: S' ∧ f x y S' = some r := by
  unfold pm_j2 at h
  split at h
  next y x S' => exact ⟨x, y, S', rfl, h⟩
  next => cases h
theorem pm_r1_e {R : Type} {S : List Value} {f : Nat → List Value → Option R} {r : R} (h : pm_r1 S f = some r) : ∃ x S', S = .ref x :: S' ∧ f x S' = some r := by
  unfold pm_r1 at h
  split at h
  next x S' => exact ⟨x, S', rfl, h⟩
  next => cases h
theorem pm_ir_e {R : Type} {S : List Value} {f : Int32 → Nat → List Value → Option R} {r : R} (h : pm_ir S f = some r) : ∃ i k S', S = .int i :: .ref k :: S' ∧ f i k S' = some r := by
  unfold pm_ir at h
  split at h
  next i k S' => exact ⟨i, k, S', rfl, h⟩
  next => cases h
theorem pm_iir_e {R : Type} {S : List Value} {f : Int32 → Int32 → Nat → List Value → Option R} {r : R} (h : pm_iir S f = some r) : ∃ x i k S', S = .int x :: .int i :: .ref k :: S' ∧ f x i k S' = some r := by
  unfold pm_iir at h
  split at h
  next x i k S' => exact ⟨x, i, k, S', rfl, h⟩
  next => cases h
theorem pm_ldi_e {L : pm_L} {i : Nat} {f : Int32 → Option pm_P} {r : pm_P} (h : pm_ldi L i f = some r) : ∃ x, pm_ld L i = some (.int x) ∧ f x = some r := by
  unfold pm_ldi at h
  split at h
  next x hx => exact ⟨x, hx, h⟩
  next => cases h
theorem pm_ldj_e {L : pm_L} {i : Nat} {f : Int64 → Option pm_P} {r : pm_P} (h : pm_ldj L i f = some r) : ∃ x, pm_ld L i = some (.long x) ∧ f x = some r := by
  unfold pm_ldj at h
  split at h
  next x hx => exact ⟨x, hx, h⟩
  next => cases h
theorem pm_ldr_e {L : pm_L} {i : Nat} {f : Nat → Option pm_P} {r : pm_P} (h : pm_ldr L i f = some r) : ∃ x, pm_ld L i = some (.ref x) ∧ f x = some r := by
  unfold pm_ldr at h
  split at h
  next x hx => exact ⟨x, hx, h⟩
  next => cases h
theorem pm_ai_e {H : pm_H} {k : Nat} {f : FieldType → Nat → (Nat → Int32) → Option pm_P} {r : pm_P} (h : pm_ai H k f = some r) : ∃ ty n g, pm_get H k = some (.inl (ty, n, .inl g)) ∧ f ty n g = some r := by
  unfold pm_ai at h
  split at h
  next ty n g hg => exact ⟨ty, n, g, hg, h⟩
  next => cases h
theorem pm_aq_e {H : pm_H} {k : Nat} {f : String → Nat → (Nat → Option Nat) → Option pm_P} {r : pm_P} (h : pm_aq H k f = some r) : ∃ C n g, pm_get H k = some (.inl (.object C, n, .inr g)) ∧ f C n g = some r := by
  unfold pm_aq at h
  split at h
  next C n g hg => exact ⟨C, n, g, hg, h⟩
  next => cases h
theorem pm_ob_e {H : pm_H} {k : Nat} {f : Nat → List Value → Option pm_P} {r : pm_P} (h : pm_ob H k f = some r) : ∃ ci fs, pm_get H k = some (.inr (ci, fs)) ∧ f ci fs = some r := by
  unfold pm_ob at h
  split at h
  next ci fs hg => exact ⟨ci, fs, hg, h⟩
  next => cases h
theorem pm_jp_e {pc : Nat} {off : Int} {L : pm_L} {S : List Value} {u : Nat × Nat} {H : pm_H} {r : pm_P} (h : pm_jp pc off L S u H = some r) : (pc : Int) + off = (pm_tg pc off : Int) ∧ pm_n (pm_tg pc off) L S u H = some r := by
  unfold pm_jp at h
  obtain ⟨h1, h2⟩ := pm_if h
  exact ⟨by unfold pm_tg; omega, h2⟩
theorem pm_inv {i : Int32} {n : Nat} (h0 : 0 ≤ i) (h : i.toNatClampNeg < n) : vp_in i n := by
  intro q
  rcases q with q | q
  · rw [Int32.le_iff_toInt_le] at h0
    rw [Int32.lt_iff_toInt_lt] at q
    omega
  · omega
theorem pm_nneg {i : Int32} (h0 : 0 ≤ i) : ¬ i < 0 := by
  rw [Int32.le_iff_toInt_le] at h0
  rw [Int32.lt_iff_toInt_lt]
  omega
def pm_NW (U : State) : Prop := (∀ (o : String) (i : Nat) (y : MethodName) (h : String), Cond.methodLinkNest o i y h ∈ lw_tbl → va_Nw (.methodLinkNest o i y h) U) ∧ (∀ C, Cond.arrayOver (.object C) ∈ lw_tbl → va_AO C U)
/-- what holds in a frame of method j -/
def pm_Fr (p : Program) (s : State) (m : MethodId) (args : Array Value) (meth : Method) (c : Code) (j : Nat) : Prop :=
  p.tables.exec = Jvm.exec ∧ c.code = pm_c j ∧ c.maxLocals = pm_ml j ∧ s.vm.findClass (pm_y j).cls = some m.cls ∧ (∀ w ∈ pm_tb, w.before args s = true) ∧ ((pm_y j).name = "<init>" → meth.name = "<init>") ∧ pm_NW s
def pm_rm (j : Nat) : Room := { frames := pm_fr j, cells := pm_mc j, slots := pm_ms j, locals := pm_lo j }
def pm_Wd (b : Nat) (D : va_G) (A : Nat → Prop) (s : State) (ws : va_W) (tys : List (ClassId × FieldType)) (PH : pm_H) (H : Heap) (locs : List Loc) : Prop :=
  va_K D pm_cl tys s ∧ va_P D pm_cl ws H ∧ va_D A ws ∧ va_S A s.heap H locs ∧ pm_R b PH ws tys
/-- the script, for the law alone -/
def pm_XS (X : pm_X) (j b : Nat) (A : Nat → Prop) (s : State) : Prop := j = 0 → va_X b X.1 X.2 s s.heap ∧ b < s.heap.size ∧ ¬ A b
def pm_KK (p : Program) (l : Launch) (e : Env) (s : State) (m : MethodId) (args : Array Value) (below : List Frame) (meth : Method) (c : Code) (Q : State → Prop) (j b : Nat) (D : va_G) (A : Nat → Prop) (ws : va_W) (r : Nat × pm_L × List Value × (Nat × Nat) × pm_H) : Prop :=
  ∀ (ws' : va_W) (tys' : List (ClassId × FieldType)) (H' : Heap) (locs' : List Loc) (ls' : Array Slot) (T' : List Value), pm_Wd b D A s ws' tys' r.2.2.2.2 H' locs' → pm_xt ws ws' → pm_lr b ws' ls' (pm_ml j) r.2.1 → pm_sr b ws' r.2.2.1 T' → W p l e (pm_rm j) s m args below meth c H' locs' r.2.2.2.1.1 r.2.2.2.1.2 Q (F0 m r.1 ls' T')
theorem pm_sr_dflt (b : Nat) (ws : va_W) {ty : Nat → FieldType} {l : List Nat} : pm_sr b ws (l.map fun k => defaultValue (ty k)) (l.map fun k => defaultValue (ty k)) := by
  induction l with
  | nil => exact rfl
  | cons k l ih =>
    refine ⟨_, _, rfl, ?_, ih⟩
    show pm_vr b ws (defaultValue (ty k)) (defaultValue (ty k))
    generalize ty k = t
    cases t <;> exact rfl
section PMS
variable {p : Program} {l : Launch} {e : Env} {s : State} {m : MethodId} {args : Array Value} {below : List Frame} {meth : Method} {c : Code} {Q : State → Prop} {X : pm_X} {j b pc : Nat} {D : va_G} {A : Nat → Prop} {ws : va_W} {tys : List (ClassId × FieldType)} {PH : pm_H} {H : Heap} {locs : List Loc} {L : pm_L} {S T : List Value} {u : Nat × Nat} {ls : Array Slot} {r : Nat × pm_L × List Value × (Nat × Nat) × pm_H}
theorem pm_nif_eq {off : Int} {x : Int32} {R : Room} {cells slots : Nat} (hx : p.tables.exec = Jvm.exec) (hb : c.code = pm_c j) (hd : decode (pm_c j) pc = .ok (.ifCond .eq off, 3)) (hc : ¬ (x = 0)) (k : W p l e R s m args below meth c H locs cells slots Q (F0 m (pc + 3) ls T)) : W p l e R s m args below meth c H locs cells slots Q (F0 m pc ls (.int x :: T)) := by
  intro T2 hT X2
  obtain ⟨t, a, b2⟩ := k T2 hT X2
  refine ⟨t, ?_, b2⟩
  jvm_step X2.here [X2.here.top, hx, hb, hd, Op.ifCond.holds, hc]
  exact a
theorem pm_nicmp_eq {off : Int} {x y : Int32} {R : Room} {cells slots : Nat} (hx : p.tables.exec = Jvm.exec) (hb : c.code = pm_c j) (hd : decode (pm_c j) pc = .ok (.if_icmp .eq off, 3)) (hc : ¬ (x = y)) (k : W p l e R s m args below meth c H locs cells slots Q (F0 m (pc + 3) ls T)) : W p l e R s m args below meth c H locs cells slots Q (F0 m pc ls (.int y :: .int x :: T)) := by
  intro T2 hT X2
  obtain ⟨t, a, b2⟩ := k T2 hT X2
  refine ⟨t, ?_, b2⟩
  jvm_step X2.here [X2.here.top, hx, hb, hd, Op.if_icmp.holds, hc]
  exact a
theorem pm_nif_ne {off : Int} {x : Int32} {R : Room} {cells slots : Nat} (hx : p.tables.exec = Jvm.exec) (hb : c.code = pm_c j) (hd : decode (pm_c j) pc = .ok (.ifCond .ne off, 3)) (hc : x = 0) (k : W p l e R s m args below meth c H locs cells slots Q (F0 m (pc + 3) ls T)) : W p l e R s m args below meth c H locs cells slots Q (F0 m pc ls (.int x :: T)) := by
  intro T2 hT X2
  obtain ⟨t, a, b2⟩ := k T2 hT X2
  refine ⟨t, ?_, b2⟩
  jvm_step X2.here [X2.here.top, hx, hb, hd, Op.ifCond.holds, hc]
  exact a
theorem pm_nicmp_ne {off : Int} {x y : Int32} {R : Room} {cells slots : Nat} (hx : p.tables.exec = Jvm.exec) (hb : c.code = pm_c j) (hd : decode (pm_c j) pc = .ok (.if_icmp .ne off, 3)) (hc : x = y) (k : W p l e R s m args below meth c H locs cells slots Q (F0 m (pc + 3) ls T)) : W p l e R s m args below meth c H locs cells slots Q (F0 m pc ls (.int y :: .int x :: T)) := by
  intro T2 hT X2
  obtain ⟨t, a, b2⟩ := k T2 hT X2
  refine ⟨t, ?_, b2⟩
  jvm_step X2.here [X2.here.top, hx, hb, hd, Op.if_icmp.holds, hc]
  exact a
theorem pm_nif_lt {off : Int} {x : Int32} {R : Room} {cells slots : Nat} (hx : p.tables.exec = Jvm.exec) (hb : c.code = pm_c j) (hd : decode (pm_c j) pc = .ok (.ifCond .lt off, 3)) (hc : ¬ (x < 0)) (k : W p l e R s m args below meth c H locs cells slots Q (F0 m (pc + 3) ls T)) : W p l e R s m args below meth c H locs cells slots Q (F0 m pc ls (.int x :: T)) := by
  intro T2 hT X2
  obtain ⟨t, a, b2⟩ := k T2 hT X2
  refine ⟨t, ?_, b2⟩
  jvm_step X2.here [X2.here.top, hx, hb, hd, Op.ifCond.holds, hc]
  exact a
theorem pm_nicmp_lt {off : Int} {x y : Int32} {R : Room} {cells slots : Nat} (hx : p.tables.exec = Jvm.exec) (hb : c.code = pm_c j) (hd : decode (pm_c j) pc = .ok (.if_icmp .lt off, 3)) (hc : ¬ (x < y)) (k : W p l e R s m args below meth c H locs cells slots Q (F0 m (pc + 3) ls T)) : W p l e R s m args below meth c H locs cells slots Q (F0 m pc ls (.int y :: .int x :: T)) := by
  intro T2 hT X2
  obtain ⟨t, a, b2⟩ := k T2 hT X2
  refine ⟨t, ?_, b2⟩
  jvm_step X2.here [X2.here.top, hx, hb, hd, Op.if_icmp.holds, hc]
  exact a
theorem pm_nif_ge {off : Int} {x : Int32} {R : Room} {cells slots : Nat} (hx : p.tables.exec = Jvm.exec) (hb : c.code = pm_c j) (hd : decode (pm_c j) pc = .ok (.ifCond .ge off, 3)) (hc : ¬ (0 ≤ x)) (k : W p l e R s m args below meth c H locs cells slots Q (F0 m (pc + 3) ls T)) : W p l e R s m args below meth c H locs cells slots Q (F0 m pc ls (.int x :: T)) := by
  intro T2 hT X2
  obtain ⟨t, a, b2⟩ := k T2 hT X2
  refine ⟨t, ?_, b2⟩
  jvm_step X2.here [X2.here.top, hx, hb, hd, Op.ifCond.holds, hc]
  exact a
theorem pm_nicmp_ge {off : Int} {x y : Int32} {R : Room} {cells slots : Nat} (hx : p.tables.exec = Jvm.exec) (hb : c.code = pm_c j) (hd : decode (pm_c j) pc = .ok (.if_icmp .ge off, 3)) (hc : ¬ (y ≤ x)) (k : W p l e R s m args below meth c H locs cells slots Q (F0 m (pc + 3) ls T)) : W p l e R s m args below meth c H locs cells slots Q (F0 m pc ls (.int y :: .int x :: T)) := by
  intro T2 hT X2
  obtain ⟨t, a, b2⟩ := k T2 hT X2
  refine ⟨t, ?_, b2⟩
  jvm_step X2.here [X2.here.top, hx, hb, hd, Op.if_icmp.holds, hc]
  exact a
theorem pm_nif_gt {off : Int} {x : Int32} {R : Room} {cells slots : Nat} (hx : p.tables.exec = Jvm.exec) (hb : c.code = pm_c j) (hd : decode (pm_c j) pc = .ok (.ifCond .gt off, 3)) (hc : ¬ (0 < x)) (k : W p l e R s m args below meth c H locs cells slots Q (F0 m (pc + 3) ls T)) : W p l e R s m args below meth c H locs cells slots Q (F0 m pc ls (.int x :: T)) := by
  intro T2 hT X2
  obtain ⟨t, a, b2⟩ := k T2 hT X2
  refine ⟨t, ?_, b2⟩
  jvm_step X2.here [X2.here.top, hx, hb, hd, Op.ifCond.holds, hc]
  exact a
theorem pm_nicmp_gt {off : Int} {x y : Int32} {R : Room} {cells slots : Nat} (hx : p.tables.exec = Jvm.exec) (hb : c.code = pm_c j) (hd : decode (pm_c j) pc = .ok (.if_icmp .gt off, 3)) (hc : ¬ (y < x)) (k : W p l e R s m args below meth c H locs cells slots Q (F0 m (pc + 3) ls T)) : W p l e R s m args below meth c H locs cells slots Q (F0 m pc ls (.int y :: .int x :: T)) := by
  intro T2 hT X2
  obtain ⟨t, a, b2⟩ := k T2 hT X2
  refine ⟨t, ?_, b2⟩
  jvm_step X2.here [X2.here.top, hx, hb, hd, Op.if_icmp.holds, hc]
  exact a
theorem pm_nif_le {off : Int} {x : Int32} {R : Room} {cells slots : Nat} (hx : p.tables.exec = Jvm.exec) (hb : c.code = pm_c j) (hd : decode (pm_c j) pc = .ok (.ifCond .le off, 3)) (hc : ¬ (x ≤ 0)) (k : W p l e R s m args below meth c H locs cells slots Q (F0 m (pc + 3) ls T)) : W p l e R s m args below meth c H locs cells slots Q (F0 m pc ls (.int x :: T)) := by
  intro T2 hT X2
  obtain ⟨t, a, b2⟩ := k T2 hT X2
  refine ⟨t, ?_, b2⟩
  jvm_step X2.here [X2.here.top, hx, hb, hd, Op.ifCond.holds, hc]
  exact a
theorem pm_nicmp_le {off : Int} {x y : Int32} {R : Room} {cells slots : Nat} (hx : p.tables.exec = Jvm.exec) (hb : c.code = pm_c j) (hd : decode (pm_c j) pc = .ok (.if_icmp .le off, 3)) (hc : ¬ (x ≤ y)) (k : W p l e R s m args below meth c H locs cells slots Q (F0 m (pc + 3) ls T)) : W p l e R s m args below meth c H locs cells slots Q (F0 m pc ls (.int y :: .int x :: T)) := by
  intro T2 hT X2
  obtain ⟨t, a, b2⟩ := k T2 hT X2
  refine ⟨t, ?_, b2⟩
  jvm_step X2.here [X2.here.top, hx, hb, hd, Op.if_icmp.holds, hc]
  exact a
theorem pm_br1 {cd : Jvm.ClassFile.Cond} {off : Int} {x : Int32} (hx : p.tables.exec = Jvm.exec) (hb : c.code = pm_c j) (hd : decode (pm_c j) pc = .ok (.ifCond cd off, 3)) (hst : (if pm_cnd cd x 0 = true then pm_jp pc off L S u PH else pm_n (pc + 3) L S u PH) = some (.inl r)) (hW : pm_Wd b D A s ws tys PH H locs) (hL : pm_lr b ws ls (pm_ml j) L) (h3 : pm_sr b ws S T) (kk : pm_KK p l e s m args below meth c Q j b D A ws r) : W p l e (pm_rm j) s m args below meth c H locs u.1 u.2 Q (F0 m pc ls (.int x :: T)) := by
  by_cases hc : pm_cnd cd x 0 = true
  · rw [if_pos hc] at hst
    obtain ⟨ht, hst⟩ := pm_jp_e hst
    cases hst
    have k1 : W p l e (pm_rm j) s m args below meth c H locs u.1 u.2 Q (F0 m (pm_tg pc off) ls T) := kk _ _ _ _ _ _ hW (pm_xt.rf _) hL h3
    cases cd with
    | eq => exact lv_if_eq hx hb hd ht (fun _ => k1) (fun hn => absurd (of_decide_eq_true hc) hn)
    | ne => exact lv_if_ne hx hb hd ht (fun _ => k1) (fun hn => absurd hn (of_decide_eq_true hc))
    | lt => exact lv_if_lt hx hb hd ht (fun _ => k1) (fun hn => absurd (of_decide_eq_true hc) hn)
    | ge => exact lv_if_ge hx hb hd ht (fun _ => k1) (fun hn => absurd (of_decide_eq_true hc) hn)
    | gt => exact lv_if_gt hx hb hd ht (fun _ => k1) (fun hn => absurd (of_decide_eq_true hc) hn)
    | le => exact lv_if_le hx hb hd ht (fun _ => k1) (fun hn => absurd (of_decide_eq_true hc) hn)
  · rw [if_neg hc] at hst
    cases hst
    have k1 : W p l e (pm_rm j) s m args below meth c H locs u.1 u.2 Q (F0 m (pc + 3) ls T) := kk _ _ _ _ _ _ hW (pm_xt.rf _) hL h3
    cases cd with
    | eq => exact pm_nif_eq hx hb hd (fun hp => absurd (decide_eq_true hp) hc) k1
    | ne => exact pm_nif_ne hx hb hd (Decidable.not_not.mp (fun hp => absurd (decide_eq_true hp) hc)) k1
    | lt => exact pm_nif_lt hx hb hd (fun hp => absurd (decide_eq_true hp) hc) k1
    | ge => exact pm_nif_ge hx hb hd (fun hp => absurd (decide_eq_true hp) hc) k1
    | gt => exact pm_nif_gt hx hb hd (fun hp => absurd (decide_eq_true hp) hc) k1
    | le => exact pm_nif_le hx hb hd (fun hp => absurd (decide_eq_true hp) hc) k1
theorem pm_br2 {cd : Jvm.ClassFile.Cond} {off : Int} {x y : Int32} (hx : p.tables.exec = Jvm.exec) (hb : c.code = pm_c j) (hd : decode (pm_c j) pc = .ok (.if_icmp cd off, 3)) (hst : (if pm_cnd cd x y = true then pm_jp pc off L S u PH else pm_n (pc + 3) L S u PH) = some (.inl r)) (hW : pm_Wd b D A s ws tys PH H locs) (hL : pm_lr b ws ls (pm_ml j) L) (h3 : pm_sr b ws S T) (kk : pm_KK p l e s m args below meth c Q j b D A ws r) : W p l e (pm_rm j) s m args below meth c H locs u.1 u.2 Q (F0 m pc ls (.int y :: .int x :: T)) := by
  by_cases hc : pm_cnd cd x y = true
  · rw [if_pos hc] at hst
    obtain ⟨ht, hst⟩ := pm_jp_e hst
    cases hst
    have k1 : W p l e (pm_rm j) s m args below meth c H locs u.1 u.2 Q (F0 m (pm_tg pc off) ls T) := kk _ _ _ _ _ _ hW (pm_xt.rf _) hL h3
    cases cd with
    | eq => exact lv_icmp_eq hx hb hd ht (fun _ => k1) (fun hn => absurd (of_decide_eq_true hc) hn)
    | ne => exact lv_icmp_ne hx hb hd ht (fun _ => k1) (fun hn => absurd hn (of_decide_eq_true hc))
    | lt => exact lv_icmp_lt hx hb hd ht (fun _ => k1) (fun hn => absurd (of_decide_eq_true hc) hn)
    | ge => exact lv_icmp_ge hx hb hd ht (fun _ => k1) (fun hn => absurd (of_decide_eq_true hc) hn)
    | gt => exact lv_icmp_gt hx hb hd ht (fun _ => k1) (fun hn => absurd (of_decide_eq_true hc) hn)
    | le => exact lv_icmp_le hx hb hd ht (fun _ => k1) (fun hn => absurd (of_decide_eq_true hc) hn)
  · rw [if_neg hc] at hst
    cases hst
    have k1 : W p l e (pm_rm j) s m args below meth c H locs u.1 u.2 Q (F0 m (pc + 3) ls T) := kk _ _ _ _ _ _ hW (pm_xt.rf _) hL h3
    cases cd with
    | eq => exact pm_nicmp_eq hx hb hd (fun hp => absurd (decide_eq_true hp) hc) k1
    | ne => exact pm_nicmp_ne hx hb hd (Decidable.not_not.mp (fun hp => absurd (decide_eq_true hp) hc)) k1
    | lt => exact pm_nicmp_lt hx hb hd (fun hp => absurd (decide_eq_true hp) hc) k1
    | ge => exact pm_nicmp_ge hx hb hd (fun hp => absurd (decide_eq_true hp) hc) k1
    | gt => exact pm_nicmp_gt hx hb hd (fun hp => absurd (decide_eq_true hp) hc) k1
    | le => exact pm_nicmp_le hx hb hd (fun hp => absurd (decide_eq_true hp) hc) k1
set_option maxHeartbeats 4000000 in
theorem pm_next (hF : pm_Fr p s m args meth c j) (hXS : pm_XS X j b A s) (hA : ∀ q, s.heap.size ≤ q → A q) (hst : pm_step X j pc L S u PH = some (.inl r)) (hW : pm_Wd b D A s ws tys PH H locs) (hL : pm_lr b ws ls (pm_ml j) L) (hS : pm_sr b ws S T)
    (kk : pm_KK p l e s m args below meth c Q j b D A ws r) : W p l e (pm_rm j) s m args below meth c H locs u.1 u.2 Q (F0 m pc ls T) := by
  obtain ⟨hx, hb, hml, hown, hts, hnm, hNW⟩ := hF
  unfold pm_step at hst
  split at hst
  next ins n hd =>
    unfold pm_ins at hst
    cases ins with
    | iconst k =>
      dsimp only at hst
      have hq9 := pm_if hst
      clear hst
      obtain ⟨hn, hst⟩ := hq9
      subst hn
      cases hst
      exact lv_iconst hx hb hd rfl (kk _ _ _ _ _ _ hW (pm_xt.rf _) hL ⟨_, _, rfl, rfl, hS⟩)
    | bipush k =>
      dsimp only at hst
      have hq9 := pm_if hst
      clear hst
      obtain ⟨hn, hst⟩ := hq9
      subst hn
      cases hst
      exact lv_bipush hx hb hd rfl (kk _ _ _ _ _ _ hW (pm_xt.rf _) hL ⟨_, _, rfl, rfl, hS⟩)
    | sipush k =>
      dsimp only at hst
      have hq9 := pm_if hst
      clear hst
      obtain ⟨hn, hst⟩ := hq9
      subst hn
      cases hst
      exact lv_sipush hx hb hd rfl (kk _ _ _ _ _ _ hW (pm_xt.rf _) hL ⟨_, _, rfl, rfl, hS⟩)
    | lconst k =>
      dsimp only at hst
      have hq9 := pm_if hst
      clear hst
      obtain ⟨hn, hst⟩ := hq9
      subst hn
      cases hst
      exact lv_lconst hx hb hd rfl (kk _ _ _ _ _ _ hW (pm_xt.rf _) hL ⟨_, _, rfl, rfl, hS⟩)
    | aconst_null =>
      dsimp only at hst
      have hq9 := pm_if hst
      clear hst
      obtain ⟨hn, hst⟩ := hq9
      subst hn
      cases hst
      exact lv_null hx hb hd (kk _ _ _ _ _ _ hW (pm_xt.rf _) hL ⟨_, _, rfl, rfl, hS⟩)
    | ldc_w i =>
      dsimp only at hst
      split at hst
      next v q hf =>
        have hq9 := pm_if hst
        clear hst
        obtain ⟨hn, hst⟩ := hq9
        subst hn
        cases hst
        exact lv_ldcw hx hb hown (hts _ (pm_tb_in (pm_ci_ok hf) rfl)) hd (kk _ _ _ _ _ _ hW (pm_xt.rf _) hL ⟨_, _, rfl, rfl, hS⟩)
      next => cases hst
    | ldc2_w i =>
      dsimp only at hst
      split at hst
      next v q hf =>
        have hq9 := pm_if hst
        clear hst
        obtain ⟨hn, hst⟩ := hq9
        subst hn
        cases hst
        exact lv_ldc2 hx hb hown (hts _ (pm_tb_in (pm_cj_ok hf) rfl)) hd (kk _ _ _ _ _ _ hW (pm_xt.rf _) hL ⟨_, _, rfl, rfl, hS⟩)
      next => cases hst
    | iload_n k =>
      dsimp only at hst
      have hq9 := pm_if hst
      clear hst
      obtain ⟨hn, hst⟩ := hq9
      subst hn
      have hq9 := pm_ldi_e hst
      clear hst
      obtain ⟨x, hl, hst⟩ := hq9
      cases hst
      obtain ⟨w, h1, h2⟩ := hL.2.2 _ _ hl
      cases h2
      exact lv_iload_n hx hb hd rfl h1 (kk _ _ _ _ _ _ hW (pm_xt.rf _) hL ⟨_, _, rfl, rfl, hS⟩)
    | iload k =>
      dsimp only at hst
      have hq9 := pm_if hst
      clear hst
      obtain ⟨hn, hst⟩ := hq9
      subst hn
      have hq9 := pm_ldi_e hst
      clear hst
      obtain ⟨x, hl, hst⟩ := hq9
      cases hst
      obtain ⟨w, h1, h2⟩ := hL.2.2 _ _ hl
      cases h2
      exact lv_iload hx hb hd h1 (kk _ _ _ _ _ _ hW (pm_xt.rf _) hL ⟨_, _, rfl, rfl, hS⟩)
    | lload_n k =>
      dsimp only at hst
      have hq9 := pm_if hst
      clear hst
      obtain ⟨hn, hst⟩ := hq9
      subst hn
      have hq9 := pm_ldj_e hst
      clear hst
      obtain ⟨x, hl, hst⟩ := hq9
      cases hst
      obtain ⟨w, h1, h2⟩ := hL.2.2 _ _ hl
      cases h2
      exact lv_lload_n hx hb hd rfl h1 (kk _ _ _ _ _ _ hW (pm_xt.rf _) hL ⟨_, _, rfl, rfl, hS⟩)
    | lload k =>
      dsimp only at hst
      have hq9 := pm_if hst
      clear hst
      obtain ⟨hn, hst⟩ := hq9
      subst hn
      have hq9 := pm_ldj_e hst
      clear hst
      obtain ⟨x, hl, hst⟩ := hq9
      cases hst
      obtain ⟨w, h1, h2⟩ := hL.2.2 _ _ hl
      cases h2
      exact lv_lload hx hb hd h1 (kk _ _ _ _ _ _ hW (pm_xt.rf _) hL ⟨_, _, rfl, rfl, hS⟩)
    | aload_n k =>
      dsimp only at hst
      have hq9 := pm_if hst
      clear hst
      obtain ⟨hn, hst⟩ := hq9
      subst hn
      have hq9 := pm_ldr_e hst
      clear hst
      obtain ⟨x, hl, hst⟩ := hq9
      cases hst
      obtain ⟨w, h1, h2⟩ := hL.2.2 _ _ hl
      obtain ⟨a, rfl, ha⟩ := h2
      exact lv_aload_n hx hb hd rfl h1 (kk _ _ _ _ _ _ hW (pm_xt.rf _) hL ⟨_, _, rfl, ⟨a, rfl, ha⟩, hS⟩)
    | aload k =>
      dsimp only at hst
      have hq9 := pm_if hst
      clear hst
      obtain ⟨hn, hst⟩ := hq9
      subst hn
      have hq9 := pm_ldr_e hst
      clear hst
      obtain ⟨x, hl, hst⟩ := hq9
      cases hst
      obtain ⟨w, h1, h2⟩ := hL.2.2 _ _ hl
      obtain ⟨a, rfl, ha⟩ := h2
      exact lv_aload hx hb hd h1 (kk _ _ _ _ _ _ hW (pm_xt.rf _) hL ⟨_, _, rfl, ⟨a, rfl, ha⟩, hS⟩)
    | istore_n k =>
      dsimp only at hst
      have hq9 := pm_if hst
      clear hst
      obtain ⟨⟨hn, hk⟩, hst⟩ := hq9
      subst hn
      have hq9 := pm_i1_e hst
      clear hst
      obtain ⟨x, S', rfl, hst⟩ := hq9
      cases hst
      obtain ⟨_, T', rfl, h1, h3⟩ := hS
      cases h1
      exact lv_istore_n hx hb hd rfl hL.has hk rfl (fun ls' hl => kk _ _ _ _ _ _ hW (pm_xt.rf _) (hL.st1 (v := .int x) rfl rfl hl) h3)
    | istore k =>
      dsimp only at hst
      have hq9 := pm_if hst
      clear hst
      obtain ⟨⟨hn, hk⟩, hst⟩ := hq9
      subst hn
      have hq9 := pm_i1_e hst
      clear hst
      obtain ⟨x, S', rfl, hst⟩ := hq9
      cases hst
      obtain ⟨_, T', rfl, h1, h3⟩ := hS
      cases h1
      exact lv_istore hx hb hd hL.has hk rfl (fun ls' hl => kk _ _ _ _ _ _ hW (pm_xt.rf _) (hL.st1 (v := .int x) rfl rfl hl) h3)
    | lstore_n k =>
      dsimp only at hst
      have hq9 := pm_if hst
      clear hst
      obtain ⟨⟨hn, hk⟩, hst⟩ := hq9
      subst hn
      have hq9 := pm_j1_e hst
      clear hst
      obtain ⟨x, S', rfl, hst⟩ := hq9
      cases hst
      obtain ⟨_, T', rfl, h1, h3⟩ := hS
      cases h1
      exact lv_lstore_n hx hb hd rfl hL.has hk rfl (fun ls' hl => kk _ _ _ _ _ _ hW (pm_xt.rf _) (hL.st2 (v := .long x) rfl rfl hl) h3)
    | lstore k =>
      dsimp only at hst
      have hq9 := pm_if hst
      clear hst
      obtain ⟨⟨hn, hk⟩, hst⟩ := hq9
      subst hn
      have hq9 := pm_j1_e hst
      clear hst
      obtain ⟨x, S', rfl, hst⟩ := hq9
      cases hst
      obtain ⟨_, T', rfl, h1, h3⟩ := hS
      cases h1
      exact lv_lstore hx hb hd hL.has hk rfl (fun ls' hl => kk _ _ _ _ _ _ hW (pm_xt.rf _) (hL.st2 (v := .long x) rfl rfl hl) h3)
    | astore_n k =>
      dsimp only at hst
      have hq9 := pm_if hst
      clear hst
      obtain ⟨⟨hn, hk⟩, hst⟩ := hq9
      subst hn
      have hq9 := pm_r1_e hst
      clear hst
      obtain ⟨x, S', rfl, hst⟩ := hq9
      cases hst
      obtain ⟨_, T', rfl, ⟨a, rfl, ha⟩, h3⟩ := hS
      exact lv_astore_n hx hb hd rfl hL.has hk rfl (fun ls' hl => kk _ _ _ _ _ _ hW (pm_xt.rf _) (hL.st1 (v := .ref x) ⟨a, rfl, ha⟩ rfl hl) h3)
    | astore k =>
      dsimp only at hst
      have hq9 := pm_if hst
      clear hst
      obtain ⟨⟨hn, hk⟩, hst⟩ := hq9
      subst hn
      have hq9 := pm_r1_e hst
      clear hst
      obtain ⟨x, S', rfl, hst⟩ := hq9
      cases hst
      obtain ⟨_, T', rfl, ⟨a, rfl, ha⟩, h3⟩ := hS
      exact lv_astore hx hb hd hL.has hk rfl (fun ls' hl => kk _ _ _ _ _ _ hW (pm_xt.rf _) (hL.st1 (v := .ref x) ⟨a, rfl, ha⟩ rfl hl) h3)
    | iinc k d =>
      dsimp only at hst
      have hq9 := pm_if hst
      clear hst
      obtain ⟨⟨hn, hk⟩, hst⟩ := hq9
      subst hn
      have hq9 := pm_ldi_e hst
      clear hst
      obtain ⟨x, hl, hst⟩ := hq9
      cases hst
      obtain ⟨w, h1, h2⟩ := hL.mem hl
      cases h2
      obtain ⟨i, hi⟩ := List.getElem?_of_mem h1
      exact lv_iinc hx hb hd hL.has hi rfl hk rfl (fun ls' hl => kk _ _ _ _ _ _ hW (pm_xt.rf _) (hL.st1 (v := .int _) rfl rfl hl) hS)
    | iadd =>
      dsimp only at hst
      have hq9 := pm_if hst
      clear hst
      obtain ⟨hn, hst⟩ := hq9
      subst hn
      have hq9 := pm_i2_e hst
      clear hst
      obtain ⟨x, y, S', rfl, hst⟩ := hq9
      cases hst
      obtain ⟨_, _, rfl, h1, _, _, rfl, h2, h3⟩ := hS
      cases h1
      cases h2
      exact lv_iadd hx hb hd (kk _ _ _ _ _ _ hW (pm_xt.rf _) hL ⟨_, _, rfl, rfl, h3⟩)
    | isub =>
      dsimp only at hst
      have hq9 := pm_if hst
      clear hst
      obtain ⟨hn, hst⟩ := hq9
      subst hn
      have hq9 := pm_i2_e hst
      clear hst
      obtain ⟨x, y, S', rfl, hst⟩ := hq9
      cases hst
      obtain ⟨_, _, rfl, h1, _, _, rfl, h2, h3⟩ := hS
      cases h1
      cases h2
      exact lv_isub hx hb hd (kk _ _ _ _ _ _ hW (pm_xt.rf _) hL ⟨_, _, rfl, rfl, h3⟩)
    | imul =>
      dsimp only at hst
      have hq9 := pm_if hst
      clear hst
      obtain ⟨hn, hst⟩ := hq9
      subst hn
      have hq9 := pm_i2_e hst
      clear hst
      obtain ⟨x, y, S', rfl, hst⟩ := hq9
      cases hst
      obtain ⟨_, _, rfl, h1, _, _, rfl, h2, h3⟩ := hS
      cases h1
      cases h2
      exact lv_imul hx hb hd (kk _ _ _ _ _ _ hW (pm_xt.rf _) hL ⟨_, _, rfl, rfl, h3⟩)
    | iand =>
      dsimp only at hst
      have hq9 := pm_if hst
      clear hst
      obtain ⟨hn, hst⟩ := hq9
      subst hn
      have hq9 := pm_i2_e hst
      clear hst
      obtain ⟨x, y, S', rfl, hst⟩ := hq9
      cases hst
      obtain ⟨_, _, rfl, h1, _, _, rfl, h2, h3⟩ := hS
      cases h1
      cases h2
      exact lv_iand hx hb hd (kk _ _ _ _ _ _ hW (pm_xt.rf _) hL ⟨_, _, rfl, rfl, h3⟩)
    | ior =>
      dsimp only at hst
      have hq9 := pm_if hst
      clear hst
      obtain ⟨hn, hst⟩ := hq9
      subst hn
      have hq9 := pm_i2_e hst
      clear hst
      obtain ⟨x, y, S', rfl, hst⟩ := hq9
      cases hst
      obtain ⟨_, _, rfl, h1, _, _, rfl, h2, h3⟩ := hS
      cases h1
      cases h2
      exact lv_ior hx hb hd (kk _ _ _ _ _ _ hW (pm_xt.rf _) hL ⟨_, _, rfl, rfl, h3⟩)
    | ixor =>
      dsimp only at hst
      have hq9 := pm_if hst
      clear hst
      obtain ⟨hn, hst⟩ := hq9
      subst hn
      have hq9 := pm_i2_e hst
      clear hst
      obtain ⟨x, y, S', rfl, hst⟩ := hq9
      cases hst
      obtain ⟨_, _, rfl, h1, _, _, rfl, h2, h3⟩ := hS
      cases h1
      cases h2
      exact lv_ixor hx hb hd (kk _ _ _ _ _ _ hW (pm_xt.rf _) hL ⟨_, _, rfl, rfl, h3⟩)
    | ishl =>
      dsimp only at hst
      have hq9 := pm_if hst
      clear hst
      obtain ⟨hn, hst⟩ := hq9
      subst hn
      have hq9 := pm_i2_e hst
      clear hst
      obtain ⟨x, y, S', rfl, hst⟩ := hq9
      cases hst
      obtain ⟨_, _, rfl, h1, _, _, rfl, h2, h3⟩ := hS
      cases h1
      cases h2
      exact lv_ishl hx hb hd (kk _ _ _ _ _ _ hW (pm_xt.rf _) hL ⟨_, _, rfl, rfl, h3⟩)
    | ishr =>
      dsimp only at hst
      have hq9 := pm_if hst
      clear hst
      obtain ⟨hn, hst⟩ := hq9
      subst hn
      have hq9 := pm_i2_e hst
      clear hst
      obtain ⟨x, y, S', rfl, hst⟩ := hq9
      cases hst
      obtain ⟨_, _, rfl, h1, _, _, rfl, h2, h3⟩ := hS
      cases h1
      cases h2
      exact lv_ishr hx hb hd (kk _ _ _ _ _ _ hW (pm_xt.rf _) hL ⟨_, _, rfl, rfl, h3⟩)
    | iushr =>
      dsimp only at hst
      have hq9 := pm_if hst
      clear hst
      obtain ⟨hn, hst⟩ := hq9
      subst hn
      have hq9 := pm_i2_e hst
      clear hst
      obtain ⟨x, y, S', rfl, hst⟩ := hq9
      cases hst
      obtain ⟨_, _, rfl, h1, _, _, rfl, h2, h3⟩ := hS
      cases h1
      cases h2
      exact lv_iushr hx hb hd rfl (kk _ _ _ _ _ _ hW (pm_xt.rf _) hL ⟨_, _, rfl, rfl, h3⟩)
    | idiv =>
      dsimp only at hst
      have hq9 := pm_if hst
      clear hst
      obtain ⟨hn, hst⟩ := hq9
      subst hn
      have hq9 := pm_i2_e hst
      clear hst
      obtain ⟨x, y, S', rfl, hst⟩ := hq9
      have hq9 := pm_ifn hst
      clear hst
      obtain ⟨hy, hst⟩ := hq9
      cases hst
      obtain ⟨_, _, rfl, h1, _, _, rfl, h2, h3⟩ := hS
      cases h1
      cases h2
      exact lv_idiv hx hb hd hy (kk _ _ _ _ _ _ hW (pm_xt.rf _) hL ⟨_, _, rfl, rfl, h3⟩)
    | irem =>
      dsimp only at hst
      have hq9 := pm_if hst
      clear hst
      obtain ⟨hn, hst⟩ := hq9
      subst hn
      have hq9 := pm_i2_e hst
      clear hst
      obtain ⟨x, y, S', rfl, hst⟩ := hq9
      have hq9 := pm_ifn hst
      clear hst
      obtain ⟨hy, hst⟩ := hq9
      cases hst
      obtain ⟨_, _, rfl, h1, _, _, rfl, h2, h3⟩ := hS
      cases h1
      cases h2
      exact lv_irem hx hb hd hy (kk _ _ _ _ _ _ hW (pm_xt.rf _) hL ⟨_, _, rfl, rfl, h3⟩)
    | ladd =>
      dsimp only at hst
      have hq9 := pm_if hst
      clear hst
      obtain ⟨hn, hst⟩ := hq9
      subst hn
      have hq9 := pm_j2_e hst
      clear hst
      obtain ⟨x, y, S', rfl, hst⟩ := hq9
      cases hst
      obtain ⟨_, _, rfl, h1, _, _, rfl, h2, h3⟩ := hS
      cases h1
      cases h2
      exact lv_ladd hx hb hd (kk _ _ _ _ _ _ hW (pm_xt.rf _) hL ⟨_, _, rfl, rfl, h3⟩)
    | lmul =>
      dsimp only at hst
      have hq9 := pm_if hst
      clear hst
      obtain ⟨hn, hst⟩ := hq9
      subst hn
      have hq9 := pm_j2_e hst
      clear hst
      obtain ⟨x, y, S', rfl, hst⟩ := hq9
      cases hst
      obtain ⟨_, _, rfl, h1, _, _, rfl, h2, h3⟩ := hS
      cases h1
      cases h2
      exact lv_lmul hx hb hd (kk _ _ _ _ _ _ hW (pm_xt.rf _) hL ⟨_, _, rfl, rfl, h3⟩)
    | ldiv =>
      dsimp only at hst
      have hq9 := pm_if hst
      clear hst
      obtain ⟨hn, hst⟩ := hq9
      subst hn
      have hq9 := pm_j2_e hst
      clear hst
      obtain ⟨x, y, S', rfl, hst⟩ := hq9
      have hq9 := pm_ifn hst
      clear hst
      obtain ⟨hy, hst⟩ := hq9
      cases hst
      obtain ⟨_, _, rfl, h1, _, _, rfl, h2, h3⟩ := hS
      cases h1
      cases h2
      exact lv_ldiv hx hb hd hy (kk _ _ _ _ _ _ hW (pm_xt.rf _) hL ⟨_, _, rfl, rfl, h3⟩)
    | lrem =>
      dsimp only at hst
      have hq9 := pm_if hst
      clear hst
      obtain ⟨hn, hst⟩ := hq9
      subst hn
      have hq9 := pm_j2_e hst
      clear hst
      obtain ⟨x, y, S', rfl, hst⟩ := hq9
      have hq9 := pm_ifn hst
      clear hst
      obtain ⟨hy, hst⟩ := hq9
      cases hst
      obtain ⟨_, _, rfl, h1, _, _, rfl, h2, h3⟩ := hS
      cases h1
      cases h2
      exact lv_lrem hx hb hd hy (kk _ _ _ _ _ _ hW (pm_xt.rf _) hL ⟨_, _, rfl, rfl, h3⟩)
    | lcmp =>
      dsimp only at hst
      have hq9 := pm_if hst
      clear hst
      obtain ⟨hn, hst⟩ := hq9
      subst hn
      have hq9 := pm_j2_e hst
      clear hst
      obtain ⟨x, y, S', rfl, hst⟩ := hq9
      cases hst
      obtain ⟨_, _, rfl, h1, _, _, rfl, h2, h3⟩ := hS
      cases h1
      cases h2
      exact W.lcmp hx hb hd (kk _ _ _ _ _ _ hW (pm_xt.rf _) hL ⟨_, _, rfl, rfl, h3⟩)
    | i2l =>
      dsimp only at hst
      have hq9 := pm_if hst
      clear hst
      obtain ⟨hn, hst⟩ := hq9
      subst hn
      have hq9 := pm_i1_e hst
      clear hst
      obtain ⟨x, S', rfl, hst⟩ := hq9
      cases hst
      obtain ⟨_, _, rfl, h1, h3⟩ := hS
      cases h1
      exact lv_i2l hx hb hd rfl (kk _ _ _ _ _ _ hW (pm_xt.rf _) hL ⟨_, _, rfl, rfl, h3⟩)
    | l2i =>
      dsimp only at hst
      have hq9 := pm_if hst
      clear hst
      obtain ⟨hn, hst⟩ := hq9
      subst hn
      have hq9 := pm_j1_e hst
      clear hst
      obtain ⟨x, S', rfl, hst⟩ := hq9
      cases hst
      obtain ⟨_, _, rfl, h1, h3⟩ := hS
      cases h1
      exact lv_l2i hx hb hd rfl (kk _ _ _ _ _ _ hW (pm_xt.rf _) hL ⟨_, _, rfl, rfl, h3⟩)
    | i2b =>
      dsimp only at hst
      have hq9 := pm_if hst
      clear hst
      obtain ⟨hn, hst⟩ := hq9
      subst hn
      have hq9 := pm_i1_e hst
      clear hst
      obtain ⟨x, S', rfl, hst⟩ := hq9
      cases hst
      obtain ⟨_, _, rfl, h1, h3⟩ := hS
      cases h1
      exact lv_i2b hx hb hd rfl (kk _ _ _ _ _ _ hW (pm_xt.rf _) hL ⟨_, _, rfl, rfl, h3⟩)
    | dup =>
      dsimp only at hst
      have hq9 := pm_if hst
      clear hst
      obtain ⟨hn, hst⟩ := hq9
      subst hn
      split at hst
      next v S' =>
        have hq9 := pm_if hst
        clear hst
        obtain ⟨hc, hst⟩ := hq9
        cases hst
        obtain ⟨w, T', rfl, h1, h3⟩ := hS
        exact lv_dup hx hb hd (h1.cat.trans hc) (kk _ _ _ _ _ _ hW (pm_xt.rf _) hL ⟨_, _, rfl, h1, _, _, rfl, h1, h3⟩)
      next => cases hst
    | dup2 =>
      dsimp only at hst
      have hq9 := pm_if hst
      clear hst
      obtain ⟨hn, hst⟩ := hq9
      subst hn
      split at hst
      next v v2 S' =>
        have hq9 := pm_if hst
        clear hst
        obtain ⟨hc, hst⟩ := hq9
        cases hst
        obtain ⟨w, T', rfl, h1, w2, T2, rfl, h2, h3⟩ := hS
        exact lv_dup2_11 hx hb hd (h1.cat.trans hc.1) (h2.cat.trans hc.2) (kk _ _ _ _ _ _ hW (pm_xt.rf _) hL ⟨_, _, rfl, h1, _, _, rfl, h2, _, _, rfl, h1, _, _, rfl, h2, h3⟩)
      next => cases hst
    | ifCond cd off =>
      dsimp only at hst
      have hq9 := pm_if hst
      clear hst
      obtain ⟨hn, hst⟩ := hq9
      subst hn
      have hq9 := pm_i1_e hst
      clear hst
      obtain ⟨x, S', rfl, hst⟩ := hq9
      obtain ⟨_, _, rfl, h1, h3⟩ := hS
      cases h1
      exact pm_br1 hx hb hd hst hW hL h3 kk
    | if_icmp cd off =>
      dsimp only at hst
      have hq9 := pm_if hst
      clear hst
      obtain ⟨hn, hst⟩ := hq9
      subst hn
      have hq9 := pm_i2_e hst
      clear hst
      obtain ⟨x, y, S', rfl, hst⟩ := hq9
      obtain ⟨_, _, rfl, h1, _, _, rfl, h2, h3⟩ := hS
      cases h1
      cases h2
      exact pm_br2 hx hb hd hst hW hL h3 kk
    | ifnull off =>
      dsimp only at hst
      have hq9 := pm_if hst
      clear hst
      obtain ⟨hn, hst⟩ := hq9
      subst hn
      have hq9 := pm_r1_e hst
      clear hst
      obtain ⟨x, S', rfl, hst⟩ := hq9
      cases hst
      obtain ⟨_, _, rfl, ⟨a, rfl, ha⟩, h3⟩ := hS
      exact lv_ifnull hx hb hd (kk _ _ _ _ _ _ hW (pm_xt.rf _) hL h3)
    | goto off =>
      dsimp only at hst
      have hq9 := pm_if hst
      clear hst
      obtain ⟨hn, hst⟩ := hq9
      subst hn
      have hq9 := pm_jp_e hst
      clear hst
      obtain ⟨ht, hst⟩ := hq9
      cases hst
      exact lv_goto hx hb hd ht (kk _ _ _ _ _ _ hW (pm_xt.rf _) hL hS)
    | tableswitch d lo hi offs =>
      dsimp only at hst
      have hq9 := pm_i1_e hst
      clear hst
      obtain ⟨x, S', rfl, hst⟩ := hq9
      obtain ⟨_, _, rfl, h1, h3⟩ := hS
      cases h1
      split at hst
      next hc =>
        have hq9 := pm_jp_e hst
        clear hst
        obtain ⟨ht, hst⟩ := hq9
        cases hst
        exact lv_tableOut hx hb hd hc ht (kk _ _ _ _ _ _ hW (pm_xt.rf _) hL h3)
      next hc =>
        split at hst
        next off ho =>
          have hq9 := pm_jp_e hst
          clear hst
          obtain ⟨ht, hst⟩ := hq9
          cases hst
          exact lv_tableIn hx hb hd (fun q => hc (Or.inl q)) (fun q => hc (Or.inr q)) ho ht (kk _ _ _ _ _ _ hW (pm_xt.rf _) hL h3)
        next => cases hst
    | lookupswitch d ps =>
      dsimp only at hst
      have hq9 := pm_i1_e hst
      clear hst
      obtain ⟨x, S', rfl, hst⟩ := hq9
      obtain ⟨_, _, rfl, h1, h3⟩ := hS
      cases h1
      have hq9 := pm_if hst
      clear hst
      obtain ⟨hc, hst⟩ := hq9
      have hq9 := pm_jp_e hst
      clear hst
      obtain ⟨ht, hst⟩ := hq9
      cases hst
      exact lv_lookup hx hb hd hc rfl ht (kk _ _ _ _ _ _ hW (pm_xt.rf _) hL h3)
    | getfield i =>
      dsimp only at hst
      have hq9 := pm_if hst
      clear hst
      obtain ⟨hn, hst⟩ := hq9
      subst hn
      have hq9 := pm_r1_e hst
      clear hst
      obtain ⟨k, S', rfl, hst⟩ := hq9
      split at hst
      next ci sl q hf =>
        have hq9 := pm_ob_e hst
        clear hst
        obtain ⟨ci', fs, hg, hst⟩ := hq9
        have hq9 := pm_if hst
        clear hst
        obtain ⟨hcc, hst⟩ := hq9
        subst hcc
        split at hst
        next v hv =>
          have hq9 := pm_if hst
          clear hst
          obtain ⟨hfit, hst⟩ := hq9
          cases hst
          obtain ⟨_, _, rfl, ⟨a, rfl, ha⟩, h3⟩ := hS
          obtain ⟨hci, hs, hlk⟩ := pm_fl_ok hf
          obtain ⟨ty, hty, hcl, hpt, hnm, huw⟩ := pm_K_ok hci
          obtain ⟨hK, hP, hD, hSS, hR⟩ := id hW
          obtain ⟨q0, a', e0, rfl, hq, her⟩ := hR.at hg
          obtain ⟨gs, rfl, hgs⟩ := her
          cases ha.at hq
          obtain ⟨w, hw, hvr⟩ := hgs.get hv
          exact va_get (D := D) (C := (pm_K ci').1) (T := (pm_K ci').2.1) (N := (pm_K ci').2.2) hx hb hts (pm_uw_in huw) hown hK hP q0 hq hcl sl hs (hts _ (pm_tb_in hlk rfl)) (fun _ h => h) hw hd (kk _ _ _ _ _ _ hW (pm_xt.rf _) hL ⟨w, _, rfl, hvr, h3⟩)
        next => cases hst
      next => cases hst
    | putfield i =>
      dsimp only at hst
      have hq9 := pm_if hst
      clear hst
      obtain ⟨hn, hst⟩ := hq9
      subst hn
      split at hst
      next v k S' =>
        split at hst
        next ci sl q hf =>
          have hq9 := pm_ob_e hst
          clear hst
          obtain ⟨ci', fs, hg, hst⟩ := hq9
          have hq9 := pm_if hst
          clear hst
          obtain ⟨⟨hcc, hsl, hfit, hfin⟩, hst⟩ := hq9
          subst hcc
          cases hst
          obtain ⟨w, _, rfl, hvw, _, _, rfl, ⟨a, rfl, ha⟩, h3⟩ := hS
          obtain ⟨hci, hs, hlk⟩ := pm_fl_ok hf
          obtain ⟨ty, hty, hcl, hpt, hnm2, huw⟩ := pm_K_ok hci
          obtain ⟨hK, hP, hD, hSS, hR⟩ := id hW
          obtain ⟨q0, a', e0, rfl, hq, her⟩ := hR.at hg
          obtain ⟨gs, rfl, hgs⟩ := her
          cases ha.at hq
          rw [hty] at hfit
          have hgd : pm_cl.getD ci' (RX0, TX0, 3) = pm_K ci' := by rw [List.getD_eq_getElem?_getD, hcl]; rfl
          rw [hgd] at hfin
          have hfw := pm_fit_ok (pm_fit_vr hfit hvw)
          have hR' : pm_R b (pm_set PH (q0 + 1) (.inr (ci', fs.set sl v))) (ws.set q0 (a, .inr (ci', gs.set sl w))) tys := hR.set hq ⟨_, rfl, hgs.set hvw sl⟩
          have hx2 : pm_xt ws (ws.set q0 (a, .inr (ci', gs.set sl w))) := pm_xt.set hq
          by_cases hfi : (pm_T ci' sl).2.2.2 = true
          · have hfin2 : (pm_y j).name = "<init>" ∧ (pm_T ci' sl).1 = (pm_y j).cls := hfin hfi
            exact va_putF (D := D) (C := (pm_K ci').1) (T := (pm_K ci').2.1) (N := (pm_K ci').2.2) hx hb hts (pm_uw_in huw) ty hpt hnm2 hown hK hP hD hSS q0 hq hcl sl hs (hts _ (pm_tb_in hlk rfl)) (fun _ h => h) hfi (hnm hfin2.1) hfin2.2 (hpt sl hs) hfw.1 hfw.2 (by rw [hgs.len]; exact hsl) hd (fun H1 locs1 hP1 hD1 hS1 => kk _ _ _ _ _ _ ⟨hK, hP1, hD1, hS1, hR'⟩ hx2 (hL.xt hx2) (h3.xt hx2))
          · exact va_put (D := D) (C := (pm_K ci').1) (T := (pm_K ci').2.1) (N := (pm_K ci').2.2) hx hb hts (pm_uw_in huw) ty hpt hnm2 hown hK hP hD hSS q0 hq hcl sl hs (hts _ (pm_tb_in hlk rfl)) (fun _ h => h) (Bool.eq_false_iff.mpr hfi) (hpt sl hs) hfw.1 hfw.2 (by rw [hgs.len]; exact hsl) hd (fun H1 locs1 hP1 hD1 hS1 => kk _ _ _ _ _ _ ⟨hK, hP1, hD1, hS1, hR'⟩ hx2 (hL.xt hx2) (h3.xt hx2))
        next => cases hst
      next => cases hst
    | arraylength =>
      dsimp only at hst
      have hq9 := pm_if hst
      clear hst
      obtain ⟨hn, hst⟩ := hq9
      subst hn
      have hq9 := pm_r1_e hst
      clear hst
      obtain ⟨k, S', rfl, hst⟩ := hq9
      have hq9 := pm_if hst
      clear hst
      obtain ⟨hk, hst⟩ := hq9
      have hq9 := pm_if hst
      clear hst
      obtain ⟨hj, hst⟩ := hq9
      cases hst
      obtain ⟨_, _, rfl, ⟨a, rfl, ha⟩, h3⟩ := hS
      subst hk
      obtain ⟨hX1, hX2, hX3⟩ := hXS hj
      have hab : a = b := by
        rcases ha with ha | ⟨i, e', q, -⟩
        · exact ha.2
        · omega
      subst hab
      exact va_slen hx hb hX1 hX2 hX3 hW.2.2.2.1 hd (kk _ _ _ _ _ _ hW (pm_xt.rf _) hL ⟨_, _, rfl, rfl, h3⟩)
    | iaload =>
      dsimp only at hst
      have hq9 := pm_if hst
      clear hst
      obtain ⟨hn, hst⟩ := hq9
      subst hn
      have hq9 := pm_ir_e hst
      clear hst
      obtain ⟨i, k, S', rfl, hst⟩ := hq9
      obtain ⟨_, _, rfl, h1, _, _, rfl, ⟨a, rfl, ha⟩, h3⟩ := hS
      cases h1
      split at hst
      next hk =>
        have hq9 := pm_if hst
        clear hst
        obtain ⟨⟨hj, hi0, hi1⟩, hst⟩ := hq9
        cases hst
        subst hk
        obtain ⟨hX1, hX2, hX3⟩ := hXS hj
        have hab : a = b := by
          rcases ha with ha | ⟨i, e', q, -⟩
          · exact ha.2
          · omega
        subst hab
        exact va_sld hx hb hX1 hX2 hX3 hW.2.2.2.1 (pm_inv hi0 hi1) hd (kk _ _ _ _ _ _ hW (pm_xt.rf _) hL ⟨_, _, rfl, rfl, h3⟩)
      next hk =>
        have hq9 := pm_ai_e hst
        clear hst
        obtain ⟨ty, N, g, hg, hst⟩ := hq9
        have hq9 := pm_if hst
        clear hst
        obtain ⟨⟨rfl, hi0, hi1⟩, hst⟩ := hq9
        cases hst
        obtain ⟨hK, hP, hD, hSS, hR⟩ := id hW
        obtain ⟨q0, a', e0, rfl, hq, her⟩ := hR.at hg
        obtain ⟨cA, t0, rfl, ht⟩ := her
        cases ha.at hq
        exact va_iald hx hb hK hP q0 t0 hq ht (pm_inv hi0 hi1) hd (kk _ _ _ _ _ _ hW (pm_xt.rf _) hL ⟨_, _, rfl, rfl, h3⟩)
    | baload =>
      dsimp only at hst
      have hq9 := pm_if hst
      clear hst
      obtain ⟨hn, hst⟩ := hq9
      subst hn
      have hq9 := pm_ir_e hst
      clear hst
      obtain ⟨i, k, S', rfl, hst⟩ := hq9
      obtain ⟨_, _, rfl, h1, _, _, rfl, ⟨a, rfl, ha⟩, h3⟩ := hS
      cases h1
      have hq9 := pm_ai_e hst
      clear hst
      obtain ⟨ty, N, g, hg, hst⟩ := hq9
      have hq9 := pm_if hst
      clear hst
      obtain ⟨⟨hty, hi0, hi1⟩, hst⟩ := hq9
      cases hst
      obtain ⟨hK, hP, hD, hSS, hR⟩ := id hW
      obtain ⟨q0, a', e0, rfl, hq, her⟩ := hR.at hg
      obtain ⟨cA, t0, rfl, ht⟩ := her
      cases ha.at hq
      rcases hty with rfl | rfl
      · exact va_bald hx hb hK hP q0 t0 hq ht (pm_inv hi0 hi1) hd (kk _ _ _ _ _ _ hW (pm_xt.rf _) hL ⟨_, _, rfl, rfl, h3⟩)
      · exact va_zald hx hb hK hP q0 t0 hq ht (pm_inv hi0 hi1) hd (kk _ _ _ _ _ _ hW (pm_xt.rf _) hL ⟨_, _, rfl, rfl, h3⟩)
    | aaload =>
      dsimp only at hst
      have hq9 := pm_if hst
      clear hst
      obtain ⟨hn, hst⟩ := hq9
      subst hn
      have hq9 := pm_ir_e hst
      clear hst
      obtain ⟨i, k, S', rfl, hst⟩ := hq9
      obtain ⟨_, _, rfl, h1, _, _, rfl, ⟨a, rfl, ha⟩, h3⟩ := hS
      cases h1
      have hq9 := pm_aq_e hst
      clear hst
      obtain ⟨C, N, g, hg, hst⟩ := hq9
      have hq9 := pm_if hst
      clear hst
      obtain ⟨⟨hi0, hi1⟩, hst⟩ := hq9
      cases hst
      obtain ⟨hK, hP, hD, hSS, hR⟩ := id hW
      obtain ⟨q0, a', e0, rfl, hq, her⟩ := hR.at hg
      obtain ⟨cA, t0, g', rfl, ht, hgg⟩ := her
      cases ha.at hq
      have hv : pm_vr b ws (pm_rfv (g i.toNatClampNeg)) (va_rf (g' i.toNatClampNeg)) := by
        have h9 := hgg i.toNatClampNeg
        cases hgi : g i.toNatClampNeg with
        | none => rw [hgi] at h9; rw [show g' i.toNatClampNeg = none from h9]; exact rfl
        | some y => rw [hgi] at h9; obtain ⟨z, h10, h11⟩ := h9; rw [h10]; exact ⟨z, rfl, h11⟩
      exact va_aldq hx hb hK hP q0 t0 hq ht (pm_inv hi0 hi1) hd (kk _ _ _ _ _ _ hW (pm_xt.rf _) hL ⟨_, _, rfl, hv, h3⟩)
    | iastore =>
      dsimp only at hst
      have hq9 := pm_if hst
      clear hst
      obtain ⟨hn, hst⟩ := hq9
      subst hn
      have hq9 := pm_iir_e hst
      clear hst
      obtain ⟨x, i, k, S', rfl, hst⟩ := hq9
      obtain ⟨_, _, rfl, h1, _, _, rfl, h2, _, _, rfl, ⟨a, rfl, ha⟩, h3⟩ := hS
      cases h1
      cases h2
      have hq9 := pm_ai_e hst
      clear hst
      obtain ⟨ty, N, g, hg, hst⟩ := hq9
      have hq9 := pm_if hst
      clear hst
      obtain ⟨⟨rfl, hi0, hi1⟩, hst⟩ := hq9
      cases hst
      obtain ⟨hK, hP, hD, hSS, hR⟩ := id hW
      obtain ⟨q0, a', e0, rfl, hq, her⟩ := hR.at hg
      obtain ⟨cA, t0, rfl, ht⟩ := her
      cases ha.at hq
      exact va_iast hx hb hK hP hD hSS q0 t0 hq ht (pm_inv hi0 hi1) hd (fun H1 locs1 hP1 hD1 hS1 => kk _ _ _ _ _ _ ⟨hK, hP1, hD1, hS1, hR.set hq ⟨_, t0, rfl, ht⟩⟩ (pm_xt.set hq) (hL.xt (pm_xt.set hq)) (h3.xt (pm_xt.set hq)))
    | bastore =>
      dsimp only at hst
      have hq9 := pm_if hst
      clear hst
      obtain ⟨hn, hst⟩ := hq9
      subst hn
      have hq9 := pm_iir_e hst
      clear hst
      obtain ⟨x, i, k, S', rfl, hst⟩ := hq9
      obtain ⟨_, _, rfl, h1, _, _, rfl, h2, _, _, rfl, ⟨a, rfl, ha⟩, h3⟩ := hS
      cases h1
      cases h2
      have hq9 := pm_ai_e hst
      clear hst
      obtain ⟨ty, N, g, hg, hst⟩ := hq9
      have hq9 := pm_if hst
      clear hst
      obtain ⟨⟨hty, hi0, hi1⟩, hst⟩ := hq9
      cases hst
      obtain ⟨hK, hP, hD, hSS, hR⟩ := id hW
      obtain ⟨q0, a', e0, rfl, hq, her⟩ := hR.at hg
      obtain ⟨cA, t0, rfl, ht⟩ := her
      cases ha.at hq
      rcases hty with rfl | rfl
      · exact va_bast hx hb hK hP hD hSS q0 t0 hq ht (pm_inv hi0 hi1) hd (fun H1 locs1 hP1 hD1 hS1 => kk _ _ _ _ _ _ ⟨hK, hP1, hD1, hS1, hR.set hq ⟨_, t0, rfl, ht⟩⟩ (pm_xt.set hq) (hL.xt (pm_xt.set hq)) (h3.xt (pm_xt.set hq)))
      · exact va_zast hx hb hK hP hD hSS q0 t0 hq ht (pm_inv hi0 hi1) hd (fun H1 locs1 hP1 hD1 hS1 => kk _ _ _ _ _ _ ⟨hK, hP1, hD1, hS1, hR.set hq ⟨_, t0, rfl, ht⟩⟩ (pm_xt.set hq) (hL.xt (pm_xt.set hq)) (h3.xt (pm_xt.set hq)))
    | aastore =>
      dsimp only at hst
      have hq9 := pm_if hst
      clear hst
      obtain ⟨hn, hst⟩ := hq9
      subst hn
      split at hst
      next v i k S' =>
        have hq9 := pm_aq_e hst
        clear hst
        obtain ⟨C, N, g, hg, hst⟩ := hq9
        have hq9 := pm_ob_e hst
        clear hst
        obtain ⟨ci, vs, hv, hst⟩ := hq9
        have hq9 := pm_if hst
        clear hst
        obtain ⟨⟨rfl, hci, hi0, hi1⟩, hst⟩ := hq9
        cases hst
        obtain ⟨_, _, rfl, ⟨av, rfl, hav⟩, _, _, rfl, h2, _, _, rfl, ⟨a, rfl, ha⟩, h3⟩ := hS
        cases h2
        obtain ⟨hK, hP, hD, hSS, hR⟩ := id hW
        obtain ⟨q0, a', e0, rfl, hq, her⟩ := hR.at hg
        obtain ⟨cA, t0, g', rfl, ht, hgg⟩ := her
        obtain ⟨qk, a2, e2, rfl, hq2, her2⟩ := hR.at hv
        obtain ⟨gs, rfl, hgs⟩ := her2
        cases ha.at hq
        cases hav.at hq2
        obtain ⟨ty, hty, hcl, hpt, hnm2, huw⟩ := pm_K_ok hci
        refine va_astq hx hb hK hP hD hSS q0 t0 qk ci hq ht hq2 hcl (pm_inv hi0 hi1) hd (fun H1 locs1 hP1 hD1 hS1 => kk _ _ _ _ _ _ ⟨hK, hP1, hD1, hS1, hR.set hq ⟨_, t0, _, rfl, ht, fun n => ?_⟩⟩ (pm_xt.set hq) (hL.xt (pm_xt.set hq)) (h3.xt (pm_xt.set hq)))
        unfold va_up
        split
        · exact ⟨av, rfl, hav⟩
        · exact hgg n
      next => cases hst
    | newarray t =>
      dsimp only at hst
      have hq9 := pm_if hst
      clear hst
      obtain ⟨hn, hst⟩ := hq9
      subst hn
      have hq9 := pm_i1_e hst
      clear hst
      obtain ⟨x, S', rfl, hst⟩ := hq9
      have hq9 := pm_if hst
      clear hst
      obtain ⟨⟨hx0, hx1, ht, hc1, hc2⟩, hst⟩ := hq9
      cases hst
      obtain ⟨_, _, rfl, h1, h3⟩ := hS
      cases h1
      obtain ⟨hK, hP, hD, hSS, hR⟩ := id hW
      have hxn : x.toNatClampNeg ≤ 1000 := by
        rw [Int32.le_iff_toInt_le] at hx1
        have : (1000 : Int32).toInt = 1000 := by decide
        have h9 : (x.toNatClampNeg : Int) = x.toInt.toNat := rfl
        omega
      have hdv : ∀ cA : ClassId, vp_cell cA (x.toNatClampNeg, .inl (fun _ => 0)) = arrV cA x.toNatClampNeg (fun _ => defaultValue (newarray.typeOf t)) := by
        intro cA
        rcases ht with rfl | rfl | rfl <;> rfl
      have hby : x.toNatClampNeg * componentBytes (newarray.typeOf t) ≤ 536870912 := by
        have : componentBytes (newarray.typeOf t) ≤ 8 := by rcases ht with rfl | rfl | rfl <;> decide
        calc x.toNatClampNeg * componentBytes (newarray.typeOf t) ≤ 1000 * 8 := Nat.mul_le_mul hxn this
          _ ≤ 536870912 := by decide
      exact va_newa hx hb (hts _ (pm_tb_in (pm_ac_ok ht) rfl)) rfl hK hP hD hSS hA hdv (pm_nneg hx0) rfl hby hc1 hc2 hd (fun q cA H1 hK1 hP1 hD1 hS1 => kk _ _ _ _ _ _ ⟨hK1, hP1, hD1, hS1, hR.new ⟨cA, tys.length, rfl, by simp⟩⟩ (pm_xt.app _ _) (hL.xt (pm_xt.app _ _)) ⟨_, _, rfl, ⟨q, rfl, hR.newAr⟩, h3.xt (pm_xt.app _ _)⟩)
    | anewarray i =>
      dsimp only at hst
      have hq9 := pm_if hst
      clear hst
      obtain ⟨hn, hst⟩ := hq9
      subst hn
      have hq9 := pm_i1_e hst
      clear hst
      obtain ⟨x, S', rfl, hst⟩ := hq9
      split at hst
      next ci q9 hf =>
        have hq9 := pm_if hst
        clear hst
        obtain ⟨⟨hx0, hx1, hci, hc1, hc2⟩, hst⟩ := hq9
        cases hst
        obtain ⟨_, _, rfl, h1, h3⟩ := hS
        cases h1
        obtain ⟨hK, hP, hD, hSS, hR⟩ := id hW
        have hxn : x.toNatClampNeg ≤ 1000 := by
          rw [Int32.le_iff_toInt_le] at hx1
          have : (1000 : Int32).toInt = 1000 := by decide
          have h9 : (x.toNatClampNeg : Int) = x.toInt.toNat := rfl
          omega
        exact va_newq hx hb hown (hts _ (pm_tb_in (pm_kl_ok hf).2 rfl)) (hNW.2 _ (pm_ao_ok hci)) hK hP hD hSS hA (pm_nneg hx0) rfl (by omega) hc1 hc2 hd (fun q cA H1 hK1 hP1 hD1 hS1 => kk _ _ _ _ _ _ ⟨hK1, hP1, hD1, hS1, hR.new ⟨cA, tys.length, _, rfl, by simp, fun _ => rfl⟩⟩ (pm_xt.app _ _) (hL.xt (pm_xt.app _ _)) ⟨_, _, rfl, ⟨q, rfl, hR.newAr⟩, h3.xt (pm_xt.app _ _)⟩)
      next => cases hst
    | new i =>
      dsimp only at hst
      have hq9 := pm_if hst
      clear hst
      obtain ⟨hn, hst⟩ := hq9
      subst hn
      split at hst
      next ci q9 hf =>
        have hq9 := pm_if hst
        clear hst
        obtain ⟨⟨hc1, hc2⟩, hst⟩ := hq9
        cases hst
        obtain ⟨hK, hP, hD, hSS, hR⟩ := id hW
        obtain ⟨hci, hlk⟩ := pm_kl_ok hf
        obtain ⟨ty, hty, hcl, hpt, hnm2, huw⟩ := pm_K_ok hci
        obtain ⟨hi1, hi2⟩ := pm_in_ok hci
        exact va_new (fs := (List.range (pm_K ci).2.2).map fun k => defaultValue (ty k)) hx hb hts (pm_uw_in huw) ty hpt hown (hts _ (pm_tb_in hlk rfl)) (hts _ (pm_tb_in hi1 rfl)) (hts _ (pm_tb_in hi2 rfl)) hK hP hD hSS hA hcl (fun k hk => by unfold vp_V; rw [List.getD_eq_getElem?_getD, List.getElem?_map, List.getElem?_range hk]; rfl) hc1 hc2 hd (fun q H1 hP1 hD1 hS1 => kk _ _ _ _ _ _ ⟨hK, hP1, hD1, hS1, by have := hR.new (t2 := []) (a := q) (c := .inr (ci, (List.range (pm_K ci).2.2).map fun k => defaultValue (ty k))) (e := .inr (ci, (List.range (pm_K ci).2.2).map fun k => defaultValue (ty k))) ⟨_, rfl, pm_sr_dflt _ _⟩; rw [List.append_nil] at this; rw [hty]; exact this⟩ (pm_xt.app _ _) (hL.xt (pm_xt.app _ _)) ⟨_, _, rfl, ⟨q, rfl, hR.newAr⟩, hS.xt (pm_xt.app _ _)⟩)
      next => cases hst
    | ireturn =>
      dsimp only at hst
      have hq9 := pm_if hst
      clear hst
      obtain ⟨-, hst⟩ := hq9
      split at hst
      · obtain ⟨-, hst⟩ := pm_if hst; cases hst
      · cases hst
    | lreturn =>
      dsimp only at hst
      have hq9 := pm_if hst
      clear hst
      obtain ⟨-, hst⟩ := hq9
      split at hst
      · obtain ⟨-, hst⟩ := pm_if hst; cases hst
      · cases hst
    | return_ =>
      dsimp only at hst
      have hq9 := pm_if hst
      clear hst
      obtain ⟨-, hst⟩ := hq9
      split at hst
      · obtain ⟨-, hst⟩ := pm_if hst; cases hst
      · cases hst
    | invokespecial i =>
      dsimp only at hst
      have hq9 := pm_if hst
      clear hst
      obtain ⟨hn, hst⟩ := hq9
      subst hn
      split at hst
      next q9 hf =>
        have hq9 := pm_r1_e hst
        clear hst
        obtain ⟨k, S', rfl, hst⟩ := hq9
        have hq9 := pm_if hst
        clear hst
        obtain ⟨⟨hc1, hc2, hc3⟩, hst⟩ := hq9
        cases hst
        obtain ⟨_, _, rfl, ⟨a, rfl, ha⟩, h3⟩ := hS
        have hm := pm_mth_ok hf
        rcases hm with ⟨-, m1, m2, m3⟩ | ⟨hk, -⟩ | ⟨hk, -⟩ | ⟨hk, -⟩ | ⟨hk, -⟩
        · refine W.objInit hx hb hown (hts _ (pm_tb_in (List.mem_of_getElem? m1) rfl)) (hts _ (pm_tb_in (List.mem_of_getElem? m2) rfl)) (hts _ (pm_tb_in (List.mem_of_getElem? m3) rfl)) rfl (by rw [hml]; exact hL.1) rfl hd hc1 ?_ (kk _ _ _ _ _ _ hW (pm_xt.rf _) hL h3)
          have h8 := h3.cat
          have h9 : (pm_rm j).locals = pm_lo j := rfl
          rw [h9]
          show 2 * 0 + _ + 12 ≤ _
          omega
        · exact absurd hk (by decide)
        · exact absurd hk (by decide)
        · exact absurd hk (by decide)
        · exact absurd hk (by decide)
      next =>
        have hq9 := pm_if hst
        clear hst
        obtain ⟨-, hst⟩ := hq9
        have hq9 := pm_r1_e hst
        clear hst
        obtain ⟨k, S', rfl, hst⟩ := hq9
        have hq9 := pm_if hst
        clear hst
        obtain ⟨-, hst⟩ := hq9
        cases hst
      next => cases hst
    | invokevirtual i =>
      dsimp only at hst
      have hq9 := pm_if hst
      clear hst
      obtain ⟨hn, hst⟩ := hq9
      subst hn
      split at hst
      next =>
        split at hst
        next =>
          have hq9 := pm_ob_e hst
          clear hst
          obtain ⟨ci, fs, hg, hst⟩ := hq9
          have hq9 := pm_if hst
          clear hst
          obtain ⟨-, hst⟩ := hq9
          cases hst
        next => cases hst
      next => cases hst
    | invokestatic i =>
      dsimp only at hst
      have hq9 := pm_if hst
      clear hst
      obtain ⟨hn, hst⟩ := hq9
      subst hn
      split at hst
      next q9 hf =>
        split at hst
        next n9 dp k sp k0 S' =>
          have hq9 := pm_ai_e hst
          clear hst
          obtain ⟨ty0, N0, f, hg0, hst⟩ := hq9
          have hq9 := pm_ai_e hst
          clear hst
          obtain ⟨ty, N, g, hg, hst⟩ := hq9
          have hq9 := pm_if hst
          clear hst
          obtain ⟨⟨rfl, rfl, h1, h2, h3, h4, h5, hc1, hc2, hc3⟩, hst⟩ := hq9
          cases hst
          obtain ⟨_, _, rfl, e1, _, _, rfl, e2, _, _, rfl, ⟨a, rfl, ha⟩, _, _, rfl, e3, _, _, rfl, ⟨a0, rfl, ha0⟩, e4⟩ := hS
          cases e1
          cases e2
          cases e3
          obtain ⟨hK, hP, hD, hSS, hR⟩ := id hW
          obtain ⟨q0, a', e0, rfl, hq, her⟩ := hR.at hg
          obtain ⟨cA, t0, rfl, ht⟩ := her
          obtain ⟨q1, a1', e1, rfl, hq1, her1⟩ := hR.at hg0
          obtain ⟨cA1, t1, rfl, ht1⟩ := her1
          cases ha.at hq
          cases ha0.at hq1
          have hm := pm_mth_ok hf
          rcases hm with ⟨hk, -⟩ | ⟨-, m1, m2, m3, m4⟩ | ⟨hk, -⟩ | ⟨hk, -⟩ | ⟨hk, -⟩
          · exact absurd hk (by decide)
          · refine va_copyi hx hb (by rw [hml]; exact hL.1.symm) hown (hts _ (pm_tb_in (List.mem_of_getElem? m1) rfl)) (hts _ (pm_tb_in (List.mem_of_getElem? m2) rfl)) (hts _ (pm_tb_in (List.mem_of_getElem? m3) rfl)) (hts _ (pm_tb_in (List.mem_of_getElem? m4) rfl)) hK hP hD hSS q1 q0 t1 t0 hq1 hq ht1 ht rfl (pm_nneg h1) (pm_nneg h2) (pm_nneg h3) h4 h5 (fun _ _ => rfl) hc1 ?_ hd (fun H1 locs1 hP1 hD1 hS1 => kk _ _ _ _ _ _ ⟨hK, hP1, hD1, hS1, hR.set hq ⟨_, t0, rfl, ht⟩⟩ (pm_xt.set hq) (hL.xt (pm_xt.set hq)) (e4.xt (pm_xt.set hq)))
            have h8 := e4.cat
            have h9 : (pm_rm j).locals = pm_lo j := rfl
            have h10 : nativeFrameWords "java/lang/System" "arraycopy" 5 = 7 := by decide +kernel
            rw [h9, h10]
            omega
          · exact absurd hk (by decide)
          · exact absurd hk (by decide)
          · exact absurd hk (by decide)
        next => cases hst
      next q9 hf =>
        have hq9 := pm_i2_e hst
        clear hst
        obtain ⟨x, y, S', rfl, hst⟩ := hq9
        have hq9 := pm_if hst
        clear hst
        obtain ⟨⟨hc1, hc2, hc3, hc4, hc5⟩, hst⟩ := hq9
        cases hst
        obtain ⟨_, _, rfl, h1, _, _, rfl, h2, h3⟩ := hS
        cases h1
        cases h2
        have hm := pm_mth_ok hf
        rcases hm with ⟨hk, -⟩ | ⟨hk, -⟩ | ⟨-, m1, m2, m3, m4⟩ | ⟨hk, -⟩ | ⟨hk, -⟩
        · exact absurd hk (by decide)
        · exact absurd hk (by decide)
        · refine va_mmax hx hb (by rw [hml]; exact hL.1.symm) hown (hts _ (pm_tb_in (List.mem_of_getElem? m1) rfl)) (hts _ (pm_tb_in (List.mem_of_getElem? m2) rfl)) (hts _ (pm_tb_in (List.mem_of_getElem? m3) rfl)) (hts _ (pm_tb_in (List.mem_of_getElem? m4) rfl)) hc1 ?_ hc4 hc5 hd (kk _ _ _ _ _ _ hW (pm_xt.rf _) hL ⟨_, _, rfl, rfl, h3⟩)
          have h8 := h3.cat
          have h9 : (pm_rm j).locals = pm_lo j := rfl
          rw [h9]
          omega
        · exact absurd hk (by decide)
        · exact absurd hk (by decide)
      next q9 hf =>
        have hq9 := pm_i2_e hst
        clear hst
        obtain ⟨x, y, S', rfl, hst⟩ := hq9
        have hq9 := pm_if hst
        clear hst
        obtain ⟨⟨hc1, hc2, hc3, hc4, hc5⟩, hst⟩ := hq9
        cases hst
        obtain ⟨_, _, rfl, h1, _, _, rfl, h2, h3⟩ := hS
        cases h1
        cases h2
        have hm := pm_mth_ok hf
        rcases hm with ⟨hk, -⟩ | ⟨hk, -⟩ | ⟨hk, -⟩ | ⟨-, m1, m2, m3, m4⟩ | ⟨hk, -⟩
        · exact absurd hk (by decide)
        · exact absurd hk (by decide)
        · exact absurd hk (by decide)
        · refine va_mmin hx hb (by rw [hml]; exact hL.1.symm) hown (hts _ (pm_tb_in (List.mem_of_getElem? m1) rfl)) (hts _ (pm_tb_in (List.mem_of_getElem? m2) rfl)) (hts _ (pm_tb_in (List.mem_of_getElem? m3) rfl)) (hts _ (pm_tb_in (List.mem_of_getElem? m4) rfl)) hc1 ?_ hc4 hc5 hd (kk _ _ _ _ _ _ hW (pm_xt.rf _) hL ⟨_, _, rfl, rfl, h3⟩)
          have h8 := h3.cat
          have h9 : (pm_rm j).locals = pm_lo j := rfl
          rw [h9]
          omega
        · exact absurd hk (by decide)
      next =>
        have hq9 := pm_if hst
        clear hst
        obtain ⟨-, hst⟩ := hq9
        cases hst
      next => cases hst
    | _ => cases hst
  next => cases hst
end PMS
