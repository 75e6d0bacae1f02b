/-! THE PURE MACHINE IS SOUND: a run of it is a run of the real one, calls and all -/
def pm_ovr (b : Nat) (ws : va_W) (r w : Option Value) : Prop := match r with
  | none => w = none
  | some v => ∃ y, w = some y ∧ pm_vr b ws v y
theorem pm_ovr.sr {b : Nat} {ws : va_W} {r w : Option Value} (h : pm_ovr b ws r w) : pm_sr b ws r.toList w.toList := by
  cases r with
  | none => cases h; exact rfl
  | some v => obtain ⟨y, rfl, h2⟩ := h; exact ⟨y, [], rfl, h2, rfl⟩
theorem pm_NW.warm {s U : State} (hW : s.WarmedH U.vm) (h : pm_NW s) : pm_NW U := ⟨fun o i y x hm => va_Nw.warmM hW (h.1 o i y x hm), fun C hm => (h.2 C hm).moved hW.alike⟩
theorem pm_NW.same {s U : State} (hv : s.vm = U.vm) (h : pm_NW s) : pm_NW U := ⟨fun o i y x hm => va_Nw.same rfl hv (h.1 o i y x hm), fun C hm => (h.2 C hm).moved (by rw [hv]; exact Vm.Alike.refl _)⟩
def pm_Pc (D : va_G) (ws : va_W) (tys : List (ClassId × FieldType)) (sz : Nat) (as' : List Value) : Array Value → State → Prop := va_Pc as' (fun U => U.heap.size = sz ∧ va_P D pm_cl ws U.heap ∧ va_K D pm_cl tys U ∧ va_D (fun _ => True) ws ∧ pm_NW U)
def pm_Qc (b : Nat) (D : va_G) (ws : va_W) (sz : Nat) (r : Option Value) (PH' : pm_H) : Array Value → State → Outcome → State → Prop := fun _ st oc t => (∃ (ws' : va_W) (tys' : List (ClassId × FieldType)) (w : Option Value), oc = .returned w ∧ pm_ovr b ws' r w ∧ va_P D pm_cl ws' t.heap ∧ va_K D pm_cl tys' t ∧ va_D (va_A ws sz) ws' ∧ pm_R b PH' ws' tys' ∧ pm_xt ws ws') ∧ va_F (va_A ws sz) st t
def pm_Met (l : Launch) (X : pm_X) (n j : Nat) : Prop := ∀ (b : Nat) (D : va_G) (ws : va_W) (tys : List (ClassId × FieldType)) (PH : pm_H) (as as' : List Value) (r : Option Value) (PH' : pm_H) (sz : Nat), pm_E X n j 0 (pm_in as (pm_ml j)) [] (0, 0) PH = some (r, PH') → pm_cat as ≤ pm_ml j → pm_sr b ws as as' → pm_R b PH ws tys →
  Met l (pm_y j) (pm_ws j) (pm_rm j) (pm_Pc D ws tys sz as') (pm_Qc b D ws sz r PH') (pm_mc j) (pm_ms j) (va_A ws sz)
def pm_end (j pc : Nat) (r : Option Value) (T : List Value) : Prop := (∃ (v : Int32) (ty : FieldType), r = some (.int v) ∧ T = [.int v] ∧ decode (pm_c j) pc = .ok (.ireturn, 1) ∧ pm_rt j = some ty ∧ narrow ty (.int v) = .int v) ∨ (∃ v : Int64, r = some (.long v) ∧ T = [.long v] ∧ decode (pm_c j) pc = .ok (.lreturn, 1) ∧ pm_rt j = some .long) ∨ (r = none ∧ T = [] ∧ decode (pm_c j) pc = .ok (.return_, 1) ∧ pm_rt j = none)
def pm_Rt (p : Program) (l : Launch) (e : Env) (s : State) (m : MethodId) (args : Array Value) (below : List Frame) (meth : Method) (c : Code) (Q : State → Prop) (j b : Nat) (D : va_G) (A : Nat → Prop) (ws : va_W) (r : Option Value) (PH' : pm_H) : Prop :=
  ∀ (ws' : va_W) (tys' : List (ClassId × FieldType)) (H' : Heap) (locs' : List Loc) (ls' : Array Slot) (T' : List Value) (pc cells slots : Nat), pm_Wd b D A s ws' tys' PH' H' locs' → pm_xt ws ws' → cells ≤ pm_mc j → slots ≤ pm_ms j → pm_end j pc r T' → W p l e (pm_rm j) s m args below meth c H' locs' cells slots Q (F0 m pc ls' T')
def pm_Sim (l : Launch) (X : pm_X) (n : Nat) : Prop := ∀ (p : Program) (e : Env) (s : State) (m : MethodId) (args : Array Value) (below : List Frame) (meth : Method) (c : Code) (Q : State → Prop) (j b : Nat) (D : va_G) (A : Nat → Prop) (pc : Nat) (L : pm_L) (S : List Value) (u : Nat × Nat) (PH : pm_H) (r : Option Value) (PH' : pm_H) (ws : va_W) (tys : List (ClassId × FieldType)) (H : Heap) (locs : List Loc) (ls : Array Slot) (T : List Value),
  pm_Fr p s m args meth c j → pm_XS X j b A s → (∀ q, s.heap.size ≤ q → A q) → pm_E X n j pc L S u PH = some (r, PH') → pm_Wd b D A s ws tys PH H locs → pm_lr b ws ls (pm_ml j) L → pm_sr b ws S T → pm_Rt p l e s m args below meth c Q j b D A ws r PH' → W p l e (pm_rm j) s m args below meth c H locs u.1 u.2 Q (F0 m pc ls T)
theorem pm_Rt.xt {p : Program} {l : Launch} {e : Env} {s : State} {m : MethodId} {args : Array Value} {below : List Frame} {meth : Method} {c : Code} {Q : State → Prop} {j b : Nat} {D : va_G} {A : Nat → Prop} {ws ws2 : va_W} {r : Option Value} {PH' : pm_H} (h : pm_Rt p l e s m args below meth c Q j b D A ws r PH') (hx : pm_xt ws ws2) : pm_Rt p l e s m args below meth c Q j b D A ws2 r PH' :=
  fun ws' tys' H' locs' ls' T' pc cells slots h1 h2 h3 h4 h5 => h ws' tys' H' locs' ls' T' pc cells slots h1 (hx.tr h2) h3 h4 h5
theorem pm_cat_rev (l : List Value) : pm_cat l.reverse = pm_cat l := by
  unfold pm_cat
  rw [List.map_reverse, List.sum_reverse]
/-- a method's contract out of its body's run -/
theorem pm_met_of {l : Launch} {X : pm_X} {n j : Nat} (hsim : pm_Sim l X n) (hj : j ≠ 0) (hpl : plainName (pm_y j).cls = true) : pm_Met l X n j := by
  intro b D ws tys PH as as' r PH' sz hE hcat hsr hR
  refine Met.ofW (cc := pm_c j) (maxL := pm_ml j) (ret := pm_rt j) hpl rfl ?_
  intro p e s m args below meth c s₁ B hml hv
  obtain ⟨rfl, hsz, hP, hK, hD0, hN⟩ := hv
  have hx := B.exec
  have hb := B.bytes
  have hr := B.returns
  have hts := atoms_spec (ws := pm_ws j) B.pre
  have hown : s.vm.findClass (pm_y j).cls = some m.cls := findClass_of_methodNamed B.named
  have hlocks := B.notSynchronized
  have hnm : meth.name = (pm_y j).name := (name_of_methodNamed B.named B.method).1
  subst hsz
  have hD := hD0.self (sz := s.heap.size)
  rw [lg_entry_eq]
  refine hsim p e s m as'.toArray below meth c _ j b D (va_A ws s.heap.size) 0 (pm_in as (pm_ml j)) [] (0, 0) PH r PH' ws tys s.heap [] _ [] ⟨hx, hb, hml, hown, fun w hw => hts w (List.mem_cons_of_mem _ hw), fun q => hnm.trans q, hN⟩ (fun q => absurd q hj) (fun q h => Or.inr h) hE ⟨hK, hP, hD, va_S.rf, hR⟩ (pm_lr.entry hsr hcat) rfl ?_
  intro ws' tys' H' locs' ls' T' pc cells slots hW hxt hc1 hc2 hend
  obtain ⟨hK', hP', hD', hS', hR'⟩ := hW
  refine W.widen hc1 hc2 ?_
  rcases hend with ⟨v, ty, rfl, rfl, hd, hrt, hna⟩ | ⟨v, rfl, rfl, hd, hrt⟩ | ⟨rfl, rfl, hd, hrt⟩
  · exact W.zret hx hb (hr.trans hrt) hna (fun t ht hW => ⟨⟨ws', tys', some (.int v), rfl, ⟨_, rfl, rfl⟩, by rw [ht]; exact hP', va_K.moved hW.alike hK', hD', hR', hxt⟩, hS'.F ht⟩) hS'.2.2 hd hlocks
  · exact W.lret hx hb (hr.trans hrt) (fun t ht hW => ⟨⟨ws', tys', some (.long v), rfl, ⟨_, rfl, rfl⟩, by rw [ht]; exact hP', va_K.moved hW.alike hK', hD', hR', hxt⟩, hS'.F ht⟩) hS'.2.2 hd hlocks
  · exact W.vret hx hb (hr.trans hrt) (fun t ht hW => ⟨⟨ws', tys', none, rfl, rfl, by rw [ht]; exact hP', va_K.moved hW.alike hK', hD', hR', hxt⟩, hS'.F ht⟩) hS'.2.2 hd hlocks
section PMC
variable {p : Program} {l : Launch} {e : Env} {s : State} {m : MethodId} {args : Array Value} {below : List Frame} {meth : Method} {c : Code} {Q : State → Prop} {X : pm_X} {j b pc : Nat} {D : va_G} {A : Nat → Prop} {ws : va_W} {tys : List (ClassId × FieldType)} {PH : pm_H} {H : Heap} {locs : List Loc} {L : pm_L} {S T : List Value} {u : Nat × Nat} {ls : Array Slot}
theorem pm_callX {R : Room} {cells slots mc ms : Nat} {st0 rest : List Value} {free : Addr → Prop} {Qa : State → Outcome → State → Prop} (hr : va_Run p l e R s m args below meth c H locs cells slots mc ms (F0 m pc ls st0) rest Qa free)
    (kk : ∀ (v : Option Value) (st₀ t : State) (L : List Loc), st₀.heap = H → s.vm.Alike t.vm → Qa st₀ (.returned v) t → (∀ q ∈ L, free q.base) → W p l e R s m args below meth c t.heap (locs ++ L) (cells + mc) (slots + ms) Q (F0 m (pc + 3) ls (v.toList ++ rest))) : W p l e R s m args below meth c H locs cells slots Q (F0 m pc ls st0) := by
  intro T hT X
  obtain ⟨v, st₀, t, T', L, h0, X', hL, e1, e2, hq, st⟩ := hr T hT X
  obtain ⟨t2, a1, b1⟩ := kk v st₀ t L h0 (by rw [← e2]; exact X'.warmed.alike) hq hL T' e1 X'
  exact ⟨t2, st t2 a1, b1⟩
/-- behind a call: the world that came back -/
theorem pm_back {v : Option Value} {st₀ t : State} {L0 : List Loc} {r : Option Value} {PH' : pm_H} {a : Array Value} (hA : ∀ q, s.heap.size ≤ q → A q) (hW : pm_Wd b D A s ws tys PH H locs) (h0 : st₀.heap = H) (hvm : s.vm.Alike t.vm) (hq : pm_Qc b D ws H.size r PH' a st₀ (.returned v) t) (hL : ∀ q ∈ L0, va_A ws H.size q.base) :
    ∃ (ws' : va_W) (tys' : List (ClassId × FieldType)), pm_ovr b ws' r v ∧ pm_xt ws ws' ∧ pm_Wd b D A s ws' tys' PH' t.heap (locs ++ L0) := by
  obtain ⟨⟨ws', tys', w, e1, h1, h2, h3, h4, h5, h6⟩, hz, hk⟩ := hq
  cases e1
  obtain ⟨hK, hP, hD, hSS, hR⟩ := hW
  rw [h0] at hz hk
  have hAA : ∀ q, va_A ws H.size q → A q := by
    intro q hq
    rcases hq with ⟨k, e, hk⟩ | hq
    · exact hD.2 k _ hk
    · exact hA q (Nat.le_trans hSS.1 hq)
  refine ⟨ws', tys', h1, h6, va_K.moved hvm.symm h3, h2, h4.weaken (fun k q _ h => hAA q.1 h), ⟨Nat.le_trans hSS.1 hz, fun q q1 q2 => ?_, fun q hq => ?_⟩, h5⟩
  · rw [hk q (Nat.lt_of_lt_of_le q1 hSS.1) (fun z => q2 (hAA q z))]
    exact hSS.2.1 q q1 q2
  · rcases List.mem_append.mp hq with h | h
    · exact hSS.2.2 q h
    · exact hAA _ (hL q h)
theorem pm_blind {sz : Nat} {as' : List Value} : FrameBlind (pm_Pc D ws tys sz as') := fun a U g mk q => by
  obtain ⟨q0, q1, qP, qK, qD, qN⟩ := q
  exact ⟨q0, q1, qP, va_K.moved (u := U) (U := U.calling g mk a) (Vm.Alike.refl U.vm) qK, qD, qN.same rfl⟩
theorem pm_pre {as' : List Value} (hW : pm_Wd b D A s ws tys PH H locs) (hN : pm_NW s) : ∀ U : State, U.heap = H → s.WarmedH U.vm → pm_Pc D ws tys H.size as' as'.toArray U := fun U hU hw => ⟨rfl, by rw [hU], by rw [hU]; exact hW.2.1, va_K.moved hw.alike hW.1, hW.2.2.1.weaken (fun _ _ _ _ => trivial), hN.warm hw⟩
/-- a call -/
theorem pm_call {n j' : Nat} {as S' : List Value} {r : Option Value} {PH' : pm_H} (IH : ∀ k, k ≠ 0 → plainName (pm_y k).cls = true → pm_Met l X n k) (hF : pm_Fr p s m args meth c j) (hA : ∀ q, s.heap.size ≤ q → A q) (hst : pm_step X j pc L S u PH = some (.inr (.inl (j', as, S')))) (hE : pm_E X n j' 0 (pm_in as (pm_ml j')) [] (0, 0) PH = some (r, PH')) (hW : pm_Wd b D A s ws tys PH H locs) (hL : pm_lr b ws ls (pm_ml j) L) (hS : pm_sr b ws S T)
    (kk : ∀ (ws' : va_W) (tys' : List (ClassId × FieldType)) (H' : Heap) (locs' : List Loc) (T' : List Value), pm_Wd b D A s ws' tys' PH' H' locs' → pm_xt ws ws' → pm_sr b ws' (r.toList ++ S') T' → W p l e (pm_rm j) s m args below meth c H' locs' (u.1 + pm_mc j') (u.2 + pm_ms j') Q (F0 m (pc + 3) ls T')) : W p l e (pm_rm j) s m args below meth c H locs u.1 u.2 Q (F0 m pc ls T) := by
  obtain ⟨hx, hb, hml, hown, hts, hnm, hNW⟩ := hF
  have fin : ∀ {T2 : List Value} {free : Addr → Prop} {a : Array Value}, pm_sr b ws S' T2 → free = va_A ws H.size → va_Run p l e (pm_rm j) s m args below meth c H locs u.1 u.2 (pm_mc j') (pm_ms j') (F0 m pc ls T) T2 (pm_Qc b D ws H.size r PH' a) free → W p l e (pm_rm j) s m args below meth c H locs u.1 u.2 Q (F0 m pc ls T) := by
    intro T2 free a h2 hf hr
    subst hf
    refine pm_callX hr (fun v st₀ t L0 h0 hvm hq hL0 => ?_)
    obtain ⟨ws', tys', g1, g2, g3⟩ := pm_back hA hW h0 hvm hq hL0
    exact kk ws' tys' _ _ _ g3 g2 (pm_sr.app (h2.xt g2) g1.sr)
  unfold pm_step at hst
  split at hst
  next ins k hd =>
    cases ins with
    | invokespecial i =>
      unfold pm_ins at hst
      dsimp only at hst
      have hq9 := pm_if hst
      clear hst
      obtain ⟨hn, hst⟩ := hq9
      subst hn
      split at hst
      next =>
        have hq9 := pm_r1_e hst
        clear hst
        obtain ⟨k, S2, rfl, hst⟩ := hq9
        have hq9 := pm_if hst
        clear hst
        obtain ⟨-, hst⟩ := hq9
        cases hst
      next j2 q9 hf =>
        have hq9 := pm_if hst
        clear hst
        obtain ⟨hnp, hst⟩ := hq9
        have hq9 := pm_r1_e hst
        clear hst
        obtain ⟨k, S2, rfl, hst⟩ := hq9
        have hq9 := pm_if hst
        clear hst
        obtain ⟨⟨c1, c2, c3, c4, c5, c6⟩, hst⟩ := hq9
        cases hst
        obtain ⟨_, T2, rfl, ⟨a, rfl, ha⟩, h3⟩ := hS
        have hm := pm_mth_ok hf
        rcases hm with ⟨hk, -⟩ | ⟨hk, -⟩ | ⟨hk, -⟩ | ⟨hk, -⟩ | ⟨-, ⟨m1, m2, m3, m4, m5⟩, hm⟩
        · exact absurd hk (by decide)
        · exact absurd hk (by decide)
        · exact absurd hk (by decide)
        · exact absurd hk (by decide)
        rcases hm with ⟨hk, -⟩ | ⟨hk, -⟩ | ⟨hk, -⟩ | ⟨-, n1, n2, n3, n4⟩
        · exact absurd hk (by decide)
        · exact absurd hk (by decide)
        · exact absurd hk (by decide)
        have hM := IH j' m3 m5 b D ws tys PH [.ref k] [.ref a] r PH' H.size hE (by show 1 + 0 ≤ _; omega) ⟨_, _, rfl, ⟨a, rfl, ha⟩, rfl⟩ hW.2.2.2.2
        have cb := callB_of (R := pm_rm j) (rm := pm_rm j') (own := (pm_y j).cls) (index := i) (pm_np j') hts (pm_goodIn (List.mem_of_getElem? m1)) rfl rfl rfl (hts _ (pm_tb_in (List.mem_of_getElem? m2) rfl)) (hts _ (pm_tb_in (List.mem_of_getElem? n1) rfl)) m4 ⟨c1, c2⟩
        rw [n4] at cb
        exact fin h3 rfl (va_runI (As := []) (rest := T2) ⟨hx, hb, hml, hown, hts⟩ hM ⟨cb, n3, hts _ (pm_tb_in (List.mem_of_getElem? n2) rfl)⟩ ⟨pm_blind, pm_pre hW hNW⟩ rfl hnp.symm hL.1 rfl (lv_room (by rw [h3.cat]; exact c5)) hd ⟨c3, c4⟩)
      next => cases hst
    | invokevirtual i =>
      unfold pm_ins at hst
      dsimp only at hst
      have hq9 := pm_if hst
      clear hst
      obtain ⟨hn, hst⟩ := hq9
      subst hn
      split at hst
      next j2 q9 hf =>
        split at hst
        next k S2 hdr =>
          have hq9 := pm_ob_e hst
          clear hst
          obtain ⟨ci, fs, hg, hst⟩ := hq9
          have hq9 := pm_if hst
          clear hst
          obtain ⟨⟨c0, c1, c2, c3, c4, c5, c6⟩, hst⟩ := hq9
          cases hst
          have hdrop := hS.drop (pm_np j')
          rw [hdr] at hdrop
          obtain ⟨_, T2, hT2, ⟨a, rfl, ha⟩, h3⟩ := hdrop
          have htake := (hS.take (pm_np j')).rev
          have hm := pm_mth_ok hf
          rcases hm with ⟨hk, -⟩ | ⟨hk, -⟩ | ⟨hk, -⟩ | ⟨hk, -⟩ | ⟨-, ⟨m1, m2, m3, m4, m5⟩, hm⟩
          · exact absurd hk (by decide)
          · exact absurd hk (by decide)
          · exact absurd hk (by decide)
          · exact absurd hk (by decide)
          rcases hm with ⟨hk, -⟩ | ⟨hk, -⟩ | ⟨-, n1, n2, n3, n4, n5⟩ | ⟨hk, -⟩
          · exact absurd hk (by decide)
          · exact absurd hk (by decide)
          · obtain ⟨q0, a', e0, hkq, hq, her⟩ := hW.2.2.2.2.at hg
            subst hkq
            obtain ⟨gs, rfl, hgs⟩ := her
            cases ha.at hq
            subst c0
            obtain ⟨ty, hty, hcl, -⟩ := pm_K_ok n4
            have hM := IH j' m3 m5 b D ws tys PH _ (.ref a :: (T.take (pm_np j')).reverse) r PH' H.size hE (by have := pm_cat_rev (S.take (pm_np j')); show 1 + pm_cat _ ≤ _; omega) ⟨_, _, rfl, ⟨a, rfl, ha⟩, htake⟩ hW.2.2.2.2
            have cb := callB_of (R := pm_rm j) (rm := pm_rm j') (own := (pm_y j).cls) (index := i) (pm_np j') hts (pm_goodIn (List.mem_of_getElem? m1)) rfl rfl rfl (hts _ (pm_tb_in (List.mem_of_getElem? m2) rfl)) (hts _ (pm_tb_in (List.mem_of_getElem? n1) rfl)) m4 ⟨c1, c2⟩
            have hrc := va_recv hW.1 hW.2.1 hcl hq
            rw [n5] at hrc
            have hlen : pm_np j' ≤ T.length := by
              have h9 := congrArg List.length hT2
              rw [List.length_drop, List.length_cons] at h9
              omega
            exact fin h3 rfl (va_runV (As := (T.take (pm_np j')).reverse) (rest := T2) (C := (pm_y j').cls) ⟨hx, hb, hml, hown, hts⟩ hM ⟨cb, hts _ (pm_tb_in (List.mem_of_getElem? n2) rfl), hts _ (pm_tb_in (List.mem_of_getElem? n3) rfl)⟩ ⟨pm_blind, hrc, pm_pre hW hNW⟩ rfl (by rw [List.length_reverse, List.length_take]; omega) hL.1 (by rw [List.reverse_reverse, ← hT2]; exact (List.take_append_drop _ _).symm) (lv_room (by rw [h3.cat]; exact c5)) hd ⟨c3, c4⟩)
          · exact absurd hk (by decide)
        next => cases hst
      next => cases hst
    | invokestatic i =>
      unfold pm_ins at hst
      dsimp only at hst
      have hq9 := pm_if hst
      clear hst
      obtain ⟨hn, hst⟩ := hq9
      subst hn
      split at hst
      next =>
        split at hst
        next =>
          have hq9 := pm_ai_e hst
          clear hst
          obtain ⟨ty0, N0, f, hg0, hst⟩ := hq9
          have hq9 := pm_ai_e hst
          clear hst
          obtain ⟨ty, N, g, hg, hst⟩ := hq9
          have hq9 := pm_if hst
          clear hst
          obtain ⟨-, hst⟩ := hq9
          cases hst
        next => cases hst
      next =>
        have hq9 := pm_i2_e hst
        clear hst
        obtain ⟨x, y, S2, rfl, hst⟩ := hq9
        have hq9 := pm_if hst
        clear hst
        obtain ⟨-, hst⟩ := hq9
        cases hst
      next =>
        have hq9 := pm_i2_e hst
        clear hst
        obtain ⟨x, y, S2, rfl, hst⟩ := hq9
        have hq9 := pm_if hst
        clear hst
        obtain ⟨-, hst⟩ := hq9
        cases hst
      next kd j2 q9 _ _ _ hf =>
        have hq9 := pm_if hst
        clear hst
        obtain ⟨⟨ckd, c0, c1, c2, c3, c4, c5, c6⟩, hst⟩ := hq9
        cases hst
        have h3 := hS.drop (pm_np j')
        have htake := (hS.take (pm_np j')).rev
        have hlen : pm_np j' ≤ T.length := by rw [hS.len]; exact c0
        have hm := pm_mth_ok hf
        rcases hm with ⟨hk, -⟩ | ⟨hk, -⟩ | ⟨hk, -⟩ | ⟨hk, -⟩ | ⟨-, ⟨m1, m2, m3, m4, m5⟩, hm⟩
        · omega
        · omega
        · omega
        · omega
        have hM := IH j' m3 m5 b D ws tys PH _ ((T.take (pm_np j')).reverse) r PH' H.size hE (by rw [pm_cat_rev]; exact c6) htake hW.2.2.2.2
        rcases hm with ⟨-, n1, n2⟩ | ⟨-, n1, n2⟩ | ⟨hk, -⟩ | ⟨hk, -⟩
        · have cb := callB_of (R := pm_rm j) (rm := pm_rm j') (own := (pm_y j).cls) (index := i) (pm_np j') hts (pm_goodIn (List.mem_of_getElem? m1)) rfl rfl rfl (hts _ (pm_tb_in (List.mem_of_getElem? m2) rfl)) (hts _ (pm_tb_in (List.mem_of_getElem? n1) rfl)) m4 ⟨c1, c2⟩
          exact fin h3 rfl (va_runS (As := (T.take (pm_np j')).reverse) (rest := T.drop (pm_np j')) ⟨hx, hb, hml, hown, hts⟩ hM ⟨cb, hts _ (pm_tb_in (List.mem_of_getElem? n2) rfl)⟩ ⟨pm_blind, pm_pre hW hNW⟩ rfl (by rw [List.length_reverse, List.length_take]; omega) hL.1 (by rw [List.reverse_reverse]; exact (List.take_append_drop _ _).symm) (lv_room (by rw [h3.cat]; exact c5)) hd ⟨c3, c4⟩)
        · have cb := va_cnB (R := pm_rm j) (rm := pm_rm j') (own := (pm_y j).cls) (index := i) (pm_np j') hts (pm_goodIn (List.mem_of_getElem? m1)) rfl rfl rfl (hNW.1 _ _ _ _ (List.mem_of_getElem? n1)) (hts _ (pm_tb_in (List.mem_of_getElem? m2) rfl)) m4 ⟨c1, c2⟩
          exact fin h3 rfl (va_runSN (As := (T.take (pm_np j')).reverse) (rest := T.drop (pm_np j')) ⟨hx, hb, hml, hown, hts⟩ hM ⟨cb, hts _ (pm_tb_in (List.mem_of_getElem? n2) rfl), trivial⟩ ⟨pm_blind, pm_pre hW hNW⟩ rfl (by rw [List.length_reverse, List.length_take]; omega) hL.1 (by rw [List.reverse_reverse]; exact (List.take_append_drop _ _).symm) (lv_room (by rw [h3.cat]; exact c5)) hd ⟨c3, c4⟩)
        · omega
        · omega
      next => cases hst
    | _ => exact (pm_nocall (by simp [pm_kd]) hst).elim
  next => cases hst
/-- an end -/
theorem pm_fin {r : Option Value} (hF : pm_Fr p s m args meth c j) (hst : pm_step X j pc L S u PH = some (.inr (.inr r))) (hS : pm_sr b ws S T) (hW : pm_Wd b D A s ws tys PH H locs) (hret : pm_Rt p l e s m args below meth c Q j b D A ws r PH) : W p l e (pm_rm j) s m args below meth c H locs u.1 u.2 Q (F0 m pc ls T) := by
  unfold pm_step at hst
  split at hst
  next ins k hd =>
    cases ins with
    | ireturn =>
      unfold pm_ins at hst
      dsimp only at hst
      have hq9 := pm_if hst
      clear hst
      obtain ⟨⟨hn, c1, c2⟩, hst⟩ := hq9
      subst hn
      split at hst
      next v =>
        have hq9 := pm_if hst
        clear hst
        obtain ⟨hrt, hst⟩ := hq9
        cases hst
        obtain ⟨_, _, rfl, h1, h2⟩ := hS
        cases h1
        cases h2
        rcases hrt with hrt | ⟨hrt, hv⟩
        · exact hret _ _ _ _ _ _ _ _ _ hW (pm_xt.rf _) c1 c2 (Or.inl ⟨v, .int, rfl, rfl, hd, hrt, rfl⟩)
        · exact hret _ _ _ _ _ _ _ _ _ hW (pm_xt.rf _) c1 c2 (Or.inl ⟨v, .boolean, rfl, rfl, hd, hrt, by rcases hv with rfl | rfl <;> decide⟩)
      next => cases hst
    | lreturn =>
      unfold pm_ins at hst
      dsimp only at hst
      have hq9 := pm_if hst
      clear hst
      obtain ⟨⟨hn, c1, c2⟩, hst⟩ := hq9
      subst hn
      split at hst
      next v =>
        have hq9 := pm_if hst
        clear hst
        obtain ⟨hrt, hst⟩ := hq9
        cases hst
        obtain ⟨_, _, rfl, h1, h2⟩ := hS
        cases h1
        cases h2
        exact hret _ _ _ _ _ _ _ _ _ hW (pm_xt.rf _) c1 c2 (Or.inr (Or.inl ⟨v, rfl, rfl, hd, hrt⟩))
      next => cases hst
    | return_ =>
      unfold pm_ins at hst
      dsimp only at hst
      have hq9 := pm_if hst
      clear hst
      obtain ⟨⟨hn, c1, c2⟩, hst⟩ := hq9
      subst hn
      split at hst
      next =>
        have hq9 := pm_if hst
        clear hst
        obtain ⟨hrt, hst⟩ := hq9
        cases hst
        cases hS
        exact hret _ _ _ _ _ _ _ _ _ hW (pm_xt.rf _) c1 c2 (Or.inr (Or.inr ⟨rfl, rfl, hd, hrt⟩))
      next => cases hst
    | _ => exact (pm_noend (by simp [pm_kd]) hst).elim
  next => cases hst
end PMC
theorem pm_sim (l : Launch) (X : pm_X) : ∀ n, pm_Sim l X n := by
  intro n
  induction n with
  | zero =>
    intro p e s m args below meth c Q j b D A pc L S u PH r PH' ws tys H locs ls T hF hXS hA hE
    cases hE
  | succ n ih =>
    intro p e s m args below meth c Q j b D A pc L S u PH r PH' ws tys H locs ls T hF hXS hA hE hW hL hS hret
    unfold pm_E at hE
    split at hE
    next => cases hE
    next pc' L' S' u' H' hst =>
      exact pm_next hF hXS hA hst hW hL hS (fun ws' tys' H2 locs' ls' T' g1 g2 g3 g4 => ih p e s m args below meth c Q j b D A pc' L' S' u' H' r PH' ws' tys' H2 locs' ls' T' hF hXS hA hE g1 g3 g4 (hret.xt g2))
    next j' as S' hst =>
      split at hE
      next => cases hE
      next v H1 hE1 =>
        exact pm_call (fun k hk hpl => pm_met_of ih hk hpl) hF hA hst hE1 hW hL hS (fun ws' tys' H2 locs' T' g1 g2 g3 => ih p e s m args below meth c Q j b D A (pc + 3) L _ (u.1 + pm_mc j', u.2 + pm_ms j') H1 r PH' ws' tys' H2 locs' ls T' hF hXS hA hE g1 (hL.xt g2) g3 (hret.xt g2))
    next v hst =>
      cases hE
      exact pm_fin hF hst hS hW hret
