def R_law : String := "OtherwiseBookLaw"
def lw_P (b : Addr) (xs : List Int32) (args : Array Value) (s : State) : Prop := args = #[.ref b] ∧ s.IntsAt b xs ∧ xs.length ≤ 3584 ∧ (Jvm.Cond.and given_1 narrow_1).before args s = true
def lw_Q (_ : Array Value) (s : State) (o : Outcome) (t : State) : Prop := o = .returned (some (.int 1)) ∧ Framed s o t [] 600000 7302249
def lw_Z (below : List Frame) (a : Array Value) (s : State) : State → Prop := fun t => ∃ o, t.status = .running ∧ Ended t below o ∧ lw_Q a s o t
/-- the law's own end, with 1 on the stack, nothing written that was there before, its room as the claim has it -/
theorem lw_ret {p : Program} {l : Launch} {e : Env} {s : State} {m : MethodId} {below : List Frame} {meth : Method} {c : Code} {b : Nat} (hx : p.tables.exec = Jvm.exec) (hb : c.code = code) (hr : meth.sig.returnType = ret) (hlocks : meth.locks = false) {pc : Nat} {H : Heap} {ls : Array Slot} (hdg : decode code pc = .ok (.ireturn, 1)) : W p l e room_1 s m #[Value.ref b] below meth c H [] 600000 7302249 (lw_Z below #[Value.ref b] s) (F0 m pc ls [.int 1]) := by
  intro T hT X
  obtain ⟨fs, hret, hrun, hended, hW, hframe⟩ := X.leave (v := some (.int 1)) (hlocks := hlocks) (fun h => by rw [hr] at h; cases h)
  have hmeth' : T.vm.method? m = some meth := X.method'
  refine ⟨T.setFrames fs, ?_, .returned (some (.int 1)), hrun, hended, rfl, ⟨_, rfl⟩, hW, hframe⟩
  jvm_step X.here [X.here.top, hx, hb, hdg, hmeth', hr, ret, narrow_b1]
  (try refine ⟨rfl, ?_⟩); (try refine ⟨rfl, ?_⟩)
  first | (intro acts; rw [hret _ acts rfl rfl rfl]) | rw [hret _ _ rfl rfl rfl]
  exact Steps.refl _
/-- what holds at the law's entry: the machine, the code, the tables' words (any of lw_tbl by 'hts w (by decide +kernel)'), the script of L ints xs at the cell b, what the Statement gives of the start (any of its parts by flat_of_before) -/
def lw_At (p : Program) (s : State) (m : MethodId) (meth : Method) (c : Code) (b L : Nat) (xs : Nat → Int32) : Prop :=
  p.tables.exec = Jvm.exec ∧ c.code = code ∧ meth.sig.returnType = ret ∧ c.maxLocals = 4 ∧ s.vm.findClass R_law = some m.cls ∧ (∀ w ∈ lw_tbl, w.before #[Value.ref b] s = true) ∧ va_X b L xs s s.heap ∧ b < s.heap.size ∧ meth.locks = false ∧ (Jvm.Cond.and given_1 narrow_1).before #[Value.ref b] s = true
/-- what is left to show, of the pure machine alone -/
def pm_H0 : pm_H := (0, fun _ => .inr (0, []))
def pm_Goal : Prop := ∀ X : pm_X, X.1 ≤ 3584 → ∃ (n : Nat) (H' : pm_H), pm_E X n 0 0 (pm_in [.ref 0] (pm_ml 0)) [] (0, 0) pm_H0 = some (some (.int 1), H')
theorem pm_whole_start (hg : pm_Goal) {p : Program} {e : Env} {s : State} {m : MethodId} {below : List Frame} {meth : Method} {c : Code} (l : Launch) {b L : Nat} {xs : Nat → Int32} (hL : L ≤ 3584) (C0 : lw_At p s m meth c b L xs) : W p l e room_1 s m #[Value.ref b] below meth c s.heap [] 0 0 (lw_Z below #[Value.ref b] s) (entryFrame m ([Value.ref b] : List Value).toArray 4) := by
  obtain ⟨hx, hb, hr, hml, hown, hts, hX, hbl, hlocks, hgv⟩ := id C0
  obtain ⟨n, H', hE⟩ := hg (L, xs) hL
  have hex : ∀ k : Nat, ∃ (cC : ClassId) (iS : Nat → Nat), ∀ q : vw_C, pm_cl[k]? = some q → u_Kn s q.1 q.2.1 q.2.2 cC iS := by
    intro k
    rcases Nat.lt_or_ge k 12 with h | h
    · obtain ⟨ty, -, hcl, -, -, huw⟩ := pm_K_ok h
      obtain ⟨cC, iS, hk⟩ := u_known (C := (pm_K k).1) (T := (pm_K k).2.1) (N := (pm_K k).2.2) hts huw (hts _ (pm_in_ok h).1)
      exact ⟨cC, iS, fun q hq => by cases hcl.symm.trans hq; exact hk⟩
    · exact ⟨0, fun _ => 0, fun q hq => by rw [List.getElem?_eq_none (by simpa [pm_cl] using h)] at hq; cases hq⟩
  have hK : va_K (fun k => Classical.choose (hex k), fun k => Classical.choose (Classical.choose_spec (hex k))) pm_cl [] s := ⟨fun k q hq => Classical.choose_spec (Classical.choose_spec (hex k)) q hq, fun k q h => by simp at h⟩
  have hNW : pm_NW s := ⟨fun o i y h hm => va_Nw.of rfl (hts _ hm), fun C hm => va_AO.of (hts _ hm)⟩
  rw [lg_entry_eq]
  refine pm_sim l (L, xs) n p e s m #[Value.ref b] below meth c (lw_Z below #[Value.ref b] s) 0 b _ (fun q => s.heap.size ≤ q) 0 (pm_in [.ref 0] (pm_ml 0)) [] (0, 0) pm_H0 (some (.int 1)) H' [] [] s.heap [] _ [] ⟨hx, hb, hml, hown, fun w hw => hts w (List.mem_filter.mp hw).1, fun q => absurd q (by decide), hNW⟩ (fun _ => ⟨hX, hbl, Nat.not_le.mpr hbl⟩) (fun _ h => h) hE ⟨hK, fun k q h => by simp at h, ⟨fun i j p q h => by simp at h, fun k q h => by simp at h⟩, va_S.rf, rfl, fun k hk => absurd hk (Nat.not_lt_zero k)⟩ (pm_lr.entry (S := [.ref 0]) (T := [.ref b]) ⟨_, _, rfl, ⟨b, rfl, Or.inl ⟨rfl, rfl⟩⟩, rfl⟩ (by decide)) rfl ?_
  intro ws' tys' H1 locs' ls' T' pc cells slots hW hxt hc1 hc2 hend
  rcases hend with ⟨v, ty, h1, rfl, hd, -, -⟩ | ⟨v, h1, -⟩ | ⟨h1, -⟩
  · cases h1
    refine va_forget (fun q hq => hW.2.2.2.1.2.2 q hq) ?_
    refine W.widen (k := 600000) (n := 7302249) hc1 hc2 ?_
    exact lw_ret hx hb hr hlocks hd
  · cases h1
  · cases h1
