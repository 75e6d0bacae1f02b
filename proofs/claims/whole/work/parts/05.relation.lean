/-! the pure machine's values and cells beside the real ones: ref 0 is the script's address b, ref k + 1 the address of the world's place k -/
def pm_ar (b : Nat) (ws : va_W) (k a : Nat) : Prop := (k = 0 ∧ a = b) ∨ ∃ (i : Nat) (e : va_E), k = i + 1 ∧ ws[i]? = some (a, e)
def pm_vr (b : Nat) (ws : va_W) (v w : Value) : Prop := match v with
  | .ref k => ∃ a, w = .ref a ∧ pm_ar b ws k a
  | v => w = v
def pm_or (b : Nat) (ws : va_W) (x y : Option Nat) : Prop := match x with
  | none => y = none
  | some k => ∃ a, y = some a ∧ pm_ar b ws k a
def pm_sr (b : Nat) (ws : va_W) : List Value → List Value → Prop
  | [], T => T = []
  | v :: S, T => ∃ w T', T = w :: T' ∧ pm_vr b ws v w ∧ pm_sr b ws S T'
def pm_er (b : Nat) (ws : va_W) (tys : List (ClassId × FieldType)) (c : pm_C) (e : va_E) : Prop := match c with
  | .inl (ty, n, .inl f) => ∃ (cA : ClassId) (t0 : Nat), e = .inl (cA, n, .inl f) ∧ tys[t0]? = some (cA, ty)
  | .inl (ty, n, .inr f) => ∃ (cA : ClassId) (t0 : Nat) (g : Nat → Option Nat), e = .inl (cA, n, .inr (.inr (.inr (.inr g)))) ∧ tys[t0]? = some (cA, ty) ∧ ∀ i, pm_or b ws (f i) (g i)
  | .inr (ci, fs) => ∃ gs, e = .inr (ci, gs) ∧ pm_sr b ws fs gs
def pm_R (b : Nat) (H : pm_H) (ws : va_W) (tys : List (ClassId × FieldType)) : Prop := ws.length = H.1 ∧ ∀ k : Nat, k < H.1 → ∃ (a : Nat) (e : va_E), ws[k]? = some (a, e) ∧ pm_er b ws tys (H.2 (k + 1)) e
def pm_xt (ws ws' : va_W) : Prop := ∀ (k a : Nat) (e : va_E), ws[k]? = some (a, e) → ∃ e' : va_E, ws'[k]? = some (a, e')
def pm_lr (b : Nat) (ws : va_W) (ls : Array Slot) (nL : Nat) (L : pm_L) : Prop := ls.size = nL ∧ lv_wf ls ∧ ∀ (i : Nat) (v : Value), pm_ld L i = some v → ∃ w : Value, ls[i]? = some (.val w) ∧ pm_vr b ws v w
theorem pm_xt.rf (ws : va_W) : pm_xt ws ws := fun _ _ e h => ⟨e, h⟩
theorem pm_xt.tr {w1 w2 w3 : va_W} (h : pm_xt w1 w2) (h2 : pm_xt w2 w3) : pm_xt w1 w3 := fun k a e hk => by
  obtain ⟨e', h'⟩ := h k a e hk
  exact h2 k a e' h'
theorem pm_xt.set {ws : va_W} {q0 a : Nat} {e e' : va_E} (h : ws[q0]? = some (a, e)) : pm_xt ws (ws.set q0 (a, e')) := by
  intro k x y hk
  by_cases hq : k = q0
  · subst hq
    cases h.symm.trans hk
    exact ⟨e', List.getElem?_set_self (List.getElem?_eq_some_iff.mp h).1⟩
  · exact ⟨y, by rw [List.getElem?_set_ne (Ne.symm hq)]; exact hk⟩
theorem pm_xt.app (ws w2 : va_W) : pm_xt ws (ws ++ w2) := by
  intro k x y hk
  exact ⟨y, by rw [List.getElem?_append_left (List.getElem?_eq_some_iff.mp hk).1]; exact hk⟩
theorem pm_ar.xt {b k a : Nat} {ws ws' : va_W} (h : pm_ar b ws k a) (hx : pm_xt ws ws') : pm_ar b ws' k a := by
  rcases h with h | ⟨i, e, h1, h2⟩
  · exact Or.inl h
  · obtain ⟨e', h3⟩ := hx i a e h2
    exact Or.inr ⟨i, e', h1, h3⟩
theorem pm_vr.xt {b : Nat} {v w : Value} {ws ws' : va_W} (h : pm_vr b ws v w) (hx : pm_xt ws ws') : pm_vr b ws' v w := by
  cases v with
  | ref k => obtain ⟨a, h1, h2⟩ := h; exact ⟨a, h1, h2.xt hx⟩
  | _ => exact h
theorem pm_or.xt {b : Nat} {v w : Option Nat} {ws ws' : va_W} (h : pm_or b ws v w) (hx : pm_xt ws ws') : pm_or b ws' v w := by
  cases v with
  | some k => obtain ⟨a, h1, h2⟩ := h; exact ⟨a, h1, h2.xt hx⟩
  | none => exact h
theorem pm_sr.xt {b : Nat} {ws ws' : va_W} (hx : pm_xt ws ws') : ∀ {S T : List Value}, pm_sr b ws S T → pm_sr b ws' S T
  | [], T, h => h
  | v :: S, T, h => by
    obtain ⟨w, T', h1, h2, h3⟩ := h
    exact ⟨w, T', h1, h2.xt hx, pm_sr.xt hx h3⟩
theorem pm_er.xt {b : Nat} {ws ws' : va_W} {tys t2 : List (ClassId × FieldType)} {c : pm_C} {e : va_E} (h : pm_er b ws tys c e) (hx : pm_xt ws ws') : pm_er b ws' (tys ++ t2) c e := by
  have at' : ∀ {t0 : Nat} {q : ClassId × FieldType}, tys[t0]? = some q → (tys ++ t2)[t0]? = some q := fun hk => by rw [List.getElem?_append_left (List.getElem?_eq_some_iff.mp hk).1]; exact hk
  match c, h with
  | .inl (ty, n, .inl f), h => obtain ⟨cA, t0, h1, h2⟩ := h; exact ⟨cA, t0, h1, at' h2⟩
  | .inl (ty, n, .inr f), h => obtain ⟨cA, t0, g, h1, h2, h3⟩ := h; exact ⟨cA, t0, g, h1, at' h2, fun i => (h3 i).xt hx⟩
  | .inr (ci, fs), h => obtain ⟨gs, h1, h2⟩ := h; exact ⟨gs, h1, h2.xt hx⟩
theorem pm_er.xt0 {b : Nat} {ws ws' : va_W} {tys : List (ClassId × FieldType)} {c : pm_C} {e : va_E} (h : pm_er b ws tys c e) (hx : pm_xt ws ws') : pm_er b ws' tys c e := by
  have := h.xt (t2 := []) hx
  rwa [List.append_nil] at this
theorem pm_lr.xt {b nL : Nat} {ws ws' : va_W} {ls : Array Slot} {L : pm_L} (h : pm_lr b ws ls nL L) (hx : pm_xt ws ws') : pm_lr b ws' ls nL L := ⟨h.1, h.2.1, fun i v hv => by
  obtain ⟨w, h1, h2⟩ := h.2.2 i v hv
  exact ⟨w, h1, h2.xt hx⟩⟩
/-- a cell of the pure heap and its place in the world -/
theorem pm_R.at {b k : Nat} {H : pm_H} {ws : va_W} {tys : List (ClassId × FieldType)} {c : pm_C} (h : pm_R b H ws tys) (hk : pm_get H k = some c) : ∃ (q a : Nat) (e : va_E), k = q + 1 ∧ ws[q]? = some (a, e) ∧ pm_er b ws tys c e := by
  unfold pm_get at hk
  split at hk
  next hc =>
    cases hk
    obtain ⟨q, rfl⟩ : ∃ q, k = q + 1 := ⟨k - 1, by omega⟩
    obtain ⟨a, e, h1, h2⟩ := h.2 q (by omega)
    exact ⟨q, a, e, rfl, h1, h2⟩
  next => cases hk
theorem pm_ar.at {b q a a' : Nat} {ws : va_W} {e : va_E} (h : pm_ar b ws (q + 1) a) (hq : ws[q]? = some (a', e)) : a = a' := by
  rcases h with h | ⟨i, e', h1, h2⟩
  · omega
  · have : i = q := by omega
    subst this
    cases hq.symm.trans h2
    rfl
theorem pm_R.set {b q a : Nat} {H : pm_H} {ws : va_W} {tys : List (ClassId × FieldType)} {c : pm_C} {e e' : va_E} (h : pm_R b H ws tys) (hq : ws[q]? = some (a, e)) (he : pm_er b ws tys c e') : pm_R b (pm_set H (q + 1) c) (ws.set q (a, e')) tys := by
  have hx : pm_xt ws (ws.set q (a, e')) := pm_xt.set hq
  refine ⟨by rw [List.length_set]; exact h.1, fun k hk => ?_⟩
  by_cases hkq : k = q
  · subst hkq
    exact ⟨a, e', List.getElem?_set_self (List.getElem?_eq_some_iff.mp hq).1, by simpa [pm_set] using he.xt0 hx⟩
  · obtain ⟨a2, e2, h1, h2⟩ := h.2 k hk
    refine ⟨a2, e2, by rw [List.getElem?_set_ne (Ne.symm hkq)]; exact h1, ?_⟩
    have : (pm_set H (q + 1) c).2 (k + 1) = H.2 (k + 1) := by simp [pm_set, hkq]
    rw [this]
    exact h2.xt0 hx
theorem pm_R.new {b a : Nat} {H : pm_H} {ws : va_W} {tys t2 : List (ClassId × FieldType)} {c : pm_C} {e : va_E} (h : pm_R b H ws tys) (he : pm_er b (ws ++ [(a, e)]) (tys ++ t2) c e) : pm_R b (pm_new H c) (ws ++ [(a, e)]) (tys ++ t2) := by
  have hx : pm_xt ws (ws ++ [(a, e)]) := pm_xt.app _ _
  refine ⟨by rw [List.length_append, h.1]; rfl, fun k hk => ?_⟩
  have hk' : k < H.1 + 1 := hk
  by_cases hkq : k = H.1
  · subst hkq
    refine ⟨a, e, by rw [List.getElem?_append_right (by rw [h.1]; exact Nat.le_refl _), h.1, Nat.sub_self]; rfl, ?_⟩
    have : (pm_new H c).2 (H.1 + 1) = c := by simp [pm_new]
    rw [this]
    exact he
  · obtain ⟨a2, e2, h1, h2⟩ := h.2 k (by omega)
    refine ⟨a2, e2, by rw [List.getElem?_append_left (List.getElem?_eq_some_iff.mp h1).1]; exact h1, ?_⟩
    have : (pm_new H c).2 (k + 1) = H.2 (k + 1) := by simp [pm_new, hkq]
    rw [this]
    exact h2.xt hx
theorem pm_R.newAr {b a : Nat} {H : pm_H} {ws : va_W} {tys : List (ClassId × FieldType)} {e : va_E} (h : pm_R b H ws tys) : pm_ar b (ws ++ [(a, e)]) (H.1 + 1) a := Or.inr ⟨H.1, e, rfl, by rw [List.getElem?_append_right (by rw [h.1]; exact Nat.le_refl _), h.1, Nat.sub_self]; rfl⟩
/-! lists of values -/
theorem pm_sr.len {b : Nat} {ws : va_W} : ∀ {S T : List Value}, pm_sr b ws S T → T.length = S.length
  | [], T, h => by cases h; rfl
  | v :: S, T, h => by
    obtain ⟨w, T', rfl, -, h3⟩ := h
    simp [pm_sr.len h3]
theorem pm_vr.cat {b : Nat} {ws : va_W} {v w : Value} (h : pm_vr b ws v w) : w.category = v.category := by
  cases v with
  | ref k => obtain ⟨a, rfl, -⟩ := h; rfl
  | _ => cases h; rfl
theorem pm_sr.cat {b : Nat} {ws : va_W} : ∀ {S T : List Value}, pm_sr b ws S T → (T.map fun v => v.category).sum = pm_cat S
  | [], T, h => by cases h; rfl
  | v :: S, T, h => by
    obtain ⟨w, T', rfl, h2, h3⟩ := h
    have := pm_sr.cat h3
    simp only [pm_cat, List.map_cons, List.sum_cons] at this ⊢
    rw [this, h2.cat]
theorem pm_sr.get {b : Nat} {ws : va_W} {v : Value} : ∀ {S T : List Value}, pm_sr b ws S T → ∀ {i : Nat}, S[i]? = some v → ∃ w, T[i]? = some w ∧ pm_vr b ws v w
  | [], T, _, i, hi => by simp at hi
  | x :: S, T, h, i, hi => by
    obtain ⟨w, T', rfl, h2, h3⟩ := h
    cases i with
    | zero => simp at hi; subst hi; exact ⟨w, rfl, h2⟩
    | succ i => simpa using pm_sr.get h3 (i := i) (by simpa using hi)
theorem pm_sr.set {b : Nat} {ws : va_W} {v w : Value} (hv : pm_vr b ws v w) : ∀ {S T : List Value} (i : Nat), pm_sr b ws S T → pm_sr b ws (S.set i v) (T.set i w)
  | [], T, i, h => by cases h; exact rfl
  | x :: S, T, i, h => by
    obtain ⟨y, T', rfl, h2, h3⟩ := h
    cases i with
    | zero => exact ⟨w, T', rfl, hv, h3⟩
    | succ i => exact ⟨y, T'.set i w, rfl, h2, pm_sr.set hv i h3⟩
theorem pm_sr.app {b : Nat} {ws : va_W} {S2 T2 : List Value} (h2 : pm_sr b ws S2 T2) : ∀ {S T : List Value}, pm_sr b ws S T → pm_sr b ws (S ++ S2) (T ++ T2)
  | [], T, h => by cases h; exact h2
  | x :: S, T, h => by
    obtain ⟨y, T', rfl, h3, h4⟩ := h
    exact ⟨y, T' ++ T2, rfl, h3, pm_sr.app h2 h4⟩
theorem pm_sr.rev {b : Nat} {ws : va_W} : ∀ {S T : List Value}, pm_sr b ws S T → pm_sr b ws S.reverse T.reverse
  | [], T, h => by cases h; exact rfl
  | x :: S, T, h => by
    obtain ⟨y, T', rfl, h3, h4⟩ := h
    rw [List.reverse_cons, List.reverse_cons]
    exact (show pm_sr b ws [x] [y] from ⟨y, [], rfl, h3, rfl⟩).app (pm_sr.rev h4)
theorem pm_sr.take {b : Nat} {ws : va_W} : ∀ {S T : List Value} (n : Nat), pm_sr b ws S T → pm_sr b ws (S.take n) (T.take n)
  | [], T, n, h => by cases h; simp [pm_sr]
  | x :: S, T, n, h => by
    obtain ⟨y, T', rfl, h3, h4⟩ := h
    cases n with
    | zero => exact rfl
    | succ n => exact ⟨y, T'.take n, rfl, h3, pm_sr.take n h4⟩
theorem pm_sr.drop {b : Nat} {ws : va_W} : ∀ {S T : List Value} (n : Nat), pm_sr b ws S T → pm_sr b ws (S.drop n) (T.drop n)
  | [], T, n, h => by cases h; simp [pm_sr]
  | x :: S, T, n, h => by
    obtain ⟨y, T', rfl, h3, h4⟩ := h
    cases n with
    | zero => exact ⟨y, T', rfl, h3, h4⟩
    | succ n => exact pm_sr.drop n h4
/-! the locals -/
def pm_ls (ls : Array Slot) (L : pm_L) : List (Nat × Value) := (List.range L.length).filterMap fun i => match pm_ld L i, ls[i]? with
  | some _, some (.val w) => some (i, w)
  | _, _ => none
theorem pm_lr.has {b nL : Nat} {ws : va_W} {ls : Array Slot} {L : pm_L} (h : pm_lr b ws ls nL L) : lv_has ls nL (pm_ls ls L) := by
  refine ⟨h.1, h.2.1, fun q hq => ?_⟩
  obtain ⟨i, -, hi⟩ := List.mem_filterMap.mp hq
  split at hi
  next v w h1 h2 => cases hi; exact h2
  next => cases hi
theorem pm_ld_lt {L : pm_L} {i : Nat} {v : Value} (h : pm_ld L i = some v) : i < L.length := by
  unfold pm_ld at h
  split at h
  next w hw => exact (List.getElem?_eq_some_iff.mp hw).1
  next => cases h
theorem pm_lr.mem {b nL i : Nat} {ws : va_W} {ls : Array Slot} {L : pm_L} {v : Value} (h : pm_lr b ws ls nL L) (hv : pm_ld L i = some v) : ∃ w, (i, w) ∈ pm_ls ls L ∧ pm_vr b ws v w := by
  obtain ⟨w, h1, h2⟩ := h.2.2 i v hv
  refine ⟨w, List.mem_filterMap.mpr ⟨i, List.mem_range.mpr (pm_ld_lt hv), ?_⟩, h2⟩
  simp [hv, h1]
theorem pm_ld_set {L : pm_L} {i j : Nat} {x : Option Value} {v : Value} (h : pm_ld (L.set i x) j = some v) : (j = i ∧ x = some v) ∨ (j ≠ i ∧ pm_ld L j = some v) := by
  unfold pm_ld at h ⊢
  by_cases hj : j = i
  · subst hj
    left
    refine ⟨rfl, ?_⟩
    by_cases hl : j < L.length
    · rw [List.getElem?_set_self hl] at h
      cases x with
      | none => cases h
      | some w => exact h
    · rw [List.getElem?_eq_none (by rw [List.length_set]; omega)] at h
      cases h
  · right
    rw [List.getElem?_set_ne (fun e => hj e.symm)] at h
    exact ⟨hj, h⟩
theorem pm_ld_ct {L : pm_L} {i j : Nat} {v : Value} (h : pm_ld (pm_ct L i) j = some v) : pm_ld L j = some v ∧ ¬ (j + 1 = i ∧ v.category = 2) := by
  cases i with
  | zero => exact ⟨h, fun q => by omega⟩
  | succ i =>
    simp only [pm_ct] at h
    split at h
    next w hw =>
      split at h
      next hc =>
        rcases pm_ld_set h with ⟨-, q⟩ | ⟨q, q2⟩
        · cases q
        · exact ⟨q2, fun z => q (by omega)⟩
      next hc =>
        refine ⟨h, fun z => hc ?_⟩
        have e1 : j = i := by omega
        subst e1
        have e2 : pm_ld L j = some w := by simp [pm_ld, hw]
        cases e2.symm.trans h
        exact z.2
    next hn =>
      refine ⟨h, fun z => ?_⟩
      have e1 : j = i := by omega
      subst e1
      unfold pm_ld at h
      split at h
      next w hw => exact hn w hw
      next => cases h
theorem pm_lr.st1 {b nL i : Nat} {ws : va_W} {ls ls' : Array Slot} {L : pm_L} {v w : Value} (h : pm_lr b ws ls nL L) (hv : pm_vr b ws v w) (hc : v.category = 1)
    (h' : lv_has ls' nL ((i, w) :: (pm_ls ls L).filter (fun q => !(q.1 == i) && !(q.1 + 1 == i && q.2.category == 2)))) : pm_lr b ws ls' nL (pm_st L i v) := by
  refine ⟨h'.1, h'.2.1, fun j x hx => ?_⟩
  have hc2 : ¬ v.category = 2 := by omega
  simp only [pm_st, hc2, if_false] at hx
  rcases pm_ld_set hx with ⟨rfl, q⟩ | ⟨q, q2⟩
  · cases q
    exact ⟨w, h'.2.2 (j, w) List.mem_cons_self, hv⟩
  · obtain ⟨q3, q4⟩ := pm_ld_ct q2
    obtain ⟨y, hy, hy2⟩ := h.mem q3
    refine ⟨y, h'.2.2 (j, y) (List.mem_cons_of_mem _ (List.mem_filter.mpr ⟨hy, ?_⟩)), hy2⟩
    have := hy2.cat
    simp only [Bool.and_eq_true, Bool.not_eq_true', beq_eq_false_iff_ne, ne_eq, Bool.and_eq_false_iff]
    refine ⟨q, ?_⟩
    by_cases z : j + 1 = i
    · right; intro z2; exact q4 ⟨z, by rw [← this]; exact z2⟩
    · left; exact z
theorem pm_lr.st2 {b nL i : Nat} {ws : va_W} {ls ls' : Array Slot} {L : pm_L} {v w : Value} (h : pm_lr b ws ls nL L) (hv : pm_vr b ws v w) (hc : v.category = 2)
    (h' : lv_has ls' nL ((i, w) :: (pm_ls ls L).filter (fun q => !(q.1 == i) && (!(q.1 == i + 1) && !(q.1 + 1 == i && q.2.category == 2))))) : pm_lr b ws ls' nL (pm_st L i v) := by
  refine ⟨h'.1, h'.2.1, fun j x hx => ?_⟩
  simp only [pm_st, hc, if_true] at hx
  rcases pm_ld_set hx with ⟨-, q⟩ | ⟨q0, hx⟩
  · cases q
  rcases pm_ld_set hx with ⟨rfl, q⟩ | ⟨q, q2⟩
  · cases q
    exact ⟨w, h'.2.2 (j, w) List.mem_cons_self, hv⟩
  · obtain ⟨q3, q4⟩ := pm_ld_ct q2
    obtain ⟨y, hy, hy2⟩ := h.mem q3
    refine ⟨y, h'.2.2 (j, y) (List.mem_cons_of_mem _ (List.mem_filter.mpr ⟨hy, ?_⟩)), hy2⟩
    have := hy2.cat
    simp only [Bool.and_eq_true, Bool.not_eq_true', beq_eq_false_iff_ne, ne_eq, Bool.and_eq_false_iff]
    refine ⟨q, q0, ?_⟩
    by_cases z : j + 1 = i
    · right; intro z2; exact q4 ⟨z, by rw [← this]; exact z2⟩
    · left; exact z
/-- the locals at a method's entry -/
theorem pm_sl_args {b : Nat} {ws : va_W} : ∀ {S T : List Value} (n i : Nat), pm_sr b ws S T → ∀ j v, pm_ld (pm_sl S ++ List.replicate n none) j = some v → ∃ w, (i + j, w) ∈ lv_args i T ∧ pm_vr b ws v w
  | [], T, n, i, h => by
    intro j v hj
    exfalso
    unfold pm_ld at hj
    simp only [pm_sl, List.flatMap_nil, List.nil_append] at hj
    split at hj
    next w hw => have := List.eq_of_mem_replicate (List.mem_of_getElem? hw); cases this
    next => cases hj
  | x :: S, T, n, i, h => by
    obtain ⟨y, T', rfl, h3, h4⟩ := h
    intro j v hj
    by_cases hc : x.category = 2
    · have e : pm_sl (x :: S) ++ List.replicate n none = some x :: none :: (pm_sl S ++ List.replicate n none) := by simp [pm_sl, hc]
      rw [e] at hj
      have hy : y.category = 2 := h3.cat.trans hc
      match j, hj with
      | 0, hj => simp [pm_ld] at hj; subst hj; exact ⟨y, by simp [lv_args], h3⟩
      | 1, hj => simp [pm_ld] at hj
      | j + 2, hj =>
        obtain ⟨w, q1, q2⟩ := pm_sl_args n (i + 2) h4 j v (by simpa [pm_ld] using hj)
        exact ⟨w, by simp only [lv_args, hy, if_true]; exact List.mem_cons_of_mem _ (by rw [show i + (j + 2) = i + 2 + j by omega]; exact q1), q2⟩
    · have e : pm_sl (x :: S) ++ List.replicate n none = some x :: (pm_sl S ++ List.replicate n none) := by simp [pm_sl, hc]
      rw [e] at hj
      have hy : ¬ y.category = 2 := fun q => hc (h3.cat.symm.trans q)
      match j, hj with
      | 0, hj => simp [pm_ld] at hj; subst hj; exact ⟨y, by simp [lv_args], h3⟩
      | j + 1, hj =>
        obtain ⟨w, q1, q2⟩ := pm_sl_args n (i + 1) h4 j v (by simpa [pm_ld] using hj)
        exact ⟨w, by simp only [lv_args, hy, if_false]; exact List.mem_cons_of_mem _ (by rw [show i + (j + 1) = i + 1 + j by omega]; exact q1), q2⟩
theorem pm_sl_len : ∀ (S : List Value), (pm_sl S).length = pm_cat S
  | [] => rfl
  | x :: S => by
    have := pm_sl_len S
    rcases lv_cat x with h | h <;> simp [pm_sl, pm_cat, h] at this ⊢ <;> omega
theorem lg_sl_len : ∀ (S : List Value), (lg_sl S).length = pm_cat S
  | [] => rfl
  | x :: S => by
    have := lg_sl_len S
    rcases lv_cat x with h | h <;> simp [lg_sl, pm_cat, h] at this ⊢ <;> omega
theorem pm_lr.entry {b n : Nat} {ws : va_W} {S T : List Value} (h : pm_sr b ws S T) (hn : pm_cat S ≤ n) : pm_lr b ws ((lg_sl T ++ List.replicate (n - (lg_sl T).length) Slot.unset).toArray) n (pm_in S n) := by
  have hT : (lg_sl T).length ≤ n := by rw [lg_sl_len]; show (T.map fun v => v.category).sum ≤ n; rw [h.cat]; exact hn
  have hl := lv_entry T hT
  refine ⟨hl.1, hl.2.1, fun i v hv => ?_⟩
  obtain ⟨w, h1, h2⟩ := pm_sl_args (n - (pm_sl S).length) 0 h i v hv
  exact ⟨w, hl.2.2 (i, w) (by simpa using h1), h2⟩
