/-! the memory: behind the two constructors the cells are always the same hundred; what changes is numbers alone (and one ref, the parser's text) -/
abbrev pm_U : Type := (Nat → Nat → Int32) × (Nat → Nat → Int64) × Option Nat × (Nat → pm_C)
def pm_lay : List (Option (Nat ⊕ (FieldType × Nat × Bool))) := [
  none,
  some (.inl 10),
  some (.inr (.object "OtherwiseBook$Row", 6, true)),
  some (.inl 5),
  some (.inr (.int, 60, false)),
  some (.inl 5),
  some (.inr (.int, 60, false)),
  some (.inl 5),
  some (.inr (.int, 60, false)),
  some (.inl 5),
  some (.inr (.int, 60, false)),
  some (.inl 5),
  some (.inr (.int, 60, false)),
  some (.inl 5),
  some (.inr (.int, 60, false)),
  some (.inr (.object "OtherwiseBook$Text", 4, true)),
  some (.inl 9),
  some (.inr (.byte, 120, false)),
  some (.inl 9),
  some (.inr (.byte, 120, false)),
  some (.inl 9),
  some (.inr (.byte, 120, false)),
  some (.inl 9),
  some (.inr (.byte, 120, false)),
  some (.inr (.object "OtherwiseBook$Rule", 4, true)),
  some (.inl 6),
  some (.inr (.int, 4, false)),
  some (.inl 6),
  some (.inr (.int, 4, false)),
  some (.inl 6),
  some (.inr (.int, 4, false)),
  some (.inl 6),
  some (.inr (.int, 4, false)),
  some (.inr (.object "OtherwiseBook$Page", 4, true)),
  some (.inl 2),
  some (.inr (.int, 24, false)),
  some (.inl 2),
  some (.inr (.int, 24, false)),
  some (.inl 2),
  some (.inr (.int, 24, false)),
  some (.inl 2),
  some (.inr (.int, 24, false)),
  some (.inl 4),
  some (.inr (.int, 24, false)),
  some (.inr (.object "OtherwiseBook$Reading", 3, true)),
  some (.inl 4),
  some (.inr (.int, 24, false)),
  some (.inl 4),
  some (.inr (.int, 24, false)),
  some (.inl 4),
  some (.inr (.int, 24, false)),
  some (.inl 0),
  some (.inr (.int, 8, false)),
  some (.inr (.int, 8, false)),
  some (.inl 0),
  some (.inr (.int, 8, false)),
  some (.inr (.int, 8, false)),
  some (.inl 3),
  some (.inl 6),
  some (.inr (.int, 4, false)),
  some (.inl 2),
  some (.inr (.int, 24, false)),
  some (.inl 8),
  some (.inr (.int, 96, false)),
  some (.inr (.int, 24, false)),
  some (.inl 6),
  some (.inr (.int, 4, false)),
  some (.inl 7),
  some (.inl 6),
  some (.inr (.int, 4, false)),
  some (.inl 1),
  some (.inr (.int, 24, false)),
  some (.inr (.int, 24, false)),
  some (.inr (.int, 24, false)),
  some (.inr (.int, 24, false)),
  some (.inr (.int, 6, false)),
  some (.inl 11),
  some (.inr (.int, 6, false)),
  some (.inr (.int, 6, false)),
  some (.inr (.int, 360, false)),
  some (.inr (.int, 60, false)),
  some (.inr (.int, 4, false)),
  some (.inr (.byte, 480, false)),
  some (.inr (.int, 4, false)),
  some (.inr (.boolean, 4, false)),
  some (.inr (.int, 16, false)),
  some (.inr (.boolean, 4, false)),
  some (.inr (.int, 4, false)),
  some (.inr (.int, 96, false)),
  some (.inr (.int, 4, false)),
  some (.inr (.int, 24, false)),
  some (.inr (.int, 4, false)),
  some (.inr (.int, 24, false)),
  some (.inr (.int, 24, false)),
  some (.inr (.boolean, 4, false)),
  some (.inr (.int, 220, false)),
  some (.inr (.int, 24, false)),
  some (.inr (.int, 8, false)),
  some (.inr (.int, 8, false)),
  some (.inr (.int, 96, false)),
  some (.inr (.int, 24, false))]
def pm_ly (k : Nat) : Option (Nat ⊕ (FieldType × Nat × Bool)) := pm_lay.getD k none
def pm_of : List (List Nat) := [[0, 1, 2], [0, 1, 2], [0, 1], [1, 3, 0, 0, 0], [0, 0, 0, 1], [0, 1], [0, 1], [0, 0, 0, 1], [0, 0, 1, 2, 3], [0, 1], [1, 14, 23, 32, 41, 43, 50, 53, 56, 61, 66, 69, 72, 73, 74, 0, 0, 0, 0], [0, 1, 0, 0, 0, 2, 3, 4, 5, 6, 7, 8, 9, 10, 11, 12, 0, 0, 0, 0, 0, 13, 14, 0, 15, 0, 16, 17, 0, 0, 0, 0, 0, 18, 19, 0, 20, 0, 21, 22, 0, 0, 0, 0, 23, 0, 24, 0]]
def pm_off (ci s : Nat) : Nat := (pm_of.getD ci []).getD s 0
def pm_fv (U : pm_U) (k ci s : Nat) : Value := match (pm_ty.getD ci (fun _ => .int)) s with
  | .int => .int (U.1 k s)
  | .boolean => .int (U.1 k s)
  | .long => .long (U.2.1 k s)
  | _ => if ci = 3 ∧ s = 2 then pm_rfv U.2.2.1 else .ref (k + pm_off ci s)
def pm_cell (U : pm_U) (k : Nat) : pm_C := match pm_ly k with
  | some (.inl ci) => .inr (ci, (List.range (pm_K ci).2.2).map (pm_fv U k ci))
  | some (.inr (ty, n, false)) => .inl (ty, n, .inl (U.1 k))
  | some (.inr (ty, n, true)) => .inl (ty, n, .inr (fun i => if i < n then some (k + 1 + 2 * i) else none))
  | none => U.2.2.2 k
def pm_hp (U : pm_U) : pm_H := (100, pm_cell U)
def pm_up (U : pm_U) (k s : Nat) (v : Int32) : pm_U := (fun k' => if k' = k then upd (U.1 k) s v else U.1 k', U.2)
def pm_upA (U : pm_U) (k : Nat) (f : Nat → Int32) : pm_U := (fun k' => if k' = k then f else U.1 k', U.2)
def pm_upJ (U : pm_U) (k s : Nat) (v : Int64) : pm_U := (U.1, fun k' i => if k' = k ∧ i = s then v else U.2.1 k' i, U.2.2)
def pm_upT (U : pm_U) (t : Option Nat) : pm_U := (U.1, U.2.1, t, U.2.2.2)
theorem pm_up_1 (U : pm_U) (k s : Nat) (v : Int32) (k' i : Nat) : (pm_up U k s v).1 k' i = if k' = k ∧ i = s then v else U.1 k' i := by
  unfold pm_up upd
  by_cases h : k' = k
  · subst h
    by_cases h2 : i = s <;> simp [h2]
  · simp [h]
theorem pm_up_2 (U : pm_U) (k s : Nat) (v : Int32) : (pm_up U k s v).2 = U.2 := rfl
theorem pm_ly_rg {k : Nat} {d : Nat ⊕ (FieldType × Nat × Bool)} (h : pm_ly k = some d) : 0 < k ∧ k ≤ 100 := by
  unfold pm_ly at h
  rw [List.getD_eq_getElem?_getD] at h
  refine ⟨?_, ?_⟩
  · rcases Nat.eq_zero_or_pos k with rfl | h0
    · cases h
    · exact h0
  · rcases Nat.lt_or_ge k 101 with h0 | h0
    · omega
    · rw [List.getElem?_eq_none (by simpa [pm_lay] using h0)] at h
      cases h
theorem pm_gh {U : pm_U} {k : Nat} {d : Nat ⊕ (FieldType × Nat × Bool)} (h : pm_ly k = some d) : pm_get (pm_hp U) k = some (pm_cell U k) := by
  exact if_pos (pm_ly_rg h)
theorem pm_g_o {U : pm_U} {k ci : Nat} (h : pm_ly k = some (.inl ci)) : pm_get (pm_hp U) k = some (.inr (ci, (List.range (pm_K ci).2.2).map (pm_fv U k ci))) := by
  rw [pm_gh h, pm_cell, h]
theorem pm_g_a {U : pm_U} {k n : Nat} {ty : FieldType} (h : pm_ly k = some (.inr (ty, n, false))) : pm_get (pm_hp U) k = some (.inl (ty, n, .inl (U.1 k))) := by
  rw [pm_gh h, pm_cell, h]
theorem pm_g_q {U : pm_U} {k n : Nat} {ty : FieldType} (h : pm_ly k = some (.inr (ty, n, true))) : pm_get (pm_hp U) k = some (.inl (ty, n, .inr (fun i => if i < n then some (k + 1 + 2 * i) else none))) := by
  rw [pm_gh h, pm_cell, h]
theorem pm_cell_up {U : pm_U} {k s k' : Nat} {v : Int32} (h : k' ≠ k) : pm_cell (pm_up U k s v) k' = pm_cell U k' := by
  have e : (pm_up U k s v).1 k' = U.1 k' := by funext i; rw [pm_up_1, if_neg (fun q => h q.1)]
  have e2 : ∀ ci, pm_fv (pm_up U k s v) k' ci = pm_fv U k' ci := by
    intro ci
    funext t
    unfold pm_fv
    rw [e, pm_up_2]
  unfold pm_cell
  split <;> simp only [e, e2, pm_up_2]
/-- an int array's place is set -/
theorem pm_s_a {U : pm_U} {k n i : Nat} {ty : FieldType} {x : Int32} (h : pm_ly k = some (.inr (ty, n, false))) : pm_set (pm_hp U) k (.inl (ty, n, .inl (upd (U.1 k) i x))) = pm_hp (pm_up U k i x) := by
  refine Prod.ext rfl (funext fun k' => ?_)
  show (if k' = k then _ else pm_cell U k') = pm_cell (pm_up U k i x) k'
  by_cases hk : k' = k
  · subst hk
    rw [if_pos rfl, pm_cell, h]
    simp [pm_up]
  · rw [if_neg hk, pm_cell_up hk]
theorem pm_s_A {U : pm_U} {k n : Nat} {ty : FieldType} {f : Nat → Int32} (h : pm_ly k = some (.inr (ty, n, false))) : pm_set (pm_hp U) k (.inl (ty, n, .inl f)) = pm_hp (pm_upA U k f) := by
  refine Prod.ext rfl (funext fun k' => ?_)
  show (if k' = k then _ else pm_cell U k') = pm_cell (pm_upA U k f) k'
  by_cases hk : k' = k
  · subst hk
    rw [if_pos rfl, pm_cell, h]
    simp [pm_upA]
  · rw [if_neg hk]
    have e : (pm_upA U k f).1 k' = U.1 k' := by simp [pm_upA, hk]
    have e2 : ∀ ci, pm_fv (pm_upA U k f) k' ci = pm_fv U k' ci := by
      intro ci
      funext t
      unfold pm_fv
      rw [e]
      rfl
    unfold pm_cell
    split
    next ci _ => rw [e2 ci]
    next => rw [e]
    next => rfl
    next => rfl
theorem pm_rset {n s : Nat} {f g : Nat → Value} {v : Value} (hv : g s = v) (hg : ∀ t, t ≠ s → g t = f t) : ((List.range n).map f).set s v = (List.range n).map g := by
  apply List.ext_getElem?
  intro t
  by_cases h : t = s
  · subst h
    by_cases hn : t < n
    · rw [List.getElem?_set_self (by simpa using hn), List.getElem?_map, List.getElem?_range hn]
      exact congrArg some hv.symm
    · rw [List.getElem?_eq_none (by simpa using hn), List.getElem?_eq_none (by simpa using hn)]
  · rw [List.getElem?_set_ne (Ne.symm h), List.getElem?_map, List.getElem?_map]
    by_cases hn : t < n
    · rw [List.getElem?_range hn]
      exact congrArg some (hg t h).symm
    · rw [List.getElem?_eq_none (by simpa using hn)]
      rfl
/-- an int field is set -/
theorem pm_s_i {U : pm_U} {k ci s : Nat} {v : Int32} (h : pm_ly k = some (.inl ci)) (hs : (pm_ty.getD ci (fun _ => .int)) s = .int ∨ (pm_ty.getD ci (fun _ => .int)) s = .boolean) : pm_set (pm_hp U) k (.inr (ci, ((List.range (pm_K ci).2.2).map (pm_fv U k ci)).set s (.int v))) = pm_hp (pm_up U k s v) := by
  refine Prod.ext rfl (funext fun k' => ?_)
  show (if k' = k then _ else pm_cell U k') = pm_cell (pm_up U k s v) k'
  by_cases hk : k' = k
  · subst hk
    rw [if_pos rfl, pm_cell, h]
    dsimp only
    rw [pm_rset (g := pm_fv (pm_up U k' s v) k' ci)]
    · unfold pm_fv
      rcases hs with hs | hs <;> rw [hs] <;> simp [pm_up_1]
    · intro t ht
      unfold pm_fv
      simp only [pm_up_1, pm_up_2, ht, and_false, if_false]
  · rw [if_neg hk, pm_cell_up hk]
theorem pm_s_j {U : pm_U} {k ci s : Nat} {v : Int64} (h : pm_ly k = some (.inl ci)) (hs : (pm_ty.getD ci (fun _ => .int)) s = .long) : pm_set (pm_hp U) k (.inr (ci, ((List.range (pm_K ci).2.2).map (pm_fv U k ci)).set s (.long v))) = pm_hp (pm_upJ U k s v) := by
  refine Prod.ext rfl (funext fun k' => ?_)
  show (if k' = k then _ else pm_cell U k') = pm_cell (pm_upJ U k s v) k'
  by_cases hk : k' = k
  · subst hk
    rw [if_pos rfl, pm_cell, h]
    dsimp only
    rw [pm_rset (g := pm_fv (pm_upJ U k' s v) k' ci)]
    · unfold pm_fv
      rw [hs]
      simp [pm_upJ]
    · intro t ht
      unfold pm_fv
      simp only [pm_upJ, ht, and_false, if_false]
  · rw [if_neg hk]
    have e2 : ∀ ci, pm_fv (pm_upJ U k s v) k' ci = pm_fv U k' ci := by
      intro ci
      funext t
      unfold pm_fv
      simp only [pm_upJ, hk, false_and, if_false]
    unfold pm_cell
    split
    next ci _ => rw [e2 ci]
    next => rfl
    next => rfl
    next => rfl
theorem pm_s_t {U : pm_U} {t : Option Nat} : pm_set (pm_hp U) 57 (.inr (3, ((List.range (pm_K 3).2.2).map (pm_fv U 57 3)).set 2 (pm_rfv t))) = pm_hp (pm_upT U t) := by
  have h : pm_ly 57 = some (.inl 3) := by decide +kernel
  refine Prod.ext rfl (funext fun k' => ?_)
  show (if k' = 57 then _ else pm_cell U k') = pm_cell (pm_upT U t) k'
  by_cases hk : k' = 57
  · subst hk
    rw [if_pos rfl, pm_cell, h]
    dsimp only
    rw [pm_rset (g := pm_fv (pm_upT U t) 57 3)]
    · rfl
    · intro s hs
      unfold pm_fv
      simp only [pm_upT, hs, and_false, if_false]
  · rw [if_neg hk]
    unfold pm_cell
    have e2 : ∀ ci, pm_ly k' = some (.inl ci) → pm_fv (pm_upT U t) k' ci = pm_fv U k' ci := by
      intro ci hci
      have : ci ≠ 3 := by
        rintro rfl
        have h1 := pm_ly_rg hci
        have h2 : ∀ q, q < 101 → pm_ly q = some (.inl 3) → q = 57 := by decide +kernel
        exact hk (h2 k' (by omega) hci)
      funext s
      unfold pm_fv
      simp only [pm_upT, this, false_and, if_false]
    split
    next ci hci => rw [e2 ci hci]
    next => rfl
    next => rfl
    next => rfl
