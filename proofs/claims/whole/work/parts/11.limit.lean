/-! the pure machine without a count of steps: what a run answers, if it ends -/
theorem pm_E_succ (X : pm_X) : ∀ (n j pc : Nat) (L : pm_L) (S : List Value) (u : Nat × Nat) (H : pm_H) (r : Option Value × pm_H), pm_E X n j pc L S u H = some r → pm_E X (n + 1) j pc L S u H = some r := by
  intro n
  induction n with
  | zero => intro j pc L S u H r h; cases h
  | succ n ih =>
    intro j pc L S u H r h
    unfold pm_E at h ⊢
    split at h
    next => cases h
    next => exact ih _ _ _ _ _ _ _ h
    next j' as S' hst =>
      split at h
      next => cases h
      next v H' hE =>
        rw [ih _ _ _ _ _ _ _ hE]
        exact ih _ _ _ _ _ _ _ h
    next => exact h
theorem pm_E_le {X : pm_X} {n k j pc : Nat} {L : pm_L} {S : List Value} {u : Nat × Nat} {H : pm_H} {r : Option Value × pm_H} (hk : n ≤ k) (h : pm_E X n j pc L S u H = some r) : pm_E X k j pc L S u H = some r := by
  induction k with
  | zero =>
    have : n = 0 := by omega
    subst this
    exact h
  | succ k ih =>
    rcases Nat.lt_or_ge k n with q | q
    · have : n = k + 1 := by omega
      subst this
      exact h
    · exact pm_E_succ _ _ _ _ _ _ _ _ _ (ih q)
noncomputable def pm_V (X : pm_X) (j pc : Nat) (L : pm_L) (S : List Value) (u : Nat × Nat) (H : pm_H) : Option (Option Value × pm_H) :=
  match Classical.propDecidable (∃ (n : Nat) (r : Option Value × pm_H), pm_E X n j pc L S u H = some r) with
  | .isTrue h => some (Classical.choose (Classical.choose_spec h))
  | .isFalse _ => none
theorem pm_V_of {X : pm_X} {n j pc : Nat} {L : pm_L} {S : List Value} {u : Nat × Nat} {H : pm_H} {r : Option Value × pm_H} (h : pm_E X n j pc L S u H = some r) : pm_V X j pc L S u H = some r := by
  unfold pm_V
  split
  next hx _ =>
    have h1 := Classical.choose_spec (Classical.choose_spec hx)
    have h2 := pm_E_le (Nat.le_max_left n (Classical.choose hx)) h
    have h3 := pm_E_le (Nat.le_max_right n (Classical.choose hx)) h1
    exact h3.symm.trans h2
  next hx _ => exact absurd ⟨n, r, h⟩ hx
theorem pm_V_to {X : pm_X} {j pc : Nat} {L : pm_L} {S : List Value} {u : Nat × Nat} {H : pm_H} {r : Option Value × pm_H} (h : pm_V X j pc L S u H = some r) : ∃ n, pm_E X n j pc L S u H = some r := by
  unfold pm_V at h
  split at h
  next hx _ =>
    cases h
    exact ⟨_, Classical.choose_spec (Classical.choose_spec hx)⟩
  next => cases h
/-- a call: from a fresh frame -/
noncomputable def pm_V0 (X : pm_X) (j : Nat) (as : List Value) (H : pm_H) : Option (Option Value × pm_H) := pm_V X j 0 (pm_in as (pm_ml j)) [] (0, 0) H
noncomputable def pm_bd (X : pm_X) (j pc : Nat) (L : pm_L) (S : List Value) (u : Nat × Nat) (o : Option (Option Value × pm_H)) : Option (Option Value × pm_H) := match o with
  | none => none
  | some (v, H') => pm_V X j pc L (v.toList ++ S) u H'
theorem pm_V_ext {a b : Option (Option Value × pm_H)} (h : ∀ r, a = some r ↔ b = some r) : a = b := by
  cases a with
  | none =>
    cases b with
    | none => rfl
    | some r => exact ((h r).mpr rfl)
  | some r => exact ((h r).mp rfl).symm
theorem pm_V_unf (X : pm_X) (j pc : Nat) (L : pm_L) (S : List Value) (u : Nat × Nat) (H : pm_H) : pm_V X j pc L S u H = match pm_step X j pc L S u H with
    | none => none
    | some (.inl (pc', L', S', u', H')) => pm_V X j pc' L' S' u' H'
    | some (.inr (.inl (j', as, S'))) => pm_bd X j (pc + 3) L S' (u.1 + pm_mc j', u.2 + pm_ms j') (pm_V0 X j' as H)
    | some (.inr (.inr v)) => some (v, H) := by
  refine pm_V_ext fun r => ⟨fun h => ?_, fun h => ?_⟩
  · obtain ⟨n, h⟩ := pm_V_to h
    cases n with
    | zero => cases h
    | succ n =>
      unfold pm_E at h
      split at h
      next => cases h
      next hst => rw [hst]; exact pm_V_of h
      next hst =>
        rw [hst]
        split at h
        next => cases h
        next v H' hE =>
          show pm_bd X j (pc + 3) L _ _ _ = some r
          rw [pm_V0, pm_V_of hE]
          exact pm_V_of h
      next hst => rw [hst]; exact h
  · split at h
    next => cases h
    next hst =>
      obtain ⟨n, h⟩ := pm_V_to h
      refine pm_V_of (n := n + 1) ?_
      unfold pm_E
      rw [hst]
      exact h
    next hst =>
      unfold pm_bd at h
      split at h
      next => cases h
      next v H' hE =>
        obtain ⟨n, hE⟩ := pm_V_to hE
        obtain ⟨k, h⟩ := pm_V_to h
        refine pm_V_of (n := max n k + 1) ?_
        unfold pm_E
        rw [hst]
        dsimp only
        rw [pm_E_le (Nat.le_max_left n k) hE]
        exact pm_E_le (Nat.le_max_right n k) h
    next hst =>
      refine pm_V_of (n := 1) ?_
      unfold pm_E
      rw [hst]
      exact h
theorem pm_V_dec {X : pm_X} {j pc n : Nat} {L : pm_L} {S : List Value} {u : Nat × Nat} {H : pm_H} {i : Instr} (hd : decode (pm_c j) pc = .ok (i, n)) : pm_V X j pc L S u H = match pm_ins X j pc L S u H i n with
    | none => none
    | some (.inl (pc', L', S', u', H')) => pm_V X j pc' L' S' u' H'
    | some (.inr (.inl (j', as, S'))) => pm_bd X j (pc + 3) L S' (u.1 + pm_mc j', u.2 + pm_ms j') (pm_V0 X j' as H)
    | some (.inr (.inr v)) => some (v, H) := by
  rw [pm_V_unf]
  unfold pm_step
  rw [hd]
theorem pm_bd_some {X : pm_X} {j pc : Nat} {L : pm_L} {S : List Value} {u : Nat × Nat} {v : Option Value} {H' : pm_H} : pm_bd X j pc L S u (some (v, H')) = pm_V X j pc L (v.toList ++ S) u H' := rfl
