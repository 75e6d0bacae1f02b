/-! what kind of answer an instruction can have -/
def pm_kd (i : Instr) : Nat := match i with
  | .invokespecial _ => 1
  | .invokevirtual _ => 1
  | .invokestatic _ => 1
  | .ireturn => 2
  | .lreturn => 2
  | .return_ => 2
  | _ => 0
def pm_is (P : pm_P → Prop) (o : Option pm_P) : Prop := ∀ x, o = some x → P x
section PMK
variable {P : pm_P → Prop}
theorem pm_is.no : pm_is P none := fun _ h => by cases h
theorem pm_is.so {y : pm_P} (h : P y) : pm_is P (some y) := fun _ q => by cases q; exact h
theorem pm_is.ite {c : Prop} [Decidable c] {a b : Option pm_P} (h1 : pm_is P a) (h2 : pm_is P b) : pm_is P (if c then a else b) := by
  split
  · exact h1
  · exact h2
theorem pm_is.n (hn : ∀ r, P (.inl r)) {pc : Nat} {L : pm_L} {S : List Value} {u : Nat × Nat} {H : pm_H} : pm_is P (pm_n pc L S u H) := fun _ q => by cases q; exact hn _
theorem pm_is.jp (hn : ∀ r, P (.inl r)) {pc : Nat} {off : Int} {L : pm_L} {S : List Value} {u : Nat × Nat} {H : pm_H} : pm_is P (pm_jp pc off L S u H) := fun x q => by
  obtain ⟨-, h⟩ := pm_jp_e q
  exact pm_is.n hn x h
theorem pm_is.i1 {S : List Value} {f : Int32 → List Value → Option pm_P} (h : ∀ x S, pm_is P (f x S)) : pm_is P (pm_i1 S f) := fun x q => by
  obtain ⟨_, _, -, h1⟩ := pm_i1_e q
  exact h _ _ x h1
theorem pm_is.i2 {S : List Value} {f : Int32 → Int32 → List Value → Option pm_P} (h : ∀ x y S, pm_is P (f x y S)) : pm_is P (pm_i2 S f) := fun x q => by
  obtain ⟨_, _, _, -, h1⟩ := pm_i2_e q
  exact h _ _ _ x h1
theorem pm_is.j1 {S : List Value} {f : Int64 → List Value → Option pm_P} (h : ∀ x S, pm_is P (f x S)) : pm_is P (pm_j1 S f) := fun x q => by
  obtain ⟨_, _, -, h1⟩ := pm_j1_e q
  exact h _ _ x h1
theorem pm_is.j2 {S : List Value} {f : Int64 → Int64 → List Value → Option pm_P} (h : ∀ x y S, pm_is P (f x y S)) : pm_is P (pm_j2 S f) := fun x q => by
  obtain ⟨_, _, _, -, h1⟩ := pm_j2_e q
  exact h _ _ _ x h1
theorem pm_is.r1 {S : List Value} {f : Nat → List Value → Option pm_P} (h : ∀ x S, pm_is P (f x S)) : pm_is P (pm_r1 S f) := fun x q => by
  obtain ⟨_, _, -, h1⟩ := pm_r1_e q
  exact h _ _ x h1
theorem pm_is.ir {S : List Value} {f : Int32 → Nat → List Value → Option pm_P} (h : ∀ i k S, pm_is P (f i k S)) : pm_is P (pm_ir S f) := fun x q => by
  obtain ⟨_, _, _, -, h1⟩ := pm_ir_e q
  exact h _ _ _ x h1
theorem pm_is.iir {S : List Value} {f : Int32 → Int32 → Nat → List Value → Option pm_P} (h : ∀ x i k S, pm_is P (f x i k S)) : pm_is P (pm_iir S f) := fun x q => by
  obtain ⟨_, _, _, _, -, h1⟩ := pm_iir_e q
  exact h _ _ _ _ x h1
theorem pm_is.ldi {L : pm_L} {i : Nat} {f : Int32 → Option pm_P} (h : ∀ x, pm_is P (f x)) : pm_is P (pm_ldi L i f) := fun x q => by
  obtain ⟨_, -, h1⟩ := pm_ldi_e q
  exact h _ x h1
theorem pm_is.ldj {L : pm_L} {i : Nat} {f : Int64 → Option pm_P} (h : ∀ x, pm_is P (f x)) : pm_is P (pm_ldj L i f) := fun x q => by
  obtain ⟨_, -, h1⟩ := pm_ldj_e q
  exact h _ x h1
theorem pm_is.ldr {L : pm_L} {i : Nat} {f : Nat → Option pm_P} (h : ∀ x, pm_is P (f x)) : pm_is P (pm_ldr L i f) := fun x q => by
  obtain ⟨_, -, h1⟩ := pm_ldr_e q
  exact h _ x h1
theorem pm_is.ai {H : pm_H} {k : Nat} {f : FieldType → Nat → (Nat → Int32) → Option pm_P} (h : ∀ t n g, pm_is P (f t n g)) : pm_is P (pm_ai H k f) := fun x q => by
  obtain ⟨_, _, _, -, h1⟩ := pm_ai_e q
  exact h _ _ _ x h1
theorem pm_is.aq {H : pm_H} {k : Nat} {f : String → Nat → (Nat → Option Nat) → Option pm_P} (h : ∀ t n g, pm_is P (f t n g)) : pm_is P (pm_aq H k f) := fun x q => by
  obtain ⟨_, _, _, -, h1⟩ := pm_aq_e q
  exact h _ _ _ x h1
theorem pm_is.ob {H : pm_H} {k : Nat} {f : Nat → List Value → Option pm_P} (h : ∀ t n, pm_is P (f t n)) : pm_is P (pm_ob H k f) := fun x q => by
  obtain ⟨_, _, -, h1⟩ := pm_ob_e q
  exact h _ _ x h1
end PMK
set_option maxHeartbeats 4000000 in
theorem pm_insN (X : pm_X) (j pc : Nat) (L : pm_L) (S : List Value) (u : Nat × Nat) (H : pm_H) (i : Instr) (n : Nat) (hk : pm_kd i = 0) : pm_is (fun x => ∃ r, x = .inl r) (pm_ins X j pc L S u H i n) := by
  have hn : ∀ r : Nat × pm_L × List Value × (Nat × Nat) × pm_H, ∃ r', (.inl r : pm_P) = .inl r' := fun r => ⟨r, rfl⟩
  unfold pm_ins
  cases i
  all_goals first
    | (simp [pm_kd] at hk; done)
    | exact pm_is.no
    | (dsimp only; repeat' first
        | exact pm_is.no
        | exact pm_is.n hn
        | exact pm_is.jp hn
        | refine pm_is.ite ?_ ?_
        | refine pm_is.i1 fun _ _ => ?_
        | refine pm_is.i2 fun _ _ _ => ?_
        | refine pm_is.j1 fun _ _ => ?_
        | refine pm_is.j2 fun _ _ _ => ?_
        | refine pm_is.r1 fun _ _ => ?_
        | refine pm_is.ir fun _ _ _ => ?_
        | refine pm_is.iir fun _ _ _ _ => ?_
        | refine pm_is.ldi fun _ => ?_
        | refine pm_is.ldj fun _ => ?_
        | refine pm_is.ldr fun _ => ?_
        | refine pm_is.ai fun _ _ _ => ?_
        | refine pm_is.aq fun _ _ _ => ?_
        | refine pm_is.ob fun _ _ => ?_
        | split)
theorem pm_insR (X : pm_X) (j pc : Nat) (L : pm_L) (S : List Value) (u : Nat × Nat) (H : pm_H) (i : Instr) (n : Nat) (hk : pm_kd i = 2) : pm_is (fun x => ∃ r, x = .inr (.inr r)) (pm_ins X j pc L S u H i n) := by
  unfold pm_ins
  cases i
  all_goals first
    | (simp [pm_kd] at hk; done)
    | (dsimp only; repeat' first
        | exact pm_is.no
        | exact pm_is.so ⟨_, rfl⟩
        | refine pm_is.ite ?_ ?_
        | split)
theorem pm_insC (X : pm_X) (j pc : Nat) (L : pm_L) (S : List Value) (u : Nat × Nat) (H : pm_H) (i : Instr) (n : Nat) (hk : pm_kd i = 1) : pm_is (fun x => (∃ r, x = .inl r) ∨ ∃ r, x = .inr (.inl r)) (pm_ins X j pc L S u H i n) := by
  have hn : ∀ r : Nat × pm_L × List Value × (Nat × Nat) × pm_H, (∃ r', (.inl r : pm_P) = .inl r') ∨ ∃ r', (.inl r : pm_P) = .inr (.inl r') := fun r => Or.inl ⟨r, rfl⟩
  unfold pm_ins
  cases i
  all_goals first
    | (simp [pm_kd] at hk; done)
    | (dsimp only; repeat' first
        | exact pm_is.no
        | exact pm_is.n hn
        | exact pm_is.so (Or.inr ⟨_, rfl⟩)
        | refine pm_is.ite ?_ ?_
        | refine pm_is.i2 fun _ _ _ => ?_
        | refine pm_is.r1 fun _ _ => ?_
        | refine pm_is.ai fun _ _ _ => ?_
        | refine pm_is.ob fun _ _ => ?_
        | split)
theorem pm_nocall {X : pm_X} {j pc : Nat} {L : pm_L} {S : List Value} {u : Nat × Nat} {H : pm_H} {i : Instr} {n : Nat} {q : Nat × List Value × List Value} (hk : pm_kd i ≠ 1) (h : pm_ins X j pc L S u H i n = some (.inr (.inl q))) : False := by
  have h3 : pm_kd i = 0 ∨ pm_kd i = 1 ∨ pm_kd i = 2 := by
    unfold pm_kd
    split <;> simp
  rcases h3 with h3 | h3 | h3
  · obtain ⟨r, h4⟩ := pm_insN X j pc L S u H i n h3 _ h
    cases h4
  · exact hk h3
  · obtain ⟨r, h4⟩ := pm_insR X j pc L S u H i n h3 _ h
    cases h4
theorem pm_noend {X : pm_X} {j pc : Nat} {L : pm_L} {S : List Value} {u : Nat × Nat} {H : pm_H} {i : Instr} {n : Nat} {q : Option Value} (hk : pm_kd i ≠ 2) (h : pm_ins X j pc L S u H i n = some (.inr (.inr q))) : False := by
  have h3 : pm_kd i = 0 ∨ pm_kd i = 1 ∨ pm_kd i = 2 := by
    unfold pm_kd
    split <;> simp
  rcases h3 with h3 | h3 | h3
  · obtain ⟨r, h4⟩ := pm_insN X j pc L S u H i n h3 _ h
    cases h4
  · rcases pm_insC X j pc L S u H i n h3 _ h with ⟨r, h4⟩ | ⟨r, h4⟩ <;> cases h4
  · exact hk h3
