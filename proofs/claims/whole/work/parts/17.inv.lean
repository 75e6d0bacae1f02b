/-! what ties the class's cells to the reference's -/
def T_ok (U : pm_U) : Prop := (U.1 1 15 = U.1 76 0 ∧ U.1 1 16 = U.1 76 2) ∧ (U.2.1 1 17 = U.2.1 76 3 ∧ U.2.1 1 18 = U.2.1 76 4) ∧ ∀ w, w < 6 → U.1 75 w = U.1 77 w
def Ro_ok (M : Nat → Nat → Int32) : Prop := ∀ r, r < 6 → M (3 + 2 * r) 0 = M 78 r ∧ (M 78 r = -1 ∨ ∃ n, n ≤ 60 ∧ M 78 r = nI n ∧ ∀ i, i < n → M (3 + 2 * r + 1) i = M 79 (60 * r + i))
def Te_ok (M : Nat → Nat → Int32) : Prop := ∀ r, r < 4 → M (16 + 2 * r) 0 = M 81 r ∧ (M 81 r = -1 ∨ ∃ n, n ≤ 120 ∧ M 81 r = nI n ∧ ∀ i, i < n → M (16 + 2 * r + 1) i = M 82 (120 * r + i))
def Ru_ok (M : Nat → Nat → Int32) : Prop := ∀ k, k < 4 → (M (25 + 2 * k) 0 = -1 ∧ M 84 k = nI 0) ∨ ∃ n, n ≤ 4 ∧ M (25 + 2 * k) 0 = nI n ∧ M 84 k = nI 1 ∧ M 83 k = nI n ∧ ∀ i, i < n → ∃ c, c < 59 ∧ M (25 + 2 * k + 1) i = nI c ∧ M 85 (4 * k + i) = nI c
def Pa_ok (M : Nat → Nat → Int32) : Prop := ∀ k, k < 4 → (M (34 + 2 * k) 0 = nI 0 ∧ M 86 k = nI 0) ∨ ∃ n, (1 ≤ n ∧ n ≤ 24) ∧ M (34 + 2 * k) 0 = nI n ∧ M 86 k = nI 1 ∧ M 87 k = nI n ∧ ∀ d, d < 24 → (M (34 + 2 * k + 1) d = -9 ∧ M 88 (24 * k + d) = -1) ∨ (d < n ∧ ∃ w, w < 4 ∧ M (34 + 2 * k + 1) d = nI w ∧ M 88 (24 * k + d) = nI w)
def Kn_ok (M : Nat → Nat → Int32) : Prop := M 54 0 = nI 0 ∧ ∃ n, n ≤ 8 ∧ M 51 0 = nI n ∧ M 76 37 = nI n ∧ ∀ i, i < n → ∃ d w, d < 24 ∧ w < 4 ∧ M 52 i = nI d ∧ M 97 i = nI d ∧ M 53 i = nI w ∧ M 98 i = nI w
/-! the rule language: what a clause tells, what a rule expects, all days of a page -/
def ex_cl (c : Nat) (dy : Nat → Nat) (d : Nat) : Option Nat := if c < 4 then some c else if c < 11 then (if c - 3 ≤ d then some (dy (d - (c - 3))) else none) else if c < 43 then (if d % ((c - 11) / 4 + 2) = 0 then some ((c - 11) % 4) else none) else if 1 ≤ d ∧ dy (d - 1) = (c - 43) / 4 then some ((c - 43) % 4) else none
/-- the first clause from i on, of m left, that can tell -/
def ex_at (cl : Nat → Nat) (dy : Nat → Nat) (d : Nat) : Nat → Nat → Option (Nat × Nat)
  | 0, _ => none
  | m + 1, i => match ex_cl (cl i) dy d with
    | some w => some (i, w)
    | none => ex_at cl dy d m (i + 1)
def ex_ex (m : Nat) (cl : Nat → Nat) (dy : Nat → Nat) (d : Nat) : Nat := match ex_at cl dy d m 0 with
  | some (_, w) => w
  | none => 0
/-- days 0 .. d - 1, as a function -/
def ex_dy (m : Nat) (cl : Nat → Nat) (ln : Nat → Option Nat) : Nat → Nat → Nat
  | 0, _ => 0
  | d + 1, i => if i = d then (match ln d with
      | some w => w
      | none => ex_ex m cl (ex_dy m cl ln d) d) else ex_dy m cl ln d i
/-- a reading (class: the cell k; reference: its place b, its flag o) -/
def Rd (M : Nat → Nat → Int32) (k b o : Nat) : Prop := (M k 0 = nI 0 ∧ M k 1 = nI 0 ∧ M 94 o = nI 0) ∨ ∃ (n rd m : Nat) (cl : Nat → Nat) (ln : Nat → Option Nat), (1 ≤ n ∧ n ≤ 24 ∧ rd ≤ n ∧ m ≤ 4) ∧ (M k 0 = nI n ∧ M k 1 = nI rd ∧ M 94 o = nI 1) ∧ (M 95 (b + 5) = nI n ∧ M 95 (b + 30) = nI rd ∧ M 95 b = nI m) ∧ (∀ i, i < m → cl i < 59 ∧ M 95 (b + 1 + i) = nI (cl i)) ∧ (∀ d, d < 24 → match ln d with
    | none => M 95 (b + 6 + d) = -1
    | some w => w < 4 ∧ M 95 (b + 6 + d) = nI w) ∧ (∀ d, d < n → M (k + 1) d = nI (ex_dy m cl ln n d) ∧ (M k 2 >>> (nI d &&& 31)) &&& 1 = (if ln d = none then 0 else 1)) ∧ ∀ d, d < rd → M 95 (b + 31 + d) = nI (ex_dy m cl ln n d)
def Re_ok (M : Nat → Nat → Int32) : Prop := Rd M 42 0 0 ∧ ∀ k, k < 3 → Rd M (45 + 2 * k) (55 * (k + 1)) (k + 1)
def Inv (U : pm_U) : Prop := T_ok U ∧ Ro_ok U.1 ∧ Te_ok U.1 ∧ Ru_ok U.1 ∧ Pa_ok U.1 ∧ Kn_ok U.1 ∧ Re_ok U.1
def Ok (X : pm_X) (jC jM : Nat) (as : List Value) (U : pm_U) : Prop := ∃ (v : Value) (U1 U2 : pm_U), pm_V0 X jC (.ref 1 :: as) (pm_hp U) = some (some v, pm_hp U1) ∧ pm_V0 X jM (.ref 76 :: as) (pm_hp U1) = some (some v, pm_hp U2) ∧ Inv U2
theorem Ro_ok.cg {M N : Nat → Nat → Int32} (h : Ro_ok M) (e : ∀ k i, (3 ≤ k ∧ k ≤ 14) ∨ k = 78 ∨ k = 79 → N k i = M k i) : Ro_ok N := by
  intro r hr
  obtain ⟨h1, h2⟩ := h r hr
  refine ⟨by rw [e _ _ (by omega), e _ _ (by omega)]; exact h1, ?_⟩
  rcases h2 with h2 | ⟨n, hn, h3, h4⟩
  · exact Or.inl (by rw [e _ _ (by omega)]; exact h2)
  · exact Or.inr ⟨n, hn, by rw [e _ _ (by omega)]; exact h3, fun i hi => by rw [e _ _ (by omega), e _ _ (by omega)]; exact h4 i hi⟩
theorem Te_ok.cg {M N : Nat → Nat → Int32} (h : Te_ok M) (e : ∀ k i, (16 ≤ k ∧ k ≤ 23) ∨ k = 81 ∨ k = 82 → N k i = M k i) : Te_ok N := by
  intro r hr
  obtain ⟨h1, h2⟩ := h r hr
  refine ⟨by rw [e _ _ (by omega), e _ _ (by omega)]; exact h1, ?_⟩
  rcases h2 with h2 | ⟨n, hn, h3, h4⟩
  · exact Or.inl (by rw [e _ _ (by omega)]; exact h2)
  · exact Or.inr ⟨n, hn, by rw [e _ _ (by omega)]; exact h3, fun i hi => by rw [e _ _ (by omega), e _ _ (by omega)]; exact h4 i hi⟩
theorem Ru_ok.cg {M N : Nat → Nat → Int32} (h : Ru_ok M) (e : ∀ k i, (25 ≤ k ∧ k ≤ 32) ∨ (83 ≤ k ∧ k ≤ 85) → N k i = M k i) : Ru_ok N := by
  intro r hr
  rcases h r hr with ⟨h1, h2⟩ | ⟨n, hn, h1, h2, h3, h4⟩
  · exact Or.inl ⟨by rw [e _ _ (by omega)]; exact h1, by rw [e _ _ (by omega)]; exact h2⟩
  · refine Or.inr ⟨n, hn, by rw [e _ _ (by omega)]; exact h1, by rw [e _ _ (by omega)]; exact h2, by rw [e _ _ (by omega)]; exact h3, fun i hi => ?_⟩
    rw [e _ _ (by omega), e _ _ (by omega)]
    exact h4 i hi
theorem Pa_ok.cg {M N : Nat → Nat → Int32} (h : Pa_ok M) (e : ∀ k i, (34 ≤ k ∧ k ≤ 41) ∨ (86 ≤ k ∧ k ≤ 88) → N k i = M k i) : Pa_ok N := by
  intro r hr
  rcases h r hr with ⟨h1, h2⟩ | ⟨n, hn, h1, h2, h3, h4⟩
  · exact Or.inl ⟨by rw [e _ _ (by omega)]; exact h1, by rw [e _ _ (by omega)]; exact h2⟩
  · refine Or.inr ⟨n, hn, by rw [e _ _ (by omega)]; exact h1, by rw [e _ _ (by omega)]; exact h2, by rw [e _ _ (by omega)]; exact h3, fun i hi => ?_⟩
    rw [e _ _ (by omega), e _ _ (by omega)]
    exact h4 i hi
theorem Kn_ok.cg {M N : Nat → Nat → Int32} (h : Kn_ok M) (e : ∀ k i, (51 ≤ k ∧ k ≤ 54) ∨ k = 97 ∨ k = 98 ∨ (k = 76 ∧ i = 37) → N k i = M k i) : Kn_ok N := by
  obtain ⟨h0, n, hn, h1, h2, h3⟩ := h
  refine ⟨by rw [e _ _ (by omega)]; exact h0, n, hn, by rw [e _ _ (by omega)]; exact h1, by rw [e _ _ (by omega)]; exact h2, fun i hi => ?_⟩
  rw [e _ _ (by omega), e _ _ (by omega), e _ _ (by omega), e _ _ (by omega)]
  exact h3 i hi
theorem Rd.cg {M N : Nat → Nat → Int32} {k b o : Nat} (h : Rd M k b o) (hk : 42 ≤ k ∧ k ≤ 49) (e : ∀ k i, (42 ≤ k ∧ k ≤ 50) ∨ k = 94 ∨ k = 95 → N k i = M k i) : Rd N k b o := by
  have e1 : ∀ i, N k i = M k i := fun i => e _ _ (by omega)
  have e2 : ∀ i, N (k + 1) i = M (k + 1) i := fun i => e _ _ (by omega)
  have e3 : ∀ i, N 94 i = M 94 i := fun i => e _ _ (by omega)
  have e4 : ∀ i, N 95 i = M 95 i := fun i => e _ _ (by omega)
  unfold Rd at h ⊢
  simp only [e1, e2, e3, e4]
  exact h
theorem Re_ok.cg {M N : Nat → Nat → Int32} (h : Re_ok M) (e : ∀ k i, (42 ≤ k ∧ k ≤ 50) ∨ k = 94 ∨ k = 95 → N k i = M k i) : Re_ok N := ⟨h.1.cg (by omega) e, fun k hk => (h.2 k hk).cg (by omega) e⟩
/-- a finding on both sides -/
theorem inv_find {U : pm_U} {w : Nat} (h : Inv U) (hw : w < 6) : Inv (pm_up (pm_up (pm_up (pm_up U 1 15 (nI w)) 75 w (U.1 75 w + nI 1)) 76 0 (nI w)) 77 w (U.1 77 w + nI 1)) := by
  obtain ⟨⟨⟨h1, h2⟩, h3, h4⟩, h5, h6, h7, h8, h9, h10⟩ := h
  refine ⟨⟨⟨?_, ?_⟩, h3, fun i hi => ?_⟩, h5.cg ?_, h6.cg ?_, h7.cg ?_, h8.cg ?_, h9.cg ?_, h10.cg ?_⟩
  · simp [pm_up_1]
  · simpa [pm_up_1] using h2
  · by_cases hiw : i = w
    · subst hiw; simpa [pm_up_1] using h4 i hi
    · simpa [pm_up_1, hiw] using h4 i hi
  all_goals (intro k i hk; simp only [pm_up_1]; rw [if_neg (by omega), if_neg (by omega), if_neg (by omega), if_neg (by omega)])
theorem inv_tell {U : pm_U} {v : Int32} (h : Inv U) : Inv (pm_up (pm_up U 1 16 v) 76 2 v) := by
  obtain ⟨⟨⟨h1, h2⟩, h3, h4⟩, h5, h6, h7, h8, h9, h10⟩ := h
  refine ⟨⟨⟨?_, ?_⟩, h3, fun i hi => ?_⟩, h5.cg ?_, h6.cg ?_, h7.cg ?_, h8.cg ?_, h9.cg ?_, h10.cg ?_⟩
  · simpa [pm_up_1] using h1
  · simp [pm_up_1]
  · simpa [pm_up_1] using h4 i hi
  all_goals (intro k i hk; simp only [pm_up_1]; rw [if_neg (by omega), if_neg (by omega)])
