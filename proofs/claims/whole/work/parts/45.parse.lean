/-! what is read of a text: pure -/
def tx_dgo (b : Int32) : Option Nat := if nI 48 ≤ b ∧ b ≤ nI 57 then some ((b - nI 48).toNatClampNeg) else none
theorem tx_dgc (b : Int32) : (∃ v, v < 10 ∧ b = nI (48 + v) ∧ tx_dgo b = some v) ∨ (¬ (nI 48 ≤ b ∧ b ≤ nI 57) ∧ tx_dgo b = none) := by
  unfold tx_dgo
  by_cases h : nI 48 ≤ b ∧ b ≤ nI 57
  · left
    obtain ⟨j, hj, rfl⟩ := nI_of (x := b) (fun z => by
      have h1 := h.1
      simp only [Int32.lt_iff_toInt_lt, Int32.le_iff_toInt_le, i32_0, nI_toInt (show 48 < 2 ^ 31 by omega)] at z h1
      omega)
    have h1 := (nI_leI (by omega) hj).mp h.1
    have h2 := (nI_leI hj (by omega)).mp h.2
    refine ⟨j - 48, by omega, by rw [show 48 + (j - 48) = j by omega], ?_⟩
    rw [if_pos h, pk_sub h1, nI_clamp (by omega)]
  · exact Or.inr ⟨h, if_neg h⟩
theorem tx_far {b : Int32} {lo hi : Nat} (hl : lo ≤ 9) (hh : hi ≤ 9) (h : ¬ (nI 48 ≤ b ∧ b ≤ nI 57)) : ¬ (nI lo ≤ b - nI 48 ∧ b - nI 48 ≤ nI hi) := by
  intro q
  obtain ⟨j, hj, e⟩ := nI_of (x := b - nI 48) (fun z => by
    have q1 := q.1
    simp only [Int32.lt_iff_toInt_lt, Int32.le_iff_toInt_le, i32_0, nI_toInt (show lo < 2 ^ 31 by omega)] at z q1
    omega)
  rw [e] at q
  have q2 := (nI_leI hj (by omega)).mp q.2
  have eb : b = nI (j + 48) := by rw [← nI_add, ← e, Int32.sub_add_cancel]
  rw [eb] at h
  exact h ⟨nI_le (by omega) (by omega), nI_le (by omega) (by omega)⟩
def tx_sC (n : Nat) (bt : Nat → Int32) (i : Nat) : Int32 := if i < n then bt i else -9
def tx_sM (n : Nat) (bt : Nat → Int32) (i : Nat) : Int32 := if i < n then bt i else nI 0
def tx_DG (n : Nat) (bt : Nat → Int32) (i : Nat) : Option Nat := if i < n then tx_dgo (bt i) else none
def tx_BB (n : Nat) (bt : Nat → Int32) (i c : Nat) : Bool := decide (i < n ∧ bt i = nI c)
def tx_FG (n : Nat) (bt : Nat → Int32) (lo hi i : Nat) : Option Nat := (tx_DG n bt i).bind (fun v => if lo ≤ v ∧ v ≤ hi then some v else none)
theorem tx_dC {n i : Nat} {bt : Nat → Int32} : tx_dgo (tx_sC n bt i) = tx_DG n bt i := by
  unfold tx_sC tx_DG
  by_cases h : i < n
  · rw [if_pos h, if_pos h]
  · rw [if_neg h, if_neg h]
    unfold tx_dgo
    rw [if_neg (by decide)]
theorem tx_dM {n i : Nat} {bt : Nat → Int32} : tx_dgo (tx_sM n bt i) = tx_DG n bt i := by
  unfold tx_sM tx_DG
  by_cases h : i < n
  · rw [if_pos h, if_pos h]
  · rw [if_neg h, if_neg h]
    unfold tx_dgo
    rw [if_neg (by decide)]
theorem tx_Ceq {n i c : Nat} {bt : Nat → Int32} (hc : c < 2 ^ 31) : (tx_sC n bt i = nI c) = (tx_BB n bt i c = true) := by
  unfold tx_sC tx_BB
  by_cases h : i < n
  · rw [if_pos h]; simp [h]
  · rw [if_neg h, m9_n2 hc]; simp [h]
theorem tx_Meq {n i c : Nat} {bt : Nat → Int32} (h0 : 0 < c) (hc : c < 2 ^ 31) : (tx_sM n bt i = nI c) = (tx_BB n bt i c = true) := by
  unfold tx_sM tx_BB
  by_cases h : i < n
  · rw [if_pos h]; simp [h]
  · rw [if_neg h, n_eq (by omega) hc]
    simp [h]
    omega
theorem tx_BBt {n i c : Nat} {bt : Nat → Int32} (h : tx_BB n bt i c = true) : i < n ∧ bt i = nI c := by
  unfold tx_BB at h
  exact of_decide_eq_true h
theorem tx_DGs {n i v : Nat} {bt : Nat → Int32} (h : tx_DG n bt i = some v) : i < n ∧ v < 10 ∧ bt i = nI (48 + v) := by
  unfold tx_DG at h
  by_cases g : i < n
  · rw [if_pos g] at h
    rcases tx_dgc (bt i) with ⟨w, h1, h2, h3⟩ | ⟨h1, h2⟩
    · rw [h3] at h
      cases h
      exact ⟨g, h1, h2⟩
    · rw [h2] at h
      cases h
  · rw [if_neg g] at h
    cases h
theorem tx_DGC {n i : Nat} {bt : Nat → Int32} (h : tx_DG n bt i = none) : ¬ (nI 48 ≤ tx_sC n bt i ∧ tx_sC n bt i ≤ nI 57) := by
  rw [← tx_dC] at h
  rcases tx_dgc (tx_sC n bt i) with ⟨w, h1, h2, h3⟩ | ⟨h1, h2⟩
  · rw [h3] at h
    cases h
  · exact h1
theorem tx_DGM {n i : Nat} {bt : Nat → Int32} (h : tx_DG n bt i = none) : ¬ (nI 48 ≤ tx_sM n bt i ∧ tx_sM n bt i ≤ nI 57) := by
  rw [← tx_dM] at h
  rcases tx_dgc (tx_sM n bt i) with ⟨w, h1, h2, h3⟩ | ⟨h1, h2⟩
  · rw [h3] at h
    cases h
  · exact h1
theorem tx_FGs {n lo hi i v : Nat} {bt : Nat → Int32} (h : tx_FG n bt lo hi i = some v) : tx_DG n bt i = some v ∧ i < n ∧ v < 10 ∧ lo ≤ v ∧ v ≤ hi := by
  unfold tx_FG at h
  cases g : tx_DG n bt i with
  | none => rw [g] at h; cases h
  | some w =>
    rw [g, Option.bind_some] at h
    by_cases q : lo ≤ w ∧ w ≤ hi
    · rw [if_pos q] at h
      cases h
      exact ⟨rfl, (tx_DGs g).1, (tx_DGs g).2.1, q.1, q.2⟩
    · rw [if_neg q] at h
      cases h
theorem tx_FGn {n lo hi i : Nat} {bt : Nat → Int32} (h : tx_FG n bt lo hi i = none) : tx_DG n bt i = none ∨ ∃ v, tx_DG n bt i = some v ∧ ¬ (lo ≤ v ∧ v ≤ hi) := by
  unfold tx_FG at h
  cases g : tx_DG n bt i with
  | none => exact Or.inl rfl
  | some w =>
    rw [g, Option.bind_some] at h
    by_cases q : lo ≤ w ∧ w ≤ hi
    · rw [if_pos q] at h
      cases h
    · exact Or.inr ⟨w, rfl, q⟩
theorem tx_FG9 {n i : Nat} {bt : Nat → Int32} : tx_FG n bt 0 9 i = tx_DG n bt i := by
  unfold tx_FG
  cases g : tx_DG n bt i with
  | none => rfl
  | some w =>
    have := (tx_DGs g).2.1
    rw [Option.bind_some, if_pos (by omega)]
def tx_sk (n : Nat) (bt : Nat → Int32) : Nat → Nat → Nat
  | 0, i => i
  | m + 1, i => if i < n ∧ bt i = nI 32 then tx_sk n bt m (i + 1) else i
theorem tx_sk_le {n : Nat} {bt : Nat → Int32} : ∀ (m i : Nat), i ≤ n → tx_sk n bt m i ≤ n
  | 0, _, h => h
  | m + 1, i, h => by
    unfold tx_sk
    split
    · exact tx_sk_le m (i + 1) (by omega)
    · exact h
theorem tx_sk_nb {n : Nat} {bt : Nat → Int32} : ∀ (m i : Nat), n ≤ i + m → ¬ (tx_sk n bt m i < n ∧ bt (tx_sk n bt m i) = nI 32)
  | 0, i, h => by
    show ¬ (i < n ∧ _)
    omega
  | m + 1, i, h => by
    unfold tx_sk
    split
    · exact tx_sk_nb m (i + 1) (by omega)
    · assumption
def tx_pr (n : Nat) (bt : Nat → Int32) (lo hi i : Nat) : Option Nat × Nat := match tx_FG n bt lo hi i with
  | none => (none, i)
  | some a => if tx_BB n bt (i + 1) 58 = true then (match tx_FG n bt 0 3 (i + 2) with
    | none => (none, i + 2)
    | some w => (some (4 * (a - lo) + w), i + 3)) else (none, i + 1)
def tx_cz (n : Nat) (bt : Nat → Int32) (i : Nat) : Option Nat × Nat :=
  if tx_BB n bt i 99 = true then (match tx_FG n bt 0 3 (i + 1) with
    | none => (none, i + 1)
    | some v => (some v, i + 2))
  else if tx_BB n bt i 121 = true then (some 4, i + 1)
  else if tx_BB n bt i 98 = true then (match tx_FG n bt 2 7 (i + 1) with
    | none => (none, i + 1)
    | some v => (some (3 + v), i + 2))
  else if tx_BB n bt i 115 = true then ((tx_pr n bt 2 9 (i + 1)).1.map (11 + ·), (tx_pr n bt 2 9 (i + 1)).2)
  else if tx_BB n bt i 97 = true then ((tx_pr n bt 0 3 (i + 1)).1.map (43 + ·), (tx_pr n bt 0 3 (i + 1)).2)
  else (none, i)
def tx_rz (n : Nat) (bt : Nat → Int32) : Nat → Nat → (Nat → Nat) → Nat → Option Nat × Nat × (Nat → Nat)
  | 0, k, cl, i => (if n ≤ tx_sk n bt 120 i then none else some (tx_sk n bt 120 i), k, cl)
  | r + 1, k, cl, i => if n ≤ tx_sk n bt 120 i then (none, k, cl) else match tx_cz n bt (tx_sk n bt 120 i) with
    | (some c, p) => tx_rz n bt r (k + 1) (fun x => if x = k then c else cl x) p
    | (none, p) => (some p, k, cl)
def tx_NM (n : Nat) (bt : Nat → Int32) (lo hi i : Nat) : Option Nat × Nat := match tx_DG n bt i with
  | none => (none, i)
  | some a => match tx_DG n bt (i + 1) with
    | none => (if lo ≤ a ∧ a ≤ hi then some a else none, i + 1)
    | some b => (if lo ≤ 10 * a + b ∧ 10 * a + b ≤ hi then some (10 * a + b) else none, i + 2)
def tx_lz (n : Nat) (bt : Nat → Int32) (days next i : Nat) : Option (Nat × Nat) × Nat := if tx_BB n bt i 100 = true then (match tx_NM n bt next (days - 1) (i + 1) with
    | (none, p) => (none, p)
    | (some d, p) => if tx_BB n bt p 58 = true then (match tx_FG n bt 0 3 (p + 1) with
      | none => (none, p + 1)
      | some w => (some (d, w), p + 2)) else (none, p)) else (none, i)
def tx_pz (n : Nat) (bt : Nat → Int32) (days : Nat) : Nat → Nat → (Nat → Option Nat) → Nat → Option Nat × (Nat → Option Nat)
  | 0, _, ln, i => (some i, ln)
  | f + 1, next, ln, i => if n ≤ tx_sk n bt 120 i then (none, ln) else match tx_lz n bt days next (tx_sk n bt 120 i) with
    | (some (d, w), p) => tx_pz n bt days f (d + 1) (fun x => if x = d then some w else ln x) p
    | (none, p) => (some p, ln)
/-- what a text holds as a page: its fault, its days, its lines -/
def tx_pg (n : Nat) (bt : Nat → Int32) : Option Nat × Nat × (Nat → Option Nat) := if tx_BB n bt (tx_sk n bt 120 0) 110 = true then (match tx_NM n bt 1 24 (tx_sk n bt 120 0 + 1) with
    | (none, p) => (some p, 0, fun _ => none)
    | (some days, p) => ((tx_pz n bt days 25 0 (fun _ => none) p).1, days, (tx_pz n bt days 25 0 (fun _ => none) p).2)) else (some (tx_sk n bt 120 0), 0, fun _ => none)
/-! places and numbers stay small -/
theorem tx_pr_le {n lo hi i : Nat} {bt : Nat → Int32} (h : i ≤ n) : (tx_pr n bt lo hi i).2 ≤ n ∧ ∀ w, (tx_pr n bt lo hi i).1 = some w → w ≤ 4 * (hi - lo) + 3 := by
  unfold tx_pr
  cases g : tx_FG n bt lo hi i with
  | none => exact ⟨h, fun w q => by cases q⟩
  | some a =>
    obtain ⟨g1, g2, g3, g4, g5⟩ := tx_FGs g
    dsimp only
    split
    · rename_i q
      have q1 := (tx_BBt q).1
      cases g' : tx_FG n bt 0 3 (i + 2) with
      | none => exact ⟨by show i + 2 ≤ n; omega, fun w q => by cases q⟩
      | some w =>
        obtain ⟨f1, f2, f3, f4, f5⟩ := tx_FGs g'
        exact ⟨by show i + 3 ≤ n; omega, fun w q => by cases q; omega⟩
    · exact ⟨by show i + 1 ≤ n; omega, fun w q => by cases q⟩
theorem tx_cz_le {n i : Nat} {bt : Nat → Int32} (h : i < n) : (tx_cz n bt i).2 ≤ n ∧ ∀ c, (tx_cz n bt i).1 = some c → c < 59 := by
  unfold tx_cz
  split
  · cases g : tx_FG n bt 0 3 (i + 1) with
    | none => exact ⟨by show i + 1 ≤ n; omega, fun w q => by cases q⟩
    | some w =>
      obtain ⟨f1, f2, f3, f4, f5⟩ := tx_FGs g
      exact ⟨by show i + 2 ≤ n; omega, fun w q => by cases q; omega⟩
  split
  · exact ⟨by show i + 1 ≤ n; omega, fun w q => by cases q; omega⟩
  split
  · cases g : tx_FG n bt 2 7 (i + 1) with
    | none => exact ⟨by show i + 1 ≤ n; omega, fun w q => by cases q⟩
    | some w =>
      obtain ⟨f1, f2, f3, f4, f5⟩ := tx_FGs g
      exact ⟨by show i + 2 ≤ n; omega, fun w q => by cases q; omega⟩
  split
  · have := tx_pr_le (n := n) (bt := bt) (lo := 2) (hi := 9) (i := i + 1) (by omega)
    refine ⟨this.1, fun w q => ?_⟩
    cases g : (tx_pr n bt 2 9 (i + 1)).1 with
    | none => rw [g] at q; cases q
    | some v => rw [g] at q; cases q; have := this.2 v g; show 11 + v < 59; omega
  split
  · have := tx_pr_le (n := n) (bt := bt) (lo := 0) (hi := 3) (i := i + 1) (by omega)
    refine ⟨this.1, fun w q => ?_⟩
    cases g : (tx_pr n bt 0 3 (i + 1)).1 with
    | none => rw [g] at q; cases q
    | some v => rw [g] at q; cases q; have := this.2 v g; show 43 + v < 59; omega
  · exact ⟨by show i ≤ n; omega, fun w q => by cases q⟩
theorem tx_rz_le {n : Nat} {bt : Nat → Int32} : ∀ (r k : Nat) (cl : Nat → Nat) (i : Nat), i ≤ n → k + r ≤ 4 → (∀ x, x < k → cl x < 59) → (tx_rz n bt r k cl i).2.1 ≤ 4 ∧ ∀ x, x < (tx_rz n bt r k cl i).2.1 → (tx_rz n bt r k cl i).2.2 x < 59
  | 0, k, cl, i, _, h, hc => ⟨by show k ≤ 4; omega, hc⟩
  | r + 1, k, cl, i, hi, h, hc => by
    have hs := tx_sk_le (bt := bt) 120 i hi
    unfold tx_rz
    split
    · exact ⟨by show k ≤ 4; omega, hc⟩
    · have hz := tx_cz_le (n := n) (bt := bt) (i := tx_sk n bt 120 i) (by omega)
      split
      next c p e =>
        rw [e] at hz
        refine tx_rz_le r (k + 1) _ p hz.1 (by omega) (fun x hx => ?_)
        split
        · exact hz.2 c rfl
        · exact hc x (by omega)
      next => exact ⟨by show k ≤ 4; omega, hc⟩
theorem tx_NM_le {n lo hi i : Nat} {bt : Nat → Int32} (h : i ≤ n) : (tx_NM n bt lo hi i).2 ≤ n ∧ ∀ d, (tx_NM n bt lo hi i).1 = some d → lo ≤ d ∧ d ≤ hi := by
  unfold tx_NM
  cases g : tx_DG n bt i with
  | none => exact ⟨h, fun d q => by cases q⟩
  | some a =>
    have ga := (tx_DGs g).1
    dsimp only
    cases g' : tx_DG n bt (i + 1) with
    | none =>
      refine ⟨by show i + 1 ≤ n; omega, fun d q => ?_⟩
      dsimp only at q
      split at q
      · cases q; assumption
      · cases q
    | some b =>
      have gb := (tx_DGs g').1
      refine ⟨by show i + 2 ≤ n; omega, fun d q => ?_⟩
      dsimp only at q
      split at q
      · cases q; assumption
      · cases q
theorem tx_lz_le {n days next i : Nat} {bt : Nat → Int32} (h : i ≤ n) : (tx_lz n bt days next i).2 ≤ n ∧ ∀ d w, (tx_lz n bt days next i).1 = some (d, w) → next ≤ d ∧ d ≤ days - 1 ∧ w < 4 := by
  unfold tx_lz
  split
  · rename_i q
    have q1 := (tx_BBt q).1
    have hz := tx_NM_le (n := n) (bt := bt) (lo := next) (hi := days - 1) (i := i + 1) (by omega)
    split
    next p e => rw [e] at hz; exact ⟨hz.1, fun d w q => by cases q⟩
    next d p e =>
      rw [e] at hz
      split
      · rename_i q'
        have q2 := (tx_BBt q').1
        cases g : tx_FG n bt 0 3 (p + 1) with
        | none => exact ⟨by show p + 1 ≤ n; omega, fun d w q => by cases q⟩
        | some w =>
          obtain ⟨f1, f2, f3, f4, f5⟩ := tx_FGs g
          have := hz.2 d rfl
          exact ⟨by show p + 2 ≤ n; omega, fun d w q => by cases q; omega⟩
      · exact ⟨hz.1, fun d w q => by cases q⟩
  · exact ⟨h, fun d w q => by cases q⟩
