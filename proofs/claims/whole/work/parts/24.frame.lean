/-! scratch and data; what a call that changes scratch alone keeps -/
def Scr (k i : Nat) : Prop := (57 ≤ k ∧ k ≤ 74) ∨ k = 80 ∨ (89 ≤ k ∧ k ≤ 93) ∨ k = 96 ∨ k = 99 ∨ k = 100 ∨ (k = 76 ∧ i ≠ 0 ∧ i ≠ 2 ∧ i ≠ 37)
def Fs (U V : pm_U) : Prop := (∀ k i, ¬ Scr k i → V.1 k i = U.1 k i) ∧ V.2.1 1 17 = U.2.1 1 17 ∧ V.2.1 1 18 = U.2.1 1 18 ∧ V.2.1 76 3 = U.2.1 76 3 ∧ V.2.1 76 4 = U.2.1 76 4
def Dt (k i : Nat) : Prop := (3 ≤ k ∧ k ≤ 54) ∨ k = 78 ∨ k = 79 ∨ (81 ≤ k ∧ k ≤ 88) ∨ k = 94 ∨ k = 95 ∨ k = 97 ∨ k = 98 ∨ (k = 76 ∧ i = 37)
def Ag (U V : pm_U) : Prop := ∀ k i, Dt k i → V.1 k i = U.1 k i
theorem Fs.refl (U : pm_U) : Fs U U := ⟨fun _ _ _ => rfl, rfl, rfl, rfl, rfl⟩
theorem Fs.trans {U V W : pm_U} (h : Fs U V) (g : Fs V W) : Fs U W := ⟨fun k i q => (g.1 k i q).trans (h.1 k i q), g.2.1.trans h.2.1, g.2.2.1.trans h.2.2.1, g.2.2.2.1.trans h.2.2.2.1, g.2.2.2.2.trans h.2.2.2.2⟩
theorem Ag.refl (U : pm_U) : Ag U U := fun _ _ _ => rfl
theorem Ag.trans {U V W : pm_U} (h : Ag U V) (g : Ag V W) : Ag U W := fun k i q => (g k i q).trans (h k i q)
theorem Fs.ag {U V : pm_U} (h : Fs U V) : Ag U V := fun k i q => h.1 k i (by unfold Dt at q; unfold Scr; omega)
theorem fs_w {U : pm_U} {F : Nat → Nat → Int32} (h : ∀ k i, ¬ Scr k i → F k i = U.1 k i) : Fs U (pm_w U F) := ⟨h, rfl, rfl, rfl, rfl⟩
theorem fs_up {U : pm_U} {k i : Nat} {v : Int32} (h : Scr k i) : Fs U (pm_up U k i v) := ⟨fun k' i' q => by
  rw [pm_up_1, if_neg]
  rintro ⟨rfl, rfl⟩
  exact q h, rfl, rfl, rfl, rfl⟩
theorem ag_up {U : pm_U} {k i : Nat} {v : Int32} (h : ¬ Dt k i) : Ag U (pm_up U k i v) := fun k' i' q => by
  rw [pm_up_1, if_neg]
  rintro ⟨rfl, rfl⟩
  exact h q
theorem inv_fs {U V : pm_U} (h : Inv U) (f : Fs U V) : Inv V := by
  obtain ⟨⟨⟨h1, h2⟩, h3, h4⟩, h5, h6, h7, h8, h9, h10⟩ := h
  obtain ⟨f1, f2, f3, f4, f5⟩ := f
  refine ⟨⟨⟨?_, ?_⟩, ⟨?_, ?_⟩, fun w hw => ?_⟩, h5.cg ?_, h6.cg ?_, h7.cg ?_, h8.cg ?_, h9.cg ?_, h10.cg ?_⟩
  · rw [f1 _ _ (by unfold Scr; omega), f1 _ _ (by unfold Scr; omega)]; exact h1
  · rw [f1 _ _ (by unfold Scr; omega), f1 _ _ (by unfold Scr; omega)]; exact h2
  · rw [f2, f4]; exact h3.1
  · rw [f3, f5]; exact h3.2
  · rw [f1 _ _ (by unfold Scr; omega), f1 _ _ (by unfold Scr; omega)]; exact h4 w hw
  all_goals (intro k i hk; exact f1 _ _ (by unfold Scr; omega))
theorem inv_told {U U1 U2 : pm_U} {t : Int32} (h : Inv U) (f1 : Fs U U1) (f2 : Fs (pm_up U1 1 16 t) U2) : Inv (pm_up U2 76 2 t) := by
  refine inv_fs (inv_tell (v := t) (inv_fs h f1)) ⟨fun k i q => ?_, f2.2.1, f2.2.2.1, f2.2.2.2.1, f2.2.2.2.2⟩
  have := f2.1 k i q
  simp only [pm_up_1] at this ⊢
  rw [this]
theorem inv_found {U U1 U2 : pm_U} {w : Nat} (h : Inv U) (hw : w < 6) (f1 : Fs U U1) (f2 : Fs (pm_up (pm_up U1 1 15 (nI w)) 75 w (U1.1 75 w + nI 1)) U2) : Inv (pm_up (pm_up U2 76 0 (nI w)) 77 w (U2.1 77 w + nI 1)) := by
  refine inv_fs (inv_find (w := w) (inv_fs h f1) hw) ⟨fun k i q => ?_, f2.2.1, f2.2.2.1, f2.2.2.2.1, f2.2.2.2.2⟩
  have e := f2.1 k i q
  have e2 := f2.1 77 w (by unfold Scr; omega)
  simp only [pm_up_1] at e e2 ⊢
  rw [e, e2]
  simp (disch := omega) only [if_neg]
theorem ok_tell {X : pm_X} {jC jM : Nat} {as : List Value} {U : pm_U} {v : Value} (t : Int32) (h : Inv U) (hc : ∃ U1, pm_V0 X jC (.ref 1 :: as) (pm_hp U) = some (some v, pm_hp (pm_up U1 1 16 t)) ∧ Fs U U1) (hm : ∀ U', Ag U U' → ∃ U2, pm_V0 X jM (.ref 76 :: as) (pm_hp U') = some (some v, pm_hp (pm_up U2 76 2 t)) ∧ Fs U' U2) : Ok X jC jM as U := by
  obtain ⟨U1, c1, c2⟩ := hc
  obtain ⟨U2, m1, m2⟩ := hm (pm_up U1 1 16 t) (c2.ag.trans (ag_up (by unfold Dt; omega)))
  exact ⟨v, _, _, c1, m1, inv_told h c2 m2⟩
theorem ok_find {X : pm_X} {jC jM : Nat} {as : List Value} {U : pm_U} {v : Value} (w : Nat) (hw : w < 6) (h : Inv U) (hc : ∃ U1, pm_V0 X jC (.ref 1 :: as) (pm_hp U) = some (some v, pm_hp (pm_up (pm_up U1 1 15 (nI w)) 75 w (U1.1 75 w + nI 1))) ∧ Fs U U1) (hm : ∀ U', Ag U U' → ∃ U2, pm_V0 X jM (.ref 76 :: as) (pm_hp U') = some (some v, pm_hp (pm_up (pm_up U2 76 0 (nI w)) 77 w (U2.1 77 w + nI 1))) ∧ Fs U' U2) : Ok X jC jM as U := by
  obtain ⟨U1, c1, c2⟩ := hc
  obtain ⟨U2, m1, m2⟩ := hm (pm_up (pm_up U1 1 15 (nI w)) 75 w (U1.1 75 w + nI 1)) (c2.ag.trans ((ag_up (by unfold Dt; omega)).trans (ag_up (by unfold Dt; omega))))
  exact ⟨v, _, _, c1, m1, inv_found h hw c2 m2⟩
theorem ok_same {X : pm_X} {jC jM : Nat} {as : List Value} {U : pm_U} {v : Value} (h : Inv U) (hc : ∃ U1, pm_V0 X jC (.ref 1 :: as) (pm_hp U) = some (some v, pm_hp U1) ∧ Fs U U1) (hm : ∀ U', Ag U U' → ∃ U2, pm_V0 X jM (.ref 76 :: as) (pm_hp U') = some (some v, pm_hp U2) ∧ Fs U' U2) : Ok X jC jM as U := by
  obtain ⟨U1, c1, c2⟩ := hc
  obtain ⟨U2, m1, m2⟩ := hm U1 c2.ag
  exact ⟨v, _, _, c1, m1, inv_fs h (c2.trans m2)⟩
/-! rules, pages, rows as both sides hold them -/
def encM (o : Option Nat) : Int32 := match o with
  | some w => nI w
  | none => -1
def Ln (n : Nat) (ln : Nat → Option Nat) : Prop := ∀ d w, ln d = some w → d < n ∧ w < 4
def RuM (U : pm_U) (k m : Nat) (cl : Nat → Nat) : Prop := m ≤ 4 ∧ U.1 84 k = nI 1 ∧ U.1 83 k = nI m ∧ ∀ i, i < m → cl i < 59 ∧ U.1 85 (4 * k + i) = nI (cl i)
def PgC (U : pm_U) (p n : Nat) (ln : Nat → Option Nat) : Prop := pm_ly p = some (.inl 2) ∧ (1 ≤ n ∧ n ≤ 24) ∧ U.1 p 0 = nI n ∧ (∀ d, d < 24 → U.1 (p + 1) d = enc (ln d)) ∧ Ln n ln
def PgM (U : pm_U) (k n : Nat) (ln : Nat → Option Nat) : Prop := (1 ≤ n ∧ n ≤ 24) ∧ U.1 86 k = nI 1 ∧ U.1 87 k = nI n ∧ (∀ d, d < 24 → U.1 88 (24 * k + d) = encM (ln d)) ∧ Ln n ln
def MPg (U : pm_U) (n : Nat) (ln : Nat → Option Nat) : Prop := (1 ≤ n ∧ n ≤ 24) ∧ U.1 76 25 = nI n ∧ (∀ d, d < 24 → U.1 92 d = encM (ln d)) ∧ Ln n ln
theorem inv_rule {U : pm_U} (h : Inv U) {k : Nat} (hk : k < 4) : (U.1 (25 + 2 * k) 0 = -1 ∧ U.1 84 k = nI 0) ∨ ∃ m cl, Cl U (25 + 2 * k) m cl ∧ RuM U k m cl := by
  rcases h.2.2.2.1 k hk with g | ⟨n, hn, g1, g2, g3, g4⟩
  · exact Or.inl g
  · refine Or.inr ⟨n, fun i => (U.1 85 (4 * k + i)).toNatClampNeg, ⟨ly_rule k hk, hn, g1, fun i hi => ?_⟩, hn, g2, g3, fun i hi => ?_⟩
    all_goals (obtain ⟨c, hc, q1, q2⟩ := g4 i hi; simp only [q1, q2, nI_clamp (show c < 2 ^ 31 by omega)]; exact ⟨hc, trivial⟩)
theorem inv_page {U : pm_U} (h : Inv U) {k : Nat} (hk : k < 4) : (U.1 (34 + 2 * k) 0 = nI 0 ∧ U.1 86 k = nI 0) ∨ ∃ n ln, PgC U (34 + 2 * k) n ln ∧ PgM U k n ln := by
  rcases h.2.2.2.2.1 k hk with g | ⟨n, hn, g1, g2, g3, g4⟩
  · exact Or.inl g
  · have hl : ∃ ln : Nat → Option Nat, (∀ d, d < 24 → U.1 (34 + 2 * k + 1) d = enc (ln d) ∧ U.1 88 (24 * k + d) = encM (ln d)) ∧ Ln n ln := by
      refine ⟨fun d => if d < 24 ∧ U.1 88 (24 * k + d) ≠ -1 then some (U.1 88 (24 * k + d)).toNatClampNeg else none, fun d hd => ?_, fun d w q => ?_⟩
      · rcases g4 d hd with ⟨q1, q2⟩ | ⟨q0, w, hw, q1, q2⟩
        · simp [q1, q2, enc, encM]
        · have hne : nI w ≠ -1 := by
            have := m1_n (a := w) (by omega)
            rw [ne_eq, this]; exact not_false
          simp [q1, q2, enc, encM, hd, hne, nI_clamp (show w < 2 ^ 31 by omega)]
      · by_cases hd : d < 24 ∧ U.1 88 (24 * k + d) ≠ -1
        · replace q := (if_pos hd).symm.trans q
          rcases g4 d hd.1 with ⟨q1, q2⟩ | ⟨q0, w', hw, q1, q2⟩
          · exact absurd q2 hd.2
          · rw [q2, nI_clamp (by omega)] at q
            cases q
            exact ⟨q0, hw⟩
        · replace q := (if_neg hd).symm.trans q
          cases q
    obtain ⟨ln, l1, l2⟩ := hl
    exact Or.inr ⟨n, ln, ⟨ly_page k hk, hn, g1, fun d hd => (l1 d hd).1, l2⟩, hn, g2, g3, fun d hd => (l1 d hd).2, l2⟩
theorem inv_row {U : pm_U} (h : Inv U) {r : Nat} (hr : r < 6) : (U.1 (3 + 2 * r) 0 = -1 ∧ U.1 78 r = -1) ∨ ∃ n, n ≤ 60 ∧ U.1 (3 + 2 * r) 0 = nI n ∧ U.1 78 r = nI n ∧ ∀ i, i < n → U.1 (3 + 2 * r + 1) i = U.1 79 (60 * r + i) := by
  obtain ⟨g1, g2⟩ := h.2.1 r hr
  rcases g2 with g2 | ⟨n, hn, g3, g4⟩
  · exact Or.inl ⟨g1.trans g2, g2⟩
  · exact Or.inr ⟨n, hn, g1.trans g3, g3, g4⟩
theorem RuM.ag {U V : pm_U} {k m : Nat} {cl : Nat → Nat} (h : RuM U k m cl) (a : Ag U V) : RuM V k m cl := by
  obtain ⟨h1, h2, h3, h4⟩ := h
  exact ⟨h1, by rw [a _ _ (by unfold Dt; omega)]; exact h2, by rw [a _ _ (by unfold Dt; omega)]; exact h3, fun i hi => ⟨(h4 i hi).1, by rw [a _ _ (by unfold Dt; omega)]; exact (h4 i hi).2⟩⟩
theorem Cl.cg {U V : pm_U} {k m : Nat} {cl : Nat → Nat} (h : Cl U k m cl) (a : ∀ k' i, k' = k ∨ k' = k + 1 → V.1 k' i = U.1 k' i) : Cl V k m cl := by
  obtain ⟨h1, h2, h3, h4⟩ := h
  exact ⟨h1, h2, by rw [a _ _ (by omega)]; exact h3, fun i hi => ⟨(h4 i hi).1, by rw [a _ _ (by omega)]; exact (h4 i hi).2⟩⟩
theorem Cl.ag {U V : pm_U} {k m : Nat} {cl : Nat → Nat} (h : Cl U k m cl) (hk : 25 ≤ k ∧ k ≤ 31) (a : Ag U V) : Cl V k m cl := h.cg (fun k' i q => a _ _ (by unfold Dt; omega))
theorem PgM.ag {U V : pm_U} {k n : Nat} {ln : Nat → Option Nat} (h : PgM U k n ln) (a : Ag U V) : PgM V k n ln := by
  obtain ⟨h1, h2, h3, h4, h5⟩ := h
  exact ⟨h1, by rw [a _ _ (by unfold Dt; omega)]; exact h2, by rw [a _ _ (by unfold Dt; omega)]; exact h3, fun d hd => by rw [a _ _ (by unfold Dt; omega)]; exact h4 d hd, h5⟩
theorem PgC.cg {U V : pm_U} {k n : Nat} {ln : Nat → Option Nat} (h : PgC U k n ln) (a : ∀ k' i, k' = k ∨ k' = k + 1 → V.1 k' i = U.1 k' i) : PgC V k n ln := by
  obtain ⟨h1, h2, h3, h4, h5⟩ := h
  exact ⟨h1, h2, by rw [a _ _ (by omega)]; exact h3, fun d hd => by rw [a _ _ (by omega)]; exact h4 d hd, h5⟩
theorem PgC.ag {U V : pm_U} {k n : Nat} {ln : Nat → Option Nat} (h : PgC U k n ln) (hk : 34 ≤ k ∧ k ≤ 40) (a : Ag U V) : PgC V k n ln := h.cg (fun k' i q => a _ _ (by unfold Dt; omega))
theorem MCl.cg {U V : pm_U} {m : Nat} {cl : Nat → Nat} (h : MCl U m cl) (a : ∀ k' i, k' = 91 ∨ (k' = 76 ∧ i = 23) → V.1 k' i = U.1 k' i) : MCl V m cl := by
  obtain ⟨h1, h2, h3⟩ := h
  exact ⟨h1, by rw [a _ _ (by omega)]; exact h2, fun i hi => ⟨(h3 i hi).1, by rw [a _ _ (by omega)]; exact (h3 i hi).2⟩⟩
theorem MPg.cg {U V : pm_U} {n : Nat} {ln : Nat → Option Nat} (h : MPg U n ln) (a : ∀ k' i, k' = 92 ∨ (k' = 76 ∧ i = 25) → V.1 k' i = U.1 k' i) : MPg V n ln := by
  obtain ⟨h1, h2, h3, h4⟩ := h
  exact ⟨h1, by rw [a _ _ (by omega)]; exact h2, fun d hd => by rw [a _ _ (by omega)]; exact h3 d hd, h4⟩
/-! all days -/
def al (m : Nat) (cl : Nat → Nat) (ln : Nat → Option Nat) (i : Nat) : Nat := ex_dy m cl ln (i + 1) i
theorem ex_cl_cg {c d : Nat} {f g : Nat → Nat} (h : ∀ i, i < d → f i = g i) : ex_cl c f d = ex_cl c g d := by
  unfold ex_cl
  by_cases h1 : c < 4
  · simp [h1]
  by_cases h2 : c < 11
  · by_cases h3 : c - 3 ≤ d
    · simp [h1, h2, h3, h (d - (c - 3)) (by omega)]
    · simp [h1, h2, h3]
  by_cases h3 : c < 43
  · simp [h1, h2, h3]
  by_cases h4 : 1 ≤ d
  · simp [h1, h2, h3, h (d - 1) (by omega)]
  · have : ¬ (1 ≤ d ∧ f (d - 1) = (c - 43) / 4) := fun q => h4 q.1
    have : ¬ (1 ≤ d ∧ g (d - 1) = (c - 43) / 4) := fun q => h4 q.1
    simp [h1, h2, h3, *]
theorem ex_at_cg {cl f g : Nat → Nat} {d : Nat} (h : ∀ i, i < d → f i = g i) : ∀ (n i : Nat), ex_at cl f d n i = ex_at cl g d n i := by
  intro n
  induction n with
  | zero => intro i; rfl
  | succ n ih => intro i; unfold ex_at; rw [ex_cl_cg h, ih]
theorem ex_ex_cg {m d : Nat} {cl f g : Nat → Nat} (h : ∀ i, i < d → f i = g i) : ex_ex m cl f d = ex_ex m cl g d := by
  unfold ex_ex; rw [ex_at_cg h]
theorem ex_dy_al {m : Nat} {cl : Nat → Nat} {ln : Nat → Option Nat} : ∀ {n i : Nat}, i < n → ex_dy m cl ln n i = al m cl ln i := by
  intro n
  induction n with
  | zero => intro i h; omega
  | succ n ih =>
    intro i h
    by_cases e : i = n
    · subst e; rfl
    · rw [← ih (show i < n by omega)]
      show (if i = n then _ else _) = _
      rw [if_neg e]
theorem al_eq {m d : Nat} {cl : Nat → Nat} {ln : Nat → Option Nat} : al m cl ln d = (ln d).getD (ex_ex m cl (al m cl ln) d) := by
  show (if d = d then _ else _) = _
  rw [if_pos rfl, ex_ex_cg (g := ex_dy m cl ln d) (fun i hi => (ex_dy_al hi).symm)]
  cases ln d <;> rfl
theorem al_lt {m n : Nat} {cl : Nat → Nat} {ln : Nat → Option Nat} (hc : ∀ i, i < m → cl i < 59) (hl : Ln n ln) : ∀ d, al m cl ln d < 4 := by
  intro d
  induction d using Nat.strongRecOn with
  | ind d ih =>
    rw [al_eq]
    cases h : ln d with
    | none => exact ex_ex_lt hc ih
    | some w => exact (hl d w h).2
theorem Ln.none {n d : Nat} {ln : Nat → Option Nat} (h : Ln n ln) (hd : n ≤ d) : ln d = none := by
  cases q : ln d with
  | none => rfl
  | some w => have := (h d w q).1; omega
theorem Dy.cg {U V : pm_U} {q d : Nat} {dy : Nat → Nat} (h : Dy U q dy d) (a : ∀ i, i < d → V.1 q i = U.1 q i) : Dy V q dy d := ⟨h.1, h.2.1, fun i hi => ⟨(h.2.2 i hi).1, by rw [a i hi]; exact (h.2.2 i hi).2⟩⟩
theorem MDy.cg {U V : pm_U} {d : Nat} {dy : Nat → Nat} (h : MDy U dy d) (a : ∀ i, i < d → V.1 93 i = U.1 93 i) : MDy V dy d := fun i hi => ⟨(h i hi).1, by rw [a i hi]; exact (h i hi).2⟩
