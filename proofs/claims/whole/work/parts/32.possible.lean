/-! the rules of a size that make a page possible -/
def mN (k : Nat) : Nat := if k < 59 then 1 else 2
def cN (k i : Nat) : Nat := if i = 0 then (if k < 59 then k else k / 59 - 1) else k % 59
theorem cN_lt {k : Nat} (hk : k < 3540) (i : Nat) : cN k i < 59 := by
  unfold cN
  split
  · split <;> omega
  · omega
theorem sp_bn2 {X : pm_X} {k n : Nat} {U : pm_U} (ho : pm_ly k = some (.inl 6)) (hn : n < 3540) : ∃ A, pm_V0 X 46 [.ref k, .int (nI n)] (pm_hp U) = some (none, pm_hp A) ∧ Cl A k (mN n) (cN n) ∧ (∀ k' i, ¬ (k' = k ∨ k' = k + 1) → A.1 k' i = U.1 k' i) ∧ A.2 = U.2 := by
  refine ⟨_, sp_becomeNumber ho hn, ⟨ho, ?_, ?_, fun i hi => ⟨cN_lt hn i, ?_⟩⟩, fun k' i z => ?_, ?_⟩
  · unfold mN; split <;> omega
  · unfold mN; split <;> simp (disch := omega) only [pm_w_1, pm_up_1, if_pos, if_neg, Nat.reduceAdd, Nat.reduceMul, and_self, and_true, true_and, if_true, eq_self]
  · unfold mN at hi
    unfold cN
    by_cases h : n < 59
    · rw [if_pos h] at hi
      have e : i = 0 := by omega
      subst e
      simp (disch := omega) only [pm_w_1, pm_up_1, if_pos, if_neg, Nat.reduceAdd, Nat.reduceMul, and_self, and_true, true_and, if_true, eq_self]
    · rw [if_neg h] at hi
      rcases (show i = 0 ∨ i = 1 by omega) with rfl | rfl
      · simp (disch := omega) only [pm_w_1, pm_up_1, if_pos, if_neg, Nat.reduceAdd, Nat.reduceMul, and_self, and_true, true_and, if_true, eq_self]
      · simp (disch := omega) only [pm_w_1, pm_up_1, if_pos, if_neg, Nat.reduceAdd, Nat.reduceMul, and_self, and_true, true_and, if_true, eq_self]
  · split <;> simp (disch := omega) only [pm_w_1, pm_up_1, if_pos, if_neg, Nat.reduceAdd, Nat.reduceMul, and_self, and_true, true_and, if_true, eq_self]
  · split <;> rfl
theorem sp_ln2 {X : pm_X} {n : Nat} {U : pm_U} (hn : n < 3540) : ∃ A, pm_V0 X 186 [.ref 76, .int (nI n)] (pm_hp U) = some (none, pm_hp A) ∧ MCl A (mN n) (cN n) ∧ (∀ k' i, ¬ (k' = 91 ∨ (k' = 76 ∧ i = 23)) → A.1 k' i = U.1 k' i) ∧ A.2 = U.2 := by
  refine ⟨_, sp_layNumbered hn, ⟨?_, ?_, fun i hi => ⟨cN_lt hn i, ?_⟩⟩, fun k' i z => ?_, rfl⟩
  · unfold mN; split <;> omega
  · simp (disch := omega) only [pm_w_1, pm_up_1, if_pos, if_neg, Nat.reduceAdd, Nat.reduceMul, and_self, and_true, true_and, if_true, eq_self]
    rfl
  · unfold mN at hi
    unfold cN
    by_cases h : n < 59
    · rw [if_pos h] at hi
      have e : i = 0 := by omega
      subst e
      simp (disch := omega) only [pm_w_1, pm_up_1, if_pos, if_neg, Nat.reduceAdd, Nat.reduceMul, and_self, and_true, true_and, if_true, eq_self]
    · rw [if_neg h] at hi
      rcases (show i = 0 ∨ i = 1 by omega) with rfl | rfl
      · simp (disch := omega) only [pm_w_1, pm_up_1, if_pos, if_neg, Nat.reduceAdd, Nat.reduceMul, and_self, and_true, true_and, if_true, eq_self]
      · simp (disch := omega) only [pm_w_1, pm_up_1, if_pos, if_neg, Nat.reduceAdd, Nat.reduceMul, and_self, and_true, true_and, if_true, eq_self]
  · simp (disch := omega) only [pm_w_1, pm_up_1, if_pos, if_neg, Nat.reduceAdd, Nat.reduceMul, and_self, and_true, true_and, if_true, eq_self]
def psb (m : Nat) (cl : Nat → Nat) (ln : Nat → Option Nat) : Nat → Bool
  | 0 => true
  | d + 1 => psb m cl ln d && decide (ln d ≠ some (ex_ex m cl (al m cl ln) d))
/-- from day d on, l days left -/
def psf (m : Nat) (cl : Nat → Nat) (ln : Nat → Option Nat) : Nat → Nat → Bool
  | 0, _ => true
  | l + 1, d => decide (ln d ≠ some (ex_ex m cl (al m cl ln) d)) && psf m cl ln l (d + 1)
theorem psf_psb {m : Nat} {cl : Nat → Nat} {ln : Nat → Option Nat} : ∀ l d, (psb m cl ln d && psf m cl ln l d) = psb m cl ln (d + l)
  | 0, d => by simp [psf]
  | l + 1, d => by
    have := psf_psb (m := m) (cl := cl) (ln := ln) l (d + 1)
    rw [show d + (l + 1) = d + 1 + l by omega, ← this]
    show (psb m cl ln d && (_ && psf m cl ln l (d + 1))) = ((psb m cl ln d && _) && psf m cl ln l (d + 1))
    rw [Bool.and_assoc]
theorem psf_0 {m n : Nat} {cl : Nat → Nat} {ln : Nat → Option Nat} : psf m cl ln n 0 = psb m cl ln n := by
  have := psf_psb (m := m) (cl := cl) (ln := ln) n 0
  rw [Nat.zero_add] at this
  rw [← this]; rfl
theorem lp_isPossible {X : pm_X} {p n k m q : Nat} {ln : Nat → Option Nat} {cl : Nat → Nat} (hq : pm_ak q = 1 ∧ 24 ≤ pm_al q) (hqp : q ≠ p ∧ q ≠ p + 1 ∧ q ≠ k ∧ q ≠ k + 1) : ∀ (l d : Nat) (U : pm_U) (t : Option Value), PgC U p n ln → Cl U k m cl → Dy U q (al m cl ln) d → d + l = n → ∃ B, pm_V X 102 2 [some (.ref p), some (.ref k), some (.ref q), some (.int (nI d)), t] [] (0, 0) (pm_hp U) = some (some (.int (if psf m cl ln l d = true then nI 1 else nI 0)), pm_hp B) ∧ (∀ k' i, k' ≠ q → B.1 k' i = U.1 k' i) ∧ B.2 = U.2 ∧ (psf m cl ln l d = true → Dy B q (al m cl ln) n) := by
  obtain ⟨b1, b2⟩ := hq
  intro l
  induction l with
  | zero =>
    intro d U t hp hc hy h
    obtain ⟨ho, hn, hs, hl, hL⟩ := id hp
    have e : d = n := by omega
    subst e
    refine ⟨U, ?_, fun _ _ _ => rfl, rfl, fun _ => hy⟩
    rw [v102_2]
    simp (disch := first | omega | (simp (disch := omega) only [ly1, ak_2, al_2, ly3, ak_4, al_4, ly5, ak_6, al_6, ly7, ak_8, al_8, ly9, ak_10, al_10, ly11, ak_12, al_12, ly13, ak_14, al_14, ak_15, al_15, ly16, ak_17, al_17, ly18, ak_19, al_19, ly20, ak_21, al_21, ly22, ak_23, al_23, ak_24, al_24, ly25, ak_26, al_26, ly27, ak_28, al_28, ly29, ak_30, al_30, ly31, ak_32, al_32, ak_33, al_33, ly34, ak_35, al_35, ly36, ak_37, al_37, ly38, ak_39, al_39, ly40, ak_41, al_41, ly42, ak_43, al_43, ak_44, al_44, ly45, ak_46, al_46, ly47, ak_48, al_48, ly49, ak_50, al_50, ly51, ak_52, al_52, ak_53, al_53, ly54, ak_55, al_55, ak_56, al_56, ly57, ly58, ak_59, al_59, ly60, ak_61, al_61, ly62, ak_63, al_63, ak_64, al_64, ly65, ak_66, al_66, ly67, ly68, ak_69, al_69, ly70, ak_71, al_71, ak_72, al_72, ak_73, al_73, ak_74, al_74, ak_75, al_75, ly76, ak_77, al_77, ak_78, al_78, ak_79, al_79, ak_80, al_80, ak_81, al_81, ak_82, al_82, ak_83, al_83, ak_84, al_84, ak_85, al_85, ak_86, al_86, ak_87, al_87, ak_88, al_88, ak_89, al_89, ak_90, al_90, ak_91, al_91, ak_92, al_92, ak_93, al_93, ak_94, al_94, ak_95, al_95, ak_96, al_96, ak_97, al_97, ak_98, al_98, ak_99, al_99, ak_100, al_100, ly_row, ak_row, al_row, ly_text, ak_text, al_text, ly_rule, ak_rule, al_rule, ly_page, ak_page, al_page, ly_kept, ak_kept, al_kept, eq_self, true_or, or_true, not_false_eq_true, z0, z1, b_z, ho, hs, psf]; done) | (simp (disch := omega) only [ly1, ak_2, al_2, ly3, ak_4, al_4, ly5, ak_6, al_6, ly7, ak_8, al_8, ly9, ak_10, al_10, ly11, ak_12, al_12, ly13, ak_14, al_14, ak_15, al_15, ly16, ak_17, al_17, ly18, ak_19, al_19, ly20, ak_21, al_21, ly22, ak_23, al_23, ak_24, al_24, ly25, ak_26, al_26, ly27, ak_28, al_28, ly29, ak_30, al_30, ly31, ak_32, al_32, ak_33, al_33, ly34, ak_35, al_35, ly36, ak_37, al_37, ly38, ak_39, al_39, ly40, ak_41, al_41, ly42, ak_43, al_43, ak_44, al_44, ly45, ak_46, al_46, ly47, ak_48, al_48, ly49, ak_50, al_50, ly51, ak_52, al_52, ak_53, al_53, ly54, ak_55, al_55, ak_56, al_56, ly57, ly58, ak_59, al_59, ly60, ak_61, al_61, ly62, ak_63, al_63, ak_64, al_64, ly65, ak_66, al_66, ly67, ly68, ak_69, al_69, ly70, ak_71, al_71, ak_72, al_72, ak_73, al_73, ak_74, al_74, ak_75, al_75, ly76, ak_77, al_77, ak_78, al_78, ak_79, al_79, ak_80, al_80, ak_81, al_81, ak_82, al_82, ak_83, al_83, ak_84, al_84, ak_85, al_85, ak_86, al_86, ak_87, al_87, ak_88, al_88, ak_89, al_89, ak_90, al_90, ak_91, al_91, ak_92, al_92, ak_93, al_93, ak_94, al_94, ak_95, al_95, ak_96, al_96, ak_97, al_97, ak_98, al_98, ak_99, al_99, ak_100, al_100, ly_row, ak_row, al_row, ly_text, ak_text, al_text, ly_rule, ak_rule, al_rule, ly_page, ak_page, al_page, ly_kept, ak_kept, al_kept, eq_self, true_or, or_true, not_false_eq_true, z0, z1, b_z, ho, hs, psf]; omega)) only [v102_0, v102_1, v102_3, v102_4, v102_7, v102_10, v102_11, v102_12, v102_13, v102_16, v102_18, v102_19, v102_22, v102_23, v102_24, v102_26, v102_29, v102_30, v102_31, v102_32, v102_33, v102_34, v102_35, v102_38, v102_41, v102_42, v102_45, v102_46, v102_47, v102_50, v102_52, v102_53, v102_56, v102_59, v102_60, pm_bd_some, Option.toList_some, Option.toList_none, List.cons_append, List.nil_append, Nat.reduceAdd, Nat.reduceMul, n_lt, n_le, n_eq, n_lt0, n_ge0, n_eq0, n_gt0, n_le0, b_e, b_z, z0, z1, m1_lt, m1_ge, m1_eq, m1_n, m1_n2, m2_lt, m2_ge, m2_eq, m2_n, m2_n2, m3_lt, m3_ge, m3_eq, m3_n, m3_n2, m4_lt, m4_ge, m4_eq, m4_n, m4_n2, m6_lt, m6_ge, m6_eq, m6_n, m6_n2, m9_lt, m9_ge, m9_eq, m9_n, m9_n2, nI_add, pk_mul, not_true_eq_false, not_false_eq_true, Decidable.not_not, if_pos, if_neg, and_self, and_true, true_and, and_false, false_and, or_self, true_or, or_true, false_or, or_false, if_true, if_false, eq_self, ho, hs, psf]
  | succ l ih =>
    intro d U t hp hc hy h
    obtain ⟨ho, hn, hs, hl, hL⟩ := id hp
    have a1 := page_ak ho
    have a2 := page_al ho
    have hc1 := hc.1
    have hh := sp_hasLine (X := X) hp (show d < 2 ^ 31 by omega)
    have he := sp_expected (X := X) hc (show d ≤ 24 by omega) hy
    have hx : ex_ex m cl (al m cl ln) d < 4 := ex_ex_lt (fun i hi => (hc.2.2.2 i hi).1) (fun i hi => (hy.2.2 i (by omega)).1)
    have hv := hl d (by omega)
    have hal : al m cl ln d = (ln d).getD (ex_ex m cl (al m cl ln) d) := al_eq
    have e2 : psf m cl ln (l + 1) d = (decide (ln d ≠ some (ex_ex m cl (al m cl ln) d)) && psf m cl ln l (d + 1)) := rfl
    have key : ∀ t', ln d ≠ some (ex_ex m cl (al m cl ln) d) → ∃ B, pm_V X 102 2 [some (.ref p), some (.ref k), some (.ref q), some (.int (nI (d + 1))), t'] [] (0, 0) (pm_hp (pm_up U q d (nI (al m cl ln d)))) = some (some (.int (if psf m cl ln (l + 1) d = true then nI 1 else nI 0)), pm_hp B) ∧ (∀ k' i, k' ≠ q → B.1 k' i = U.1 k' i) ∧ B.2 = U.2 ∧ (psf m cl ln (l + 1) d = true → Dy B q (al m cl ln) n) := by
      intro t' z
      have f1 : ∀ k' i, k' ≠ q → (pm_up U q d (nI (al m cl ln d))).1 k' i = U.1 k' i := fun k' i z => by rw [pm_up_1, if_neg (fun y => z y.1)]
      obtain ⟨B, c1, c2, c3, c4⟩ := ih (d + 1) (pm_up U q d (nI (al m cl ln d))) t' (hp.cg (fun k' i z => f1 _ _ (by omega))) (hc.cg (fun k' i z => f1 _ _ (by omega))) ⟨b1, b2, fun i hi => by
        by_cases e : i = d
        · subst e
          exact ⟨al_lt (fun i hi => (hc.2.2.2 i hi).1) hL _, by simp (disch := omega) only [pm_w_1, pm_up_1, if_pos, if_neg, Nat.reduceAdd, Nat.reduceMul, and_self, and_true, true_and, if_true, eq_self]⟩
        · obtain ⟨z1, z2⟩ := hy.2.2 i (by omega)
          exact ⟨z1, by simp (disch := omega) only [pm_w_1, pm_up_1, if_pos, if_neg, Nat.reduceAdd, Nat.reduceMul, and_self, and_true, true_and, if_true, eq_self]; exact z2⟩⟩ (by omega)
      have e3 : psf m cl ln (l + 1) d = psf m cl ln l (d + 1) := by rw [e2]; simp [z]
      rw [e3]
      exact ⟨B, c1, fun k' i z => (c2 k' i z).trans (f1 k' i z), c3, c4⟩
    rw [v102_2]
    cases q1 : ln d with
    | none =>
      rw [q1] at hh hv hal key
      simp only [Option.isSome_none, Bool.false_eq_true, if_false, enc_none, Option.getD_none] at hh hv hal
      obtain ⟨B, c1, c2⟩ := key (some (.int (nI (ex_ex m cl (al m cl ln) d)))) (by simp)
      refine ⟨B, Eq.trans ?_ c1, c2⟩
      rw [hal]
      simp (disch := first | omega | (simp (disch := omega) only [ly1, ak_2, al_2, ly3, ak_4, al_4, ly5, ak_6, al_6, ly7, ak_8, al_8, ly9, ak_10, al_10, ly11, ak_12, al_12, ly13, ak_14, al_14, ak_15, al_15, ly16, ak_17, al_17, ly18, ak_19, al_19, ly20, ak_21, al_21, ly22, ak_23, al_23, ak_24, al_24, ly25, ak_26, al_26, ly27, ak_28, al_28, ly29, ak_30, al_30, ly31, ak_32, al_32, ak_33, al_33, ly34, ak_35, al_35, ly36, ak_37, al_37, ly38, ak_39, al_39, ly40, ak_41, al_41, ly42, ak_43, al_43, ak_44, al_44, ly45, ak_46, al_46, ly47, ak_48, al_48, ly49, ak_50, al_50, ly51, ak_52, al_52, ak_53, al_53, ly54, ak_55, al_55, ak_56, al_56, ly57, ly58, ak_59, al_59, ly60, ak_61, al_61, ly62, ak_63, al_63, ak_64, al_64, ly65, ak_66, al_66, ly67, ly68, ak_69, al_69, ly70, ak_71, al_71, ak_72, al_72, ak_73, al_73, ak_74, al_74, ak_75, al_75, ly76, ak_77, al_77, ak_78, al_78, ak_79, al_79, ak_80, al_80, ak_81, al_81, ak_82, al_82, ak_83, al_83, ak_84, al_84, ak_85, al_85, ak_86, al_86, ak_87, al_87, ak_88, al_88, ak_89, al_89, ak_90, al_90, ak_91, al_91, ak_92, al_92, ak_93, al_93, ak_94, al_94, ak_95, al_95, ak_96, al_96, ak_97, al_97, ak_98, al_98, ak_99, al_99, ak_100, al_100, ly_row, ak_row, al_row, ly_text, ak_text, al_text, ly_rule, ak_rule, al_rule, ly_page, ak_page, al_page, ly_kept, ak_kept, al_kept, eq_self, true_or, or_true, not_false_eq_true, z0, z1, b_z, ho, hc1, hs, hh, hv, he, a1, a2, b1]; done) | (simp (disch := omega) only [ly1, ak_2, al_2, ly3, ak_4, al_4, ly5, ak_6, al_6, ly7, ak_8, al_8, ly9, ak_10, al_10, ly11, ak_12, al_12, ly13, ak_14, al_14, ak_15, al_15, ly16, ak_17, al_17, ly18, ak_19, al_19, ly20, ak_21, al_21, ly22, ak_23, al_23, ak_24, al_24, ly25, ak_26, al_26, ly27, ak_28, al_28, ly29, ak_30, al_30, ly31, ak_32, al_32, ak_33, al_33, ly34, ak_35, al_35, ly36, ak_37, al_37, ly38, ak_39, al_39, ly40, ak_41, al_41, ly42, ak_43, al_43, ak_44, al_44, ly45, ak_46, al_46, ly47, ak_48, al_48, ly49, ak_50, al_50, ly51, ak_52, al_52, ak_53, al_53, ly54, ak_55, al_55, ak_56, al_56, ly57, ly58, ak_59, al_59, ly60, ak_61, al_61, ly62, ak_63, al_63, ak_64, al_64, ly65, ak_66, al_66, ly67, ly68, ak_69, al_69, ly70, ak_71, al_71, ak_72, al_72, ak_73, al_73, ak_74, al_74, ak_75, al_75, ly76, ak_77, al_77, ak_78, al_78, ak_79, al_79, ak_80, al_80, ak_81, al_81, ak_82, al_82, ak_83, al_83, ak_84, al_84, ak_85, al_85, ak_86, al_86, ak_87, al_87, ak_88, al_88, ak_89, al_89, ak_90, al_90, ak_91, al_91, ak_92, al_92, ak_93, al_93, ak_94, al_94, ak_95, al_95, ak_96, al_96, ak_97, al_97, ak_98, al_98, ak_99, al_99, ak_100, al_100, ly_row, ak_row, al_row, ly_text, ak_text, al_text, ly_rule, ak_rule, al_rule, ly_page, ak_page, al_page, ly_kept, ak_kept, al_kept, eq_self, true_or, or_true, not_false_eq_true, z0, z1, b_z, ho, hc1, hs, hh, hv, he, a1, a2, b1]; omega)) only [v102_0, v102_1, v102_3, v102_4, v102_7, v102_10, v102_11, v102_12, v102_13, v102_16, v102_18, v102_19, v102_22, v102_23, v102_24, v102_26, v102_29, v102_30, v102_31, v102_32, v102_33, v102_34, v102_35, v102_38, v102_41, v102_42, v102_45, v102_46, v102_47, v102_50, v102_52, v102_53, v102_56, v102_59, v102_60, pm_bd_some, Option.toList_some, Option.toList_none, List.cons_append, List.nil_append, Nat.reduceAdd, Nat.reduceMul, n_lt, n_le, n_eq, n_lt0, n_ge0, n_eq0, n_gt0, n_le0, b_e, b_z, z0, z1, m1_lt, m1_ge, m1_eq, m1_n, m1_n2, m2_lt, m2_ge, m2_eq, m2_n, m2_n2, m3_lt, m3_ge, m3_eq, m3_n, m3_n2, m4_lt, m4_ge, m4_eq, m4_n, m4_n2, m6_lt, m6_ge, m6_eq, m6_n, m6_n2, m9_lt, m9_ge, m9_eq, m9_n, m9_n2, nI_add, pk_mul, not_true_eq_false, not_false_eq_true, Decidable.not_not, if_pos, if_neg, and_self, and_true, true_and, and_false, false_and, or_self, true_or, or_true, false_or, or_false, if_true, if_false, eq_self, ho, hc1, hs, hh, hv, he, a1, a2, b1]
    | some v =>
      have hw := (hL d v q1).2
      rw [q1] at hh hv hal key e2
      simp only [Option.isSome_some, if_true, enc_some, Option.getD_some] at hh hv hal
      by_cases g : v = ex_ex m cl (al m cl ln) d
      · have e3 : psf m cl ln (l + 1) d = false := by rw [e2, g]; simp
        rw [e3]
        refine ⟨U, ?_, fun _ _ _ => rfl, rfl, fun z => by cases z⟩
        simp (disch := first | omega | (simp (disch := omega) only [ly1, ak_2, al_2, ly3, ak_4, al_4, ly5, ak_6, al_6, ly7, ak_8, al_8, ly9, ak_10, al_10, ly11, ak_12, al_12, ly13, ak_14, al_14, ak_15, al_15, ly16, ak_17, al_17, ly18, ak_19, al_19, ly20, ak_21, al_21, ly22, ak_23, al_23, ak_24, al_24, ly25, ak_26, al_26, ly27, ak_28, al_28, ly29, ak_30, al_30, ly31, ak_32, al_32, ak_33, al_33, ly34, ak_35, al_35, ly36, ak_37, al_37, ly38, ak_39, al_39, ly40, ak_41, al_41, ly42, ak_43, al_43, ak_44, al_44, ly45, ak_46, al_46, ly47, ak_48, al_48, ly49, ak_50, al_50, ly51, ak_52, al_52, ak_53, al_53, ly54, ak_55, al_55, ak_56, al_56, ly57, ly58, ak_59, al_59, ly60, ak_61, al_61, ly62, ak_63, al_63, ak_64, al_64, ly65, ak_66, al_66, ly67, ly68, ak_69, al_69, ly70, ak_71, al_71, ak_72, al_72, ak_73, al_73, ak_74, al_74, ak_75, al_75, ly76, ak_77, al_77, ak_78, al_78, ak_79, al_79, ak_80, al_80, ak_81, al_81, ak_82, al_82, ak_83, al_83, ak_84, al_84, ak_85, al_85, ak_86, al_86, ak_87, al_87, ak_88, al_88, ak_89, al_89, ak_90, al_90, ak_91, al_91, ak_92, al_92, ak_93, al_93, ak_94, al_94, ak_95, al_95, ak_96, al_96, ak_97, al_97, ak_98, al_98, ak_99, al_99, ak_100, al_100, ly_row, ak_row, al_row, ly_text, ak_text, al_text, ly_rule, ak_rule, al_rule, ly_page, ak_page, al_page, ly_kept, ak_kept, al_kept, eq_self, true_or, or_true, not_false_eq_true, z0, z1, b_z, ho, hc1, hs, hh, hv, he, a1, a2, b1, g.symm, Bool.false_eq_true]; done) | (simp (disch := omega) only [ly1, ak_2, al_2, ly3, ak_4, al_4, ly5, ak_6, al_6, ly7, ak_8, al_8, ly9, ak_10, al_10, ly11, ak_12, al_12, ly13, ak_14, al_14, ak_15, al_15, ly16, ak_17, al_17, ly18, ak_19, al_19, ly20, ak_21, al_21, ly22, ak_23, al_23, ak_24, al_24, ly25, ak_26, al_26, ly27, ak_28, al_28, ly29, ak_30, al_30, ly31, ak_32, al_32, ak_33, al_33, ly34, ak_35, al_35, ly36, ak_37, al_37, ly38, ak_39, al_39, ly40, ak_41, al_41, ly42, ak_43, al_43, ak_44, al_44, ly45, ak_46, al_46, ly47, ak_48, al_48, ly49, ak_50, al_50, ly51, ak_52, al_52, ak_53, al_53, ly54, ak_55, al_55, ak_56, al_56, ly57, ly58, ak_59, al_59, ly60, ak_61, al_61, ly62, ak_63, al_63, ak_64, al_64, ly65, ak_66, al_66, ly67, ly68, ak_69, al_69, ly70, ak_71, al_71, ak_72, al_72, ak_73, al_73, ak_74, al_74, ak_75, al_75, ly76, ak_77, al_77, ak_78, al_78, ak_79, al_79, ak_80, al_80, ak_81, al_81, ak_82, al_82, ak_83, al_83, ak_84, al_84, ak_85, al_85, ak_86, al_86, ak_87, al_87, ak_88, al_88, ak_89, al_89, ak_90, al_90, ak_91, al_91, ak_92, al_92, ak_93, al_93, ak_94, al_94, ak_95, al_95, ak_96, al_96, ak_97, al_97, ak_98, al_98, ak_99, al_99, ak_100, al_100, ly_row, ak_row, al_row, ly_text, ak_text, al_text, ly_rule, ak_rule, al_rule, ly_page, ak_page, al_page, ly_kept, ak_kept, al_kept, eq_self, true_or, or_true, not_false_eq_true, z0, z1, b_z, ho, hc1, hs, hh, hv, he, a1, a2, b1, g.symm, Bool.false_eq_true]; omega)) only [v102_0, v102_1, v102_3, v102_4, v102_7, v102_10, v102_11, v102_12, v102_13, v102_16, v102_18, v102_19, v102_22, v102_23, v102_24, v102_26, v102_29, v102_30, v102_31, v102_32, v102_33, v102_34, v102_35, v102_38, v102_41, v102_42, v102_45, v102_46, v102_47, v102_50, v102_52, v102_53, v102_56, v102_59, v102_60, pm_bd_some, Option.toList_some, Option.toList_none, List.cons_append, List.nil_append, Nat.reduceAdd, Nat.reduceMul, n_lt, n_le, n_eq, n_lt0, n_ge0, n_eq0, n_gt0, n_le0, b_e, b_z, z0, z1, m1_lt, m1_ge, m1_eq, m1_n, m1_n2, m2_lt, m2_ge, m2_eq, m2_n, m2_n2, m3_lt, m3_ge, m3_eq, m3_n, m3_n2, m4_lt, m4_ge, m4_eq, m4_n, m4_n2, m6_lt, m6_ge, m6_eq, m6_n, m6_n2, m9_lt, m9_ge, m9_eq, m9_n, m9_n2, nI_add, pk_mul, not_true_eq_false, not_false_eq_true, Decidable.not_not, if_pos, if_neg, and_self, and_true, true_and, and_false, false_and, or_self, true_or, or_true, false_or, or_false, if_true, if_false, eq_self, ho, hc1, hs, hh, hv, he, a1, a2, b1, g.symm, Bool.false_eq_true]
      · obtain ⟨B, c1, c2⟩ := key (some (.int (nI (ex_ex m cl (al m cl ln) d)))) (by simpa using g)
        refine ⟨B, Eq.trans ?_ c1, c2⟩
        rw [hal]
        simp (disch := first | omega | (simp (disch := omega) only [ly1, ak_2, al_2, ly3, ak_4, al_4, ly5, ak_6, al_6, ly7, ak_8, al_8, ly9, ak_10, al_10, ly11, ak_12, al_12, ly13, ak_14, al_14, ak_15, al_15, ly16, ak_17, al_17, ly18, ak_19, al_19, ly20, ak_21, al_21, ly22, ak_23, al_23, ak_24, al_24, ly25, ak_26, al_26, ly27, ak_28, al_28, ly29, ak_30, al_30, ly31, ak_32, al_32, ak_33, al_33, ly34, ak_35, al_35, ly36, ak_37, al_37, ly38, ak_39, al_39, ly40, ak_41, al_41, ly42, ak_43, al_43, ak_44, al_44, ly45, ak_46, al_46, ly47, ak_48, al_48, ly49, ak_50, al_50, ly51, ak_52, al_52, ak_53, al_53, ly54, ak_55, al_55, ak_56, al_56, ly57, ly58, ak_59, al_59, ly60, ak_61, al_61, ly62, ak_63, al_63, ak_64, al_64, ly65, ak_66, al_66, ly67, ly68, ak_69, al_69, ly70, ak_71, al_71, ak_72, al_72, ak_73, al_73, ak_74, al_74, ak_75, al_75, ly76, ak_77, al_77, ak_78, al_78, ak_79, al_79, ak_80, al_80, ak_81, al_81, ak_82, al_82, ak_83, al_83, ak_84, al_84, ak_85, al_85, ak_86, al_86, ak_87, al_87, ak_88, al_88, ak_89, al_89, ak_90, al_90, ak_91, al_91, ak_92, al_92, ak_93, al_93, ak_94, al_94, ak_95, al_95, ak_96, al_96, ak_97, al_97, ak_98, al_98, ak_99, al_99, ak_100, al_100, ly_row, ak_row, al_row, ly_text, ak_text, al_text, ly_rule, ak_rule, al_rule, ly_page, ak_page, al_page, ly_kept, ak_kept, al_kept, eq_self, true_or, or_true, not_false_eq_true, z0, z1, b_z, ho, hc1, hs, hh, hv, he, a1, a2, b1, g]; done) | (simp (disch := omega) only [ly1, ak_2, al_2, ly3, ak_4, al_4, ly5, ak_6, al_6, ly7, ak_8, al_8, ly9, ak_10, al_10, ly11, ak_12, al_12, ly13, ak_14, al_14, ak_15, al_15, ly16, ak_17, al_17, ly18, ak_19, al_19, ly20, ak_21, al_21, ly22, ak_23, al_23, ak_24, al_24, ly25, ak_26, al_26, ly27, ak_28, al_28, ly29, ak_30, al_30, ly31, ak_32, al_32, ak_33, al_33, ly34, ak_35, al_35, ly36, ak_37, al_37, ly38, ak_39, al_39, ly40, ak_41, al_41, ly42, ak_43, al_43, ak_44, al_44, ly45, ak_46, al_46, ly47, ak_48, al_48, ly49, ak_50, al_50, ly51, ak_52, al_52, ak_53, al_53, ly54, ak_55, al_55, ak_56, al_56, ly57, ly58, ak_59, al_59, ly60, ak_61, al_61, ly62, ak_63, al_63, ak_64, al_64, ly65, ak_66, al_66, ly67, ly68, ak_69, al_69, ly70, ak_71, al_71, ak_72, al_72, ak_73, al_73, ak_74, al_74, ak_75, al_75, ly76, ak_77, al_77, ak_78, al_78, ak_79, al_79, ak_80, al_80, ak_81, al_81, ak_82, al_82, ak_83, al_83, ak_84, al_84, ak_85, al_85, ak_86, al_86, ak_87, al_87, ak_88, al_88, ak_89, al_89, ak_90, al_90, ak_91, al_91, ak_92, al_92, ak_93, al_93, ak_94, al_94, ak_95, al_95, ak_96, al_96, ak_97, al_97, ak_98, al_98, ak_99, al_99, ak_100, al_100, ly_row, ak_row, al_row, ly_text, ak_text, al_text, ly_rule, ak_rule, al_rule, ly_page, ak_page, al_page, ly_kept, ak_kept, al_kept, eq_self, true_or, or_true, not_false_eq_true, z0, z1, b_z, ho, hc1, hs, hh, hv, he, a1, a2, b1, g]; omega)) only [v102_0, v102_1, v102_3, v102_4, v102_7, v102_10, v102_11, v102_12, v102_13, v102_16, v102_18, v102_19, v102_22, v102_23, v102_24, v102_26, v102_29, v102_30, v102_31, v102_32, v102_33, v102_34, v102_35, v102_38, v102_41, v102_42, v102_45, v102_46, v102_47, v102_50, v102_52, v102_53, v102_56, v102_59, v102_60, pm_bd_some, Option.toList_some, Option.toList_none, List.cons_append, List.nil_append, Nat.reduceAdd, Nat.reduceMul, n_lt, n_le, n_eq, n_lt0, n_ge0, n_eq0, n_gt0, n_le0, b_e, b_z, z0, z1, m1_lt, m1_ge, m1_eq, m1_n, m1_n2, m2_lt, m2_ge, m2_eq, m2_n, m2_n2, m3_lt, m3_ge, m3_eq, m3_n, m3_n2, m4_lt, m4_ge, m4_eq, m4_n, m4_n2, m6_lt, m6_ge, m6_eq, m6_n, m6_n2, m9_lt, m9_ge, m9_eq, m9_n, m9_n2, nI_add, pk_mul, not_true_eq_false, not_false_eq_true, Decidable.not_not, if_pos, if_neg, and_self, and_true, true_and, and_false, false_and, or_self, true_or, or_true, false_or, or_false, if_true, if_false, eq_self, ho, hc1, hs, hh, hv, he, a1, a2, b1, g]
theorem sp_isPossible {X : pm_X} {p n k m q : Nat} {ln : Nat → Option Nat} {cl : Nat → Nat} {U : pm_U} (hq : pm_ak q = 1 ∧ 24 ≤ pm_al q) (hqp : q ≠ p ∧ q ≠ p + 1 ∧ q ≠ k ∧ q ≠ k + 1) (hp : PgC U p n ln) (hc : Cl U k m cl) : ∃ B, pm_V0 X 102 [.ref p, .ref k, .ref q] (pm_hp U) = some (some (.int (if psb m cl ln n = true then nI 1 else nI 0)), pm_hp B) ∧ (∀ k' i, k' ≠ q → B.1 k' i = U.1 k' i) ∧ B.2 = U.2 ∧ (psb m cl ln n = true → Dy B q (al m cl ln) n) := by
  have := lp_isPossible (X := X) hq hqp n 0 U none hp hc ⟨hq.1, hq.2, fun i hi => by omega⟩ (by omega)
  rw [psf_0] at this
  obtain ⟨B, c1, c2⟩ := this
  refine ⟨B, Eq.trans ?_ c1, c2⟩
  show pm_V X 102 0 [some (.ref p), some (.ref k), some (.ref q), none, none] [] (0, 0) (pm_hp U) = _
  simp only [v102_0, v102_1, v102_3, v102_4, v102_7, v102_10, v102_11, v102_12, v102_13, v102_16, v102_18, v102_19, v102_22, v102_23, v102_24, v102_26, v102_29, v102_30, v102_31, v102_32, v102_33, v102_34, v102_35, v102_38, v102_41, v102_42, v102_45, v102_46, v102_47, v102_50, v102_52, v102_53, v102_56, v102_59, v102_60, pm_bd_some, Option.toList_some, Option.toList_none, List.cons_append, List.nil_append, Nat.reduceAdd, Nat.reduceMul]
/-- no line is idle: the bits are nought -/
theorem idr_N {m : Nat} {cl : Nat → Nat} {ln : Nat → Option Nat} : ∀ d, d ≤ 24 → ∃ v, idr m cl ln d = nI v ∧ v < 2 ^ lc ln d ∧ (v = 0 ↔ psb m cl ln d = true)
  | 0, _ => ⟨0, rfl, by show 0 < 1; omega, by simp [psb]⟩
  | d + 1, h => by
    obtain ⟨v, e1, e2, e3⟩ := idr_N (m := m) (cl := cl) (ln := ln) d (by omega)
    have hle := lc_le (ln := ln) d
    have e5 : idr m cl ln (d + 1) = match ln d with
      | none => idr m cl ln d
      | some w => if w = ex_ex m cl (al m cl ln) d then idr m cl ln d ||| (nI 1 <<< (nI (lc ln d) &&& 31)) else idr m cl ln d := rfl
    have e6 : lc ln (d + 1) = lc ln d + (if (ln d).isSome then 1 else 0) := rfl
    have e7 : psb m cl ln (d + 1) = (psb m cl ln d && decide (ln d ≠ some (ex_ex m cl (al m cl ln) d))) := rfl
    cases q : ln d with
    | none =>
      rw [q] at e5 e6 e7
      simp only [Option.isSome_none, Bool.false_eq_true, if_false, Nat.add_zero] at e6
      refine ⟨v, e5.trans e1, by rw [e6]; exact e2, ?_⟩
      rw [e7, e3]
      simp
    | some w =>
      rw [q] at e5 e6 e7
      simp only [Option.isSome_some, if_true] at e6
      by_cases g : w = ex_ex m cl (al m cl ln) d
      · refine ⟨v + 2 ^ lc ln d, ?_, ?_, ?_⟩
        · rw [e5]
          simp only [if_pos g]
          rw [e1, sh1 (by omega), or_pow e2 (by omega)]
        · rw [e6, Nat.pow_succ]; omega
        · have : 0 < 2 ^ lc ln d := Nat.two_pow_pos _
          rw [e7, g]
          simp
      · refine ⟨v, ?_, ?_, ?_⟩
        · rw [e5]
          simp only [if_neg g]
          exact e1
        · rw [e6, Nat.pow_succ]; omega
        · rw [e7, e3]
          simp [g]
theorem idr_0 {m n : Nat} {cl : Nat → Nat} {ln : Nat → Option Nat} (hn : n ≤ 24) : (idr m cl ln n = 0) = (psb m cl ln n = true) := by
  obtain ⟨v, e1, e2, e3⟩ := idr_N (m := m) (cl := cl) (ln := ln) n hn
  have := lc_le (ln := ln) n
  have h2 : 2 ^ lc ln n ≤ 2 ^ 24 := Nat.pow_le_pow_right (by omega) (by omega)
  rw [e1, n_eq0 (by omega)]
  exact propext e3
/-! what is counted -/
def fa (P : Nat → Bool) : Nat → Option Nat
  | 0 => none
  | K + 1 => match fa P K with
    | some r => some r
    | none => if P K then some K else none
theorem fa_none {P : Nat → Bool} : ∀ K, fa P K = none ↔ bC P K = 0
  | 0 => ⟨fun _ => rfl, fun _ => rfl⟩
  | K + 1 => by
    have ih := fa_none (P := P) K
    show (match fa P K with
      | some r => some r
      | none => if P K then some K else none) = none ↔ bC P K + _ = 0
    cases q : fa P K with
    | some r =>
      rw [q] at ih
      have : ¬ bC P K = 0 := fun z => by have := ih.mpr z; cases this
      simp
      omega
    | none =>
      have := ih.mp q
      rw [this]
      cases P K <;> simp
theorem fa_f {P : Nat → Bool} {K : Nat} (h : P K = false) : fa P (K + 1) = fa P K ∧ bC P (K + 1) = bC P K := by
  constructor
  · show (match fa P K with
      | some r => some r
      | none => if P K then some K else none) = _
    rw [h]
    cases fa P K <;> rfl
  · show bC P K + _ = _
    rw [h]; rfl
theorem fa_t {P : Nat → Bool} {K : Nat} (h : P K = true) : fa P (K + 1) = (if bC P K = 0 then some K else fa P K) ∧ bC P (K + 1) = bC P K + 1 := by
  constructor
  · show (match fa P K with
      | some r => some r
      | none => if P K then some K else none) = _
    have hz := fa_none (P := P) K
    rw [h]
    cases q : fa P K with
    | some r =>
      rw [q] at hz
      have hne : ¬ bC P K = 0 := fun z => by have := hz.mpr z; cases this
      show some r = _
      rw [if_neg hne]
    | none => rw [if_pos (hz.mp q)]; rfl
  · show bC P K + _ = _
    rw [h]; rfl
def aK (ln : Nat → Option Nat) (K : Nat) : Nat → Nat := al (mN K) (cN K) ln
def Pk (ln : Nat → Option Nat) (n Kn : Nat) (kd kw : Nat → Nat) (K : Nat) : Bool := psb (mN K) (cN K) ln n && decide (bC (nsb kd kw (aK ln K) n) Kn = 0)
def Qk (P : Nat → Bool) (ln : Nat → Option Nat) (n j K : Nat) : Bool := P K && (decide (j / 4 < n) && decide (aK ln K (j / 4) = j % 4))
def cu_U (U : pm_U) (c n : Nat) (f : Nat → Nat) (d : Nat) : pm_U := pm_w U (fun k i => if k = c ∧ d ≤ i / 4 ∧ i / 4 < n ∧ i % 4 = f (i / 4) then U.1 k i + nI 1 else U.1 k i)
theorem cu_1 {U : pm_U} {c n d : Nat} {f : Nat → Nat} (k i : Nat) : (cu_U U c n f d).1 k i = if k = c ∧ d ≤ i / 4 ∧ i / 4 < n ∧ i % 4 = f (i / 4) then U.1 k i + nI 1 else U.1 k i := rfl
theorem cu_step {U : pm_U} {c n d : Nat} {f : Nat → Nat} (hd : d < n) (hf : f d < 4) : cu_U (pm_up U c (4 * d + f d) (U.1 c (4 * d + f d) + nI 1)) c n f (d + 1) = cu_U U c n f d := by
  refine pm_ext (fun k i => ?_) rfl
  rw [cu_1, cu_1, pm_up_1]
  by_cases h : k = c ∧ i = 4 * d + f d
  · obtain ⟨rfl, rfl⟩ := h
    have e1 : (4 * d + f d) / 4 = d := by omega
    have e2 : (4 * d + f d) % 4 = f d := by omega
    rw [e1, e2, if_neg (by omega), if_pos ⟨rfl, rfl⟩, if_pos ⟨rfl, by omega, hd, rfl⟩]
  · rw [if_neg h]
    by_cases g : k = c ∧ d + 1 ≤ i / 4 ∧ i / 4 < n ∧ i % 4 = f (i / 4)
    · rw [if_pos g, if_pos ⟨g.1, by omega, g.2.2⟩]
    · rw [if_neg g, if_neg]
      rintro ⟨q1, q2, q3, q4⟩
      by_cases e : i / 4 = d
      · rw [e] at q4; exact h ⟨q1, by omega⟩
      · exact g ⟨q1, by omega, q3, q4⟩
theorem cu_0 {U : pm_U} {c n : Nat} {f : Nat → Nat} : cu_U U c n f n = U := by
  refine pm_ext (fun k i => ?_) rfl
  rw [cu_1, if_neg (by omega)]
theorem lp_cntC {X : pm_X} {p n c x2i : Nat} {x2 x4 x5 : Int32} {f : Nat → Nat} {ln : Nat → Option Nat} {R : Option (Option Value × pm_H)} (hp0 : ¬ (p = 63 ∨ p + 1 = 63)) : ∀ (l d : Nat) (U : pm_U), PgC U p n ln → Dy U 64 f n → d + l = n → pm_V X 101 163 [some (.ref 62), some (.ref p), some (.int x2), some (.ref c), some (.int x4), some (.int x5), some (.int (nI n))] [] (0, 0) (pm_hp (cu_U U 63 n f d)) = R → pm_V X 101 127 [some (.ref 62), some (.ref p), some (.int x2), some (.ref c), some (.int x4), some (.int x5), some (.int (nI d))] [] (0, 0) (pm_hp U) = R := by
  intro l
  induction l with
  | zero =>
    intro d U hp hy h hR
    obtain ⟨ho, hn, hs, hl, hL⟩ := id hp
    have e : d = n := by omega
    subst e
    rw [cu_0] at hR
    rw [v101_127]
    simp (disch := first | omega | (simp (disch := omega) only [ly1, ak_2, al_2, ly3, ak_4, al_4, ly5, ak_6, al_6, ly7, ak_8, al_8, ly9, ak_10, al_10, ly11, ak_12, al_12, ly13, ak_14, al_14, ak_15, al_15, ly16, ak_17, al_17, ly18, ak_19, al_19, ly20, ak_21, al_21, ly22, ak_23, al_23, ak_24, al_24, ly25, ak_26, al_26, ly27, ak_28, al_28, ly29, ak_30, al_30, ly31, ak_32, al_32, ak_33, al_33, ly34, ak_35, al_35, ly36, ak_37, al_37, ly38, ak_39, al_39, ly40, ak_41, al_41, ly42, ak_43, al_43, ak_44, al_44, ly45, ak_46, al_46, ly47, ak_48, al_48, ly49, ak_50, al_50, ly51, ak_52, al_52, ak_53, al_53, ly54, ak_55, al_55, ak_56, al_56, ly57, ly58, ak_59, al_59, ly60, ak_61, al_61, ly62, ak_63, al_63, ak_64, al_64, ly65, ak_66, al_66, ly67, ly68, ak_69, al_69, ly70, ak_71, al_71, ak_72, al_72, ak_73, al_73, ak_74, al_74, ak_75, al_75, ly76, ak_77, al_77, ak_78, al_78, ak_79, al_79, ak_80, al_80, ak_81, al_81, ak_82, al_82, ak_83, al_83, ak_84, al_84, ak_85, al_85, ak_86, al_86, ak_87, al_87, ak_88, al_88, ak_89, al_89, ak_90, al_90, ak_91, al_91, ak_92, al_92, ak_93, al_93, ak_94, al_94, ak_95, al_95, ak_96, al_96, ak_97, al_97, ak_98, al_98, ak_99, al_99, ak_100, al_100, ly_row, ak_row, al_row, ly_text, ak_text, al_text, ly_rule, ak_rule, al_rule, ly_page, ak_page, al_page, ly_kept, ak_kept, al_kept, eq_self, true_or, or_true, not_false_eq_true, z0, z1, b_z, ho, hs]; done) | (simp (disch := omega) only [ly1, ak_2, al_2, ly3, ak_4, al_4, ly5, ak_6, al_6, ly7, ak_8, al_8, ly9, ak_10, al_10, ly11, ak_12, al_12, ly13, ak_14, al_14, ak_15, al_15, ly16, ak_17, al_17, ly18, ak_19, al_19, ly20, ak_21, al_21, ly22, ak_23, al_23, ak_24, al_24, ly25, ak_26, al_26, ly27, ak_28, al_28, ly29, ak_30, al_30, ly31, ak_32, al_32, ak_33, al_33, ly34, ak_35, al_35, ly36, ak_37, al_37, ly38, ak_39, al_39, ly40, ak_41, al_41, ly42, ak_43, al_43, ak_44, al_44, ly45, ak_46, al_46, ly47, ak_48, al_48, ly49, ak_50, al_50, ly51, ak_52, al_52, ak_53, al_53, ly54, ak_55, al_55, ak_56, al_56, ly57, ly58, ak_59, al_59, ly60, ak_61, al_61, ly62, ak_63, al_63, ak_64, al_64, ly65, ak_66, al_66, ly67, ly68, ak_69, al_69, ly70, ak_71, al_71, ak_72, al_72, ak_73, al_73, ak_74, al_74, ak_75, al_75, ly76, ak_77, al_77, ak_78, al_78, ak_79, al_79, ak_80, al_80, ak_81, al_81, ak_82, al_82, ak_83, al_83, ak_84, al_84, ak_85, al_85, ak_86, al_86, ak_87, al_87, ak_88, al_88, ak_89, al_89, ak_90, al_90, ak_91, al_91, ak_92, al_92, ak_93, al_93, ak_94, al_94, ak_95, al_95, ak_96, al_96, ak_97, al_97, ak_98, al_98, ak_99, al_99, ak_100, al_100, ly_row, ak_row, al_row, ly_text, ak_text, al_text, ly_rule, ak_rule, al_rule, ly_page, ak_page, al_page, ly_kept, ak_kept, al_kept, eq_self, true_or, or_true, not_false_eq_true, z0, z1, b_z, ho, hs]; omega)) only [v101_129, v101_130, v101_133, v101_136, v101_137, v101_140, v101_141, v101_143, v101_144, v101_145, v101_148, v101_150, v101_151, v101_152, v101_153, v101_154, v101_155, v101_156, v101_157, v101_160, pm_bd_some, Option.toList_some, Option.toList_none, List.cons_append, List.nil_append, Nat.reduceAdd, Nat.reduceMul, n_lt, n_le, n_eq, n_lt0, n_ge0, n_eq0, n_gt0, n_le0, b_e, b_z, z0, z1, m1_lt, m1_ge, m1_eq, m1_n, m1_n2, m2_lt, m2_ge, m2_eq, m2_n, m2_n2, m3_lt, m3_ge, m3_eq, m3_n, m3_n2, m4_lt, m4_ge, m4_eq, m4_n, m4_n2, m6_lt, m6_ge, m6_eq, m6_n, m6_n2, m9_lt, m9_ge, m9_eq, m9_n, m9_n2, nI_add, pk_mul, not_true_eq_false, not_false_eq_true, Decidable.not_not, if_pos, if_neg, and_self, and_true, true_and, and_false, false_and, or_self, true_or, or_true, false_or, or_false, if_true, if_false, eq_self, ho, hs]
    exact hR
  | succ l ih =>
    intro d U hp hy h hR
    obtain ⟨ho, hn, hs, hl, hL⟩ := id hp
    obtain ⟨y1, y2⟩ := hy.2.2 d (by omega)
    have hu : ∀ k' i, k' ≠ 63 → (pm_up U 63 (4 * d + f d) (U.1 63 (4 * d + f d) + nI 1)).1 k' i = U.1 k' i := fun k' i z => by rw [pm_up_1, if_neg (fun w => z w.1)]
    have hj := ih (d + 1) (pm_up U 63 (4 * d + f d) (U.1 63 (4 * d + f d) + nI 1)) (hp.cg (fun k' i z => hu _ _ (by omega))) (hy.cg (fun i hi => hu _ _ (by omega))) (by omega) (by rw [cu_step (by omega) y1]; exact hR)
    rw [v101_127]
    simp (disch := first | omega | (simp (disch := omega) only [ly1, ak_2, al_2, ly3, ak_4, al_4, ly5, ak_6, al_6, ly7, ak_8, al_8, ly9, ak_10, al_10, ly11, ak_12, al_12, ly13, ak_14, al_14, ak_15, al_15, ly16, ak_17, al_17, ly18, ak_19, al_19, ly20, ak_21, al_21, ly22, ak_23, al_23, ak_24, al_24, ly25, ak_26, al_26, ly27, ak_28, al_28, ly29, ak_30, al_30, ly31, ak_32, al_32, ak_33, al_33, ly34, ak_35, al_35, ly36, ak_37, al_37, ly38, ak_39, al_39, ly40, ak_41, al_41, ly42, ak_43, al_43, ak_44, al_44, ly45, ak_46, al_46, ly47, ak_48, al_48, ly49, ak_50, al_50, ly51, ak_52, al_52, ak_53, al_53, ly54, ak_55, al_55, ak_56, al_56, ly57, ly58, ak_59, al_59, ly60, ak_61, al_61, ly62, ak_63, al_63, ak_64, al_64, ly65, ak_66, al_66, ly67, ly68, ak_69, al_69, ly70, ak_71, al_71, ak_72, al_72, ak_73, al_73, ak_74, al_74, ak_75, al_75, ly76, ak_77, al_77, ak_78, al_78, ak_79, al_79, ak_80, al_80, ak_81, al_81, ak_82, al_82, ak_83, al_83, ak_84, al_84, ak_85, al_85, ak_86, al_86, ak_87, al_87, ak_88, al_88, ak_89, al_89, ak_90, al_90, ak_91, al_91, ak_92, al_92, ak_93, al_93, ak_94, al_94, ak_95, al_95, ak_96, al_96, ak_97, al_97, ak_98, al_98, ak_99, al_99, ak_100, al_100, ly_row, ak_row, al_row, ly_text, ak_text, al_text, ly_rule, ak_rule, al_rule, ly_page, ak_page, al_page, ly_kept, ak_kept, al_kept, eq_self, true_or, or_true, not_false_eq_true, z0, z1, b_z, ho, hs, y2]; done) | (simp (disch := omega) only [ly1, ak_2, al_2, ly3, ak_4, al_4, ly5, ak_6, al_6, ly7, ak_8, al_8, ly9, ak_10, al_10, ly11, ak_12, al_12, ly13, ak_14, al_14, ak_15, al_15, ly16, ak_17, al_17, ly18, ak_19, al_19, ly20, ak_21, al_21, ly22, ak_23, al_23, ak_24, al_24, ly25, ak_26, al_26, ly27, ak_28, al_28, ly29, ak_30, al_30, ly31, ak_32, al_32, ak_33, al_33, ly34, ak_35, al_35, ly36, ak_37, al_37, ly38, ak_39, al_39, ly40, ak_41, al_41, ly42, ak_43, al_43, ak_44, al_44, ly45, ak_46, al_46, ly47, ak_48, al_48, ly49, ak_50, al_50, ly51, ak_52, al_52, ak_53, al_53, ly54, ak_55, al_55, ak_56, al_56, ly57, ly58, ak_59, al_59, ly60, ak_61, al_61, ly62, ak_63, al_63, ak_64, al_64, ly65, ak_66, al_66, ly67, ly68, ak_69, al_69, ly70, ak_71, al_71, ak_72, al_72, ak_73, al_73, ak_74, al_74, ak_75, al_75, ly76, ak_77, al_77, ak_78, al_78, ak_79, al_79, ak_80, al_80, ak_81, al_81, ak_82, al_82, ak_83, al_83, ak_84, al_84, ak_85, al_85, ak_86, al_86, ak_87, al_87, ak_88, al_88, ak_89, al_89, ak_90, al_90, ak_91, al_91, ak_92, al_92, ak_93, al_93, ak_94, al_94, ak_95, al_95, ak_96, al_96, ak_97, al_97, ak_98, al_98, ak_99, al_99, ak_100, al_100, ly_row, ak_row, al_row, ly_text, ak_text, al_text, ly_rule, ak_rule, al_rule, ly_page, ak_page, al_page, ly_kept, ak_kept, al_kept, eq_self, true_or, or_true, not_false_eq_true, z0, z1, b_z, ho, hs, y2]; omega)) only [v101_129, v101_130, v101_133, v101_136, v101_137, v101_140, v101_141, v101_143, v101_144, v101_145, v101_148, v101_150, v101_151, v101_152, v101_153, v101_154, v101_155, v101_156, v101_157, v101_160, pm_bd_some, Option.toList_some, Option.toList_none, List.cons_append, List.nil_append, Nat.reduceAdd, Nat.reduceMul, n_lt, n_le, n_eq, n_lt0, n_ge0, n_eq0, n_gt0, n_le0, b_e, b_z, z0, z1, m1_lt, m1_ge, m1_eq, m1_n, m1_n2, m2_lt, m2_ge, m2_eq, m2_n, m2_n2, m3_lt, m3_ge, m3_eq, m3_n, m3_n2, m4_lt, m4_ge, m4_eq, m4_n, m4_n2, m6_lt, m6_ge, m6_eq, m6_n, m6_n2, m9_lt, m9_ge, m9_eq, m9_n, m9_n2, nI_add, pk_mul, not_true_eq_false, not_false_eq_true, Decidable.not_not, if_pos, if_neg, and_self, and_true, true_and, and_false, false_and, or_self, true_or, or_true, false_or, or_false, if_true, if_false, eq_self, ho, hs, y2]
    exact hj
theorem lp_cntM {X : pm_X} {n : Nat} {x1 x2 x3 : Int32} {f : Nat → Nat} {R : Option (Option Value × pm_H)} (hn : n ≤ 24) : ∀ (l d : Nat) (U : pm_U), U.1 76 25 = nI n → MDy U f n → d + l = n → pm_V X 226 184 [some (.ref 76), some (.int x1), some (.int x2), some (.int x3), some (.int (nI n))] [] (0, 0) (pm_hp (cu_U U 99 n f d)) = R → pm_V X 226 148 [some (.ref 76), some (.int x1), some (.int x2), some (.int x3), some (.int (nI d))] [] (0, 0) (pm_hp U) = R := by
  intro l
  induction l with
  | zero =>
    intro d U hs hy h hR
    have e : d = n := by omega
    subst e
    rw [cu_0] at hR
    rw [v226_148]
    simp (disch := first | omega | (simp (disch := omega) only [ly1, ak_2, al_2, ly3, ak_4, al_4, ly5, ak_6, al_6, ly7, ak_8, al_8, ly9, ak_10, al_10, ly11, ak_12, al_12, ly13, ak_14, al_14, ak_15, al_15, ly16, ak_17, al_17, ly18, ak_19, al_19, ly20, ak_21, al_21, ly22, ak_23, al_23, ak_24, al_24, ly25, ak_26, al_26, ly27, ak_28, al_28, ly29, ak_30, al_30, ly31, ak_32, al_32, ak_33, al_33, ly34, ak_35, al_35, ly36, ak_37, al_37, ly38, ak_39, al_39, ly40, ak_41, al_41, ly42, ak_43, al_43, ak_44, al_44, ly45, ak_46, al_46, ly47, ak_48, al_48, ly49, ak_50, al_50, ly51, ak_52, al_52, ak_53, al_53, ly54, ak_55, al_55, ak_56, al_56, ly57, ly58, ak_59, al_59, ly60, ak_61, al_61, ly62, ak_63, al_63, ak_64, al_64, ly65, ak_66, al_66, ly67, ly68, ak_69, al_69, ly70, ak_71, al_71, ak_72, al_72, ak_73, al_73, ak_74, al_74, ak_75, al_75, ly76, ak_77, al_77, ak_78, al_78, ak_79, al_79, ak_80, al_80, ak_81, al_81, ak_82, al_82, ak_83, al_83, ak_84, al_84, ak_85, al_85, ak_86, al_86, ak_87, al_87, ak_88, al_88, ak_89, al_89, ak_90, al_90, ak_91, al_91, ak_92, al_92, ak_93, al_93, ak_94, al_94, ak_95, al_95, ak_96, al_96, ak_97, al_97, ak_98, al_98, ak_99, al_99, ak_100, al_100, ly_row, ak_row, al_row, ly_text, ak_text, al_text, ly_rule, ak_rule, al_rule, ly_page, ak_page, al_page, ly_kept, ak_kept, al_kept, eq_self, true_or, or_true, not_false_eq_true, z0, z1, b_z, hs]; done) | (simp (disch := omega) only [ly1, ak_2, al_2, ly3, ak_4, al_4, ly5, ak_6, al_6, ly7, ak_8, al_8, ly9, ak_10, al_10, ly11, ak_12, al_12, ly13, ak_14, al_14, ak_15, al_15, ly16, ak_17, al_17, ly18, ak_19, al_19, ly20, ak_21, al_21, ly22, ak_23, al_23, ak_24, al_24, ly25, ak_26, al_26, ly27, ak_28, al_28, ly29, ak_30, al_30, ly31, ak_32, al_32, ak_33, al_33, ly34, ak_35, al_35, ly36, ak_37, al_37, ly38, ak_39, al_39, ly40, ak_41, al_41, ly42, ak_43, al_43, ak_44, al_44, ly45, ak_46, al_46, ly47, ak_48, al_48, ly49, ak_50, al_50, ly51, ak_52, al_52, ak_53, al_53, ly54, ak_55, al_55, ak_56, al_56, ly57, ly58, ak_59, al_59, ly60, ak_61, al_61, ly62, ak_63, al_63, ak_64, al_64, ly65, ak_66, al_66, ly67, ly68, ak_69, al_69, ly70, ak_71, al_71, ak_72, al_72, ak_73, al_73, ak_74, al_74, ak_75, al_75, ly76, ak_77, al_77, ak_78, al_78, ak_79, al_79, ak_80, al_80, ak_81, al_81, ak_82, al_82, ak_83, al_83, ak_84, al_84, ak_85, al_85, ak_86, al_86, ak_87, al_87, ak_88, al_88, ak_89, al_89, ak_90, al_90, ak_91, al_91, ak_92, al_92, ak_93, al_93, ak_94, al_94, ak_95, al_95, ak_96, al_96, ak_97, al_97, ak_98, al_98, ak_99, al_99, ak_100, al_100, ly_row, ak_row, al_row, ly_text, ak_text, al_text, ly_rule, ak_rule, al_rule, ly_page, ak_page, al_page, ly_kept, ak_kept, al_kept, eq_self, true_or, or_true, not_false_eq_true, z0, z1, b_z, hs]; omega)) only [v226_150, v226_151, v226_154, v226_157, v226_158, v226_161, v226_162, v226_164, v226_165, v226_166, v226_169, v226_171, v226_172, v226_173, v226_174, v226_175, v226_176, v226_177, v226_178, v226_181, pm_bd_some, Option.toList_some, Option.toList_none, List.cons_append, List.nil_append, Nat.reduceAdd, Nat.reduceMul, n_lt, n_le, n_eq, n_lt0, n_ge0, n_eq0, n_gt0, n_le0, b_e, b_z, z0, z1, m1_lt, m1_ge, m1_eq, m1_n, m1_n2, m2_lt, m2_ge, m2_eq, m2_n, m2_n2, m3_lt, m3_ge, m3_eq, m3_n, m3_n2, m4_lt, m4_ge, m4_eq, m4_n, m4_n2, m6_lt, m6_ge, m6_eq, m6_n, m6_n2, m9_lt, m9_ge, m9_eq, m9_n, m9_n2, nI_add, pk_mul, not_true_eq_false, not_false_eq_true, Decidable.not_not, if_pos, if_neg, and_self, and_true, true_and, and_false, false_and, or_self, true_or, or_true, false_or, or_false, if_true, if_false, eq_self, hs]
    exact hR
  | succ l ih =>
    intro d U hs hy h hR
    obtain ⟨y1, y2⟩ := hy d (by omega)
    have hu : ∀ k' i, k' ≠ 99 → (pm_up U 99 (4 * d + f d) (U.1 99 (4 * d + f d) + nI 1)).1 k' i = U.1 k' i := fun k' i z => by rw [pm_up_1, if_neg (fun w => z w.1)]
    have hj := ih (d + 1) (pm_up U 99 (4 * d + f d) (U.1 99 (4 * d + f d) + nI 1)) (by rw [hu _ _ (by omega)]; exact hs) (hy.cg (fun i hi => hu _ _ (by omega))) (by omega) (by rw [cu_step (by omega) y1]; exact hR)
    rw [v226_148]
    simp (disch := first | omega | (simp (disch := omega) only [ly1, ak_2, al_2, ly3, ak_4, al_4, ly5, ak_6, al_6, ly7, ak_8, al_8, ly9, ak_10, al_10, ly11, ak_12, al_12, ly13, ak_14, al_14, ak_15, al_15, ly16, ak_17, al_17, ly18, ak_19, al_19, ly20, ak_21, al_21, ly22, ak_23, al_23, ak_24, al_24, ly25, ak_26, al_26, ly27, ak_28, al_28, ly29, ak_30, al_30, ly31, ak_32, al_32, ak_33, al_33, ly34, ak_35, al_35, ly36, ak_37, al_37, ly38, ak_39, al_39, ly40, ak_41, al_41, ly42, ak_43, al_43, ak_44, al_44, ly45, ak_46, al_46, ly47, ak_48, al_48, ly49, ak_50, al_50, ly51, ak_52, al_52, ak_53, al_53, ly54, ak_55, al_55, ak_56, al_56, ly57, ly58, ak_59, al_59, ly60, ak_61, al_61, ly62, ak_63, al_63, ak_64, al_64, ly65, ak_66, al_66, ly67, ly68, ak_69, al_69, ly70, ak_71, al_71, ak_72, al_72, ak_73, al_73, ak_74, al_74, ak_75, al_75, ly76, ak_77, al_77, ak_78, al_78, ak_79, al_79, ak_80, al_80, ak_81, al_81, ak_82, al_82, ak_83, al_83, ak_84, al_84, ak_85, al_85, ak_86, al_86, ak_87, al_87, ak_88, al_88, ak_89, al_89, ak_90, al_90, ak_91, al_91, ak_92, al_92, ak_93, al_93, ak_94, al_94, ak_95, al_95, ak_96, al_96, ak_97, al_97, ak_98, al_98, ak_99, al_99, ak_100, al_100, ly_row, ak_row, al_row, ly_text, ak_text, al_text, ly_rule, ak_rule, al_rule, ly_page, ak_page, al_page, ly_kept, ak_kept, al_kept, eq_self, true_or, or_true, not_false_eq_true, z0, z1, b_z, hs, y2]; done) | (simp (disch := omega) only [ly1, ak_2, al_2, ly3, ak_4, al_4, ly5, ak_6, al_6, ly7, ak_8, al_8, ly9, ak_10, al_10, ly11, ak_12, al_12, ly13, ak_14, al_14, ak_15, al_15, ly16, ak_17, al_17, ly18, ak_19, al_19, ly20, ak_21, al_21, ly22, ak_23, al_23, ak_24, al_24, ly25, ak_26, al_26, ly27, ak_28, al_28, ly29, ak_30, al_30, ly31, ak_32, al_32, ak_33, al_33, ly34, ak_35, al_35, ly36, ak_37, al_37, ly38, ak_39, al_39, ly40, ak_41, al_41, ly42, ak_43, al_43, ak_44, al_44, ly45, ak_46, al_46, ly47, ak_48, al_48, ly49, ak_50, al_50, ly51, ak_52, al_52, ak_53, al_53, ly54, ak_55, al_55, ak_56, al_56, ly57, ly58, ak_59, al_59, ly60, ak_61, al_61, ly62, ak_63, al_63, ak_64, al_64, ly65, ak_66, al_66, ly67, ly68, ak_69, al_69, ly70, ak_71, al_71, ak_72, al_72, ak_73, al_73, ak_74, al_74, ak_75, al_75, ly76, ak_77, al_77, ak_78, al_78, ak_79, al_79, ak_80, al_80, ak_81, al_81, ak_82, al_82, ak_83, al_83, ak_84, al_84, ak_85, al_85, ak_86, al_86, ak_87, al_87, ak_88, al_88, ak_89, al_89, ak_90, al_90, ak_91, al_91, ak_92, al_92, ak_93, al_93, ak_94, al_94, ak_95, al_95, ak_96, al_96, ak_97, al_97, ak_98, al_98, ak_99, al_99, ak_100, al_100, ly_row, ak_row, al_row, ly_text, ak_text, al_text, ly_rule, ak_rule, al_rule, ly_page, ak_page, al_page, ly_kept, ak_kept, al_kept, eq_self, true_or, or_true, not_false_eq_true, z0, z1, b_z, hs, y2]; omega)) only [v226_150, v226_151, v226_154, v226_157, v226_158, v226_161, v226_162, v226_164, v226_165, v226_166, v226_169, v226_171, v226_172, v226_173, v226_174, v226_175, v226_176, v226_177, v226_178, v226_181, pm_bd_some, Option.toList_some, Option.toList_none, List.cons_append, List.nil_append, Nat.reduceAdd, Nat.reduceMul, n_lt, n_le, n_eq, n_lt0, n_ge0, n_eq0, n_gt0, n_le0, b_e, b_z, z0, z1, m1_lt, m1_ge, m1_eq, m1_n, m1_n2, m2_lt, m2_ge, m2_eq, m2_n, m2_n2, m3_lt, m3_ge, m3_eq, m3_n, m3_n2, m4_lt, m4_ge, m4_eq, m4_n, m4_n2, m6_lt, m6_ge, m6_eq, m6_n, m6_n2, m9_lt, m9_ge, m9_eq, m9_n, m9_n2, nI_add, pk_mul, not_true_eq_false, not_false_eq_true, Decidable.not_not, if_pos, if_neg, and_self, and_true, true_and, and_false, false_and, or_self, true_or, or_true, false_or, or_false, if_true, if_false, eq_self, hs, y2]
    exact hj
