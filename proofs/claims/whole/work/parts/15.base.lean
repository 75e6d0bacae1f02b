/-! base facts for the specs -/
def pm_w (U : pm_U) (F : Nat → Nat → Int32) : pm_U := (F, U.2)
theorem pm_w_1 (U : pm_U) (F : Nat → Nat → Int32) : (pm_w U F).1 = F := rfl
theorem pm_w_2 (U : pm_U) (F : Nat → Nat → Int32) : (pm_w U F).2 = U.2 := rfl
theorem pm_ext {U V : pm_U} (h : ∀ k i, U.1 k i = V.1 k i) (h2 : U.2 = V.2) : U = V := Prod.ext (funext fun k => funext fun i => h k i) h2
theorem pm_up_w (U : pm_U) (k s : Nat) (v : Int32) : pm_up U k s v = pm_w U (fun k' i => if k' = k ∧ i = s then v else U.1 k' i) := pm_ext (fun k' i => pm_up_1 U k s v k' i) rfl
theorem ly_5 : ∀ k, k < 101 → pm_ly k = some (.inl 5) → pm_ak (k + 1) = 1 ∧ pm_al (k + 1) = 60 := by decide +kernel
theorem ly_9 : ∀ k, k < 101 → pm_ly k = some (.inl 9) → pm_ak (k + 1) = 2 ∧ pm_al (k + 1) = 120 := by decide +kernel
theorem ly_6 : ∀ k, k < 101 → pm_ly k = some (.inl 6) → pm_ak (k + 1) = 1 ∧ pm_al (k + 1) = 4 := by decide +kernel
theorem ly_2 : ∀ k, k < 101 → pm_ly k = some (.inl 2) → pm_ak (k + 1) = 1 ∧ pm_al (k + 1) = 24 := by decide +kernel
theorem ly_4 : ∀ k, k < 101 → pm_ly k = some (.inl 4) → pm_ak (k + 1) = 1 ∧ pm_al (k + 1) = 24 := by decide +kernel
theorem ly_0a : ∀ k, k < 101 → pm_ly k = some (.inl 0) → pm_ak (k + 1) = 1 ∧ pm_al (k + 1) = 8 := by decide +kernel
theorem ly_0b : ∀ k, k < 101 → pm_ly k = some (.inl 0) → pm_ak (k + 2) = 1 ∧ pm_al (k + 2) = 8 := by decide +kernel
theorem ly_lt {k : Nat} {d : Nat ⊕ (FieldType × Nat × Bool)} (h : pm_ly k = some d) : k < 101 := by have := pm_ly_rg h; omega
theorem row_ak {k : Nat} (h : pm_ly k = some (.inl 5)) : pm_ak (k + 1) = 1 := (ly_5 k (ly_lt h) h).1
theorem row_al {k : Nat} (h : pm_ly k = some (.inl 5)) : pm_al (k + 1) = 60 := (ly_5 k (ly_lt h) h).2
theorem text_ak {k : Nat} (h : pm_ly k = some (.inl 9)) : pm_ak (k + 1) = 2 := (ly_9 k (ly_lt h) h).1
theorem text_al {k : Nat} (h : pm_ly k = some (.inl 9)) : pm_al (k + 1) = 120 := (ly_9 k (ly_lt h) h).2
theorem rule_ak {k : Nat} (h : pm_ly k = some (.inl 6)) : pm_ak (k + 1) = 1 := (ly_6 k (ly_lt h) h).1
theorem rule_al {k : Nat} (h : pm_ly k = some (.inl 6)) : pm_al (k + 1) = 4 := (ly_6 k (ly_lt h) h).2
theorem page_ak {k : Nat} (h : pm_ly k = some (.inl 2)) : pm_ak (k + 1) = 1 := (ly_2 k (ly_lt h) h).1
theorem page_al {k : Nat} (h : pm_ly k = some (.inl 2)) : pm_al (k + 1) = 24 := (ly_2 k (ly_lt h) h).2
theorem read_ak {k : Nat} (h : pm_ly k = some (.inl 4)) : pm_ak (k + 1) = 1 := (ly_4 k (ly_lt h) h).1
theorem read_al {k : Nat} (h : pm_ly k = some (.inl 4)) : pm_al (k + 1) = 24 := (ly_4 k (ly_lt h) h).2
theorem ly_row : ∀ r, r < 6 → pm_ly (3 + 2 * r) = some (.inl 5) := by decide +kernel
theorem ly_text : ∀ r, r < 4 → pm_ly (16 + 2 * r) = some (.inl 9) := by decide +kernel
theorem ly_rule : ∀ r, r < 4 → pm_ly (25 + 2 * r) = some (.inl 6) := by decide +kernel
theorem ly_page : ∀ r, r < 4 → pm_ly (34 + 2 * r) = some (.inl 2) := by decide +kernel
theorem ly_kept : ∀ r, r < 3 → pm_ly (45 + 2 * r) = some (.inl 4) := by decide +kernel
theorem ly1 : pm_ly 1 = some (.inl 10) := by decide +kernel
theorem ly76 : pm_ly 76 = some (.inl 11) := by decide +kernel
theorem ak_2 : pm_ak 2 = 4 := by decide +kernel
theorem al_2 : pm_al 2 = 6 := by decide +kernel
theorem ak_75 : pm_ak 75 = 1 := by decide +kernel
theorem al_75 : pm_al 75 = 6 := by decide +kernel
theorem z0 : (nI 0 = 0 ∨ nI 0 = 1) = True := eq_true (by decide)
theorem z1 : (nI 1 = 0 ∨ nI 1 = 1) = True := eq_true (by decide)
theorem i32_0 : (0 : Int32).toInt = 0 := by decide
theorem nI_t {n : Nat} (h : n < 2 ^ 31) : (nI n).toInt = (n : Int) := nI_toInt h
theorem ly3 : pm_ly 3 = some (.inl 5) := by decide +kernel
theorem ak_4 : pm_ak 4 = 1 := by decide +kernel
theorem al_4 : pm_al 4 = 60 := by decide +kernel
theorem ly5 : pm_ly 5 = some (.inl 5) := by decide +kernel
theorem ak_6 : pm_ak 6 = 1 := by decide +kernel
theorem al_6 : pm_al 6 = 60 := by decide +kernel
theorem ly7 : pm_ly 7 = some (.inl 5) := by decide +kernel
theorem ak_8 : pm_ak 8 = 1 := by decide +kernel
theorem al_8 : pm_al 8 = 60 := by decide +kernel
theorem ly9 : pm_ly 9 = some (.inl 5) := by decide +kernel
theorem ak_10 : pm_ak 10 = 1 := by decide +kernel
theorem al_10 : pm_al 10 = 60 := by decide +kernel
theorem ly11 : pm_ly 11 = some (.inl 5) := by decide +kernel
theorem ak_12 : pm_ak 12 = 1 := by decide +kernel
theorem al_12 : pm_al 12 = 60 := by decide +kernel
theorem ly13 : pm_ly 13 = some (.inl 5) := by decide +kernel
theorem ak_14 : pm_ak 14 = 1 := by decide +kernel
theorem al_14 : pm_al 14 = 60 := by decide +kernel
theorem ak_15 : pm_ak 15 = 4 := by decide +kernel
theorem al_15 : pm_al 15 = 4 := by decide +kernel
theorem ly16 : pm_ly 16 = some (.inl 9) := by decide +kernel
theorem ak_17 : pm_ak 17 = 2 := by decide +kernel
theorem al_17 : pm_al 17 = 120 := by decide +kernel
theorem ly18 : pm_ly 18 = some (.inl 9) := by decide +kernel
theorem ak_19 : pm_ak 19 = 2 := by decide +kernel
theorem al_19 : pm_al 19 = 120 := by decide +kernel
theorem ly20 : pm_ly 20 = some (.inl 9) := by decide +kernel
theorem ak_21 : pm_ak 21 = 2 := by decide +kernel
theorem al_21 : pm_al 21 = 120 := by decide +kernel
theorem ly22 : pm_ly 22 = some (.inl 9) := by decide +kernel
theorem ak_23 : pm_ak 23 = 2 := by decide +kernel
theorem al_23 : pm_al 23 = 120 := by decide +kernel
theorem ak_24 : pm_ak 24 = 4 := by decide +kernel
theorem al_24 : pm_al 24 = 4 := by decide +kernel
theorem ly25 : pm_ly 25 = some (.inl 6) := by decide +kernel
theorem ak_26 : pm_ak 26 = 1 := by decide +kernel
theorem al_26 : pm_al 26 = 4 := by decide +kernel
theorem ly27 : pm_ly 27 = some (.inl 6) := by decide +kernel
theorem ak_28 : pm_ak 28 = 1 := by decide +kernel
theorem al_28 : pm_al 28 = 4 := by decide +kernel
theorem ly29 : pm_ly 29 = some (.inl 6) := by decide +kernel
theorem ak_30 : pm_ak 30 = 1 := by decide +kernel
theorem al_30 : pm_al 30 = 4 := by decide +kernel
theorem ly31 : pm_ly 31 = some (.inl 6) := by decide +kernel
theorem ak_32 : pm_ak 32 = 1 := by decide +kernel
theorem al_32 : pm_al 32 = 4 := by decide +kernel
theorem ak_33 : pm_ak 33 = 4 := by decide +kernel
theorem al_33 : pm_al 33 = 4 := by decide +kernel
theorem ly34 : pm_ly 34 = some (.inl 2) := by decide +kernel
theorem ak_35 : pm_ak 35 = 1 := by decide +kernel
theorem al_35 : pm_al 35 = 24 := by decide +kernel
theorem ly36 : pm_ly 36 = some (.inl 2) := by decide +kernel
theorem ak_37 : pm_ak 37 = 1 := by decide +kernel
theorem al_37 : pm_al 37 = 24 := by decide +kernel
theorem ly38 : pm_ly 38 = some (.inl 2) := by decide +kernel
theorem ak_39 : pm_ak 39 = 1 := by decide +kernel
theorem al_39 : pm_al 39 = 24 := by decide +kernel
theorem ly40 : pm_ly 40 = some (.inl 2) := by decide +kernel
theorem ak_41 : pm_ak 41 = 1 := by decide +kernel
theorem al_41 : pm_al 41 = 24 := by decide +kernel
theorem ly42 : pm_ly 42 = some (.inl 4) := by decide +kernel
theorem ak_43 : pm_ak 43 = 1 := by decide +kernel
theorem al_43 : pm_al 43 = 24 := by decide +kernel
theorem ak_44 : pm_ak 44 = 4 := by decide +kernel
theorem al_44 : pm_al 44 = 3 := by decide +kernel
theorem ly45 : pm_ly 45 = some (.inl 4) := by decide +kernel
theorem ak_46 : pm_ak 46 = 1 := by decide +kernel
theorem al_46 : pm_al 46 = 24 := by decide +kernel
theorem ly47 : pm_ly 47 = some (.inl 4) := by decide +kernel
theorem ak_48 : pm_ak 48 = 1 := by decide +kernel
theorem al_48 : pm_al 48 = 24 := by decide +kernel
theorem ly49 : pm_ly 49 = some (.inl 4) := by decide +kernel
theorem ak_50 : pm_ak 50 = 1 := by decide +kernel
theorem al_50 : pm_al 50 = 24 := by decide +kernel
theorem ly51 : pm_ly 51 = some (.inl 0) := by decide +kernel
theorem ak_52 : pm_ak 52 = 1 := by decide +kernel
theorem al_52 : pm_al 52 = 8 := by decide +kernel
theorem ak_53 : pm_ak 53 = 1 := by decide +kernel
theorem al_53 : pm_al 53 = 8 := by decide +kernel
theorem ly54 : pm_ly 54 = some (.inl 0) := by decide +kernel
theorem ak_55 : pm_ak 55 = 1 := by decide +kernel
theorem al_55 : pm_al 55 = 8 := by decide +kernel
theorem ak_56 : pm_ak 56 = 1 := by decide +kernel
theorem al_56 : pm_al 56 = 8 := by decide +kernel
theorem ly57 : pm_ly 57 = some (.inl 3) := by decide +kernel
theorem ly58 : pm_ly 58 = some (.inl 6) := by decide +kernel
theorem ak_59 : pm_ak 59 = 1 := by decide +kernel
theorem al_59 : pm_al 59 = 4 := by decide +kernel
theorem ly60 : pm_ly 60 = some (.inl 2) := by decide +kernel
theorem ak_61 : pm_ak 61 = 1 := by decide +kernel
theorem al_61 : pm_al 61 = 24 := by decide +kernel
theorem ly62 : pm_ly 62 = some (.inl 8) := by decide +kernel
theorem ak_63 : pm_ak 63 = 1 := by decide +kernel
theorem al_63 : pm_al 63 = 96 := by decide +kernel
theorem ak_64 : pm_ak 64 = 1 := by decide +kernel
theorem al_64 : pm_al 64 = 24 := by decide +kernel
theorem ly65 : pm_ly 65 = some (.inl 6) := by decide +kernel
theorem ak_66 : pm_ak 66 = 1 := by decide +kernel
theorem al_66 : pm_al 66 = 4 := by decide +kernel
theorem ly67 : pm_ly 67 = some (.inl 7) := by decide +kernel
theorem ly68 : pm_ly 68 = some (.inl 6) := by decide +kernel
theorem ak_69 : pm_ak 69 = 1 := by decide +kernel
theorem al_69 : pm_al 69 = 4 := by decide +kernel
theorem ly70 : pm_ly 70 = some (.inl 1) := by decide +kernel
theorem ak_71 : pm_ak 71 = 1 := by decide +kernel
theorem al_71 : pm_al 71 = 24 := by decide +kernel
theorem ak_72 : pm_ak 72 = 1 := by decide +kernel
theorem al_72 : pm_al 72 = 24 := by decide +kernel
theorem ak_73 : pm_ak 73 = 1 := by decide +kernel
theorem al_73 : pm_al 73 = 24 := by decide +kernel
theorem ak_74 : pm_ak 74 = 1 := by decide +kernel
theorem al_74 : pm_al 74 = 24 := by decide +kernel
theorem ak_77 : pm_ak 77 = 1 := by decide +kernel
theorem al_77 : pm_al 77 = 6 := by decide +kernel
theorem ak_78 : pm_ak 78 = 1 := by decide +kernel
theorem al_78 : pm_al 78 = 6 := by decide +kernel
theorem ak_79 : pm_ak 79 = 1 := by decide +kernel
theorem al_79 : pm_al 79 = 360 := by decide +kernel
theorem ak_80 : pm_ak 80 = 1 := by decide +kernel
theorem al_80 : pm_al 80 = 60 := by decide +kernel
theorem ak_81 : pm_ak 81 = 1 := by decide +kernel
theorem al_81 : pm_al 81 = 4 := by decide +kernel
theorem ak_82 : pm_ak 82 = 2 := by decide +kernel
theorem al_82 : pm_al 82 = 480 := by decide +kernel
theorem ak_83 : pm_ak 83 = 1 := by decide +kernel
theorem al_83 : pm_al 83 = 4 := by decide +kernel
theorem ak_84 : pm_ak 84 = 3 := by decide +kernel
theorem al_84 : pm_al 84 = 4 := by decide +kernel
theorem ak_85 : pm_ak 85 = 1 := by decide +kernel
theorem al_85 : pm_al 85 = 16 := by decide +kernel
theorem ak_86 : pm_ak 86 = 3 := by decide +kernel
theorem al_86 : pm_al 86 = 4 := by decide +kernel
theorem ak_87 : pm_ak 87 = 1 := by decide +kernel
theorem al_87 : pm_al 87 = 4 := by decide +kernel
theorem ak_88 : pm_ak 88 = 1 := by decide +kernel
theorem al_88 : pm_al 88 = 96 := by decide +kernel
theorem ak_89 : pm_ak 89 = 1 := by decide +kernel
theorem al_89 : pm_al 89 = 4 := by decide +kernel
theorem ak_90 : pm_ak 90 = 1 := by decide +kernel
theorem al_90 : pm_al 90 = 24 := by decide +kernel
theorem ak_91 : pm_ak 91 = 1 := by decide +kernel
theorem al_91 : pm_al 91 = 4 := by decide +kernel
theorem ak_92 : pm_ak 92 = 1 := by decide +kernel
theorem al_92 : pm_al 92 = 24 := by decide +kernel
theorem ak_93 : pm_ak 93 = 1 := by decide +kernel
theorem al_93 : pm_al 93 = 24 := by decide +kernel
theorem ak_94 : pm_ak 94 = 3 := by decide +kernel
theorem al_94 : pm_al 94 = 4 := by decide +kernel
theorem ak_95 : pm_ak 95 = 1 := by decide +kernel
theorem al_95 : pm_al 95 = 220 := by decide +kernel
theorem ak_96 : pm_ak 96 = 1 := by decide +kernel
theorem al_96 : pm_al 96 = 24 := by decide +kernel
theorem ak_97 : pm_ak 97 = 1 := by decide +kernel
theorem al_97 : pm_al 97 = 8 := by decide +kernel
theorem ak_98 : pm_ak 98 = 1 := by decide +kernel
theorem al_98 : pm_al 98 = 8 := by decide +kernel
theorem ak_99 : pm_ak 99 = 1 := by decide +kernel
theorem al_99 : pm_al 99 = 96 := by decide +kernel
theorem ak_100 : pm_ak 100 = 1 := by decide +kernel
theorem al_100 : pm_al 100 = 24 := by decide +kernel
theorem ak_row : ∀ r, r < 6 → pm_ak (3 + 2 * r + 1) = 1 := by decide +kernel
theorem al_row : ∀ r, r < 6 → pm_al (3 + 2 * r + 1) = 60 := by decide +kernel
theorem ak_text : ∀ r, r < 4 → pm_ak (16 + 2 * r + 1) = 2 := by decide +kernel
theorem al_text : ∀ r, r < 4 → pm_al (16 + 2 * r + 1) = 120 := by decide +kernel
theorem ak_rule : ∀ r, r < 4 → pm_ak (25 + 2 * r + 1) = 1 := by decide +kernel
theorem al_rule : ∀ r, r < 4 → pm_al (25 + 2 * r + 1) = 4 := by decide +kernel
theorem ak_page : ∀ r, r < 4 → pm_ak (34 + 2 * r + 1) = 1 := by decide +kernel
theorem al_page : ∀ r, r < 4 → pm_al (34 + 2 * r + 1) = 24 := by decide +kernel
theorem ak_kept : ∀ r, r < 3 → pm_ak (45 + 2 * r + 1) = 1 := by decide +kernel
theorem al_kept : ∀ r, r < 3 → pm_al (45 + 2 * r + 1) = 24 := by decide +kernel
theorem n_lt {a b : Nat} (ha : a < 2 ^ 31) (hb : b < 2 ^ 31) : (nI a < nI b) = (a < b) := propext (nI_ltI ha hb)
theorem n_le {a b : Nat} (ha : a < 2 ^ 31) (hb : b < 2 ^ 31) : (nI a ≤ nI b) = (a ≤ b) := propext (nI_leI ha hb)
theorem n_eq {a b : Nat} (ha : a < 2 ^ 31) (hb : b < 2 ^ 31) : (nI a = nI b) = (a = b) := propext (nI_eq ha hb)
theorem n_lt0 {a : Nat} (ha : a < 2 ^ 31) : (nI a < 0) = False := eq_false (nI_pos ha)
theorem n_ge0 {a : Nat} (ha : a < 2 ^ 31) : (0 ≤ nI a) = True := eq_true (nI_pos' ha)
theorem n_eq0 {a : Nat} (ha : a < 2 ^ 31) : (nI a = 0) = (a = 0) := propext (by rw [← nI_0]; exact nI_eq ha (by decide))
theorem n_gt0 {a : Nat} (ha : a < 2 ^ 31) : (0 < nI a) = (0 < a) := propext (by rw [← nI_0]; exact nI_ltI (by decide) ha)
theorem n_le0 {a : Nat} (ha : a < 2 ^ 31) : (nI a ≤ 0) = (a ≤ 0) := propext (by rw [← nI_0]; exact nI_leI ha (by decide))
theorem b_e {p : Prop} [Decidable p] : ((if p then nI 1 else nI 0) = 0) = ¬ p := by
  by_cases h : p
  · rw [if_pos h]; exact propext ⟨fun q => absurd q (by decide), fun q => absurd h q⟩
  · rw [if_neg h]; exact propext ⟨fun _ => h, fun _ => by decide⟩
theorem b_z {p : Prop} [Decidable p] : ((if p then nI 1 else nI 0) = 0 ∨ (if p then nI 1 else nI 0) = 1) = True := by
  by_cases h : p
  · rw [if_pos h]; exact z1
  · rw [if_neg h]; exact z0
theorem m1_lt : ((-1 : Int32) < 0) = True := eq_true (by decide)
theorem m1_ge : ((0 : Int32) ≤ (-1)) = False := eq_false (by decide)
theorem m1_eq : ((-1 : Int32) = 0) = False := eq_false (by decide)
theorem m1_n {a : Nat} (ha : a < 2 ^ 31) : (nI a = (-1 : Int32)) = False := eq_false (fun h => nI_pos ha (h ▸ (by decide)))
theorem m1_n2 {a : Nat} (ha : a < 2 ^ 31) : ((-1 : Int32) = nI a) = False := eq_false (fun h => nI_pos ha (h ▸ (by decide)))
theorem m2_lt : ((-2 : Int32) < 0) = True := eq_true (by decide)
theorem m2_ge : ((0 : Int32) ≤ (-2)) = False := eq_false (by decide)
theorem m2_eq : ((-2 : Int32) = 0) = False := eq_false (by decide)
theorem m2_n {a : Nat} (ha : a < 2 ^ 31) : (nI a = (-2 : Int32)) = False := eq_false (fun h => nI_pos ha (h ▸ (by decide)))
theorem m2_n2 {a : Nat} (ha : a < 2 ^ 31) : ((-2 : Int32) = nI a) = False := eq_false (fun h => nI_pos ha (h ▸ (by decide)))
theorem m3_lt : ((-3 : Int32) < 0) = True := eq_true (by decide)
theorem m3_ge : ((0 : Int32) ≤ (-3)) = False := eq_false (by decide)
theorem m3_eq : ((-3 : Int32) = 0) = False := eq_false (by decide)
theorem m3_n {a : Nat} (ha : a < 2 ^ 31) : (nI a = (-3 : Int32)) = False := eq_false (fun h => nI_pos ha (h ▸ (by decide)))
theorem m3_n2 {a : Nat} (ha : a < 2 ^ 31) : ((-3 : Int32) = nI a) = False := eq_false (fun h => nI_pos ha (h ▸ (by decide)))
theorem m4_lt : ((-4 : Int32) < 0) = True := eq_true (by decide)
theorem m4_ge : ((0 : Int32) ≤ (-4)) = False := eq_false (by decide)
theorem m4_eq : ((-4 : Int32) = 0) = False := eq_false (by decide)
theorem m4_n {a : Nat} (ha : a < 2 ^ 31) : (nI a = (-4 : Int32)) = False := eq_false (fun h => nI_pos ha (h ▸ (by decide)))
theorem m4_n2 {a : Nat} (ha : a < 2 ^ 31) : ((-4 : Int32) = nI a) = False := eq_false (fun h => nI_pos ha (h ▸ (by decide)))
theorem m6_lt : ((-6 : Int32) < 0) = True := eq_true (by decide)
theorem m6_ge : ((0 : Int32) ≤ (-6)) = False := eq_false (by decide)
theorem m6_eq : ((-6 : Int32) = 0) = False := eq_false (by decide)
theorem m6_n {a : Nat} (ha : a < 2 ^ 31) : (nI a = (-6 : Int32)) = False := eq_false (fun h => nI_pos ha (h ▸ (by decide)))
theorem m6_n2 {a : Nat} (ha : a < 2 ^ 31) : ((-6 : Int32) = nI a) = False := eq_false (fun h => nI_pos ha (h ▸ (by decide)))
theorem m9_lt : ((-9 : Int32) < 0) = True := eq_true (by decide)
theorem m9_ge : ((0 : Int32) ≤ (-9)) = False := eq_false (by decide)
theorem m9_eq : ((-9 : Int32) = 0) = False := eq_false (by decide)
theorem m9_n {a : Nat} (ha : a < 2 ^ 31) : (nI a = (-9 : Int32)) = False := eq_false (fun h => nI_pos ha (h ▸ (by decide)))
theorem m9_n2 {a : Nat} (ha : a < 2 ^ 31) : ((-9 : Int32) = nI a) = False := eq_false (fun h => nI_pos ha (h ▸ (by decide)))
/-- within(a, n) -/
theorem sp_within {X : pm_X} {a n : Int32} {H : pm_H} : pm_V0 X 13 [.int a, .int n] H = some (some (.int (if 0 ≤ a ∧ a < n then nI 1 else nI 0)), H) := by
  show pm_V X 13 0 [some (.int a), some (.int n)] [] (0, 0) H = _
  simp only [v13_0, v13_1, v13_4, v13_5, v13_6, v13_9, v13_10, v13_13, v13_14, pm_bd_some, Option.toList_some, Option.toList_none, List.cons_append, List.nil_append, Nat.reduceAdd, Nat.reduceMul, z0, z1]
  repeat' split
  all_goals first | rfl | (exfalso; simp only [Int32.lt_iff_toInt_lt, Int32.le_iff_toInt_le, i32_0] at *; omega)
/-- found(w) -/
theorem sp_found {X : pm_X} {w : Nat} {U : pm_U} (hw : w < 6) : pm_V0 X 14 [.ref 1, .int (nI w)] (pm_hp U) = some (some (.int (-3)), pm_hp (pm_up (pm_up U 1 15 (nI w)) 75 w (U.1 75 w + nI 1))) := by
  show pm_V X 14 0 [some (.ref 1), some (.int (nI w))] [] (0, 0) (pm_hp U) = _
  simp only [v14_0, v14_1, v14_2, v14_5, v14_6, v14_9, v14_10, v14_11, v14_12, v14_13, v14_14, v14_15, v14_17, pm_bd_some, Option.toList_some, Option.toList_none, List.cons_append, List.nil_append, Nat.reduceAdd, Nat.reduceMul, ly1, ak_75, al_75, hw]
  simp [pm_up_1]
/-- Row.isMissing -/
theorem sp_Row_isMissing {X : pm_X} {k : Nat} {U : pm_U} (ho : pm_ly k = some (.inl 5)) : pm_V0 X 18 [.ref k] (pm_hp U) = some (some (.int (if U.1 k 0 < 0 then nI 1 else nI 0)), pm_hp U) := by
  show pm_V X 18 0 [some (.ref k)] [] (0, 0) (pm_hp U) = _
  simp only [v18_0, v18_1, v18_4, v18_7, v18_8, v18_11, v18_12, pm_bd_some, Option.toList_some, Option.toList_none, List.cons_append, List.nil_append, Nat.reduceAdd, Nat.reduceMul, ho, z0, z1]
  repeat' split
  all_goals first | rfl | (exfalso; simp only [Int32.lt_iff_toInt_lt, Int32.le_iff_toInt_le, i32_0] at *; omega)
/-- Row.begin(n): the size, and as many noughts -/
theorem lp_Row_begin {X : pm_X} {k nn : Nat} (ho : pm_ly k = some (.inl 5)) (hn : nn ≤ 60) : ∀ (m d : Nat) (U : pm_U), d + m = nn → pm_V X 15 7 [some (.ref k), some (.int (nI nn)), some (.int (nI d))] [] (0, 0) (pm_hp U) = some (none, pm_hp (pm_w U (fun k' i => if k' = k + 1 ∧ d ≤ i ∧ i < nn then nI 0 else U.1 k' i))) := by
  intro m
  induction m with
  | zero =>
    intro d U h
    rw [v15_7]
    simp only [v15_0, v15_1, v15_2, v15_5, v15_6, v15_8, v15_9, v15_12, v15_13, v15_15, v15_18, v15_19, v15_22, v15_23, v15_24, v15_25, v15_28, v15_31, pm_bd_some, Option.toList_some, Option.toList_none, List.cons_append, List.nil_append, Nat.reduceAdd, Nat.reduceMul]
    rw [if_pos (nI_le (by omega) (by omega))]
    congr 3
    refine pm_ext (fun k' i => ?_) rfl
    simp only [pm_w_1]
    rw [if_neg (by omega)]
  | succ m ih =>
    intro d U h
    rw [v15_7]
    simp only [v15_0, v15_1, v15_2, v15_5, v15_6, v15_8, v15_9, v15_12, v15_13, v15_15, v15_18, v15_19, v15_22, v15_23, v15_24, v15_25, v15_28, v15_31, pm_bd_some, Option.toList_some, Option.toList_none, List.cons_append, List.nil_append, Nat.reduceAdd, Nat.reduceMul]
    rw [if_neg (nI_ge (by omega) (by omega)), if_neg (nI_ge (by omega) (by omega))]
    simp only [v15_0, v15_1, v15_2, v15_5, v15_6, v15_8, v15_9, v15_12, v15_13, v15_15, v15_18, v15_19, v15_22, v15_23, v15_24, v15_25, v15_28, v15_31, pm_bd_some, Option.toList_some, Option.toList_none, List.cons_append, List.nil_append, Nat.reduceAdd, Nat.reduceMul, ho, row_ak ho, row_al ho, show d < 60 by omega]
    rw [nI_add, ih (d + 1) _ (by omega)]
    congr 3
    refine pm_ext (fun k' i => ?_) rfl
    simp only [pm_w_1, pm_up_1]
    by_cases h1 : k' = k + 1 ∧ d + 1 ≤ i ∧ i < nn
    · rw [if_pos h1, if_pos (by omega)]
    · rw [if_neg h1]
      by_cases h2 : k' = k + 1 ∧ i = d
      · rw [if_pos h2, if_pos (by omega)]
      · rw [if_neg h2, if_neg (by omega)]
theorem sp_Row_begin {X : pm_X} {k nn : Nat} {U : pm_U} (ho : pm_ly k = some (.inl 5)) (hn : nn ≤ 60) : pm_V0 X 15 [.ref k, .int (nI nn)] (pm_hp U) = some (none, pm_hp (pm_w U (fun k' i => if k' = k + 1 ∧ i < nn then nI 0 else if k' = k ∧ i = 0 then nI nn else U.1 k' i))) := by
  show pm_V X 15 0 [some (.ref k), some (.int (nI nn)), none] [] (0, 0) (pm_hp U) = _
  simp only [v15_0, v15_1, v15_2, v15_5, v15_6, v15_8, v15_9, v15_12, v15_13, v15_15, v15_18, v15_19, v15_22, v15_23, v15_24, v15_25, v15_28, v15_31, pm_bd_some, Option.toList_some, Option.toList_none, List.cons_append, List.nil_append, Nat.reduceAdd, Nat.reduceMul, ho]
  rw [lp_Row_begin ho hn nn 0 _ (by omega)]
  congr 3
  refine pm_ext (fun k' i => ?_) rfl
  simp only [pm_w_1, pm_up_1]
  by_cases h1 : k' = k + 1 ∧ i < nn
  · rw [if_pos (by omega), if_pos h1]
  · rw [if_neg (by omega), if_neg h1]
