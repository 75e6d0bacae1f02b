/-! the heap behind the constructors -/
def u0_i : List (Nat → Int32) := [
  (fun _ => 0),
  (fun i => ([0, 0, 0, 0, 0, 0, 0, 0, 0, 0, 0, 0, 0, 0, 0, (nI 0), (nI 0), 0, 0] : List Int32).getD i 0),
  (fun _ => 0),
  (fun i => ([(-1), 0] : List Int32).getD i 0),
  (fun _ => 0),
  (fun i => ([(-1), 0] : List Int32).getD i 0),
  (fun _ => 0),
  (fun i => ([(-1), 0] : List Int32).getD i 0),
  (fun _ => 0),
  (fun i => ([(-1), 0] : List Int32).getD i 0),
  (fun _ => 0),
  (fun i => ([(-1), 0] : List Int32).getD i 0),
  (fun _ => 0),
  (fun i => ([(-1), 0] : List Int32).getD i 0),
  (fun _ => 0),
  (fun _ => 0),
  (fun i => ([(-1), 0] : List Int32).getD i 0),
  (fun _ => 0),
  (fun i => ([(-1), 0] : List Int32).getD i 0),
  (fun _ => 0),
  (fun i => ([(-1), 0] : List Int32).getD i 0),
  (fun _ => 0),
  (fun i => ([(-1), 0] : List Int32).getD i 0),
  (fun _ => 0),
  (fun _ => 0),
  (fun i => ([(-1), 0] : List Int32).getD i 0),
  (fun _ => 0),
  (fun i => ([(-1), 0] : List Int32).getD i 0),
  (fun _ => 0),
  (fun i => ([(-1), 0] : List Int32).getD i 0),
  (fun _ => 0),
  (fun i => ([(-1), 0] : List Int32).getD i 0),
  (fun _ => 0),
  (fun _ => 0),
  (fun i => ([(nI 0), 0] : List Int32).getD i 0),
  (fun _ => 0),
  (fun i => ([(nI 0), 0] : List Int32).getD i 0),
  (fun _ => 0),
  (fun i => ([(nI 0), 0] : List Int32).getD i 0),
  (fun _ => 0),
  (fun i => ([(nI 0), 0] : List Int32).getD i 0),
  (fun _ => 0),
  (fun i => ([(nI 0), (nI 0), (nI 0), 0] : List Int32).getD i 0),
  (fun _ => 0),
  (fun _ => 0),
  (fun i => ([(nI 0), (nI 0), (nI 0), 0] : List Int32).getD i 0),
  (fun _ => 0),
  (fun i => ([(nI 0), (nI 0), (nI 0), 0] : List Int32).getD i 0),
  (fun _ => 0),
  (fun i => ([(nI 0), (nI 0), (nI 0), 0] : List Int32).getD i 0),
  (fun _ => 0),
  (fun i => ([(nI 0), 0, 0] : List Int32).getD i 0),
  (fun _ => 0),
  (fun _ => 0),
  (fun i => ([(nI 0), 0, 0] : List Int32).getD i 0),
  (fun _ => 0),
  (fun _ => 0),
  (fun i => ([0, 0, 0, (nI 0), (nI 0)] : List Int32).getD i 0),
  (fun i => ([(-1), 0] : List Int32).getD i 0),
  (fun _ => 0),
  (fun i => ([(nI 0), 0] : List Int32).getD i 0),
  (fun _ => 0),
  (fun i => ([(nI 0), (-9), 0, 0, 0] : List Int32).getD i 0),
  (fun _ => 0),
  (fun _ => 0),
  (fun i => ([(-1), 0] : List Int32).getD i 0),
  (fun _ => 0),
  (fun i => ([(nI 0), (nI 0), (nI 0), 0] : List Int32).getD i 0),
  (fun i => ([(-1), 0] : List Int32).getD i 0),
  (fun _ => 0),
  (fun i => ([(nI 0), 0, 0] : List Int32).getD i 0),
  (fun _ => 0),
  (fun _ => 0),
  (fun _ => 0),
  (fun _ => 0),
  (fun _ => 0),
  (fun i => ([0, 0, 0, 0, 0, 0, 0, 0, 0, 0, 0, 0, 0, 0, 0, 0, 0, 0, 0, 0, 0, 0, 0, 0, 0, 0, 0, 0, 0, 0, 0, 0, 0, 0, 0, 0, 0, 0, 0, 0, 0, 0, 0, 0, 0, 0, 0, 0] : List Int32).getD i 0),
  (fun _ => 0),
  (upd (upd (upd (upd (upd (upd (fun _ => 0) 0 (-1)) 1 (-1)) 2 (-1)) 3 (-1)) 4 (-1)) 5 (-1)),
  (fun _ => 0),
  (fun _ => 0),
  (upd (upd (upd (upd (fun _ => 0) 0 (-1)) 1 (-1)) 2 (-1)) 3 (-1)),
  (fun _ => 0),
  (fun _ => 0),
  (fun _ => 0),
  (fun _ => 0),
  (fun _ => 0),
  (fun _ => 0),
  (fun _ => 0),
  (fun _ => 0),
  (fun _ => 0),
  (fun _ => 0),
  (fun _ => 0),
  (fun _ => 0),
  (fun _ => 0),
  (fun _ => 0),
  (fun _ => 0),
  (fun _ => 0),
  (fun _ => 0),
  (fun _ => 0),
  (fun _ => 0)]
def U0 : pm_U := (fun k => u0_i.getD k (fun _ => 0), fun k i => if k = 1 then (if i = 18 then 1 else 0) else if k = 76 then (if i = 4 then 1 else 0) else 0, none, h258.2)
set_option maxRecDepth 8000 in
theorem c_1 : h258.2 1 = pm_cell U0 1 := rfl
set_option maxRecDepth 8000 in
theorem c_2 : h258.2 2 = pm_cell U0 2 := by
  have e : (va_up (va_up (va_up (va_up (va_up (va_up (fun _ => none) 0 (some 3)) 1 (some 5)) 2 (some 7)) 3 (some 9)) 4 (some 11)) 5 (some 13)) = (fun i => if i < 6 then some (2 + 1 + 2 * i) else none) := by
    funext i
    by_cases hn : i < 6
    · have : i = 0 ∨ i = 1 ∨ i = 2 ∨ i = 3 ∨ i = 4 ∨ i = 5 := by omega
      rcases this with rfl | rfl | rfl | rfl | rfl | rfl <;> rfl
    · rw [if_neg hn]
      simp only [va_up]
      rw [if_neg (by omega), if_neg (by omega), if_neg (by omega), if_neg (by omega), if_neg (by omega), if_neg (by omega)]
  exact (show h258.2 2 = .inl (.object RX5, 6, .inr (va_up (va_up (va_up (va_up (va_up (va_up (fun _ => none) 0 (some 3)) 1 (some 5)) 2 (some 7)) 3 (some 9)) 4 (some 11)) 5 (some 13))) from rfl).trans (by rw [e]; rfl)
set_option maxRecDepth 8000 in
theorem c_3 : h258.2 3 = pm_cell U0 3 := rfl
set_option maxRecDepth 8000 in
theorem c_4 : h258.2 4 = pm_cell U0 4 := rfl
set_option maxRecDepth 8000 in
theorem c_5 : h258.2 5 = pm_cell U0 5 := rfl
set_option maxRecDepth 8000 in
theorem c_6 : h258.2 6 = pm_cell U0 6 := rfl
set_option maxRecDepth 8000 in
theorem c_7 : h258.2 7 = pm_cell U0 7 := rfl
set_option maxRecDepth 8000 in
theorem c_8 : h258.2 8 = pm_cell U0 8 := rfl
set_option maxRecDepth 8000 in
theorem c_9 : h258.2 9 = pm_cell U0 9 := rfl
set_option maxRecDepth 8000 in
theorem c_10 : h258.2 10 = pm_cell U0 10 := rfl
set_option maxRecDepth 8000 in
theorem c_11 : h258.2 11 = pm_cell U0 11 := rfl
set_option maxRecDepth 8000 in
theorem c_12 : h258.2 12 = pm_cell U0 12 := rfl
set_option maxRecDepth 8000 in
theorem c_13 : h258.2 13 = pm_cell U0 13 := rfl
set_option maxRecDepth 8000 in
theorem c_14 : h258.2 14 = pm_cell U0 14 := rfl
set_option maxRecDepth 8000 in
theorem c_15 : h258.2 15 = pm_cell U0 15 := by
  have e : (va_up (va_up (va_up (va_up (fun _ => none) 0 (some 16)) 1 (some 18)) 2 (some 20)) 3 (some 22)) = (fun i => if i < 4 then some (15 + 1 + 2 * i) else none) := by
    funext i
    by_cases hn : i < 4
    · have : i = 0 ∨ i = 1 ∨ i = 2 ∨ i = 3 := by omega
      rcases this with rfl | rfl | rfl | rfl <;> rfl
    · rw [if_neg hn]
      simp only [va_up]
      rw [if_neg (by omega), if_neg (by omega), if_neg (by omega), if_neg (by omega)]
  exact (show h258.2 15 = .inl (.object RX9, 4, .inr (va_up (va_up (va_up (va_up (fun _ => none) 0 (some 16)) 1 (some 18)) 2 (some 20)) 3 (some 22))) from rfl).trans (by rw [e]; rfl)
set_option maxRecDepth 8000 in
theorem c_16 : h258.2 16 = pm_cell U0 16 := rfl
set_option maxRecDepth 8000 in
theorem c_17 : h258.2 17 = pm_cell U0 17 := rfl
set_option maxRecDepth 8000 in
theorem c_18 : h258.2 18 = pm_cell U0 18 := rfl
set_option maxRecDepth 8000 in
theorem c_19 : h258.2 19 = pm_cell U0 19 := rfl
set_option maxRecDepth 8000 in
theorem c_20 : h258.2 20 = pm_cell U0 20 := rfl
set_option maxRecDepth 8000 in
theorem c_21 : h258.2 21 = pm_cell U0 21 := rfl
set_option maxRecDepth 8000 in
theorem c_22 : h258.2 22 = pm_cell U0 22 := rfl
set_option maxRecDepth 8000 in
theorem c_23 : h258.2 23 = pm_cell U0 23 := rfl
set_option maxRecDepth 8000 in
theorem c_24 : h258.2 24 = pm_cell U0 24 := by
  have e : (va_up (va_up (va_up (va_up (fun _ => none) 0 (some 25)) 1 (some 27)) 2 (some 29)) 3 (some 31)) = (fun i => if i < 4 then some (24 + 1 + 2 * i) else none) := by
    funext i
    by_cases hn : i < 4
    · have : i = 0 ∨ i = 1 ∨ i = 2 ∨ i = 3 := by omega
      rcases this with rfl | rfl | rfl | rfl <;> rfl
    · rw [if_neg hn]
      simp only [va_up]
      rw [if_neg (by omega), if_neg (by omega), if_neg (by omega), if_neg (by omega)]
  exact (show h258.2 24 = .inl (.object RX6, 4, .inr (va_up (va_up (va_up (va_up (fun _ => none) 0 (some 25)) 1 (some 27)) 2 (some 29)) 3 (some 31))) from rfl).trans (by rw [e]; rfl)
set_option maxRecDepth 8000 in
theorem c_25 : h258.2 25 = pm_cell U0 25 := rfl
set_option maxRecDepth 8000 in
theorem c_26 : h258.2 26 = pm_cell U0 26 := rfl
set_option maxRecDepth 8000 in
theorem c_27 : h258.2 27 = pm_cell U0 27 := rfl
set_option maxRecDepth 8000 in
theorem c_28 : h258.2 28 = pm_cell U0 28 := rfl
set_option maxRecDepth 8000 in
theorem c_29 : h258.2 29 = pm_cell U0 29 := rfl
set_option maxRecDepth 8000 in
theorem c_30 : h258.2 30 = pm_cell U0 30 := rfl
set_option maxRecDepth 8000 in
theorem c_31 : h258.2 31 = pm_cell U0 31 := rfl
set_option maxRecDepth 8000 in
theorem c_32 : h258.2 32 = pm_cell U0 32 := rfl
set_option maxRecDepth 8000 in
theorem c_33 : h258.2 33 = pm_cell U0 33 := by
  have e : (va_up (va_up (va_up (va_up (fun _ => none) 0 (some 34)) 1 (some 36)) 2 (some 38)) 3 (some 40)) = (fun i => if i < 4 then some (33 + 1 + 2 * i) else none) := by
    funext i
    by_cases hn : i < 4
    · have : i = 0 ∨ i = 1 ∨ i = 2 ∨ i = 3 := by omega
      rcases this with rfl | rfl | rfl | rfl <;> rfl
    · rw [if_neg hn]
      simp only [va_up]
      rw [if_neg (by omega), if_neg (by omega), if_neg (by omega), if_neg (by omega)]
  exact (show h258.2 33 = .inl (.object RX2, 4, .inr (va_up (va_up (va_up (va_up (fun _ => none) 0 (some 34)) 1 (some 36)) 2 (some 38)) 3 (some 40))) from rfl).trans (by rw [e]; rfl)
set_option maxRecDepth 8000 in
theorem c_34 : h258.2 34 = pm_cell U0 34 := rfl
set_option maxRecDepth 8000 in
theorem c_35 : h258.2 35 = pm_cell U0 35 := rfl
set_option maxRecDepth 8000 in
theorem c_36 : h258.2 36 = pm_cell U0 36 := rfl
set_option maxRecDepth 8000 in
theorem c_37 : h258.2 37 = pm_cell U0 37 := rfl
set_option maxRecDepth 8000 in
theorem c_38 : h258.2 38 = pm_cell U0 38 := rfl
set_option maxRecDepth 8000 in
theorem c_39 : h258.2 39 = pm_cell U0 39 := rfl
set_option maxRecDepth 8000 in
theorem c_40 : h258.2 40 = pm_cell U0 40 := rfl
set_option maxRecDepth 8000 in
theorem c_41 : h258.2 41 = pm_cell U0 41 := rfl
set_option maxRecDepth 8000 in
theorem c_42 : h258.2 42 = pm_cell U0 42 := rfl
set_option maxRecDepth 8000 in
theorem c_43 : h258.2 43 = pm_cell U0 43 := rfl
set_option maxRecDepth 8000 in
theorem c_44 : h258.2 44 = pm_cell U0 44 := by
  have e : (va_up (va_up (va_up (fun _ => none) 0 (some 45)) 1 (some 47)) 2 (some 49)) = (fun i => if i < 3 then some (44 + 1 + 2 * i) else none) := by
    funext i
    by_cases hn : i < 3
    · have : i = 0 ∨ i = 1 ∨ i = 2 := by omega
      rcases this with rfl | rfl | rfl <;> rfl
    · rw [if_neg hn]
      simp only [va_up]
      rw [if_neg (by omega), if_neg (by omega), if_neg (by omega)]
  exact (show h258.2 44 = .inl (.object RX4, 3, .inr (va_up (va_up (va_up (fun _ => none) 0 (some 45)) 1 (some 47)) 2 (some 49))) from rfl).trans (by rw [e]; rfl)
set_option maxRecDepth 8000 in
theorem c_45 : h258.2 45 = pm_cell U0 45 := rfl
set_option maxRecDepth 8000 in
theorem c_46 : h258.2 46 = pm_cell U0 46 := rfl
set_option maxRecDepth 8000 in
theorem c_47 : h258.2 47 = pm_cell U0 47 := rfl
set_option maxRecDepth 8000 in
theorem c_48 : h258.2 48 = pm_cell U0 48 := rfl
set_option maxRecDepth 8000 in
theorem c_49 : h258.2 49 = pm_cell U0 49 := rfl
set_option maxRecDepth 8000 in
theorem c_50 : h258.2 50 = pm_cell U0 50 := rfl
set_option maxRecDepth 8000 in
theorem c_51 : h258.2 51 = pm_cell U0 51 := rfl
set_option maxRecDepth 8000 in
theorem c_52 : h258.2 52 = pm_cell U0 52 := rfl
set_option maxRecDepth 8000 in
theorem c_53 : h258.2 53 = pm_cell U0 53 := rfl
set_option maxRecDepth 8000 in
theorem c_54 : h258.2 54 = pm_cell U0 54 := rfl
set_option maxRecDepth 8000 in
theorem c_55 : h258.2 55 = pm_cell U0 55 := rfl
set_option maxRecDepth 8000 in
theorem c_56 : h258.2 56 = pm_cell U0 56 := rfl
set_option maxRecDepth 8000 in
theorem c_57 : h258.2 57 = pm_cell U0 57 := rfl
set_option maxRecDepth 8000 in
theorem c_58 : h258.2 58 = pm_cell U0 58 := rfl
set_option maxRecDepth 8000 in
theorem c_59 : h258.2 59 = pm_cell U0 59 := rfl
set_option maxRecDepth 8000 in
theorem c_60 : h258.2 60 = pm_cell U0 60 := rfl
set_option maxRecDepth 8000 in
theorem c_61 : h258.2 61 = pm_cell U0 61 := rfl
set_option maxRecDepth 8000 in
theorem c_62 : h258.2 62 = pm_cell U0 62 := rfl
set_option maxRecDepth 8000 in
theorem c_63 : h258.2 63 = pm_cell U0 63 := rfl
set_option maxRecDepth 8000 in
theorem c_64 : h258.2 64 = pm_cell U0 64 := rfl
set_option maxRecDepth 8000 in
theorem c_65 : h258.2 65 = pm_cell U0 65 := rfl
set_option maxRecDepth 8000 in
theorem c_66 : h258.2 66 = pm_cell U0 66 := rfl
set_option maxRecDepth 8000 in
theorem c_67 : h258.2 67 = pm_cell U0 67 := rfl
set_option maxRecDepth 8000 in
theorem c_68 : h258.2 68 = pm_cell U0 68 := rfl
set_option maxRecDepth 8000 in
theorem c_69 : h258.2 69 = pm_cell U0 69 := rfl
set_option maxRecDepth 8000 in
theorem c_70 : h258.2 70 = pm_cell U0 70 := rfl
set_option maxRecDepth 8000 in
theorem c_71 : h258.2 71 = pm_cell U0 71 := rfl
set_option maxRecDepth 8000 in
theorem c_72 : h258.2 72 = pm_cell U0 72 := rfl
set_option maxRecDepth 8000 in
theorem c_73 : h258.2 73 = pm_cell U0 73 := rfl
set_option maxRecDepth 8000 in
theorem c_74 : h258.2 74 = pm_cell U0 74 := rfl
set_option maxRecDepth 8000 in
theorem c_75 : h258.2 75 = pm_cell U0 75 := rfl
set_option maxRecDepth 8000 in
theorem c_76 : h258.2 76 = pm_cell U0 76 := rfl
set_option maxRecDepth 8000 in
theorem c_77 : h258.2 77 = pm_cell U0 77 := rfl
set_option maxRecDepth 8000 in
theorem c_78 : h258.2 78 = pm_cell U0 78 := rfl
set_option maxRecDepth 8000 in
theorem c_79 : h258.2 79 = pm_cell U0 79 := rfl
set_option maxRecDepth 8000 in
theorem c_80 : h258.2 80 = pm_cell U0 80 := rfl
set_option maxRecDepth 8000 in
theorem c_81 : h258.2 81 = pm_cell U0 81 := rfl
set_option maxRecDepth 8000 in
theorem c_82 : h258.2 82 = pm_cell U0 82 := rfl
set_option maxRecDepth 8000 in
theorem c_83 : h258.2 83 = pm_cell U0 83 := rfl
set_option maxRecDepth 8000 in
theorem c_84 : h258.2 84 = pm_cell U0 84 := rfl
set_option maxRecDepth 8000 in
theorem c_85 : h258.2 85 = pm_cell U0 85 := rfl
set_option maxRecDepth 8000 in
theorem c_86 : h258.2 86 = pm_cell U0 86 := rfl
set_option maxRecDepth 8000 in
theorem c_87 : h258.2 87 = pm_cell U0 87 := rfl
set_option maxRecDepth 8000 in
theorem c_88 : h258.2 88 = pm_cell U0 88 := rfl
set_option maxRecDepth 8000 in
theorem c_89 : h258.2 89 = pm_cell U0 89 := rfl
set_option maxRecDepth 8000 in
theorem c_90 : h258.2 90 = pm_cell U0 90 := rfl
set_option maxRecDepth 8000 in
theorem c_91 : h258.2 91 = pm_cell U0 91 := rfl
set_option maxRecDepth 8000 in
theorem c_92 : h258.2 92 = pm_cell U0 92 := rfl
set_option maxRecDepth 8000 in
theorem c_93 : h258.2 93 = pm_cell U0 93 := rfl
set_option maxRecDepth 8000 in
theorem c_94 : h258.2 94 = pm_cell U0 94 := rfl
set_option maxRecDepth 8000 in
theorem c_95 : h258.2 95 = pm_cell U0 95 := rfl
set_option maxRecDepth 8000 in
theorem c_96 : h258.2 96 = pm_cell U0 96 := rfl
set_option maxRecDepth 8000 in
theorem c_97 : h258.2 97 = pm_cell U0 97 := rfl
set_option maxRecDepth 8000 in
theorem c_98 : h258.2 98 = pm_cell U0 98 := rfl
set_option maxRecDepth 8000 in
theorem c_99 : h258.2 99 = pm_cell U0 99 := rfl
set_option maxRecDepth 8000 in
theorem c_100 : h258.2 100 = pm_cell U0 100 := rfl
theorem c_out {k : Nat} (h : pm_ly k = none) : h258.2 k = pm_cell U0 k := by
  unfold pm_cell
  rw [h]
  rfl
theorem c_all (k : Nat) : h258.2 k = pm_cell U0 k := by
  by_cases hk : 0 < k ∧ k ≤ 100
  · have h4 : k ≤ 25 ∨ (25 < k ∧ k ≤ 50) ∨ (50 < k ∧ k ≤ 75) ∨ 75 < k := by omega
    rcases h4 with h4 | h4 | h4 | h4
    · have : k = 1 ∨ k = 2 ∨ k = 3 ∨ k = 4 ∨ k = 5 ∨ k = 6 ∨ k = 7 ∨ k = 8 ∨ k = 9 ∨ k = 10 ∨ k = 11 ∨ k = 12 ∨ k = 13 ∨ k = 14 ∨ k = 15 ∨ k = 16 ∨ k = 17 ∨ k = 18 ∨ k = 19 ∨ k = 20 ∨ k = 21 ∨ k = 22 ∨ k = 23 ∨ k = 24 ∨ k = 25 := by omega
      rcases this with rfl | rfl | rfl | rfl | rfl | rfl | rfl | rfl | rfl | rfl | rfl | rfl | rfl | rfl | rfl | rfl | rfl | rfl | rfl | rfl | rfl | rfl | rfl | rfl | rfl
      · exact c_1
      · exact c_2
      · exact c_3
      · exact c_4
      · exact c_5
      · exact c_6
      · exact c_7
      · exact c_8
      · exact c_9
      · exact c_10
      · exact c_11
      · exact c_12
      · exact c_13
      · exact c_14
      · exact c_15
      · exact c_16
      · exact c_17
      · exact c_18
      · exact c_19
      · exact c_20
      · exact c_21
      · exact c_22
      · exact c_23
      · exact c_24
      · exact c_25
    · have : k = 26 ∨ k = 27 ∨ k = 28 ∨ k = 29 ∨ k = 30 ∨ k = 31 ∨ k = 32 ∨ k = 33 ∨ k = 34 ∨ k = 35 ∨ k = 36 ∨ k = 37 ∨ k = 38 ∨ k = 39 ∨ k = 40 ∨ k = 41 ∨ k = 42 ∨ k = 43 ∨ k = 44 ∨ k = 45 ∨ k = 46 ∨ k = 47 ∨ k = 48 ∨ k = 49 ∨ k = 50 := by omega
      rcases this with rfl | rfl | rfl | rfl | rfl | rfl | rfl | rfl | rfl | rfl | rfl | rfl | rfl | rfl | rfl | rfl | rfl | rfl | rfl | rfl | rfl | rfl | rfl | rfl | rfl
      · exact c_26
      · exact c_27
      · exact c_28
      · exact c_29
      · exact c_30
      · exact c_31
      · exact c_32
      · exact c_33
      · exact c_34
      · exact c_35
      · exact c_36
      · exact c_37
      · exact c_38
      · exact c_39
      · exact c_40
      · exact c_41
      · exact c_42
      · exact c_43
      · exact c_44
      · exact c_45
      · exact c_46
      · exact c_47
      · exact c_48
      · exact c_49
      · exact c_50
    · have : k = 51 ∨ k = 52 ∨ k = 53 ∨ k = 54 ∨ k = 55 ∨ k = 56 ∨ k = 57 ∨ k = 58 ∨ k = 59 ∨ k = 60 ∨ k = 61 ∨ k = 62 ∨ k = 63 ∨ k = 64 ∨ k = 65 ∨ k = 66 ∨ k = 67 ∨ k = 68 ∨ k = 69 ∨ k = 70 ∨ k = 71 ∨ k = 72 ∨ k = 73 ∨ k = 74 ∨ k = 75 := by omega
      rcases this with rfl | rfl | rfl | rfl | rfl | rfl | rfl | rfl | rfl | rfl | rfl | rfl | rfl | rfl | rfl | rfl | rfl | rfl | rfl | rfl | rfl | rfl | rfl | rfl | rfl
      · exact c_51
      · exact c_52
      · exact c_53
      · exact c_54
      · exact c_55
      · exact c_56
      · exact c_57
      · exact c_58
      · exact c_59
      · exact c_60
      · exact c_61
      · exact c_62
      · exact c_63
      · exact c_64
      · exact c_65
      · exact c_66
      · exact c_67
      · exact c_68
      · exact c_69
      · exact c_70
      · exact c_71
      · exact c_72
      · exact c_73
      · exact c_74
      · exact c_75
    · have : k = 76 ∨ k = 77 ∨ k = 78 ∨ k = 79 ∨ k = 80 ∨ k = 81 ∨ k = 82 ∨ k = 83 ∨ k = 84 ∨ k = 85 ∨ k = 86 ∨ k = 87 ∨ k = 88 ∨ k = 89 ∨ k = 90 ∨ k = 91 ∨ k = 92 ∨ k = 93 ∨ k = 94 ∨ k = 95 ∨ k = 96 ∨ k = 97 ∨ k = 98 ∨ k = 99 ∨ k = 100 := by omega
      rcases this with rfl | rfl | rfl | rfl | rfl | rfl | rfl | rfl | rfl | rfl | rfl | rfl | rfl | rfl | rfl | rfl | rfl | rfl | rfl | rfl | rfl | rfl | rfl | rfl | rfl
      · exact c_76
      · exact c_77
      · exact c_78
      · exact c_79
      · exact c_80
      · exact c_81
      · exact c_82
      · exact c_83
      · exact c_84
      · exact c_85
      · exact c_86
      · exact c_87
      · exact c_88
      · exact c_89
      · exact c_90
      · exact c_91
      · exact c_92
      · exact c_93
      · exact c_94
      · exact c_95
      · exact c_96
      · exact c_97
      · exact c_98
      · exact c_99
      · exact c_100
  · refine c_out ?_
    cases e : pm_ly k with
    | none => rfl
    | some d => exact absurd (pm_ly_rg e) hk
theorem c_heap : h258 = pm_hp U0 := Prod.ext n258 (funext c_all)
theorem f_3_0 : U0.1 3 0 = -1 := rfl
theorem f_78_0 : U0.1 78 0 = -1 := rfl
theorem f_5_0 : U0.1 5 0 = -1 := rfl
theorem f_78_1 : U0.1 78 1 = -1 := rfl
theorem f_7_0 : U0.1 7 0 = -1 := rfl
theorem f_78_2 : U0.1 78 2 = -1 := rfl
theorem f_9_0 : U0.1 9 0 = -1 := rfl
theorem f_78_3 : U0.1 78 3 = -1 := rfl
theorem f_11_0 : U0.1 11 0 = -1 := rfl
theorem f_78_4 : U0.1 78 4 = -1 := rfl
theorem f_13_0 : U0.1 13 0 = -1 := rfl
theorem f_78_5 : U0.1 78 5 = -1 := rfl
theorem f_16_0 : U0.1 16 0 = -1 := rfl
theorem f_81_0 : U0.1 81 0 = -1 := rfl
theorem f_18_0 : U0.1 18 0 = -1 := rfl
theorem f_81_1 : U0.1 81 1 = -1 := rfl
theorem f_20_0 : U0.1 20 0 = -1 := rfl
theorem f_81_2 : U0.1 81 2 = -1 := rfl
theorem f_22_0 : U0.1 22 0 = -1 := rfl
theorem f_81_3 : U0.1 81 3 = -1 := rfl
theorem f_25_0 : U0.1 25 0 = -1 := rfl
theorem f_84_0 : U0.1 84 0 = nI 0 := (show U0.1 84 0 = 0 from rfl).trans (by decide)
theorem f_27_0 : U0.1 27 0 = -1 := rfl
theorem f_84_1 : U0.1 84 1 = nI 0 := (show U0.1 84 1 = 0 from rfl).trans (by decide)
theorem f_29_0 : U0.1 29 0 = -1 := rfl
theorem f_84_2 : U0.1 84 2 = nI 0 := (show U0.1 84 2 = 0 from rfl).trans (by decide)
theorem f_31_0 : U0.1 31 0 = -1 := rfl
theorem f_84_3 : U0.1 84 3 = nI 0 := (show U0.1 84 3 = 0 from rfl).trans (by decide)
theorem f_34_0 : U0.1 34 0 = nI 0 := rfl
theorem f_86_0 : U0.1 86 0 = nI 0 := (show U0.1 86 0 = 0 from rfl).trans (by decide)
theorem f_36_0 : U0.1 36 0 = nI 0 := rfl
theorem f_86_1 : U0.1 86 1 = nI 0 := (show U0.1 86 1 = 0 from rfl).trans (by decide)
theorem f_38_0 : U0.1 38 0 = nI 0 := rfl
theorem f_86_2 : U0.1 86 2 = nI 0 := (show U0.1 86 2 = 0 from rfl).trans (by decide)
theorem f_40_0 : U0.1 40 0 = nI 0 := rfl
theorem f_86_3 : U0.1 86 3 = nI 0 := (show U0.1 86 3 = 0 from rfl).trans (by decide)
theorem f_54_0 : U0.1 54 0 = nI 0 := rfl
theorem f_51_0 : U0.1 51 0 = nI 0 := rfl
theorem f_76_37 : U0.1 76 37 = nI 0 := (show U0.1 76 37 = 0 from rfl).trans (by decide)
theorem f_42_0 : U0.1 42 0 = nI 0 := rfl
theorem f_42_1 : U0.1 42 1 = nI 0 := rfl
theorem f_94_0 : U0.1 94 0 = nI 0 := (show U0.1 94 0 = 0 from rfl).trans (by decide)
theorem f_45_0 : U0.1 45 0 = nI 0 := rfl
theorem f_45_1 : U0.1 45 1 = nI 0 := rfl
theorem f_94_1 : U0.1 94 1 = nI 0 := (show U0.1 94 1 = 0 from rfl).trans (by decide)
theorem f_47_0 : U0.1 47 0 = nI 0 := rfl
theorem f_47_1 : U0.1 47 1 = nI 0 := rfl
theorem f_94_2 : U0.1 94 2 = nI 0 := (show U0.1 94 2 = 0 from rfl).trans (by decide)
theorem f_49_0 : U0.1 49 0 = nI 0 := rfl
theorem f_49_1 : U0.1 49 1 = nI 0 := rfl
theorem f_94_3 : U0.1 94 3 = nI 0 := (show U0.1 94 3 = 0 from rfl).trans (by decide)
theorem f_1_15 : U0.1 1 15 = nI 0 := rfl
theorem f_76_0 : U0.1 76 0 = nI 0 := (show U0.1 76 0 = 0 from rfl).trans (by decide)
theorem f_1_16 : U0.1 1 16 = nI 0 := rfl
theorem f_76_2 : U0.1 76 2 = nI 0 := (show U0.1 76 2 = 0 from rfl).trans (by decide)
theorem f_75_0 : U0.1 75 0 = nI 0 := (show U0.1 75 0 = 0 from rfl).trans (by decide)
theorem f_77_0 : U0.1 77 0 = nI 0 := (show U0.1 77 0 = 0 from rfl).trans (by decide)
theorem f_75_1 : U0.1 75 1 = nI 0 := (show U0.1 75 1 = 0 from rfl).trans (by decide)
theorem f_77_1 : U0.1 77 1 = nI 0 := (show U0.1 77 1 = 0 from rfl).trans (by decide)
theorem f_75_2 : U0.1 75 2 = nI 0 := (show U0.1 75 2 = 0 from rfl).trans (by decide)
theorem f_77_2 : U0.1 77 2 = nI 0 := (show U0.1 77 2 = 0 from rfl).trans (by decide)
theorem f_75_3 : U0.1 75 3 = nI 0 := (show U0.1 75 3 = 0 from rfl).trans (by decide)
theorem f_77_3 : U0.1 77 3 = nI 0 := (show U0.1 77 3 = 0 from rfl).trans (by decide)
theorem f_75_4 : U0.1 75 4 = nI 0 := (show U0.1 75 4 = 0 from rfl).trans (by decide)
theorem f_77_4 : U0.1 77 4 = nI 0 := (show U0.1 77 4 = 0 from rfl).trans (by decide)
theorem f_75_5 : U0.1 75 5 = nI 0 := (show U0.1 75 5 = 0 from rfl).trans (by decide)
theorem f_77_5 : U0.1 77 5 = nI 0 := (show U0.1 77 5 = 0 from rfl).trans (by decide)
theorem ro0 : Ro_ok U0.1 := by
  intro r hr
  have : r = 0 ∨ r = 1 ∨ r = 2 ∨ r = 3 ∨ r = 4 ∨ r = 5 := by omega
  rcases this with rfl | rfl | rfl | rfl | rfl | rfl
  · exact ⟨f_3_0.trans f_78_0.symm, Or.inl f_78_0⟩
  · exact ⟨f_5_0.trans f_78_1.symm, Or.inl f_78_1⟩
  · exact ⟨f_7_0.trans f_78_2.symm, Or.inl f_78_2⟩
  · exact ⟨f_9_0.trans f_78_3.symm, Or.inl f_78_3⟩
  · exact ⟨f_11_0.trans f_78_4.symm, Or.inl f_78_4⟩
  · exact ⟨f_13_0.trans f_78_5.symm, Or.inl f_78_5⟩
theorem te0 : Te_ok U0.1 := by
  intro r hr
  have : r = 0 ∨ r = 1 ∨ r = 2 ∨ r = 3 := by omega
  rcases this with rfl | rfl | rfl | rfl
  · exact ⟨f_16_0.trans f_81_0.symm, Or.inl f_81_0⟩
  · exact ⟨f_18_0.trans f_81_1.symm, Or.inl f_81_1⟩
  · exact ⟨f_20_0.trans f_81_2.symm, Or.inl f_81_2⟩
  · exact ⟨f_22_0.trans f_81_3.symm, Or.inl f_81_3⟩
theorem ru0 : Ru_ok U0.1 := by
  intro k hk
  have : k = 0 ∨ k = 1 ∨ k = 2 ∨ k = 3 := by omega
  rcases this with rfl | rfl | rfl | rfl
  · exact Or.inl ⟨f_25_0, f_84_0⟩
  · exact Or.inl ⟨f_27_0, f_84_1⟩
  · exact Or.inl ⟨f_29_0, f_84_2⟩
  · exact Or.inl ⟨f_31_0, f_84_3⟩
theorem pa0 : Pa_ok U0.1 := by
  intro k hk
  have : k = 0 ∨ k = 1 ∨ k = 2 ∨ k = 3 := by omega
  rcases this with rfl | rfl | rfl | rfl
  · exact Or.inl ⟨f_34_0, f_86_0⟩
  · exact Or.inl ⟨f_36_0, f_86_1⟩
  · exact Or.inl ⟨f_38_0, f_86_2⟩
  · exact Or.inl ⟨f_40_0, f_86_3⟩
theorem kn0 : Kn_ok U0.1 := ⟨f_54_0, 0, by omega, f_51_0, f_76_37, fun i hi => absurd hi (by omega)⟩
theorem re0 : Re_ok U0.1 := by
  refine ⟨Or.inl ⟨f_42_0, f_42_1, f_94_0⟩, fun k hk => ?_⟩
  have : k = 0 ∨ k = 1 ∨ k = 2 := by omega
  rcases this with rfl | rfl | rfl
  · exact Or.inl ⟨f_45_0, f_45_1, f_94_1⟩
  · exact Or.inl ⟨f_47_0, f_47_1, f_94_2⟩
  · exact Or.inl ⟨f_49_0, f_49_1, f_94_3⟩
theorem tt0 : T_ok U0 := by
  refine ⟨⟨f_1_15.trans f_76_0.symm, f_1_16.trans f_76_2.symm⟩, ⟨rfl, rfl⟩, fun w hw => ?_⟩
  have : w = 0 ∨ w = 1 ∨ w = 2 ∨ w = 3 ∨ w = 4 ∨ w = 5 := by omega
  rcases this with rfl | rfl | rfl | rfl | rfl | rfl
  · exact f_75_0.trans f_77_0.symm
  · exact f_75_1.trans f_77_1.symm
  · exact f_75_2.trans f_77_2.symm
  · exact f_75_3.trans f_77_3.symm
  · exact f_75_4.trans f_77_4.symm
  · exact f_75_5.trans f_77_5.symm
theorem inv0 : Inv U0 := ⟨tt0, ro0, te0, ru0, pa0, kn0, re0⟩
theorem pm_first' {X : pm_X} : pm_V0 X 0 [.ref 0] pm_H0 = pm_V X 0 18 [some (.ref 0), some (.ref 1), some (.ref 76), some (.int (nI 0))] [] (702, 40067) (pm_hp U0) := by
  rw [pm_first, c_heap]
