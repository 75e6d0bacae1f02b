/-! the worlds that a burnt leaf leaves: pure -/
def wf (m : Nat) (cl : Nat → Nat) (ln : Nat → Option Nat) (i j : Nat) (g : Nat → Nat) : Nat → Nat → Nat
  | 0, _ => 0
  | d + 1, x => if x = d then (if i ≤ d ∧ d ≤ j then (ex_ex m cl (wf m cl ln i j g d) d + g (d - i)) % 4 else (ln d).getD (ex_ex m cl (wf m cl ln i j g d) d)) else wf m cl ln i j g d x
def wa (m : Nat) (cl : Nat → Nat) (ln : Nat → Option Nat) (i j : Nat) (g : Nat → Nat) (d : Nat) : Nat := wf m cl ln i j g (d + 1) d
theorem wf_wa {m : Nat} {cl : Nat → Nat} {ln : Nat → Option Nat} {i j : Nat} {g : Nat → Nat} : ∀ {n x : Nat}, x < n → wf m cl ln i j g n x = wa m cl ln i j g x := by
  intro n
  induction n with
  | zero => intro x h; omega
  | succ n ih =>
    intro x h
    by_cases e : x = n
    · subst e; rfl
    · rw [← ih (show x < n by omega)]
      show (if x = n then _ else _) = _
      rw [if_neg e]
theorem wa_eq {m : Nat} {cl : Nat → Nat} {ln : Nat → Option Nat} {i j d : Nat} {g : Nat → Nat} : wa m cl ln i j g d = if i ≤ d ∧ d ≤ j then (ex_ex m cl (wa m cl ln i j g) d + g (d - i)) % 4 else (ln d).getD (ex_ex m cl (wa m cl ln i j g) d) := by
  show (if d = d then _ else _) = _
  rw [if_pos rfl, ex_ex_cg (g := wf m cl ln i j g d) (f := wa m cl ln i j g) (fun x hx => (wf_wa hx).symm)]
theorem wa_lt {m n : Nat} {cl : Nat → Nat} {ln : Nat → Option Nat} {i j : Nat} {g : Nat → Nat} (hc : ∀ i, i < m → cl i < 59) (hl : Ln n ln) : ∀ d, wa m cl ln i j g d < 4 := by
  intro d
  induction d using Nat.strongRecOn with
  | ind d ih =>
    rw [wa_eq]
    split
    · omega
    · cases h : ln d with
      | none => exact ex_ex_lt hc ih
      | some w => exact (hl d w h).2
def wok (m : Nat) (cl : Nat → Nat) (ln : Nat → Option Nat) (i j : Nat) (g : Nat → Nat) : Nat → Bool
  | 0 => true
  | d + 1 => wok m cl ln i j g d && (decide (i ≤ d ∧ d ≤ j) || decide (ln d ≠ some (ex_ex m cl (wa m cl ln i j g) d)))
theorem wok_f {m : Nat} {cl : Nat → Nat} {ln : Nat → Option Nat} {i j : Nat} {g : Nat → Nat} {d : Nat} (h : wok m cl ln i j g d = false) : ∀ l, wok m cl ln i j g (d + l) = false
  | 0 => h
  | l + 1 => by
    show (wok m cl ln i j g (d + l) && _) = false
    rw [wok_f h l]
    rfl
/-! sets and ways as codes -/
def enc2 : Nat → Nat → Nat → Nat
  | 0, _, _ => 0
  | l + 1, s, w => if s % 2 = 1 then (1 + w % 3) + 4 * enc2 l (s / 2) (w / 3) else 4 * enc2 l (s / 2) w
def lin : Nat → Nat → Nat
  | 0, _ => 0
  | l + 1, c => (if c % 4 = 0 then 0 else 1) + lin l (c / 4)
def pop : Nat → Nat → Nat
  | 0, _ => 0
  | l + 1, s => s % 2 + pop l (s / 2)
theorem enc2_lt : ∀ l s w, enc2 l s w < 4 ^ l
  | 0, _, _ => by show 0 < 1; omega
  | l + 1, s, w => by
    have h1 := enc2_lt l (s / 2) (w / 3)
    have h2 := enc2_lt l (s / 2) w
    unfold enc2
    rw [Nat.pow_succ]
    split <;> omega
theorem lin_enc : ∀ l s w, lin l (enc2 l s w) = pop l s
  | 0, _, _ => rfl
  | l + 1, s, w => by
    show (if enc2 (l + 1) s w % 4 = 0 then 0 else 1) + lin l (enc2 (l + 1) s w / 4) = s % 2 + pop l (s / 2)
    by_cases h : s % 2 = 1
    · have e : enc2 (l + 1) s w = (1 + w % 3) + 4 * enc2 l (s / 2) (w / 3) := by conv => lhs; unfold enc2; rw [if_pos h]
      rw [e, if_neg (by omega), show ((1 + w % 3) + 4 * enc2 l (s / 2) (w / 3)) / 4 = enc2 l (s / 2) (w / 3) by omega, lin_enc l, h]
    · have e : enc2 (l + 1) s w = 4 * enc2 l (s / 2) w := by conv => lhs; unfold enc2; rw [if_neg h]
      rw [e, if_pos (by omega), show 4 * enc2 l (s / 2) w / 4 = enc2 l (s / 2) w by omega, lin_enc l]
      omega
theorem lin_0 : ∀ l, lin l 0 = 0
  | 0 => rfl
  | l + 1 => by
    show (if 0 % 4 = 0 then 0 else 1) + lin l (0 / 4) = 0
    rw [if_pos (by omega), show 0 / 4 = 0 by omega, lin_0 l]
theorem lin_le : ∀ l c, lin l c ≤ l
  | 0, _ => Nat.le_refl 0
  | l + 1, c => by
    have := lin_le l (c / 4)
    show (if _ then 0 else 1) + lin l (c / 4) ≤ _
    split <;> omega
theorem pc_pop : ∀ l, l < 9 → ∀ s, s < 256 → s < 2 ^ l → pc s = pop l s := by decide +kernel
theorem pop_le : ∀ l s, pop l s ≤ l
  | 0, _ => Nat.le_refl 0
  | l + 1, s => by
    have := pop_le l (s / 2)
    show s % 2 + pop l (s / 2) ≤ _
    omega
/-! sums -/
theorem sS_add {f g : Nat → Nat} : ∀ n, sS f n + sS g n = sS (fun x => f x + g x) n
  | 0 => rfl
  | n + 1 => by
    have := sS_add (f := f) (g := g) n
    show sS f n + f n + (sS g n + g n) = sS _ n + (f n + g n)
    omega
theorem sS2 {f : Nat → Nat} : ∀ n, sS f (2 * n) = sS (fun x => f (2 * x) + f (2 * x + 1)) n
  | 0 => rfl
  | n + 1 => by
    have := sS2 (f := f) n
    rw [show 2 * (n + 1) = 2 * n + 1 + 1 by omega]
    show sS f (2 * n) + f (2 * n) + f (2 * n + 1) = sS _ n + (f (2 * n) + f (2 * n + 1))
    omega
theorem sS3 {f : Nat → Nat} : ∀ n, sS f (3 * n) = sS (fun x => f (3 * x) + f (3 * x + 1) + f (3 * x + 2)) n
  | 0 => rfl
  | n + 1 => by
    have := sS3 (f := f) n
    rw [show 3 * (n + 1) = 3 * n + 1 + 1 + 1 by omega]
    show sS f (3 * n) + f (3 * n) + f (3 * n + 1) + f (3 * n + 2) = sS _ n + (f (3 * n) + f (3 * n + 1) + f (3 * n + 2))
    omega
theorem sS4 {f : Nat → Nat} : ∀ n, sS f (4 * n) = sS (fun x => f (4 * x) + f (4 * x + 1) + f (4 * x + 2) + f (4 * x + 3)) n
  | 0 => rfl
  | n + 1 => by
    have := sS4 (f := f) n
    rw [show 4 * (n + 1) = 4 * n + 1 + 1 + 1 + 1 by omega]
    show sS f (4 * n) + f (4 * n) + f (4 * n + 1) + f (4 * n + 2) + f (4 * n + 3) = sS _ n + (f (4 * n) + f (4 * n + 1) + f (4 * n + 2) + f (4 * n + 3))
    omega
theorem wsum : ∀ (l : Nat) (x : Nat → Nat), sS (fun s => sS (fun w => x (enc2 l s w)) (3 ^ pop l s)) (2 ^ l) = sS x (4 ^ l)
  | 0, x => by
    show sS (fun s => sS (fun w => x 0) 1) 1 = sS x 1
    simp [sS]
  | l + 1, x => by
    rw [Nat.pow_succ, Nat.mul_comm, sS2, Nat.pow_succ, Nat.mul_comm, sS4, ← wsum l]
    refine sS_cg _ (fun s _ => ?_)
    have p0 : pop (l + 1) (2 * s) = pop l s := by
      show 2 * s % 2 + pop l (2 * s / 2) = _
      rw [show 2 * s / 2 = s by omega]
      omega
    have p1' : pop (l + 1) (2 * s + 1) = pop l s + 1 := by
      show (2 * s + 1) % 2 + pop l ((2 * s + 1) / 2) = _
      rw [show (2 * s + 1) / 2 = s by omega]
      omega
    have e0 : ∀ w, enc2 (l + 1) (2 * s) w = 4 * enc2 l s w := fun w => by
      conv => lhs; unfold enc2; rw [if_neg (show ¬ 2 * s % 2 = 1 by omega), show 2 * s / 2 = s by omega]
    have e1 : ∀ w, enc2 (l + 1) (2 * s + 1) w = (1 + w % 3) + 4 * enc2 l s (w / 3) := fun w => by
      conv => lhs; unfold enc2; rw [if_pos (show (2 * s + 1) % 2 = 1 by omega), show (2 * s + 1) / 2 = s by omega]
    rw [p0, p1', Nat.pow_succ, Nat.mul_comm (3 ^ pop l s) 3, sS3, sS_add]
    refine sS_cg _ (fun w _ => ?_)
    rw [e0, e1, e1, e1, show 3 * w % 3 = 0 by omega, show 3 * w / 3 = w by omega, show (3 * w + 1) % 3 = 1 by omega, show (3 * w + 1) / 3 = w by omega, show (3 * w + 2) % 3 = 2 by omega, show (3 * w + 2) / 3 = w by omega, show 1 + 0 + 4 * enc2 l s w = 4 * enc2 l s w + 1 by omega, show 1 + 1 + 4 * enc2 l s w = 4 * enc2 l s w + 2 by omega, show 1 + 2 + 4 * enc2 l s w = 4 * enc2 l s w + 3 by omega]
    omega
/-- a set's share: all its ways, if it is not too large -/
def wI (x : Nat → Nat) (mm l s : Nat) : Nat := if mm < pop l s then 0 else sS (fun w => x (enc2 l s w)) (3 ^ pop l s)
def wX (x : Nat → Nat) (mm l c : Nat) : Nat := if lin l c ≤ mm then x c else 0
theorem wsum2 {x : Nat → Nat} {mm l : Nat} : sS (wI x mm l) (2 ^ l) = sS (wX x mm l) (4 ^ l) := by
  rw [← wsum l]
  refine sS_cg _ (fun s _ => ?_)
  unfold wI
  split
  · rename_i h
    refine (sS_zero _ (fun w _ => ?_)).symm
    unfold wX
    rw [lin_enc, if_neg (by omega)]
  · rename_i h
    refine sS_cg _ (fun w _ => ?_)
    unfold wX
    rw [lin_enc, if_pos (by omega)]
theorem sS_pos {f : Nat → Nat} : ∀ n, 0 < sS f n ↔ ∃ x, x < n ∧ 0 < f x
  | 0 => ⟨fun h => absurd h (Nat.lt_irrefl 0), fun ⟨x, h, _⟩ => absurd h (Nat.not_lt_zero x)⟩
  | n + 1 => by
    have ih := sS_pos (f := f) n
    refine ⟨fun h => ?_, fun ⟨x, h1, h2⟩ => ?_⟩
    · by_cases g : 0 < sS f n
      · obtain ⟨x, h1, h2⟩ := ih.mp g
        exact ⟨x, by omega, h2⟩
      · have h : 0 < sS f n + f n := h
        exact ⟨n, by omega, by omega⟩
    · show 0 < sS f n + f n
      by_cases e : x = n
      · subst e; omega
      · have := ih.mpr ⟨x, by omega, h2⟩
        omega
/-! which weathers a day has, as bits -/
def mkb (a b c d : Bool) : Nat := (if a then 1 else 0) + (if b then 2 else 0) + (if c then 4 else 0) + (if d then 8 else 0)
def mk4 (f : Nat → Nat) : Nat := mkb (decide (0 < f 0)) (decide (0 < f 1)) (decide (0 < f 2)) (decide (0 < f 3))
theorem mkb_lt : ∀ a b c d, mkb a b c d < 16 := by decide
theorem mkb_0 : ∀ a b c d, mkb a b c d ||| 1 = mkb true b c d := by decide
theorem mkb_1 : ∀ a b c d, mkb a b c d ||| 2 = mkb a true c d := by decide
theorem mkb_2 : ∀ a b c d, mkb a b c d ||| 4 = mkb a b true d := by decide
theorem mkb_3 : ∀ a b c d, mkb a b c d ||| 8 = mkb a b c true := by decide
theorem mk4_lt (f : Nat → Nat) : mk4 f < 16 := mkb_lt _ _ _ _
theorem mk4_cg {f g : Nat → Nat} (h : ∀ v, v < 4 → f v = g v) : mk4 f = mk4 g := by
  unfold mk4
  rw [h 0 (by omega), h 1 (by omega), h 2 (by omega), h 3 (by omega)]
theorem mk4_or {f : Nat → Nat} {v : Nat} (hv : v < 4) : mk4 f ||| 2 ^ v = mk4 (fun x => f x + (if v = x then 1 else 0)) := by
  unfold mk4
  rcases (show v = 0 ∨ v = 1 ∨ v = 2 ∨ v = 3 by omega) with rfl | rfl | rfl | rfl
  · rw [show 2 ^ 0 = 1 from rfl, mkb_0]; simp
  · rw [show 2 ^ 1 = 2 from rfl, mkb_1]; simp
  · rw [show 2 ^ 2 = 4 from rfl, mkb_2]; simp
  · rw [show 2 ^ 3 = 8 from rfl, mkb_3]; simp
theorem mk4_0 : mk4 (fun _ => 0) = 0 := by decide
theorem mk4_pos {f : Nat → Nat} {v : Nat} (hv : v < 4) (h : 0 < f v) : 0 < mk4 f := by
  unfold mk4 mkb
  rcases (show v = 0 ∨ v = 1 ∨ v = 2 ∨ v = 3 by omega) with rfl | rfl | rfl | rfl
  all_goals (simp only [h, decide_true, if_true]; omega)
/-- just one bit: both sides' tests -/
theorem one_bit : ∀ x, x < 16 → 0 < x → (pc x = 1 ↔ x &&& (x - 1) = 0) := by decide +kernel
